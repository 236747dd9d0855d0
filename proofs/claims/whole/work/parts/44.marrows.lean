/-! ===== contracts: the model, arrows ===== -/
theorem it_end_t {tn : Nat} {tb : Nat → Int32} {ps : Bool × Nat} (h : (it_end tn tb ps).1 = true) : ps.1 = true ∧ rd_at tn tb (rd_skip tn tb ps.2) = 59 ∧ (it_end tn tb ps).2 = rd_skip tn tb ps.2 + 1 := by
  unfold it_end at h ⊢
  by_cases h1 : ps.1 = true
  · rw [if_pos h1] at h ⊢
    by_cases h2 : rd_at tn tb (rd_skip tn tb ps.2) = 59
    · rw [if_pos h2]; exact ⟨h1, h2, rfl⟩
    · rw [if_neg h2] at h; cases h
  · rw [if_neg h1] at h; exact absurd h h1
theorem it_end_le {tn : Nat} {tb : Nat → Int32} {ps : Bool × Nat} (hp : ps.2 ≤ tn) (h : (it_end tn tb ps).1 = true) : ps.2 < (it_end tn tb ps).2 ∧ (it_end tn tb ps).2 ≤ tn := by
  obtain ⟨h1, h2, h3⟩ := it_end_t h
  have h4 := rd_skip_le (tb := tb) hp
  have h5 : rd_skip tn tb ps.2 < tn := by
    rcases Nat.lt_or_ge (rd_skip tn tb ps.2) tn with h | h
    · exact h
    · rw [rd_at_out h] at h2; exact absurd h2 (by decide)
  omega
theorem nb_s_t {tn : Nat} {tb : Nat → Int32} {ps : Bool × Nat} {lo hi : Int32} (hp : ps.2 ≤ tn) (h : (nb_s tn tb ps lo hi).1 = true) : ps.1 = true ∧ rd_V tn tb (rd_skip tn tb ps.2) lo hi = true ∧ (nb_s tn tb ps lo hi).2 = (rd_nm tn tb (rd_skip tn tb ps.2)).1 ∧ ps.2 < (nb_s tn tb ps lo hi).2 ∧ nb_v tn tb ps lo hi = (rd_nm tn tb (rd_skip tn tb ps.2)).2 := by
  unfold nb_s nb_v at *
  by_cases h1 : ps.1 = true
  · rw [if_pos h1] at h ⊢
    by_cases h2 : rd_V tn tb (rd_skip tn tb ps.2) lo hi = true
    · rw [if_pos h2, if_pos ⟨h1, h2⟩]
      have h3 := rd_V_lt h2
      have h4 := rd_skip_le (tb := tb) hp
      exact ⟨h1, h2, rfl, by show ps.2 < (rd_nm tn tb (rd_skip tn tb ps.2)).1; omega, rfl⟩
    · rw [if_neg h2] at h; cases h
  · rw [if_neg h1] at h; exact absurd h h1
theorem nb_p_t {tn : Nat} {tb lo hi : Nat → Int32} {p : Nat} (hp : p ≤ tn) : ∀ k, (nb_p tn tb lo hi p k).1 = true → p ≤ (nb_p tn tb lo hi p k).2
  | 0, _ => Nat.le_refl _
  | k + 1, h => by
    have h1 := nb_s_t (nb_p_le hp k) h
    have h2 := nb_p_t hp k h1.1
    have h3 : (nb_p tn tb lo hi p k).2 < (nb_p tn tb lo hi p (k + 1)).2 := h1.2.2.2.1
    omega
theorem it_row_lt {tn : Nat} {tb lo hi : Nat → Int32} {p N : Nat} (hp : p ≤ tn) (h : (it_end tn tb (nb_p tn tb lo hi p N)).1 = true) : p < (it_end tn tb (nb_p tn tb lo hi p N)).2 ∧ (it_end tn tb (nb_p tn tb lo hi p N)).2 ≤ tn := by
  have h1 := it_end_t h
  have h2 := nb_p_t hp N h1.1
  have h3 := it_end_le (nb_p_le hp N) h
  omega
theorem it_x_S {tn : Nat} {tb : Nat → Int32} {p : Nat} {A : rs_T} (h1 : A.1 < 12) (h2 : rd_W tn tb 0 p) : it_x tn tb p A = it_S tn tb p A := if_pos ⟨h1, rd_Wb_iff.mpr h2⟩
theorem it_x_B {tn : Nat} {tb : Nat → Int32} {p : Nat} {A : rs_T} (h0 : ¬ (A.1 < 12 ∧ rd_W tn tb 0 p)) (h1 : A.2.1 < 3) (h2 : rd_W tn tb 1 p) : it_x tn tb p A = it_B tn tb p A := by
  unfold it_x; rw [if_neg (fun z => h0 ⟨z.1, rd_Wb_iff.mp z.2⟩), if_pos ⟨h1, rd_Wb_iff.mpr h2⟩]
theorem it_x_A {tn : Nat} {tb : Nat → Int32} {p : Nat} {A : rs_T} (h0 : ¬ (A.1 < 12 ∧ rd_W tn tb 0 p)) (h0b : ¬ (A.2.1 < 3 ∧ rd_W tn tb 1 p)) (h1 : A.2.2.1 < 3) (h2 : rd_W tn tb 2 p) : it_x tn tb p A = it_A tn tb p A := by
  unfold it_x; rw [if_neg (fun z => h0 ⟨z.1, rd_Wb_iff.mp z.2⟩), if_neg (fun z => h0b ⟨z.1, rd_Wb_iff.mp z.2⟩), if_pos ⟨h1, rd_Wb_iff.mpr h2⟩]
theorem it_x_no {tn : Nat} {tb : Nat → Int32} {p : Nat} {A : rs_T} (h0 : ¬ (A.1 < 12 ∧ rd_W tn tb 0 p)) (h0b : ¬ (A.2.1 < 3 ∧ rd_W tn tb 1 p)) (h1 : ¬ (A.2.2.1 < 3 ∧ rd_W tn tb 2 p)) : it_x tn tb p A = ((false, p), A) := by
  unfold it_x; rw [if_neg (fun z => h0 ⟨z.1, rd_Wb_iff.mp z.2⟩), if_neg (fun z => h0b ⟨z.1, rd_Wb_iff.mp z.2⟩), if_neg (fun z => h1 ⟨z.1, rd_Wb_iff.mp z.2⟩)]
theorem it_A_L {tn : Nat} {tb : Nat → Int32} {p : Nat} {A : rs_T} (h : rd_W tn tb 3 (rd_skip tn tb (p + 6))) : it_A tn tb p A = it_L tn tb (rd_skip tn tb (p + 6)) A := if_pos (rd_Wb_iff.mpr h)
theorem it_A_R {tn : Nat} {tb : Nat → Int32} {p : Nat} {A : rs_T} (h : ¬ rd_W tn tb 3 (rd_skip tn tb (p + 6))) (h2 : rd_W tn tb 4 (rd_skip tn tb (p + 6))) : it_A tn tb p A = it_R tn tb (rd_skip tn tb (p + 6)) A := by
  unfold it_A; rw [if_neg (fun z => h (rd_Wb_iff.mp z)), if_pos (rd_Wb_iff.mpr h2)]
theorem it_A_F {tn : Nat} {tb : Nat → Int32} {p : Nat} {A : rs_T} (h : ¬ rd_W tn tb 3 (rd_skip tn tb (p + 6))) (h2 : ¬ rd_W tn tb 4 (rd_skip tn tb (p + 6))) : it_A tn tb p A = ((false, rd_skip tn tb (p + 6)), A) := by
  unfold it_A; rw [if_neg (fun z => h (rd_Wb_iff.mp z)), if_neg (fun z => h2 (rd_Wb_iff.mp z))]
theorem W_le {tn : Nat} {tb : Nat → Int32} {p i n : Nat} (hi : i < 5) (hn : ch_n i = n) (h : rd_W tn tb i p) : p + n ≤ tn := by have := rd_W_le hi h; omega
/-- an item that is well goes on, and keeps the counts -/
theorem it_x_t {tn : Nat} {tb : Nat → Int32} {p : Nat} {A : rs_T} (h : (it_x tn tb p A).1.1 = true) (hc : A.1 ≤ 12 ∧ A.2.1 ≤ 3 ∧ A.2.2.1 ≤ 3) : (p < (it_x tn tb p A).1.2 ∧ (it_x tn tb p A).1.2 ≤ tn) ∧ ((it_x tn tb p A).2.1 ≤ 12 ∧ (it_x tn tb p A).2.2.1 ≤ 3 ∧ (it_x tn tb p A).2.2.2.1 ≤ 3) := by
  by_cases h0 : A.1 < 12 ∧ rd_W tn tb 0 p
  · rw [it_x_S h0.1 h0.2] at h ⊢
    have h1 := W_le (n := 5) (by decide) (by decide) h0.2
    have h2 := it_row_lt h1 h
    exact ⟨⟨Nat.lt_of_le_of_lt (Nat.le_add_right _ _) h2.1, h2.2⟩, by show A.1 + 1 ≤ 12; omega, hc.2.1, hc.2.2⟩
  by_cases h0b : A.2.1 < 3 ∧ rd_W tn tb 1 p
  · rw [it_x_B h0 h0b.1 h0b.2] at h ⊢
    have h1 := W_le (n := 3) (by decide) (by decide) h0b.2
    have h2 := it_row_lt h1 h
    exact ⟨⟨Nat.lt_of_le_of_lt (Nat.le_add_right _ _) h2.1, h2.2⟩, hc.1, by show A.2.1 + 1 ≤ 3; omega, hc.2.2⟩
  by_cases h0c : A.2.2.1 < 3 ∧ rd_W tn tb 2 p
  · rw [it_x_A h0 h0b h0c.1 h0c.2] at h ⊢
    have h1 := W_le (n := 6) (by decide) (by decide) h0c.2
    have h3 := rd_skip_le (tb := tb) h1
    by_cases hL : rd_W tn tb 3 (rd_skip tn tb (p + 6))
    · rw [it_A_L hL] at h ⊢
      have h4 := W_le (n := 4) (by decide) (by decide) hL
      have h2 := it_row_lt h4 h
      exact ⟨⟨Nat.lt_of_le_of_lt (by omega) h2.1, h2.2⟩, hc.1, hc.2.1, by show A.2.2.1 + 1 ≤ 3; omega⟩
    by_cases hR : rd_W tn tb 4 (rd_skip tn tb (p + 6))
    · rw [it_A_R hL hR] at h ⊢
      have h4 := W_le (n := 5) (by decide) (by decide) hR
      have h2 := it_row_lt h4 h
      exact ⟨⟨Nat.lt_of_le_of_lt (by omega) h2.1, h2.2⟩, hc.1, hc.2.1, by show A.2.2.1 + 1 ≤ 3; omega⟩
    · rw [it_A_F hL hR] at h; cases h
  · rw [it_x_no h0 h0b h0c] at h; cases h
theorem l_arr_end {G : ev_G} {n : Nat} {M : ev_M} {tn c0 c1 c2 sh : Nat} {tx s kp bw ar tu : Nat → Int32} {k0 k1 : Bool} {tr : Int64} {d0 d1 d2 : Int32} {dS dB dA : Nat → Int32} (hn : tn ≤ 400) (htx : ∀ k, k < tn → 0 ≤ tx k) {Post : Option Value → ev_M → Prop} {ps : Bool × Nat} {M1 : ev_M} (hps : md_ps M1 tn c0 c1 c2 sh tx s kp bw ar tu k0 k1 tr ps d0 d1 d2 dS dB dA) (hf1 : (∀ k, k < 129 → M1 k = M k)) {k : Nat} {z : Option Value} (K : ∀ M2 : ev_M, md_ps M2 tn c0 c1 c2 sh tx s kp bw ar tu k0 k1 tr (it_end tn tx ps) d0 d1 d2 dS dB dA → (∀ k, k < 129 → M2 k = M k) → ev_E G mX12_arrows 8 0 0 n M2 36 [some (.ref 129), some (.int (nI (k + 1))), z] [] Post) : ev_E G mX12_arrows 8 0 0 n M1 134 [some (.ref 129), some (.int (nI k)), z] [] Post := by
  obtain ⟨wl, p⟩ := ps
  cases wl
  · have hps0 := hps
    obtain ⟨nx, tk, pl, va, fa, hPP, hle, hT, hF⟩ := hps
    obtain ⟨th, sp, of', ba, go, dr, ki, up, dn, one, gof, dof, act, ik, h129, h130, h131, h132, h133, hk0, hk1, h134, h135, h136, h137, h138, h139, h140, h141, h142, h143, hsh⟩ := hPP
    have hit : it_end tn tx (false, p) = (false, p) := rfl
    rw [hit] at K
    refine ev_aload_n (i := 0) dX12_arrows_134 rfl rfl ?_
    refine ev_aload_n (i := 0) dX12_arrows_135 rfl rfl ?_
    refine ev_getf dX12_arrows_136 flX12_86 (by assumption) (by rfl) ?_
    refine ev_iconst (v := 3) dX12_arrows_139 cni_3 ?_
    refine ev_icmp_ne (tgt := 147) dX12_arrows_140 (by decide) (fun g140 => ?_) (fun g140 => ?_)
    · skip
      refine ev_iconst (v := 0) dX12_arrows_147 cni_0 ?_
      refine ev_d2 kX12_arrows_148 (m_takes_F hn hps0) (ev_rv_of h129 rfl rfl) (by decide) (by decide) (Nat.le_of_ble_eq_true rfl) ?_
      intro r M2 hr
      obtain ⟨rfl, hps2, hf2⟩ := hr
      refine ev_pop dX12_arrows_151 rfl ?_
      refine ev_iinc (v := nI (k + 1)) dX12_arrows_152 rfl (nI_1 k) (Nat.le_of_ble_eq_true rfl) rfl ?_
      refine ev_goto (tgt := 36) dX12_arrows_155 (by decide) ?_
      exact K M2 hps2 (fun k hk => (hf2 k hk).trans (hf1 k hk))
    · skip
      refine ev_iconst (v := 1) dX12_arrows_143 cni_1 ?_
      refine ev_goto (tgt := 148) dX12_arrows_144 (by decide) ?_
      refine ev_d2 kX12_arrows_148 (m_takes_F hn hps0) (ev_rv_of h129 rfl rfl) (by decide) (by decide) (Nat.le_of_ble_eq_true rfl) ?_
      intro r M2 hr
      obtain ⟨rfl, hps2, hf2⟩ := hr
      refine ev_pop dX12_arrows_151 rfl ?_
      refine ev_iinc (v := nI (k + 1)) dX12_arrows_152 rfl (nI_1 k) (Nat.le_of_ble_eq_true rfl) rfl ?_
      refine ev_goto (tgt := 36) dX12_arrows_155 (by decide) ?_
      exact K M2 hps2 (fun k hk => (hf2 k hk).trans (hf1 k hk))
  · have hps0 := hps
    obtain ⟨nx, tk, pl, va, fa, hPP0, hle, hT, hF⟩ := hps
    have hle : p ≤ tn := hle
    obtain ⟨hfa, hpl, nxn, hnx, hok⟩ := hT rfl
    subst hnx
    have hok : tok_ok tn tx (rd_skip tn tx p) tk va nxn := hok
    have hPP := hPP0
    obtain ⟨th, sp, of', ba, go, dr, ki, up, dn, one, gof, dof, act, ik, h129, h130, h131, h132, h133, hk0, hk1, h134, h135, h136, h137, h138, h139, h140, h141, h142, h143, hsh⟩ := hPP
    refine ev_aload_n (i := 0) dX12_arrows_134 rfl rfl ?_
    refine ev_aload_n (i := 0) dX12_arrows_135 rfl rfl ?_
    refine ev_getf dX12_arrows_136 flX12_86 (by assumption) (by rfl) ?_
    refine ev_iconst (v := 3) dX12_arrows_139 cni_3 ?_
    refine ev_icmp_ne (tgt := 147) dX12_arrows_140 (by decide) (fun g140 => ?_) (fun g140 => ?_)
    · skip
      have hne : ¬ rd_at tn tx (rd_skip tn tx p) = 59 := fun z => g140 (hok.2.2.2.2.2.1.mpr z)
      have hit : it_end tn tx (true, p) = (false, rd_skip tn tx p) := by unfold it_end; rw [if_pos rfl, if_neg hne]
      rw [hit] at K
      refine ev_iconst (v := 0) dX12_arrows_147 cni_0 ?_
      refine ev_d2 kX12_arrows_148 (m_takes_N hn hps0) (ev_rv_of h129 rfl rfl) (by decide) (by decide) (Nat.le_of_ble_eq_true rfl) ?_
      intro r M2 hr
      obtain ⟨rfl, hps2, hf2⟩ := hr
      refine ev_pop dX12_arrows_151 rfl ?_
      refine ev_iinc (v := nI (k + 1)) dX12_arrows_152 rfl (nI_1 k) (Nat.le_of_ble_eq_true rfl) rfl ?_
      refine ev_goto (tgt := 36) dX12_arrows_155 (by decide) ?_
      exact K M2 hps2 (fun k hk => (hf2 k hk).trans (hf1 k hk))
    · skip
      have he := hok.2.2.2.2.2.1.mp g140
      have hx : nxn = rd_skip tn tx p + 1 := hok.2.2.2.2.2.2.1 he
      have hit : it_end tn tx (true, p) = (true, rd_skip tn tx p + 1) := by unfold it_end; rw [if_pos rfl, if_pos he]
      rw [hit] at K
      refine ev_iconst (v := 1) dX12_arrows_143 cni_1 ?_
      refine ev_goto (tgt := 148) dX12_arrows_144 (by decide) ?_
      refine ev_d2 kX12_arrows_148 (m_takes_Y hn htx hok.2.2.2.2.2.2.2.2 hPP0 hfa) (ev_rv_of h129 rfl rfl) (by decide) (by decide) (Nat.le_of_ble_eq_true rfl) ?_
      intro r M2 hr
      obtain ⟨rfl, hps2, hf2⟩ := hr
      rw [hx] at hps2
      refine ev_pop dX12_arrows_151 rfl ?_
      refine ev_iinc (v := nI (k + 1)) dX12_arrows_152 rfl (nI_1 k) (Nat.le_of_ble_eq_true rfl) rfl ?_
      refine ev_goto (tgt := 36) dX12_arrows_155 (by decide) ?_
      exact K M2 hps2 (fun k hk => (hf2 k hk).trans (hf1 k hk))
theorem l_arr_fail {G : ev_G} {n : Nat} {M : ev_M} {tn c0 c1 c2 sh : Nat} {tx s kp bw ar tu : Nat → Int32} {k0 k1 : Bool} {tr : Int64} {d0 d1 d2 : Int32} {dS dB dA : Nat → Int32} (hn : tn ≤ 400) (htx : ∀ k, k < tn → 0 ≤ tx k) {Post : Option Value → ev_M → Prop} {f : Nat} {M1 : ev_M} (hps : md_ps M1 tn c0 c1 c2 sh tx s kp bw ar tu k0 k1 tr ((false, f)) d0 d1 d2 dS dB dA) (hf1 : (∀ k, k < 129 → M1 k = M k)) {k : Nat} {z : Option Value} (KR : ∀ (r : Option Value) (M2 : ev_M), r = some (.int (-10 - nI f)) → md_S M2 tn c0 c1 c2 sh tx s kp bw ar tu k0 k1 tr → (∀ k, k < 129 → M2 k = M k) → Post r M2) : ev_E G mX12_arrows 8 0 0 n M1 36 [some (.ref 129), some (.int (nI k)), z] [] Post := by
  have hps0 := hps
  obtain ⟨nx, tk, pl, va, fa, hPP, hle, hT, hF⟩ := hps
  have hP0 := hPP
  obtain ⟨th, sp, of', ba, go, dr, ki, up, dn, one, gof, dof, act, ik, h129, h130, h131, h132, h133, hk0, hk1, h134, h135, h136, h137, h138, h139, h140, h141, h142, h143, hsh⟩ := hPP
  have hle : f ≤ tn := hle
  have hF : fa = nI f := hF rfl
  have hq : (decide (fa < 0)) = false := decide_eq_false (by rw [hF]; exact nI_pos (by omega))
  refine ev_aload_n (i := 0) dX12_arrows_36 rfl rfl ?_
  refine ev_c1 kX12_arrows_37 (c13_isWell h129) (ev_rv_of (by assumption) rfl rfl) (by decide) (by decide) (Nat.le_of_ble_eq_true rfl) ?_
  refine ev_if_eqb (tgt := 158) dX12_arrows_40 (by decide) (fun h40 => ?_) (fun h40 => False.elim (Bool.false_ne_true (hq.symm.trans h40)))
  refine ev_aload_n (i := 0) dX12_arrows_158 rfl rfl ?_
  refine ev_c1 kX12_arrows_159 (c13_isWell h129) (ev_rv_of (by assumption) rfl rfl) (by decide) (by decide) (Nat.le_of_ble_eq_true rfl) ?_
  refine ev_if_neb (tgt := 173) dX12_arrows_162 (by decide) (fun h162 => False.elim (Bool.false_ne_true (hq.symm.trans h162))) (fun h162 => ?_)
  refine ev_bipush (v := (-10)) dX12_arrows_165 cnb_m10 ?_
  refine ev_aload_n (i := 0) dX12_arrows_167 rfl rfl ?_
  refine ev_getf dX12_arrows_168 flX12_96 (by assumption) (by rfl) ?_
  refine ev_isub dX12_arrows_171 ?_
  exact ev_reti dX12_arrows_172 rfl rfl (KR _ M1 (by rw [hF]) (md_PS hP0) hf1)
theorem l_arr_no {G : ev_G} {n : Nat} {M : ev_M} {tn c0 c1 c2 sh : Nat} {tx s kp bw ar tu : Nat → Int32} {k0 k1 : Bool} {tr : Int64} {d0 d1 d2 : Int32} {dS dB dA : Nat → Int32} (hn : tn ≤ 400) (htx : ∀ k, k < tn → 0 ≤ tx k) {Post : Option Value → ev_M → Prop} {p : Nat} {M1 : ev_M} (hps : md_ps M1 tn c0 c1 c2 sh tx s kp bw ar tu k0 k1 tr ((true, p)) d0 d1 d2 dS dB dA) (hf1 : (∀ k, k < 129 → M1 k = M k)) {k : Nat} {z : Option Value} (KR : ∀ (r : Option Value) (M2 : ev_M), r = some (.int (-10 - nI (rd_skip tn tx p))) → md_S M2 tn c0 c1 c2 sh tx s kp bw ar tu k0 k1 tr → (∀ k, k < 129 → M2 k = M k) → Post r M2) : ev_E G mX12_arrows 8 0 0 n M1 117 [some (.ref 129), some (.int (nI k)), z] [.ref 129] Post := by
  have hps0 := hps
  obtain ⟨nx, tk, pl, va, fa, hPP, hle, hT, hF⟩ := hps
  obtain ⟨th, sp, of', ba, go, dr, ki, up, dn, one, gof, dof, act, ik, h129, h130, h131, h132, h133, hk0, hk1, h134, h135, h136, h137, h138, h139, h140, h141, h142, h143, hsh⟩ := hPP
  have hle : p ≤ tn := hle
  refine ev_iconst (v := 0) dX12_arrows_117 cni_0 ?_
  refine ev_d2 kX12_arrows_118 (m_takes_N hn hps0) (ev_rv_of h129 rfl rfl) (by decide) (by decide) (Nat.le_of_ble_eq_true rfl) ?_
  intro r M2 hr
  obtain ⟨rfl, hps2, hf2⟩ := hr
  have hps0 := hps2
  have hps := hps2
  obtain ⟨nx, tk, pl, va, fa, hPP, hle, hT, hF⟩ := hps
  obtain ⟨th, sp, of', ba, go, dr, ki, up, dn, one, gof, dof, act, ik, h129, h130, h131, h132, h133, hk0, hk1, h134, h135, h136, h137, h138, h139, h140, h141, h142, h143, hsh⟩ := hPP
  have hF : fa = nI (rd_skip tn tx p) := hF rfl
  have hq : (decide (fa < 0)) = false := decide_eq_false (by rw [hF]; exact nI_pos (by have := rd_skip_le (tb := tx) (show p ≤ tn by assumption); omega))
  refine ev_istore_n (i := 2) dX12_arrows_121 rfl (Nat.le_of_ble_eq_true rfl) rfl ?_
  refine ev_aload_n (i := 0) dX12_arrows_122 rfl rfl ?_
  refine ev_c1 kX12_arrows_123 (c13_isWell h129) (ev_rv_of (by assumption) rfl rfl) (by decide) (by decide) (Nat.le_of_ble_eq_true rfl) ?_
  refine ev_if_eqb (tgt := 134) dX12_arrows_126 (by decide) (fun h126 => ?_) (fun h126 => False.elim (Bool.false_ne_true (hq.symm.trans h126)))
  refine l_arr_end hn htx hps0 (fun k hk => (hf2 k hk).trans (hf1 k hk)) (fun M3 hps3 hf3 => ?_)
  exact l_arr_fail hn htx hps3 hf3 KR
theorem l_arr {G : ev_G} {n : Nat} {M : ev_M} {tn c0 c1 c2 sh : Nat} {tx s kp bw ar tu : Nat → Int32} {k0 k1 : Bool} {tr : Int64} (hn : tn ≤ 400) (htx : ∀ k, k < tn → 0 ≤ tx k) {Post : Option Value → ev_M → Prop} : ∀ (f p k : Nat) (A : rs_T) (M1 : ev_M) (z : Option Value), (A.1 ≤ 12 ∧ A.2.1 ≤ 3 ∧ A.2.2.1 ≤ 3) → tn - (rd_skip tn tx p) ≤ f → md_ps M1 tn c0 c1 c2 sh tx s kp bw ar tu k0 k1 tr ((true, p)) (nI A.1) (nI A.2.1) (nI A.2.2.1) (A.2.2.2.1) (A.2.2.2.2.1) (A.2.2.2.2.2) → (∀ k, k < 129 → M1 k = M k) → (∀ (M2 : ev_M) (A2 : rs_T) (p2 : Nat) (z2 : Option Value), rdr tn tx f (rd_skip tn tx p) k A = (true, (rdr tn tx f (rd_skip tn tx p) k A).2.1, A2) → md_ps M2 tn c0 c1 c2 sh tx s kp bw ar tu k0 k1 tr ((true, p2)) (nI A2.1) (nI A2.2.1) (nI A2.2.2.1) (A2.2.2.2.1) (A2.2.2.2.2.1) (A2.2.2.2.2.2) → (∀ k, k < 129 → M2 k = M k) → ev_E G mX12_arrows 8 0 0 n M2 158 [some (.ref 129), some (.int (nI (rdr tn tx f (rd_skip tn tx p) k A).2.1)), z2] [] Post) → (∀ (r : Option Value) (M2 : ev_M), (rdr tn tx f (rd_skip tn tx p) k A).1 = false → r = some (.int (-10 - nI (rdr tn tx f (rd_skip tn tx p) k A).2.1)) → md_S M2 tn c0 c1 c2 sh tx s kp bw ar tu k0 k1 tr → (∀ k, k < 129 → M2 k = M k) → Post r M2) → ev_E G mX12_arrows 8 0 0 n M1 36 [some (.ref 129), some (.int (nI k)), z] [] Post := by
  intro f
  induction f with
  | zero =>
    intro p k A M1 z hc hm hps hf1 Kok Kno
    have hps0 := hps
    obtain ⟨nx, tk, pl, va, fa, hPP0, hle, hT, hF⟩ := hps
    have hle : p ≤ tn := hle
    obtain ⟨hfa, hpl, nxn, hnx, hok⟩ := hT rfl
    subst hnx
    have hok : tok_ok tn tx (rd_skip tn tx p) tk va nxn := hok
    have hPP := hPP0
    obtain ⟨th, sp, of', ba, go, dr, ki, up, dn, one, gof, dof, act, ik, h129, h130, h131, h132, h133, hk0, hk1, h134, h135, h136, h137, h138, h139, h140, h141, h142, h143, hsh⟩ := hPP
    have hq : (decide (fa < 0)) = true := by rw [hfa]; decide
    have hs := rd_skip_le (tb := tx) hle
    have hqt : rd_skip tn tx p = tn := by omega
    have ht0 := hok.1.mpr hqt
    refine ev_aload_n (i := 0) dX12_arrows_36 rfl rfl ?_
    refine ev_c1 kX12_arrows_37 (c13_isWell h129) (ev_rv_of (by assumption) rfl rfl) (by decide) (by decide) (Nat.le_of_ble_eq_true rfl) ?_
    refine ev_if_eqb (tgt := 158) dX12_arrows_40 (by decide) (fun h40 => False.elim (Bool.false_ne_true (h40.symm.trans hq))) (fun h40 => ?_)
    refine ev_aload_n (i := 0) dX12_arrows_43 rfl rfl ?_
    refine ev_getf dX12_arrows_44 flX12_86 (by assumption) (by rfl) ?_
    refine ev_if_eq (tgt := 158) dX12_arrows_47 (by decide) (fun h47 => ?_) (fun h47 => False.elim (h47 ht0))
    rw [rdr_end 0 hqt] at Kok
    exact Kok M1 A p z rfl hps0 hf1
  | succ f ih =>
    intro p k A M1 z hc hm hps hf1 Kok Kno
    have hps0 := hps
    obtain ⟨nx, tk, pl, va, fa, hPP0, hle, hT, hF⟩ := hps
    have hle : p ≤ tn := hle
    obtain ⟨hfa, hpl, nxn, hnx, hok⟩ := hT rfl
    subst hnx
    have hok : tok_ok tn tx (rd_skip tn tx p) tk va nxn := hok
    have hPP := hPP0
    obtain ⟨th, sp, of', ba, go, dr, ki, up, dn, one, gof, dof, act, ik, h129, h130, h131, h132, h133, hk0, hk1, h134, h135, h136, h137, h138, h139, h140, h141, h142, h143, hsh⟩ := hPP
    have hq : (decide (fa < 0)) = true := by rw [hfa]; decide
    have hs := rd_skip_le (tb := tx) hle
    refine ev_aload_n (i := 0) dX12_arrows_36 rfl rfl ?_
    refine ev_c1 kX12_arrows_37 (c13_isWell h129) (ev_rv_of (by assumption) rfl rfl) (by decide) (by decide) (Nat.le_of_ble_eq_true rfl) ?_
    refine ev_if_eqb (tgt := 158) dX12_arrows_40 (by decide) (fun h40 => False.elim (Bool.false_ne_true (h40.symm.trans hq))) (fun h40 => ?_)
    refine ev_aload_n (i := 0) dX12_arrows_43 rfl rfl ?_
    refine ev_getf dX12_arrows_44 flX12_86 (by assumption) (by rfl) ?_
    refine ev_if_eq (tgt := 158) dX12_arrows_47 (by decide) (fun h47 => ?_) (fun h47 => ?_)
    · skip
      have hqt := hok.1.mp h47
      rw [rdr_end (f + 1) hqt] at Kok
      exact Kok M1 A p z rfl hps0 hf1
    · skip
      have hqt : ¬ rd_skip tn tx p = tn := fun z => h47 (hok.1.mpr z)
      refine ev_aload_n (i := 0) dX12_arrows_50 rfl rfl ?_
      refine ev_aload_n (i := 0) dX12_arrows_51 rfl rfl ?_
      refine ev_getf dX12_arrows_52 flX12_86 (by assumption) (by rfl) ?_
      refine ev_iconst (v := 1) dX12_arrows_55 cni_1 ?_
      refine ev_icmp_ne (tgt := 117) dX12_arrows_56 (by decide) (fun h56 => ?_) (fun h56 => ?_)
      · skip
        have hit := it_x_no (tn := tn) (tb := tx) (p := (rd_skip tn tx p)) (A := A) (fun z => h56 ((hok.2.1 0 (by decide)).mpr z.2).1) (fun z => h56 ((hok.2.1 1 (by decide)).mpr z.2).1) (fun z => h56 ((hok.2.1 2 (by decide)).mpr z.2).1)
        rw [rdr_no hqt (by rw [hit])] at Kno
        rw [hit] at Kno
        exact l_arr_no hn htx hps0 hf1 (fun r M2 h1 h2 h3 => Kno r M2 rfl h1 h2 h3)
      · skip
        refine ev_aload_n (i := 0) dX12_arrows_59 rfl rfl ?_
        refine ev_getf dX12_arrows_60 flX12_93 (by assumption) (by rfl) ?_
        refine ev_if_ne (tgt := 78) dX12_arrows_63 (by decide) (fun h63 => ?_) (fun hv0 => ?_)
        · skip
          have n0 : ¬ (A.1 < 12 ∧ rd_W tn tx 0 (rd_skip tn tx p)) := fun z => h63 ((hok.2.1 0 (by decide)).mpr z.2).2
          refine ev_aload_n (i := 0) dX12_arrows_78 rfl rfl ?_
          refine ev_getf dX12_arrows_79 flX12_93 (by assumption) (by rfl) ?_
          refine ev_iconst (v := 1) dX12_arrows_82 cni_1 ?_
          refine ev_icmp_ne (tgt := 97) dX12_arrows_83 (by decide) (fun h83 => ?_) (fun hv1 => ?_)
          · skip
            have n1 : ¬ (A.2.1 < 3 ∧ rd_W tn tx 1 (rd_skip tn tx p)) := fun z => h83 ((hok.2.1 1 (by decide)).mpr z.2).2
            refine ev_aload_n (i := 0) dX12_arrows_97 rfl rfl ?_
            refine ev_getf dX12_arrows_98 flX12_93 (by assumption) (by rfl) ?_
            refine ev_iconst (v := 2) dX12_arrows_101 cni_2 ?_
            refine ev_icmp_ne (tgt := 117) dX12_arrows_102 (by decide) (fun h102 => ?_) (fun hv2 => ?_)
            · skip
              have hit := it_x_no (tn := tn) (tb := tx) (p := (rd_skip tn tx p)) (A := A) (n0) (n1) (fun z => h102 ((hok.2.1 2 (by decide)).mpr z.2).2)
              rw [rdr_no hqt (by rw [hit])] at Kno
              rw [hit] at Kno
              exact l_arr_no hn htx hps0 hf1 (fun r M2 h1 h2 h3 => Kno r M2 rfl h1 h2 h3)
            · skip
              refine ev_aload_n (i := 0) dX12_arrows_105 rfl rfl ?_
              refine ev_getf dX12_arrows_106 flX12_120 (by assumption) (by rfl) ?_
              refine ev_iconst (v := 3) dX12_arrows_109 cni_3 ?_
              refine ev_icmp_ge (tgt := 117) dX12_arrows_110 (by decide) (fun h110 => ?_) (fun h110 => ?_)
              · skip
                have hit := it_x_no (tn := tn) (tb := tx) (p := (rd_skip tn tx p)) (A := A) (n0) (n1) (fun z => Int32.not_lt.mpr h110 (nI_lt (a := A.2.2.1) (b := 3) z.1 (by decide)))
                rw [rdr_no hqt (by rw [hit])] at Kno
                rw [hit] at Kno
                exact l_arr_no hn htx hps0 hf1 (fun r M2 h1 h2 h3 => Kno r M2 rfl h1 h2 h3)
              · skip
                have hl := (nI_ltI (a := A.2.2.1) (b := 3) (by omega) (by omega)).mp h110
                have q6 : (rd_skip tn tx p) + 6 ≤ tn := W_le (n := 6) (by decide) (by decide) ((hok.2.1 2 (by decide)).mp ⟨h56, hv2⟩)
                have hW := (hok.2.1 2 (by decide)).mp ⟨h56, hv2⟩
                have hx : nxn = (rd_skip tn tx p) + 6 := hok.2.2.1 2 (by decide) hW
                have hit := it_x_A (tn := tn) (tb := tx) n0 n1 hl hW
                refine ev_iconst (v := 1) dX12_arrows_113 cni_1 ?_
                refine ev_goto (tgt := 118) dX12_arrows_114 (by decide) ?_
                refine ev_d2 kX12_arrows_118 (m_takes_Y hn htx hok.2.2.2.2.2.2.2.2 hPP0 hfa) (ev_rv_of h129 rfl rfl) (by decide) (by decide) (Nat.le_of_ble_eq_true rfl) ?_
                intro r M2 hr
                obtain ⟨rfl, hps2, hf2⟩ := hr
                rw [hx] at hps2
                have hps0 := hps2
                have hps := hps2
                obtain ⟨nx, tk, pl, va9, fa, hPP, hle9, hT, hF⟩ := hps
                obtain ⟨th, sp, of', ba, go, dr, ki, up, dn, one, gof, dof, act, ik, h129, h130, h131, h132, h133, hk0, hk1, h134, h135, h136, h137, h138, h139, h140, h141, h142, h143, hsh⟩ := hPP
                have hq2 : (decide (fa < 0)) = true := by rw [(hT rfl).1]; decide
                refine ev_topi (x2 := 2) hv2 ?_
                refine ev_istore_n (i := 2) dX12_arrows_121 rfl (Nat.le_of_ble_eq_true rfl) rfl ?_
                refine ev_aload_n (i := 0) dX12_arrows_122 rfl rfl ?_
                refine ev_c1 kX12_arrows_123 (c13_isWell h129) (ev_rv_of (by assumption) rfl rfl) (by decide) (by decide) (Nat.le_of_ble_eq_true rfl) ?_
                refine ev_if_eqb (tgt := 134) dX12_arrows_126 (by decide) (fun h126 => False.elim (Bool.false_ne_true (h126.symm.trans hq2))) (fun h126 => ?_)
                by_cases hL : rd_W tn tx 3 (rd_skip tn tx ((rd_skip tn tx p) + 6))
                · rw [it_A_L hL] at hit
                  refine ev_aload_n (i := 0) dX12_arrows_129 rfl rfl ?_
                  refine ev_iload_n (i := 2) dX12_arrows_130 rfl rfl ?_
                  refine ev_d2 kX12_arrows_131 (m_item_AL hn htx hl hps0 hL) (ev_rv_of h129 rfl rfl) (by decide) (by decide) (Nat.le_of_ble_eq_true rfl) ?_
                  intro r M3 hr
                  obtain ⟨rfl, hps3, hf3⟩ := hr
                  refine l_arr_end hn htx hps3 (fun k hk => (hf3 k hk).trans ((hf2 k hk).trans (hf1 k hk))) (fun M4 hps4 hf4 => ?_)
                  have hte := it_x_t (tn := tn) (tb := tx) (p := (rd_skip tn tx p)) (A := A)
                  rw [hit] at hte
                  cases hb : (it_end tn tx (nb_p tn tx lo_A hi_A (rd_skip tn tx ((rd_skip tn tx p) + 6) + 4) 2)).1 with
                  | false =>
                    have e : it_end tn tx (nb_p tn tx lo_A hi_A (rd_skip tn tx ((rd_skip tn tx p) + 6) + 4) 2) = (false, (it_end tn tx (nb_p tn tx lo_A hi_A (rd_skip tn tx ((rd_skip tn tx p) + 6) + 4) 2)).2) := by rw [← hb]
                    rw [e] at hps4
                    have hf : (it_x tn tx (rd_skip tn tx p) A).1.1 = false := by rw [hit]; exact hb
                    rw [rdr_no hqt hf, hit] at Kno
                    exact l_arr_fail hn htx hps4 hf4 (fun r M2 h1 h2 h3 => Kno r M2 rfl h1 h2 h3)
                  | true =>
                    have e : it_end tn tx (nb_p tn tx lo_A hi_A (rd_skip tn tx ((rd_skip tn tx p) + 6) + 4) 2) = (true, (it_end tn tx (nb_p tn tx lo_A hi_A (rd_skip tn tx ((rd_skip tn tx p) + 6) + 4) 2)).2) := by rw [← hb]
                    rw [e] at hps4
                    have hf : (it_x tn tx (rd_skip tn tx p) A).1.1 = true := by rw [hit]; exact hb
                    rw [rdr_go hqt hf, hit] at Kno Kok
                    have h9 := hte hb hc
                    have h8 : (rd_skip tn tx p) < (it_end tn tx (nb_p tn tx lo_A hi_A (rd_skip tn tx ((rd_skip tn tx p) + 6) + 4) 2)).2 ∧ (it_end tn tx (nb_p tn tx lo_A hi_A (rd_skip tn tx ((rd_skip tn tx p) + 6) + 4) 2)).2 ≤ tn := h9.1
                    have h7 := rd_skip_le (tb := tx) h8.2
                    exact ih _ (k + 1) _ M4 _ h9.2 (by omega) hps4 hf4 Kok Kno
                by_cases hR : rd_W tn tx 4 (rd_skip tn tx ((rd_skip tn tx p) + 6))
                · rw [it_A_R hL hR] at hit
                  refine ev_aload_n (i := 0) dX12_arrows_129 rfl rfl ?_
                  refine ev_iload_n (i := 2) dX12_arrows_130 rfl rfl ?_
                  refine ev_d2 kX12_arrows_131 (m_item_AR hn htx hl hps0 hR) (ev_rv_of h129 rfl rfl) (by decide) (by decide) (Nat.le_of_ble_eq_true rfl) ?_
                  intro r M3 hr
                  obtain ⟨rfl, hps3, hf3⟩ := hr
                  refine l_arr_end hn htx hps3 (fun k hk => (hf3 k hk).trans ((hf2 k hk).trans (hf1 k hk))) (fun M4 hps4 hf4 => ?_)
                  have hte := it_x_t (tn := tn) (tb := tx) (p := (rd_skip tn tx p)) (A := A)
                  rw [hit] at hte
                  cases hb : (it_end tn tx (nb_p tn tx lo_A hi_A (rd_skip tn tx ((rd_skip tn tx p) + 6) + 5) 2)).1 with
                  | false =>
                    have e : it_end tn tx (nb_p tn tx lo_A hi_A (rd_skip tn tx ((rd_skip tn tx p) + 6) + 5) 2) = (false, (it_end tn tx (nb_p tn tx lo_A hi_A (rd_skip tn tx ((rd_skip tn tx p) + 6) + 5) 2)).2) := by rw [← hb]
                    rw [e] at hps4
                    have hf : (it_x tn tx (rd_skip tn tx p) A).1.1 = false := by rw [hit]; exact hb
                    rw [rdr_no hqt hf, hit] at Kno
                    exact l_arr_fail hn htx hps4 hf4 (fun r M2 h1 h2 h3 => Kno r M2 rfl h1 h2 h3)
                  | true =>
                    have e : it_end tn tx (nb_p tn tx lo_A hi_A (rd_skip tn tx ((rd_skip tn tx p) + 6) + 5) 2) = (true, (it_end tn tx (nb_p tn tx lo_A hi_A (rd_skip tn tx ((rd_skip tn tx p) + 6) + 5) 2)).2) := by rw [← hb]
                    rw [e] at hps4
                    have hf : (it_x tn tx (rd_skip tn tx p) A).1.1 = true := by rw [hit]; exact hb
                    rw [rdr_go hqt hf, hit] at Kno Kok
                    have h9 := hte hb hc
                    have h8 : (rd_skip tn tx p) < (it_end tn tx (nb_p tn tx lo_A hi_A (rd_skip tn tx ((rd_skip tn tx p) + 6) + 5) 2)).2 ∧ (it_end tn tx (nb_p tn tx lo_A hi_A (rd_skip tn tx ((rd_skip tn tx p) + 6) + 5) 2)).2 ≤ tn := h9.1
                    have h7 := rd_skip_le (tb := tx) h8.2
                    exact ih _ (k + 1) _ M4 _ h9.2 (by omega) hps4 hf4 Kok Kno
                · rw [it_A_F hL hR] at hit
                  refine ev_aload_n (i := 0) dX12_arrows_129 rfl rfl ?_
                  refine ev_iload_n (i := 2) dX12_arrows_130 rfl rfl ?_
                  refine ev_d2 kX12_arrows_131 (m_item_AF hn htx hl hps0 hL hR) (ev_rv_of h129 rfl rfl) (by decide) (by decide) (Nat.le_of_ble_eq_true rfl) ?_
                  intro r M3 hr
                  obtain ⟨rfl, ⟨dA3, hps3⟩, hf3⟩ := hr
                  refine l_arr_end hn htx hps3 (fun k hk => (hf3 k hk).trans ((hf2 k hk).trans (hf1 k hk))) (fun M4 hps4 hf4 => ?_)
                  have hf : (it_x tn tx (rd_skip tn tx p) A).1.1 = false := by rw [hit]
                  rw [rdr_no hqt hf, hit] at Kno
                  exact l_arr_fail hn htx hps4 hf4 (fun r M2 h1 h2 h3 => Kno r M2 rfl h1 h2 h3)
          · skip
            refine ev_aload_n (i := 0) dX12_arrows_86 rfl rfl ?_
            refine ev_getf dX12_arrows_87 flX12_117 (by assumption) (by rfl) ?_
            refine ev_iconst (v := 3) dX12_arrows_90 cni_3 ?_
            refine ev_icmp_ge (tgt := 117) dX12_arrows_91 (by decide) (fun h91 => ?_) (fun h91 => ?_)
            · skip
              have hit := it_x_no (tn := tn) (tb := tx) (p := (rd_skip tn tx p)) (A := A) (n0) (fun z => Int32.not_lt.mpr h91 (nI_lt (a := A.2.1) (b := 3) z.1 (by decide))) (fun z => absurd (hv1.symm.trans ((hok.2.1 2 (by decide)).mpr z.2).2) (by decide))
              rw [rdr_no hqt (by rw [hit])] at Kno
              rw [hit] at Kno
              exact l_arr_no hn htx hps0 hf1 (fun r M2 h1 h2 h3 => Kno r M2 rfl h1 h2 h3)
            · skip
              have hl := (nI_ltI (a := A.2.1) (b := 3) (by omega) (by omega)).mp h91
              have hW := (hok.2.1 1 (by decide)).mp ⟨h56, hv1⟩
              have hx : nxn = (rd_skip tn tx p) + 3 := hok.2.2.1 1 (by decide) hW
              have hit := it_x_B (tn := tn) (tb := tx) n0 hl hW
              refine ev_goto (tgt := 113) dX12_arrows_94 (by decide) ?_
              refine ev_iconst (v := 1) dX12_arrows_113 cni_1 ?_
              refine ev_goto (tgt := 118) dX12_arrows_114 (by decide) ?_
              refine ev_d2 kX12_arrows_118 (m_takes_Y hn htx hok.2.2.2.2.2.2.2.2 hPP0 hfa) (ev_rv_of h129 rfl rfl) (by decide) (by decide) (Nat.le_of_ble_eq_true rfl) ?_
              intro r M2 hr
              obtain ⟨rfl, hps2, hf2⟩ := hr
              rw [hx] at hps2
              have hps0 := hps2
              have hps := hps2
              obtain ⟨nx, tk, pl, va9, fa, hPP, hle9, hT, hF⟩ := hps
              obtain ⟨th, sp, of', ba, go, dr, ki, up, dn, one, gof, dof, act, ik, h129, h130, h131, h132, h133, hk0, hk1, h134, h135, h136, h137, h138, h139, h140, h141, h142, h143, hsh⟩ := hPP
              have hq2 : (decide (fa < 0)) = true := by rw [(hT rfl).1]; decide
              refine ev_topi (x2 := 1) hv1 ?_
              refine ev_istore_n (i := 2) dX12_arrows_121 rfl (Nat.le_of_ble_eq_true rfl) rfl ?_
              refine ev_aload_n (i := 0) dX12_arrows_122 rfl rfl ?_
              refine ev_c1 kX12_arrows_123 (c13_isWell h129) (ev_rv_of (by assumption) rfl rfl) (by decide) (by decide) (Nat.le_of_ble_eq_true rfl) ?_
              refine ev_if_eqb (tgt := 134) dX12_arrows_126 (by decide) (fun h126 => False.elim (Bool.false_ne_true (h126.symm.trans hq2))) (fun h126 => ?_)
              refine ev_aload_n (i := 0) dX12_arrows_129 rfl rfl ?_
              refine ev_iload_n (i := 2) dX12_arrows_130 rfl rfl ?_
              refine ev_d2 kX12_arrows_131 (m_item_B hn htx hl hps0) (ev_rv_of h129 rfl rfl) (by decide) (by decide) (Nat.le_of_ble_eq_true rfl) ?_
              intro r M3 hr
              obtain ⟨rfl, hps3, hf3⟩ := hr
              refine l_arr_end hn htx hps3 (fun k hk => (hf3 k hk).trans ((hf2 k hk).trans (hf1 k hk))) (fun M4 hps4 hf4 => ?_)
              have hte := it_x_t (tn := tn) (tb := tx) (p := (rd_skip tn tx p)) (A := A)
              rw [hit] at hte
              cases hb : (it_end tn tx (nb_p tn tx lo_B hi_B ((rd_skip tn tx p) + 3) 2)).1 with
              | false =>
                have e : it_end tn tx (nb_p tn tx lo_B hi_B ((rd_skip tn tx p) + 3) 2) = (false, (it_end tn tx (nb_p tn tx lo_B hi_B ((rd_skip tn tx p) + 3) 2)).2) := by rw [← hb]
                rw [e] at hps4
                have hf : (it_x tn tx (rd_skip tn tx p) A).1.1 = false := by rw [hit]; exact hb
                rw [rdr_no hqt hf, hit] at Kno
                exact l_arr_fail hn htx hps4 hf4 (fun r M2 h1 h2 h3 => Kno r M2 rfl h1 h2 h3)
              | true =>
                have e : it_end tn tx (nb_p tn tx lo_B hi_B ((rd_skip tn tx p) + 3) 2) = (true, (it_end tn tx (nb_p tn tx lo_B hi_B ((rd_skip tn tx p) + 3) 2)).2) := by rw [← hb]
                rw [e] at hps4
                have hf : (it_x tn tx (rd_skip tn tx p) A).1.1 = true := by rw [hit]; exact hb
                rw [rdr_go hqt hf, hit] at Kno Kok
                have h9 := hte hb hc
                have h8 : (rd_skip tn tx p) < (it_end tn tx (nb_p tn tx lo_B hi_B ((rd_skip tn tx p) + 3) 2)).2 ∧ (it_end tn tx (nb_p tn tx lo_B hi_B ((rd_skip tn tx p) + 3) 2)).2 ≤ tn := h9.1
                have h7 := rd_skip_le (tb := tx) h8.2
                exact ih _ (k + 1) _ M4 _ h9.2 (by omega) hps4 hf4 Kok Kno
        · skip
          refine ev_aload_n (i := 0) dX12_arrows_66 rfl rfl ?_
          refine ev_getf dX12_arrows_67 flX12_110 (by assumption) (by rfl) ?_
          refine ev_bipush (v := 12) dX12_arrows_70 cnb_12 ?_
          refine ev_icmp_ge (tgt := 117) dX12_arrows_72 (by decide) (fun h72 => ?_) (fun h72 => ?_)
          · skip
            have hit := it_x_no (tn := tn) (tb := tx) (p := (rd_skip tn tx p)) (A := A) (fun z => Int32.not_lt.mpr h72 (nI_lt (a := A.1) (b := 12) z.1 (by decide))) (fun z => absurd (hv0.symm.trans ((hok.2.1 1 (by decide)).mpr z.2).2) (by decide)) (fun z => absurd (hv0.symm.trans ((hok.2.1 2 (by decide)).mpr z.2).2) (by decide))
            rw [rdr_no hqt (by rw [hit])] at Kno
            rw [hit] at Kno
            exact l_arr_no hn htx hps0 hf1 (fun r M2 h1 h2 h3 => Kno r M2 rfl h1 h2 h3)
          · skip
            have hl := (nI_ltI (a := A.1) (b := 12) (by omega) (by omega)).mp h72
            have hW := (hok.2.1 0 (by decide)).mp ⟨h56, hv0⟩
            have hx : nxn = (rd_skip tn tx p) + 5 := hok.2.2.1 0 (by decide) hW
            have hit := it_x_S (tn := tn) (tb := tx) hl hW
            refine ev_goto (tgt := 113) dX12_arrows_75 (by decide) ?_
            refine ev_iconst (v := 1) dX12_arrows_113 cni_1 ?_
            refine ev_goto (tgt := 118) dX12_arrows_114 (by decide) ?_
            refine ev_d2 kX12_arrows_118 (m_takes_Y hn htx hok.2.2.2.2.2.2.2.2 hPP0 hfa) (ev_rv_of h129 rfl rfl) (by decide) (by decide) (Nat.le_of_ble_eq_true rfl) ?_
            intro r M2 hr
            obtain ⟨rfl, hps2, hf2⟩ := hr
            rw [hx] at hps2
            have hps0 := hps2
            have hps := hps2
            obtain ⟨nx, tk, pl, va9, fa, hPP, hle9, hT, hF⟩ := hps
            obtain ⟨th, sp, of', ba, go, dr, ki, up, dn, one, gof, dof, act, ik, h129, h130, h131, h132, h133, hk0, hk1, h134, h135, h136, h137, h138, h139, h140, h141, h142, h143, hsh⟩ := hPP
            have hq2 : (decide (fa < 0)) = true := by rw [(hT rfl).1]; decide
            refine ev_topi (x2 := 0) hv0 ?_
            refine ev_istore_n (i := 2) dX12_arrows_121 rfl (Nat.le_of_ble_eq_true rfl) rfl ?_
            refine ev_aload_n (i := 0) dX12_arrows_122 rfl rfl ?_
            refine ev_c1 kX12_arrows_123 (c13_isWell h129) (ev_rv_of (by assumption) rfl rfl) (by decide) (by decide) (Nat.le_of_ble_eq_true rfl) ?_
            refine ev_if_eqb (tgt := 134) dX12_arrows_126 (by decide) (fun h126 => False.elim (Bool.false_ne_true (h126.symm.trans hq2))) (fun h126 => ?_)
            refine ev_aload_n (i := 0) dX12_arrows_129 rfl rfl ?_
            refine ev_iload_n (i := 2) dX12_arrows_130 rfl rfl ?_
            refine ev_d2 kX12_arrows_131 (m_item_S hn htx hl hps0) (ev_rv_of h129 rfl rfl) (by decide) (by decide) (Nat.le_of_ble_eq_true rfl) ?_
            intro r M3 hr
            obtain ⟨rfl, hps3, hf3⟩ := hr
            refine l_arr_end hn htx hps3 (fun k hk => (hf3 k hk).trans ((hf2 k hk).trans (hf1 k hk))) (fun M4 hps4 hf4 => ?_)
            have hte := it_x_t (tn := tn) (tb := tx) (p := (rd_skip tn tx p)) (A := A)
            rw [hit] at hte
            cases hb : (it_end tn tx (nb_p tn tx lo_S hi_S ((rd_skip tn tx p) + 5) 6)).1 with
            | false =>
              have e : it_end tn tx (nb_p tn tx lo_S hi_S ((rd_skip tn tx p) + 5) 6) = (false, (it_end tn tx (nb_p tn tx lo_S hi_S ((rd_skip tn tx p) + 5) 6)).2) := by rw [← hb]
              rw [e] at hps4
              have hf : (it_x tn tx (rd_skip tn tx p) A).1.1 = false := by rw [hit]; exact hb
              rw [rdr_no hqt hf, hit] at Kno
              exact l_arr_fail hn htx hps4 hf4 (fun r M2 h1 h2 h3 => Kno r M2 rfl h1 h2 h3)
            | true =>
              have e : it_end tn tx (nb_p tn tx lo_S hi_S ((rd_skip tn tx p) + 5) 6) = (true, (it_end tn tx (nb_p tn tx lo_S hi_S ((rd_skip tn tx p) + 5) 6)).2) := by rw [← hb]
              rw [e] at hps4
              have hf : (it_x tn tx (rd_skip tn tx p) A).1.1 = true := by rw [hit]; exact hb
              rw [rdr_go hqt hf, hit] at Kno Kok
              have h9 := hte hb hc
              have h8 : (rd_skip tn tx p) < (it_end tn tx (nb_p tn tx lo_S hi_S ((rd_skip tn tx p) + 5) 6)).2 ∧ (it_end tn tx (nb_p tn tx lo_S hi_S ((rd_skip tn tx p) + 5) 6)).2 ≤ tn := h9.1
              have h7 := rd_skip_le (tb := tx) h8.2
              exact ih _ (k + 1) _ M4 _ h9.2 (by omega) hps4 hf4 Kok Kno
theorem l_arr_c {G : ev_G} {n : Nat} {M : ev_M} {tn c0 c1 c2 sh : Nat} {tx s kp bw ar tu : Nat → Int32} {k0 k1 : Bool} {tr : Int64} {nx tk pl va fa : Int32} {A : rs_T} {it : Nat} : ∀ (m j : Nat) (M1 : ev_M), j + m = 6 → md_P M1 tn c0 c1 c2 sh tx (fl_mix 84 A.2.2.2.1 s) kp (fl_mix j A.2.2.2.2.1 bw) (fl_mix j A.2.2.2.2.2 ar) tu k0 k1 tr nx tk pl va fa (nI A.1) (nI A.2.1) (nI A.2.2.1) (A.2.2.2.1) (A.2.2.2.2.1) (A.2.2.2.2.2) → (∀ k, k < 129 → M1 k = M k) → ev_E G mX12_arrows 8 0 0 n M1 201 [some (.ref 129), some (.int (nI it)), some (.int (nI j))] [] (fun r M2 => r = some (.int (nI it)) ∧ md_S M2 0 (A.1) (A.2.1) (A.2.2.1) 0 tx (upd (fl_mix 84 A.2.2.2.1 s) 85 0) kp (fl_mix 6 A.2.2.2.2.1 bw) (fl_mix 6 A.2.2.2.2.2 ar) tu false false tr ∧ ∀ k, k < 129 → M2 k = M k) := by
  intro m
  induction m with
  | zero =>
    intro j M1 hj hP1 hf1
    have hPP := hP1
    obtain ⟨th, sp, of', ba, go, dr, ki, up, dn, one, gof, dof, act, ik, h129, h130, h131, h132, h133, hk0, hk1, h134, h135, h136, h137, h138, h139, h140, h141, h142, h143, hsh⟩ := hPP
    have hkk : j = 6 := by omega
    subst hkk
    refine ev_iload_n (i := 2) dX12_arrows_201 rfl rfl ?_
    refine ev_bipush (v := 6) dX12_arrows_202 cnb_6 ?_
    refine ev_icmp_ge (tgt := 237) dX12_arrows_204 (by decide) (fun h204 => ?_) (fun h204 => False.elim (absurd h204 (by decide)))
    refine ev_aload_n (i := 0) dX12_arrows_237 rfl rfl ?_
    refine ev_aload_n (i := 0) dX12_arrows_238 rfl rfl ?_
    refine ev_getf dX12_arrows_239 flX12_110 (by assumption) (by rfl) ?_
    refine md_pf_c0 hP1 dX12_arrows_242 rfl (fun M2 hPP hf2 => ?_)
    have hP2 := hPP
    obtain ⟨th, sp, of', ba, go, dr, ki, up, dn, one, gof, dof, act, ik, h129, h130, h131, h132, h133, hk0, hk1, h134, h135, h136, h137, h138, h139, h140, h141, h142, h143, hsh⟩ := hPP
    refine ev_aload_n (i := 0) dX12_arrows_245 rfl rfl ?_
    refine ev_aload_n (i := 0) dX12_arrows_246 rfl rfl ?_
    refine ev_getf dX12_arrows_247 flX12_117 (by assumption) (by rfl) ?_
    refine md_pf_c1 hP2 dX12_arrows_250 rfl (fun M3 hPP hf3 => ?_)
    have hP3 := hPP
    obtain ⟨th, sp, of', ba, go, dr, ki, up, dn, one, gof, dof, act, ik, h129, h130, h131, h132, h133, hk0, hk1, h134, h135, h136, h137, h138, h139, h140, h141, h142, h143, hsh⟩ := hPP
    refine ev_aload_n (i := 0) dX12_arrows_253 rfl rfl ?_
    refine ev_aload_n (i := 0) dX12_arrows_254 rfl rfl ?_
    refine ev_getf dX12_arrows_255 flX12_120 (by assumption) (by rfl) ?_
    refine md_pf_c2 hP3 dX12_arrows_258 rfl (fun M4 hPP hf4 => ?_)
    have hP4 := hPP
    obtain ⟨th, sp, of', ba, go, dr, ki, up, dn, one, gof, dof, act, ik, h129, h130, h131, h132, h133, hk0, hk1, h134, h135, h136, h137, h138, h139, h140, h141, h142, h143, hsh⟩ := hPP
    refine ev_aload_n (i := 0) dX12_arrows_261 rfl rfl ?_
    refine ev_getf dX12_arrows_262 flX12_13 (by assumption) (by rfl) ?_
    refine ev_bipush (v := 85) dX12_arrows_265 cnb_85 ?_
    refine ev_iconst (v := 0) dX12_arrows_267 cni_0 ?_
    refine md_ps131 hP4 (j := 85) (sh2 := 0) dX12_arrows_268 (ev_ixc (j := 85) rfl (by decide)) (by decide) (if_pos rfl) (fun M5 hPP hf5 => ?_)
    have hP5 := hPP
    obtain ⟨th, sp, of', ba, go, dr, ki, up, dn, one, gof, dof, act, ik, h129, h130, h131, h132, h133, hk0, hk1, h134, h135, h136, h137, h138, h139, h140, h141, h142, h143, hsh⟩ := hPP
    refine ev_aload_n (i := 0) dX12_arrows_269 rfl rfl ?_
    refine ev_getf dX12_arrows_270 flX12_19 (by assumption) (by rfl) ?_
    refine ev_iconst (v := 0) dX12_arrows_273 cni_0 ?_
    refine ev_iconst (v := 0) dX12_arrows_274 cni_0 ?_
    refine md_ps133_0 hP5 dX12_arrows_275 (fun M6 hPP hf6 => ?_)
    have hP6 := hPP
    obtain ⟨th, sp, of', ba, go, dr, ki, up, dn, one, gof, dof, act, ik, h129, h130, h131, h132, h133, hk0, hk1, h134, h135, h136, h137, h138, h139, h140, h141, h142, h143, hsh⟩ := hPP
    refine ev_aload_n (i := 0) dX12_arrows_276 rfl rfl ?_
    refine ev_getf dX12_arrows_277 flX12_19 (by assumption) (by rfl) ?_
    refine ev_iconst (v := 1) dX12_arrows_280 cni_1 ?_
    refine ev_iconst (v := 0) dX12_arrows_281 cni_0 ?_
    refine md_ps133_1 hP6 dX12_arrows_282 (fun M7 hPP hf7 => ?_)
    have hP7 := hPP
    obtain ⟨th, sp, of', ba, go, dr, ki, up, dn, one, gof, dof, act, ik, h129, h130, h131, h132, h133, hk0, hk1, h134, h135, h136, h137, h138, h139, h140, h141, h142, h143, hsh⟩ := hPP
    refine ev_aload_n (i := 0) dX12_arrows_283 rfl rfl ?_
    refine ev_iconst (v := 0) dX12_arrows_284 cni_0 ?_
    refine ev_topi (x2 := nI 0) rfl ?_
    refine md_pf_tn hP7 dX12_arrows_285 rfl (fun M8 hPP hf8 => ?_)
    have hP8 := hPP
    obtain ⟨th, sp, of', ba, go, dr, ki, up, dn, one, gof, dof, act, ik, h129, h130, h131, h132, h133, hk0, hk1, h134, h135, h136, h137, h138, h139, h140, h141, h142, h143, hsh⟩ := hPP
    refine ev_iload_n (i := 1) dX12_arrows_288 rfl rfl ?_
    exact ev_reti dX12_arrows_289 rfl rfl (⟨rfl, md_PS hP8, fun k hk => (hf8 k hk).trans ((hf7 k hk).trans ((hf6 k hk).trans ((hf5 k hk).trans ((hf4 k hk).trans ((hf3 k hk).trans ((hf2 k hk).trans (hf1 k hk)))))))⟩)
  | succ m ih =>
    intro j M1 hj hP1 hf1
    have hPP := hP1
    obtain ⟨th, sp, of', ba, go, dr, ki, up, dn, one, gof, dof, act, ik, h129, h130, h131, h132, h133, hk0, hk1, h134, h135, h136, h137, h138, h139, h140, h141, h142, h143, hsh⟩ := hPP
    refine ev_iload_n (i := 2) dX12_arrows_201 rfl rfl ?_
    refine ev_bipush (v := 6) dX12_arrows_202 cnb_6 ?_
    refine ev_icmp_ge (tgt := 237) dX12_arrows_204 (by decide) (fun h204 => False.elim (nI_ge (a := j) (b := 6) (by omega) (by decide) h204)) (fun h204 => ?_)
    refine ev_aload_n (i := 0) dX12_arrows_207 rfl rfl ?_
    refine ev_getf dX12_arrows_208 flX12_23 (by assumption) (by rfl) ?_
    refine ev_iload_n (i := 2) dX12_arrows_211 rfl rfl ?_
    refine ev_aload_n (i := 0) dX12_arrows_212 rfl rfl ?_
    refine ev_getf dX12_arrows_213 flX12_32 (by assumption) (by rfl) ?_
    refine ev_iload_n (i := 2) dX12_arrows_216 rfl rfl ?_
    refine ev_iald (j := j) dX12_arrows_217 (by assumption) (ev_ix_nI (by omega)) (by omega) ?_
    refine md_ps134 hP1 (j := j) dX12_arrows_218 (ev_ix_nI (by omega)) (by omega) (fun M2 hPP hf2 => ?_)
    have hP2 := hPP
    obtain ⟨th, sp, of', ba, go, dr, ki, up, dn, one, gof, dof, act, ik, h129, h130, h131, h132, h133, hk0, hk1, h134, h135, h136, h137, h138, h139, h140, h141, h142, h143, hsh⟩ := hPP
    refine ev_aload_n (i := 0) dX12_arrows_219 rfl rfl ?_
    refine ev_getf dX12_arrows_220 flX12_26 (by assumption) (by rfl) ?_
    refine ev_iload_n (i := 2) dX12_arrows_223 rfl rfl ?_
    refine ev_aload_n (i := 0) dX12_arrows_224 rfl rfl ?_
    refine ev_getf dX12_arrows_225 flX12_35 (by assumption) (by rfl) ?_
    refine ev_iload_n (i := 2) dX12_arrows_228 rfl rfl ?_
    refine ev_iald (j := j) dX12_arrows_229 (by assumption) (ev_ix_nI (by omega)) (by omega) ?_
    refine md_ps135 hP2 (j := j) dX12_arrows_230 (ev_ix_nI (by omega)) (by omega) (fun M3 hPP hf3 => ?_)
    have hP3 := hPP
    obtain ⟨th, sp, of', ba, go, dr, ki, up, dn, one, gof, dof, act, ik, h129, h130, h131, h132, h133, hk0, hk1, h134, h135, h136, h137, h138, h139, h140, h141, h142, h143, hsh⟩ := hPP
    refine ev_iinc (v := nI (j + 1)) dX12_arrows_231 rfl (nI_1 j) (Nat.le_of_ble_eq_true rfl) rfl ?_
    refine ev_goto (tgt := 201) dX12_arrows_234 (by decide) ?_
    rw [fl_mix_S, fl_mix_S] at hP3
    exact ih (j + 1) M3 (by omega) hP3 (fun k hk => (hf3 k hk).trans ((hf2 k hk).trans (hf1 k hk)))
theorem l_arr_s {G : ev_G} {n : Nat} {M : ev_M} {tn c0 c1 c2 sh : Nat} {tx s kp bw ar tu : Nat → Int32} {k0 k1 : Bool} {tr : Int64} {nx tk pl va fa : Int32} {A : rs_T} {it : Nat} : ∀ (m j : Nat) (M1 : ev_M), j + m = 84 → md_P M1 tn c0 c1 c2 sh tx (fl_mix j A.2.2.2.1 s) kp bw ar tu k0 k1 tr nx tk pl va fa (nI A.1) (nI A.2.1) (nI A.2.2.1) (A.2.2.2.1) (A.2.2.2.2.1) (A.2.2.2.2.2) → (∀ k, k < 129 → M1 k = M k) → ev_E G mX12_arrows 8 0 0 n M1 175 [some (.ref 129), some (.int (nI it)), some (.int (nI j))] [] (fun r M2 => r = some (.int (nI it)) ∧ md_S M2 0 (A.1) (A.2.1) (A.2.2.1) 0 tx (upd (fl_mix 84 A.2.2.2.1 s) 85 0) kp (fl_mix 6 A.2.2.2.2.1 bw) (fl_mix 6 A.2.2.2.2.2 ar) tu false false tr ∧ ∀ k, k < 129 → M2 k = M k) := by
  intro m
  induction m with
  | zero =>
    intro j M1 hj hP1 hf1
    have hPP := hP1
    obtain ⟨th, sp, of', ba, go, dr, ki, up, dn, one, gof, dof, act, ik, h129, h130, h131, h132, h133, hk0, hk1, h134, h135, h136, h137, h138, h139, h140, h141, h142, h143, hsh⟩ := hPP
    have hkk : j = 84 := by omega
    subst hkk
    refine ev_iload_n (i := 2) dX12_arrows_175 rfl rfl ?_
    refine ev_bipush (v := 84) dX12_arrows_176 cnb_84 ?_
    refine ev_icmp_ge (tgt := 199) dX12_arrows_178 (by decide) (fun h178 => ?_) (fun h178 => False.elim (absurd h178 (by decide)))
    refine ev_iconst (v := 0) dX12_arrows_199 cni_0 ?_
    refine ev_istore_n (i := 2) dX12_arrows_200 rfl (Nat.le_of_ble_eq_true rfl) rfl ?_
    exact l_arr_c 6 0 M1 rfl (by rw [fl_mix_0, fl_mix_0]; exact hP1) hf1
  | succ m ih =>
    intro j M1 hj hP1 hf1
    have hPP := hP1
    obtain ⟨th, sp, of', ba, go, dr, ki, up, dn, one, gof, dof, act, ik, h129, h130, h131, h132, h133, hk0, hk1, h134, h135, h136, h137, h138, h139, h140, h141, h142, h143, hsh⟩ := hPP
    refine ev_iload_n (i := 2) dX12_arrows_175 rfl rfl ?_
    refine ev_bipush (v := 84) dX12_arrows_176 cnb_84 ?_
    refine ev_icmp_ge (tgt := 199) dX12_arrows_178 (by decide) (fun h178 => False.elim (nI_ge (a := j) (b := 84) (by omega) (by decide) h178)) (fun h178 => ?_)
    refine ev_aload_n (i := 0) dX12_arrows_181 rfl rfl ?_
    refine ev_getf dX12_arrows_182 flX12_13 (by assumption) (by rfl) ?_
    refine ev_iload_n (i := 2) dX12_arrows_185 rfl rfl ?_
    refine ev_aload_n (i := 0) dX12_arrows_186 rfl rfl ?_
    refine ev_getf dX12_arrows_187 flX12_29 (by assumption) (by rfl) ?_
    refine ev_iload_n (i := 2) dX12_arrows_190 rfl rfl ?_
    refine ev_iald (j := j) dX12_arrows_191 (by assumption) (ev_ix_nI (by omega)) (by omega) ?_
    refine md_ps131 hP1 (j := j) (sh2 := sh) dX12_arrows_192 (ev_ix_nI (by omega)) (by omega) ((if_neg (by omega)).trans hsh) (fun M2 hPP hf2 => ?_)
    have hP2 := hPP
    obtain ⟨th, sp, of', ba, go, dr, ki, up, dn, one, gof, dof, act, ik, h129, h130, h131, h132, h133, hk0, hk1, h134, h135, h136, h137, h138, h139, h140, h141, h142, h143, hsh⟩ := hPP
    refine ev_iinc (v := nI (j + 1)) dX12_arrows_193 rfl (nI_1 j) (Nat.le_of_ble_eq_true rfl) rfl ?_
    refine ev_goto (tgt := 175) dX12_arrows_196 (by decide) ?_
    rw [fl_mix_S] at hP2
    exact ih (j + 1) M2 (by omega) hP2 (fun k hk => (hf2 k hk).trans (hf1 k hk))
theorem m_arrows {G : ev_G} {n : Nat} {M : ev_M} {tn c0 c1 c2 sh : Nat} {tx s kp bw ar tu : Nat → Int32} {k0 k1 : Bool} {tr : Int64} (hM : md_S M tn c0 c1 c2 sh tx s kp bw ar tu k0 k1 tr) (hn : tn ≤ 400) (htx : ∀ k, k < tn → 0 ≤ tx k) : ev_Cal G mX12_arrows 8 0 0 [.ref 129] n M (fun r M1 => ∃ dS0 dB0 dA0 : Nat → Int32, (((rdr tn tx tn (rd_skip tn tx 0) 0 (0, 0, 0, dS0, dB0, dA0)).1 = true ∧ r = some (.int (nI (rdr tn tx tn (rd_skip tn tx 0) 0 (0, 0, 0, dS0, dB0, dA0)).2.1)) ∧ md_S M1 0 ((rdr tn tx tn (rd_skip tn tx 0) 0 (0, 0, 0, dS0, dB0, dA0)).2.2.1) ((rdr tn tx tn (rd_skip tn tx 0) 0 (0, 0, 0, dS0, dB0, dA0)).2.2.2.1) ((rdr tn tx tn (rd_skip tn tx 0) 0 (0, 0, 0, dS0, dB0, dA0)).2.2.2.2.1) 0 tx (upd (fl_mix 84 (rdr tn tx tn (rd_skip tn tx 0) 0 (0, 0, 0, dS0, dB0, dA0)).2.2.2.2.2.1 s) 85 0) kp (fl_mix 6 (rdr tn tx tn (rd_skip tn tx 0) 0 (0, 0, 0, dS0, dB0, dA0)).2.2.2.2.2.2.1 bw) (fl_mix 6 (rdr tn tx tn (rd_skip tn tx 0) 0 (0, 0, 0, dS0, dB0, dA0)).2.2.2.2.2.2.2 ar) tu false false tr) ∨ ((rdr tn tx tn (rd_skip tn tx 0) 0 (0, 0, 0, dS0, dB0, dA0)).1 = false ∧ r = some (.int (-10 - nI (rdr tn tx tn (rd_skip tn tx 0) 0 (0, 0, 0, dS0, dB0, dA0)).2.1)) ∧ md_S M1 tn c0 c1 c2 sh tx s kp bw ar tu k0 k1 tr)) ∧ ∀ k, k < 129 → M1 k = M k) := by
  refine ev_Cal_of (L := [some (.ref 129), none, none]) (by decide +kernel) (Nat.le_of_ble_eq_true rfl) rfl ?_
  refine md_thr hM dX12_arrows_0 dX12_arrows_1 dX12_arrows_2 rfl rfl (fun M1 hM1 hf1 => ?_)
  obtain ⟨nx, tk, pl, va, fa, d0, d1, d2, dS, dB, dA, hPP⟩ := md_SP hM1
  have hP1 := hPP
  obtain ⟨th, sp, of', ba, go, dr, ki, up, dn, one, gof, dof, act, ik, h129, h130, h131, h132, h133, hk0, hk1, h134, h135, h136, h137, h138, h139, h140, h141, h142, h143, hsh⟩ := hPP
  refine ev_aload_n (i := 0) dX12_arrows_5 rfl rfl ?_
  refine ev_iconst (v := (-1)) dX12_arrows_6 cni_m1 ?_
  refine md_pf_fa hP1 dX12_arrows_7 rfl (fun M2 hPP hf2 => ?_)
  have hP2 := hPP
  obtain ⟨th, sp, of', ba, go, dr, ki, up, dn, one, gof, dof, act, ik, h129, h130, h131, h132, h133, hk0, hk1, h134, h135, h136, h137, h138, h139, h140, h141, h142, h143, hsh⟩ := hPP
  refine ev_aload_n (i := 0) dX12_arrows_10 rfl rfl ?_
  refine ev_iconst (v := 0) dX12_arrows_11 cni_0 ?_
  refine ev_topi (x2 := nI 0) rfl ?_
  refine md_pf_nx hP2 dX12_arrows_12 rfl (fun M3 hPP hf3 => ?_)
  have hP3 := hPP
  obtain ⟨th, sp, of', ba, go, dr, ki, up, dn, one, gof, dof, act, ik, h129, h130, h131, h132, h133, hk0, hk1, h134, h135, h136, h137, h138, h139, h140, h141, h142, h143, hsh⟩ := hPP
  refine ev_iconst (v := 0) dX12_arrows_15 cni_0 ?_
  refine ev_istore_n (i := 1) dX12_arrows_16 rfl (Nat.le_of_ble_eq_true rfl) rfl ?_
  refine ev_aload_n (i := 0) dX12_arrows_17 rfl rfl ?_
  refine ev_iconst (v := 0) dX12_arrows_18 cni_0 ?_
  refine ev_topi (x2 := nI 0) rfl ?_
  refine md_pf_d0 hP3 dX12_arrows_19 rfl (fun M4 hPP hf4 => ?_)
  have hP4 := hPP
  obtain ⟨th, sp, of', ba, go, dr, ki, up, dn, one, gof, dof, act, ik, h129, h130, h131, h132, h133, hk0, hk1, h134, h135, h136, h137, h138, h139, h140, h141, h142, h143, hsh⟩ := hPP
  refine ev_aload_n (i := 0) dX12_arrows_22 rfl rfl ?_
  refine ev_iconst (v := 0) dX12_arrows_23 cni_0 ?_
  refine ev_topi (x2 := nI 0) rfl ?_
  refine md_pf_d1 hP4 dX12_arrows_24 rfl (fun M5 hPP hf5 => ?_)
  have hP5 := hPP
  obtain ⟨th, sp, of', ba, go, dr, ki, up, dn, one, gof, dof, act, ik, h129, h130, h131, h132, h133, hk0, hk1, h134, h135, h136, h137, h138, h139, h140, h141, h142, h143, hsh⟩ := hPP
  refine ev_aload_n (i := 0) dX12_arrows_27 rfl rfl ?_
  refine ev_iconst (v := 0) dX12_arrows_28 cni_0 ?_
  refine ev_topi (x2 := nI 0) rfl ?_
  refine md_pf_d2 hP5 dX12_arrows_29 rfl (fun M6 hPP hf6 => ?_)
  have hP6 := hPP
  obtain ⟨th, sp, of', ba, go, dr, ki, up, dn, one, gof, dof, act, ik, h129, h130, h131, h132, h133, hk0, hk1, h134, h135, h136, h137, h138, h139, h140, h141, h142, h143, hsh⟩ := hPP
  refine ev_aload_n (i := 0) dX12_arrows_32 rfl rfl ?_
  refine ev_d1 kX12_arrows_33 (m_advances hn htx (Nat.zero_le _) hP6) (ev_rv_of h129 rfl rfl) (by decide) (by decide) (Nat.le_of_ble_eq_true rfl) ?_
  intro r M7 hr
  obtain ⟨rfl, ⟨tk2, va2, nxn, hok, hP7⟩, hf7⟩ := hr
  have hfr : ∀ k, k < 129 → M7 k = M k := fun k hk => (hf7 k hk).trans ((hf6 k hk).trans ((hf5 k hk).trans ((hf4 k hk).trans ((hf3 k hk).trans ((hf2 k hk).trans (hf1 k hk))))))
  have hps : md_ps M7 tn c0 c1 c2 sh tx s kp bw ar tu k0 k1 tr ((true, 0)) (nI 0) (nI 0) (nI 0) (dS) (dB) (dA) := ⟨_, _, _, _, _, hP7, Nat.zero_le _, fun _ => ⟨rfl, rfl, nxn, rfl, hok⟩, fun z => by cases z⟩
  have hs0 := rd_skip_le (tb := tx) (Nat.zero_le tn)
  refine l_arr hn htx tn 0 0 (0, 0, 0, dS, dB, dA) M7 _ ⟨Nat.zero_le _, Nat.zero_le _, Nat.zero_le _⟩ (by omega) hps hfr (fun M8 A p2 z2 hR hps8 hf8 => ?_) (fun r M8 hR h1 h2 h3 => ⟨dS, dB, dA, Or.inr ⟨hR, h1, h2⟩, h3⟩)
  obtain ⟨nx, tk, pl, va, fa, hPP, hle, hT, hF⟩ := hps8
  have hP8 := hPP
  obtain ⟨th, sp, of', ba, go, dr, ki, up, dn, one, gof, dof, act, ik, h129, h130, h131, h132, h133, hk0, hk1, h134, h135, h136, h137, h138, h139, h140, h141, h142, h143, hsh⟩ := hPP
  have hq : (decide (fa < 0)) = true := by rw [(hT rfl).1]; decide
  generalize hit : (rdr tn tx tn (rd_skip tn tx 0) 0 (0, 0, 0, dS, dB, dA)).2.1 = it at hR ⊢
  refine ev_aload_n (i := 0) dX12_arrows_158 rfl rfl ?_
  refine ev_c1 kX12_arrows_159 (c13_isWell h129) (ev_rv_of (by assumption) rfl rfl) (by decide) (by decide) (Nat.le_of_ble_eq_true rfl) ?_
  refine ev_if_neb (tgt := 173) dX12_arrows_162 (by decide) (fun h162 => ?_) (fun h162 => False.elim (Bool.false_ne_true (h162.symm.trans hq)))
  refine ev_iconst (v := 0) dX12_arrows_173 cni_0 ?_
  refine ev_istore_n (i := 2) dX12_arrows_174 rfl (Nat.le_of_ble_eq_true rfl) rfl ?_
  refine ev_post (fun r M9 h => ?_) (l_arr_s (M := M) (A := A) (it := it) 84 0 M8 rfl (by rw [fl_mix_0]; exact hP8) hf8)
  obtain ⟨h1, h2, h3⟩ := h
  refine ⟨dS, dB, dA, Or.inl ?_, h3⟩
  rw [hR]
  exact ⟨rfl, h1, h2⟩
