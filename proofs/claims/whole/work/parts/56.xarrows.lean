/-! ===== both sides: arrows ===== -/
theorem nb_ok {tn : Nat} {tb lo hi : Nat → Int32} {p : Nat} : ∀ k : Nat, (nb_p tn tb lo hi p k).1 = true → ∀ j, j < k → sp_in (nb_w tn tb lo hi p j) (lo j) (hi j) = true
  | 0, _, j, hj => absurd hj (Nat.not_lt_zero j)
  | k + 1, h, j, hj => by
    have h1 : (nb_p tn tb lo hi p k).1 = true ∧ rd_V tn tb (rd_skip tn tb (nb_p tn tb lo hi p k).2) (lo k) (hi k) = true := by
      rw [nb_p, nb_s] at h
      by_cases e : (nb_p tn tb lo hi p k).1 = true
      · rw [if_pos e] at h
        by_cases e2 : rd_V tn tb (rd_skip tn tb (nb_p tn tb lo hi p k).2) (lo k) (hi k) = true
        · exact ⟨e, e2⟩
        · rw [if_neg e2] at h; exact absurd h Bool.false_ne_true
      · rw [if_neg e] at h; exact absurd h e
    by_cases e : j = k
    · subst e
      rw [nb_w, nb_v, if_pos h1]
      exact (rd_x1 h1.2).2.2
    · exact nb_ok k h1.1 j (by omega)
theorem it_end_ok {tn : Nat} {tb : Nat → Int32} {ps : Bool × Nat} (h : (it_end tn tb ps).1 = true) : ps.1 = true := by
  unfold it_end at h
  by_cases e : ps.1 = true
  · exact e
  · rw [if_neg e] at h; exact absurd h e
/-- what is read is well -/
def rs_wf (A : rs_T) : Prop := (A.1 ≤ 12 ∧ ∀ i, i < A.1 → st_stk (fun k => A.2.2.2.1 (7 * i + k))) ∧ (A.2.1 ≤ 3 ∧ ∀ i, i < A.2.1 → (20 ≤ A.2.2.2.2.1 (2 * i) ∧ A.2.2.2.2.1 (2 * i) ≤ 70) ∧ (0 ≤ A.2.2.2.2.1 (2 * i + 1) ∧ A.2.2.2.2.1 (2 * i + 1) ≤ 9)) ∧ (A.2.2.1 ≤ 3 ∧ ∀ i, i < A.2.2.1 → (-30 ≤ A.2.2.2.2.2 (2 * i) ∧ A.2.2.2.2.2 (2 * i) ≤ 30) ∧ (0 ≤ A.2.2.2.2.2 (2 * i + 1) ∧ A.2.2.2.2.2 (2 * i + 1) ≤ 20))
theorem rs_two_at {B : Nat → Int32} {c : Nat} {x y : Int32} : rs_two B c x y (2 * c) = x ∧ rs_two B c x y (2 * c + 1) = y := by
  unfold rs_two
  exact ⟨by rw [upd_ne (by omega), upd_at], upd_at⟩
theorem rs_two_lo {B : Nat → Int32} {c q : Nat} {x y : Int32} (h : q < 2 * c) : rs_two B c x y q = B q := by
  unfold rs_two
  rw [upd_ne (by omega), upd_ne (by omega)]
theorem x_neg30 {v : Int32} (h : sp_in v 0 30 = true) : -30 ≤ -v ∧ -v ≤ 30 := by
  have h1 := sp_in_to (a := 0) (b := 30) h rfl rfl
  have e : (-v).toInt = -v.toInt := ti_neg (A := 30) (rb_of h1.1 h1.2 (by decide) (by decide)) (by decide)
  exact ti_gr (y := -30) (z := 30) ⟨by omega, by omega⟩ rfl rfl
theorem x_pos30 {v : Int32} (h : sp_in v 0 30 = true) : -30 ≤ v ∧ v ≤ 30 := by
  have h1 := sp_in_to (a := 0) (b := 30) h rfl rfl
  exact ti_gr (y := -30) (z := 30) ⟨by omega, by omega⟩ rfl rfl
theorem it_x_wf {tn : Nat} {tb : Nat → Int32} {p : Nat} {A : rs_T} (h : rs_wf A) (hok : (it_x tn tb p A).1.1 = true) : rs_wf (it_x tn tb p A).2 := by
  obtain ⟨⟨a1, a2⟩, ⟨b1, b2⟩, ⟨d1, d2⟩⟩ := h
  unfold it_x at hok ⊢
  split at hok
  · rename_i hc
    rw [if_pos hc]
    have hv := nb_ok 6 (it_end_ok hok)
    refine ⟨⟨hc.1, fun i hi => ?_⟩, ⟨b1, b2⟩, ⟨d1, d2⟩⟩
    show st_stk (fun k => rs_stk A.2.2.2.1 A.1 (nb_w tn tb lo_S hi_S (p + 5)) (7 * i + k))
    have hi : i < A.1 + 1 := hi
    by_cases e : i = A.1
    · subst e
      have hz : ∀ k, k < 6 → rs_stk A.2.2.2.1 A.1 (nb_w tn tb lo_S hi_S (p + 5)) (7 * A.1 + k) = nb_w tn tb lo_S hi_S (p + 5) k := fun k hk => by
        unfold rs_stk; rw [if_pos (by omega), Nat.add_sub_cancel_left]
      have h6 : rs_stk A.2.2.2.1 A.1 (nb_w tn tb lo_S hi_S (p + 5)) (7 * A.1 + 6) = 0 := by
        unfold rs_stk; rw [if_neg (by omega), if_pos rfl]
      simp only [st_stk]
      rw [hz 0 (by decide), hz 1 (by decide), hz 2 (by decide), hz 3 (by decide), hz 4 (by decide), hz 5 (by decide), h6]
      exact ⟨sp_in_iff.mp (hv 0 (by decide)), sp_in_iff.mp (hv 1 (by decide)), sp_in_iff.mp (hv 2 (by decide)), sp_in_iff.mp (hv 3 (by decide)), sp_in_iff.mp (hv 4 (by decide)), sp_in_iff.mp (hv 5 (by decide)), Or.inl rfl⟩
    · exact st_stk_e (a2 i (by omega)) (fun k hk => by unfold rs_stk; rw [if_neg (by omega), if_neg (by omega)])
  · rename_i hc
    rw [if_neg hc]
    split at hok
    · rename_i hc2
      rw [if_pos hc2]
      have hv := nb_ok 2 (it_end_ok hok)
      refine ⟨⟨a1, a2⟩, ⟨hc2.1, fun i hi => ?_⟩, ⟨d1, d2⟩⟩
      show (20 ≤ rs_two A.2.2.2.2.1 A.2.1 (nb_w tn tb lo_B hi_B (p + 3) 0) (nb_w tn tb lo_B hi_B (p + 3) 1) (2 * i) ∧ rs_two A.2.2.2.2.1 A.2.1 (nb_w tn tb lo_B hi_B (p + 3) 0) (nb_w tn tb lo_B hi_B (p + 3) 1) (2 * i) ≤ 70) ∧ (0 ≤ rs_two A.2.2.2.2.1 A.2.1 (nb_w tn tb lo_B hi_B (p + 3) 0) (nb_w tn tb lo_B hi_B (p + 3) 1) (2 * i + 1) ∧ rs_two A.2.2.2.2.1 A.2.1 (nb_w tn tb lo_B hi_B (p + 3) 0) (nb_w tn tb lo_B hi_B (p + 3) 1) (2 * i + 1) ≤ 9)
      have hi : i < A.2.1 + 1 := hi
      by_cases e : i = A.2.1
      · subst e
        rw [rs_two_at.1, rs_two_at.2]
        exact ⟨sp_in_iff.mp (hv 0 (by decide)), sp_in_iff.mp (hv 1 (by decide))⟩
      · rw [rs_two_lo (by omega), rs_two_lo (by omega)]
        exact b2 i (by omega)
    · rename_i hc2
      rw [if_neg hc2]
      split at hok
      · rename_i hc3
        rw [if_pos hc3]
        unfold it_A at hok ⊢
        have key : ∀ (x y : Int32), (-30 ≤ x ∧ x ≤ 30) → (0 ≤ y ∧ y ≤ 20) → rs_wf (A.1, A.2.1, A.2.2.1 + 1, A.2.2.2.1, A.2.2.2.2.1, rs_two A.2.2.2.2.2 A.2.2.1 x y) := by
          intro x y hx hy
          refine ⟨⟨a1, a2⟩, ⟨b1, b2⟩, ⟨hc3.1, fun i hi => ?_⟩⟩
          show (-30 ≤ rs_two A.2.2.2.2.2 A.2.2.1 x y (2 * i) ∧ rs_two A.2.2.2.2.2 A.2.2.1 x y (2 * i) ≤ 30) ∧ (0 ≤ rs_two A.2.2.2.2.2 A.2.2.1 x y (2 * i + 1) ∧ rs_two A.2.2.2.2.2 A.2.2.1 x y (2 * i + 1) ≤ 20)
          have hi : i < A.2.2.1 + 1 := hi
          by_cases e : i = A.2.2.1
          · subst e
            rw [rs_two_at.1, rs_two_at.2]
            exact ⟨hx, hy⟩
          · rw [rs_two_lo (by omega), rs_two_lo (by omega)]
            exact d2 i (by omega)
        split at hok
        · rename_i hL
          rw [if_pos hL]
          have hv := nb_ok 2 (it_end_ok hok)
          exact key _ _ (x_neg30 (hv 0 (by decide))) (sp_in_iff.mp (hv 1 (by decide)))
        · rename_i hL
          rw [if_neg hL]
          split at hok
          · rename_i hR
            rw [if_pos hR]
            have hv := nb_ok 2 (it_end_ok hok)
            exact key _ _ (x_pos30 (hv 0 (by decide))) (sp_in_iff.mp (hv 1 (by decide)))
          · exact absurd hok Bool.false_ne_true
      · exact absurd hok Bool.false_ne_true
theorem rdr_wf {tn : Nat} {tb : Nat → Int32} : ∀ (f p k : Nat) (A : rs_T), rs_wf A → rs_wf (rdr tn tb f p k A).2.2
  | 0, p, k, A, h => h
  | f + 1, p, k, A, h => by
    rw [rdr]
    split
    · exact h
    · split
      · rename_i hok
        exact rdr_wf f _ _ _ (it_x_wf h hok)
      · exact h
theorem rs_wf0 {a b c : Nat → Int32} : rs_wf (0, 0, 0, a, b, c) := ⟨⟨Nat.zero_le _, fun i h => absurd h (Nat.not_lt_zero i)⟩, ⟨Nat.zero_le _, fun i h => absurd h (Nat.not_lt_zero i)⟩, ⟨Nat.zero_le _, fun i h => absurd h (Nat.not_lt_zero i)⟩⟩
theorem x_arrows : x_ok mX11_arrows mX12_arrows 9 8 [] := by
  rintro G n M hs ⟨tn, c0, c1, c2, sh, tx, s, kp, bw, ar, tu, k0, k1, tr, hR, hC, hM⟩
  have hR0 := hR
  obtain ⟨⟨htn, htx⟩, ⟨hc, hss⟩, ⟨hc1, hw⟩, ⟨hc2, ha⟩, ht, hsh, hk0, hk1⟩ := hR
  refine (c12_arrows hs htn hc hc1 hc2 hC).post (fun r M1 h => ?_)
  obtain ⟨⟨sD, bD, aD, hcase⟩, hfr⟩ := h
  have hM1 := md_S_keep hfr hM
  have hm := m_arrows (G := G) (n := n) hM1 htn (fun k hk => (htx k hk).1)
  have hwf := rdr_wf (tn := tn) (tb := tx) tn (rd_skip tn tx 0) 0 (0, 0, 0, sD, bD, aD) rs_wf0
  have hEE := fun dS0 dB0 dA0 => rdr_eq (tn := tn) (tb := tx) tn (rd_skip tn tx 0) 0 (0, 0, 0, sD, bD, aD) (0, 0, 0, dS0, dB0, dA0) ⟨rfl, rfl, rfl, fun k hk => absurd hk (Nat.not_lt_zero k), fun k hk => absurd hk (Nat.not_lt_zero k), fun k hk => absurd hk (Nat.not_lt_zero k)⟩
  generalize rdr tn tx tn (rd_skip tn tx 0) 0 (0, 0, 0, sD, bD, aD) = R at hcase hwf hEE
  rcases hcase with ⟨hok, rfl, ⟨l0, l1, l2⟩, hcl⟩ | ⟨hno, rfl, hcl⟩
  · refine ⟨_, rfl, md_S_129 hM1, hm.post (fun r2 M2 h2 => ?_)⟩
    obtain ⟨dS0, dB0, dA0, h2, hf2⟩ := h2
    obtain ⟨e0, e1, e2, e3, e4, e5, e6, e7⟩ := hEE dS0 dB0 dA0
    generalize rdr tn tx tn (rd_skip tn tx 0) 0 (0, 0, 0, dS0, dB0, dA0) = R' at h2 e0 e1 e2 e3 e4 e5 e6 e7
    rcases h2 with ⟨hok2, rfl, hmd⟩ | ⟨hno2, -, -⟩
    · rw [← e2, ← e3, ← e4] at hmd
      refine ⟨by rw [e1], 0, _, _, _, 0, tx, _, kp, _, _, tu, false, false, tr, ?_, cl_S_keep (fun q hq => hf2 q hq.2) (hcl _ _ _ (fun k hk => ?_) (fun k hk => ?_) (fun k hk => ?_) ?_ ?_), hmd⟩
      · obtain ⟨⟨a1, a2⟩, ⟨b1, b2⟩, ⟨d1, d2⟩⟩ := hwf
        refine ⟨⟨Nat.zero_le _, fun k hk => absurd hk (Nat.not_lt_zero k)⟩, ⟨a1, fun i hi => ?_⟩, ⟨b1, fun i hi => ?_⟩, ⟨d1, fun i hi => ?_⟩, ht, ⟨Nat.zero_le _, fun k hk => absurd hk (Nat.not_lt_zero k)⟩, fun e => absurd e Bool.false_ne_true, fun e => absurd e Bool.false_ne_true⟩
        · exact st_stk_e (a2 i hi) (fun q hq => (upd_ne (by omega)).trans ((if_pos (by omega)).trans (e5 _ (by omega)).symm))
        · rw [show fl_mix 6 R'.2.2.2.2.2.2.1 bw (2 * i) = R.2.2.2.2.2.2.1 (2 * i) from (if_pos (by omega)).trans (e6 _ (by omega)).symm, show fl_mix 6 R'.2.2.2.2.2.2.1 bw (2 * i + 1) = R.2.2.2.2.2.2.1 (2 * i + 1) from (if_pos (by omega)).trans (e6 _ (by omega)).symm]
          exact b2 i hi
        · rw [show fl_mix 6 R'.2.2.2.2.2.2.2 ar (2 * i) = R.2.2.2.2.2.2.2 (2 * i) from (if_pos (by omega)).trans (e7 _ (by omega)).symm, show fl_mix 6 R'.2.2.2.2.2.2.2 ar (2 * i + 1) = R.2.2.2.2.2.2.2 (2 * i + 1) from (if_pos (by omega)).trans (e7 _ (by omega)).symm]
          exact d2 i hi
      · exact ((upd_ne (by omega)).trans ((if_pos (by omega)).trans (e5 _ (by omega)).symm)).symm
      · exact ((if_pos (by omega)).trans (e6 _ (by omega)).symm).symm
      · exact ((if_pos (by omega)).trans (e7 _ (by omega)).symm).symm
      · exact (upd_ne (by decide)).trans (if_neg (by decide))
      · exact upd_at
    · exact absurd ((hok.symm.trans e0).trans hno2) (by decide)
  · refine ⟨_, rfl, md_S_129 hM1, hm.post (fun r2 M2 h2 => ?_)⟩
    obtain ⟨dS0, dB0, dA0, h2, hf2⟩ := h2
    obtain ⟨e0, e1, e2, e3, e4, e5, e6, e7⟩ := hEE dS0 dB0 dA0
    generalize rdr tn tx tn (rd_skip tn tx 0) 0 (0, 0, 0, dS0, dB0, dA0) = R' at h2 e0 e1 e2 e3 e4 e5 e6 e7
    rcases h2 with ⟨hok2, -, -⟩ | ⟨hno2, rfl, hmd⟩
    · exact absurd ((hno.symm.trans e0).trans hok2) (by decide)
    · exact ⟨by rw [e1], _, _, _, _, _, _, _, _, _, _, _, _, _, _, hR0, cl_S_keep (fun q hq => hf2 q hq.2) hcl, hmd⟩
