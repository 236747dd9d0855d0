/-! ===== both sides: spread, warm, type ===== -/
theorem sp_spr_c {st st' xs xs' : Nat → Int32} {i : Int32} : ∀ n : Nat, (∀ k, k < n → st' k = st k) → (∀ k, k < n → xs' k = xs k) → sp_spr st' xs' i n = sp_spr st xs i n
  | 0, _, _ => rfl
  | n + 1, h1, h2 => by rw [sp_spr, sp_spr, h1 n (by omega), h2 n (by omega), sp_spr_c n (fun k hk => h1 k (by omega)) (fun k hk => h2 k (by omega))]
theorem sp_spread_c {st st' xs xs' : Nat → Int32} {i : Int32} {n : Nat} (h1 : ∀ k, k < n → st' k = st k) (h2 : ∀ k, k < n → xs' k = xs k) : sp_spread st' xs' i n = sp_spread st xs i n := by rw [sp_spread, sp_spread, sp_spr_c n h1 h2]
theorem sp_cnt_c {P Q : Nat → Bool} : ∀ n : Nat, (∀ k, k < n → P k = Q k) → sp_cnt P n = sp_cnt Q n
  | 0, _ => rfl
  | n + 1, h => by rw [sp_cnt, sp_cnt, h n (by omega), sp_cnt_c n (fun k hk => h k (by omega))]
theorem sb_wm_c {tu s s' : Nat → Int32} {dr wi kk w : Int32} {i : Nat} (h : ∀ q, q < 7 → s' (7 * i + q) = s (7 * i + q)) : sb_wm tu s' dr wi kk w i = sb_wm tu s dr wi kk w i := by
  rw [sb_wm, sb_wm, h 0 (by decide), h 2 (by decide), h 3 (by decide), h 4 (by decide), h 6 (by decide)]
theorem x_255 (v : Int32) : 0 ≤ v &&& 255 ∧ v &&& 255 ≤ 255 := by
  have h1 : (v &&& 255).toBitVec.toNat = v.toBitVec.toNat &&& 255 := by rw [Int32.toBitVec_and, BitVec.toNat_and]; rfl
  have h2 : (v &&& 255).toBitVec.toNat < 256 := by
    rw [h1, show (255 : Nat) = 2 ^ 8 - 1 from rfl, Nat.and_two_pow_sub_one_eq_mod]
    exact Nat.mod_lt _ (by decide)
  have h3 : v &&& 255 = nI (v &&& 255).toBitVec.toNat := by
    apply Int32.toBitVec_inj.mp
    apply BitVec.eq_of_toNat_eq
    show _ = (BitVec.ofNat 32 _).toNat
    rw [BitVec.toNat_ofNat, Nat.mod_eq_of_lt (BitVec.isLt _)]
  have h4 : (v &&& 255).toInt = ((v &&& 255).toBitVec.toNat : Int) := (congrArg Int32.toInt h3).trans (nI_toInt (by omega))
  exact ⟨Int32.le_iff_toInt_le.mpr (by rw [h4, show (0 : Int32).toInt = 0 from rfl]; omega), Int32.le_iff_toInt_le.mpr (by rw [h4, show (255 : Int32).toInt = 255 from rfl]; omega)⟩
theorem ty_t_c {v : Int64} : ∀ (q tn : Nat) (tb tx : Nat → Int32), (∀ k, k < tn → tb k = tx k) → ∀ k, k < tn + q → ty_t v q tn tb k = ty_t v q tn tx k
  | 0, tn, tb, tx, h, k, hk => h k (by omega)
  | q + 1, tn, tb, tx, h, k, hk => by
    rw [ty_t, ty_t]
    refine ty_t_c q (tn + 1) _ _ (fun i hi => ?_) k (by omega)
    by_cases e : i = tn
    · subst e; rw [upd_at, upd_at]
    · rw [upd_ne e, upd_ne e]; exact h i (by omega)
theorem ty_t_r {v : Int64} : ∀ (q tn : Nat) (tx : Nat → Int32), (∀ k, k < tn → 0 ≤ tx k ∧ tx k ≤ 255) → ∀ k, k < tn + q → 0 ≤ ty_t v q tn tx k ∧ ty_t v q tn tx k ≤ 255
  | 0, tn, tx, h, k, hk => h k (by omega)
  | q + 1, tn, tx, h, k, hk => by
    rw [ty_t]
    refine ty_t_r q (tn + 1) _ (fun i hi => ?_) k (by omega)
    by_cases e : i = tn
    · subst e; rw [upd_at]; exact x_255 _
    · rw [upd_ne e]; exact h i (by omega)
theorem cl_open12 {M : ev_M} {tn c0 c1 c2 sh : Nat} {tx s kp bw ar tu : Nat → Int32} {k0 k1 : Bool} {tr : Int64} {g g' : Nat} {lot : Int32} (h20' : M 21 = .inr (11, [.ref 22, .ref 25, .ref 27, .ref 35, .ref 39, .ref 40, .ref 41, .ref 63, .ref g, .ref g', .int lot])) (hC : cl_S M tn c0 c1 c2 sh tx s kp bw ar tu k0 k1 tr) : ∃ sC : Nat → Int32, (∀ i, i < 12 → cl_stk M (g + 4 + i) (fun q => sC (7 * i + q))) ∧ ∀ k, k < 7 * c0 → sC k = s k := by
  obtain ⟨u, u', d0, d1, d2, tb, sC, bC, aC, sD, bD, aD, nm, q0, q1, q2, pl, z0, z1, z2, t0, t1, t2, t3, t4, hgg, h20, h21, h22, htb, h24, h25, h26, h27, h85, h35, h36, h37, h38, h39, h40, h41, h63, hG, hsC, hbC, haC, hG', hd0, hd1, hd2⟩ := hC
  obtain ⟨rfl, rfl⟩ : u = g ∧ u' = g' := by
    have e := h20.symm.trans h20'
    simp only [Sum.inr.injEq, Prod.mk.injEq, List.cons.injEq, Value.ref.injEq] at e
    simp only [true_and] at e
    exact ⟨e.1, e.2.1⟩
  obtain ⟨hGg, -, -, -, hSS, hWW, hRR⟩ := hG
  exact ⟨sC, hSS, hsC⟩
theorem cl_open22 {M : ev_M} {tn c0 c1 c2 sh : Nat} {tx s kp bw ar tu : Nat → Int32} {k0 k1 : Bool} {tr : Int64} (hC : cl_S M tn c0 c1 c2 sh tx s kp bw ar tu k0 k1 tr) : ∃ tb : Nat → Int32, M 23 = .inl (0, 400, .inl tb) ∧ ∀ k, k < tn → tb k = tx k := by
  obtain ⟨g, g', d0, d1, d2, tb, sC, bC, aC, sD, bD, aD, nm, q0, q1, q2, pl, z0, z1, z2, t0, t1, t2, t3, t4, hgg, h20, h21, h22, htb, h24, h25, h26, h27, h85, h35, h36, h37, h38, h39, h40, h41, h63, hG, hsC, hbC, haC, hG', hd0, hd1, hd2⟩ := hC
  exact ⟨tb, h22, htb⟩
theorem cl_S_type {M : ev_M} {tn c0 c1 c2 sh : Nat} {tx s kp bw ar tu : Nat → Int32} {k0 k1 : Bool} {tr : Int64} {tn' : Nat} {pl' : Int32} {tb' tx' : Nat → Int32} (ht' : ∀ k, k < tn' → tb' k = tx' k) (hC : cl_S M tn c0 c1 c2 sh tx s kp bw ar tu k0 k1 tr) : cl_S (ev_ml M [(22, .inr (7, [.ref 23, .ref 24, .int pl', .int (nI tn')])), (23, .inl (0, 400, .inl tb'))]) tn' c0 c1 c2 sh tx' s kp bw ar tu k0 k1 tr := by
  obtain ⟨g, g', d0, d1, d2, tb, sC, bC, aC, sD, bD, aD, nm, q0, q1, q2, pl, z0, z1, z2, t0, t1, t2, t3, t4, hgg, h20, h21, h22, htb, h24, h25, h26, h27, h85, h35, h36, h37, h38, h39, h40, h41, h63, hG, hsC, hbC, haC, hG', hd0, hd1, hd2⟩ := hC
  have hk : ∀ q, (q ≠ 22 ∧ q ≠ 23) → ev_ml M [(22, .inr (7, [.ref 23, .ref 24, .int pl', .int (nI tn')])), (23, .inl (0, 400, .inl tb'))] q = M q := fun q hq => ty_out ⟨hq.1, hq.2⟩
  exact ⟨g, g', d0, d1, d2, _, _, _, _, _, _, _, _, _, _, _, pl', _, _, _, _, _, _, _, _, hgg, ((hk 21 (by omega)).trans h20), rfl, rfl, ht', ((hk 24 (by omega)).trans h24), ((hk 25 (by omega)).trans h25), ((hk 26 (by omega)).trans h26), (cl_sheet_keep (fun a z1 z2 => hk a (by omega)) h27), h85, ((hk 35 (by omega)).trans h35), ((hk 36 (by omega)).trans h36), ((hk 37 (by omega)).trans h37), ((hk 38 (by omega)).trans h38), ((hk 39 (by omega)).trans h39), ((hk 40 (by omega)).trans h40), (cl_img_keep (fun a z1 z2 => hk a (by omega)) h41), (cl_img_keep (fun a z1 z2 => hk a (by omega)) h63), (cl_gear_keep (fun a z1 z2 => hk a (by omega)) hG), hsC, hbC, haC, (cl_gear_keep (fun a z1 z2 => hk a (by omega)) hG'), hd0, hd1, hd2⟩
theorem x_spread (i : Int32) : x_ok mX11_spread mX12_spread 2 3 [.int i] := by
  refine x_ok_q (fun tn c0 c1 c2 sh tx s kp bw ar tu k0 k1 tr hR => ?_)
  obtain ⟨⟨htn, htx⟩, ⟨hc, hs⟩, ⟨hc1, hw⟩, ⟨hc2, ha⟩, ht, hsh, hk0, hk1⟩ := hR
  rcases sp_pos (i := i) (c := c0) (by omega) with ⟨j, hj, rfl⟩ | hi
  · refine ⟨sp_spread (fun k => s (86 + 5 * k)) (fun k => s (86 + 5 * k + 3)) (nI j) sh, fun G n M hsio hC => ?_, fun G n M hM => m_spread hM hsh.1 (sp_in_ix hj (by omega))⟩
    obtain ⟨g, g', fa, fb, fc, hgg, h20, hG, hA, hfa, hB, hfb, hCC, hfc, hst, hbo, har, hT, hV, h40⟩ := cl_open hc hc1 hc2 hC
    obtain ⟨f0, f1, f2, f3, f4, f5, f6, up, dn, hz, z0, z1, z2, z3, z4, z5, z6, hff⟩ := cl_open27 hC
    have h := c12_spread_ok (G := G) (n := n) h20 hG hA hfa hj hc hz z0 z1 z2 z3 z4 z5 z6 hsh.1
    rw [sp_spread_c (st := fun k => s (86 + 5 * k)) (xs := fun k => s (86 + 5 * k + 3)) (fun k hk => (hff k hk).1) (fun k hk => (hff k hk).2.2.2.1)] at h
    exact h
  · refine ⟨-1, fun G n M hsio hC => ?_, fun G n M hM => ?_⟩
    · obtain ⟨g, g', fa, fb, fc, hgg, h20, hG, hA, hfa, hB, hfb, hCC, hfc, hst, hbo, har, hT, hV, h40⟩ := cl_open hc hc1 hc2 hC
      exact c12_spread_i h20 hG hi
    · exact m_spread_no hM (sp_in_out (by omega) hi)
theorem x_warm (b kk w : Int32) : x_ok mX11_warm mX12_warm 5 6 [.int b, .int kk, .int w] := by
  refine x_ok_q (fun tn c0 c1 c2 sh tx s kp bw ar tu k0 k1 tr hR => ?_)
  obtain ⟨⟨htn, htx⟩, ⟨hc, hs⟩, ⟨hc1, hw⟩, ⟨hc2, ha⟩, ht, hsh, hk0, hk1⟩ := hR
  rcases sp_pos (i := b) (c := c1) (by omega) with ⟨b, hb, rfl⟩ | hb'
  · by_cases hkr : sp_in kk 0 20 = true
    · by_cases hw1 : sp_in w 0 1 = true
      · rcases x_w01 hw1 with rfl | rfl
        · refine ⟨sp_cnt (sb_wm tu s (bw (2 * b)) (bw (2 * b + 1)) kk 0) c0, fun G n M hsio hC => ?_, fun G n M hM => m_warm_0 hM hb hc1 hc (fun i hi => sk_of (hs i hi)) (bw_of (hw b hb)) (tu_of ht) hkr⟩
          obtain ⟨g, g', fa, fb, fc, hgg, h20, hG, hA, hfa, hB, hfb, hCC, hfc, hst, hbo, har, hT, hV, h40⟩ := cl_open hc hc1 hc2 hC
          obtain ⟨sC, hSS, hsC⟩ := cl_open12 h20 hC
          have h := c12_warm_0 (G := G) (n := n) (s := sC) h20 hG hA hfa hB hfb hc hb hc1 (fun i hi => hSS i hi) (hbo b hb) hT hV hkr
          rw [sp_cnt_c (Q := sb_wm tu s (bw (2 * b)) (bw (2 * b + 1)) kk 0) c0 (fun k hk => sb_wm_c (fun q hq => hsC _ (by omega)))] at h
          exact h
        · refine ⟨sp_cnt (sb_wm tu s (bw (2 * b)) (bw (2 * b + 1)) kk 1) c0, fun G n M hsio hC => ?_, fun G n M hM => m_warm_1 hM hb hc1 hc (fun i hi => sk_of (hs i hi)) (bw_of (hw b hb)) (tu_of ht) hkr⟩
          obtain ⟨g, g', fa, fb, fc, hgg, h20, hG, hA, hfa, hB, hfb, hCC, hfc, hst, hbo, har, hT, hV, h40⟩ := cl_open hc hc1 hc2 hC
          obtain ⟨sC, hSS, hsC⟩ := cl_open12 h20 hC
          have h := c12_warm_1 (G := G) (n := n) (s := sC) h20 hG hA hfa hB hfb hc hb hc1 (fun i hi => hSS i hi) (hbo b hb) hT hV hkr
          rw [sp_cnt_c (Q := sb_wm tu s (bw (2 * b)) (bw (2 * b + 1)) kk 1) c0 (fun k hk => sb_wm_c (fun q hq => hsC _ (by omega)))] at h
          exact h
      · have hw1f : sp_in w 0 1 = false := Bool.not_eq_true _ ▸ hw1
        refine ⟨-1, fun G n M hsio hC => ?_, fun G n M hM => ?_⟩
        · obtain ⟨g, g', fa, fb, fc, hgg, h20, hG, hA, hfa, hB, hfb, hCC, hfc, hst, hbo, har, hT, hV, h40⟩ := cl_open hc hc1 hc2 hC
          exact c12_warm_no h20 hG hB hfb hb hc1 (Or.inr hw1f)
        · exact m_warm_no hM (by simp only [hw1f, Bool.and_false, Bool.false_and])
    · have hkrf : sp_in kk 0 20 = false := Bool.not_eq_true _ ▸ hkr
      refine ⟨-1, fun G n M hsio hC => ?_, fun G n M hM => ?_⟩
      · obtain ⟨g, g', fa, fb, fc, hgg, h20, hG, hA, hfa, hB, hfb, hCC, hfc, hst, hbo, har, hT, hV, h40⟩ := cl_open hc hc1 hc2 hC
        exact c12_warm_no h20 hG hB hfb hb hc1 (Or.inl hkrf)
      · exact m_warm_no hM (by simp only [hkrf, Bool.and_false, Bool.false_and])
  · refine ⟨-1, fun G n M hsio hC => ?_, fun G n M hM => ?_⟩
    · obtain ⟨g, g', fa, fb, fc, hgg, h20, hG, hA, hfa, hB, hfb, hCC, hfc, hst, hbo, har, hT, hV, h40⟩ := cl_open hc hc1 hc2 hC
      exact c12_warm_b h20 hG hb'
    · exact m_warm_no hM (by simp only [sp_in_out (show c1 < 2 ^ 31 by omega) hb', Bool.and_false, Bool.false_and])
theorem x_type (v : Int64) (k : Int32) : x_ok mX11_type mX12_type 2 2 [.long v, .int k] := by
  refine x_ok_s (fun tn c0 c1 c2 sh tx s kp bw ar tu k0 k1 tr hR => ?_)
  have hR0 := hR
  obtain ⟨⟨htn, htx⟩, ⟨hc, hs⟩, ⟨hc1, hw⟩, ⟨hc2, ha⟩, ht, hsh, hk0, hk1⟩ := hR
  rcases sp_pos (i := k) (c := 9) (by decide) with ⟨k, hk, rfl⟩ | hi
  · by_cases hq : sp_in (nI k) 1 8 = true
    · by_cases hn : tn + k ≤ 400
      · refine ⟨nI (tn + k), (tn + k), c0, c1, c2, sh, (ty_t v k tn tx), s, kp, bw, ar, tu, k0, k1, tr, ⟨⟨hn, ty_t_r k tn tx htx⟩, ⟨hc, hs⟩, ⟨hc1, hw⟩, ⟨hc2, ha⟩, ht, hsh, hk0, hk1⟩, fun G n M hsio hC => ?_, fun G n M hM => ?_⟩
        · obtain ⟨g, g', fa, fb, fc, hgg, h20, hG, hA, hfa, hB, hfb, hCC, hfc, hst, hbo, har, hT, hV, h40⟩ := cl_open hc hc1 hc2 hC
          obtain ⟨tb, hTb, htb⟩ := cl_open22 hC
          obtain ⟨pl, hT2⟩ := cl_open21 hC
          exact cl_us (c12_type_ok h20 hT2 hTb hq (by omega) hn) (cl_S_type (ty_t_c k tn _ _ htb) hC) (fun q hq2 => ty_out ⟨by omega, by omega⟩)
        · exact m_type hM hq (by omega) hn
      · refine ⟨-3, tn, c0, c1, c2, sh, tx, s, kp, bw, ar, tu, k0, k1, tr, hR0, fun G n M hsio hC => ?_, fun G n M hM => ?_⟩
        · obtain ⟨g, g', fa, fb, fc, hgg, h20, hG, hA, hfa, hB, hfb, hCC, hfc, hst, hbo, har, hT, hV, h40⟩ := cl_open hc hc1 hc2 hC
          obtain ⟨tb, hTb, htb⟩ := cl_open22 hC
          obtain ⟨pl, hT2⟩ := cl_open21 hC
          exact cl_qs hC (c12_type_full h20 hT2 hTb hq (by omega) (by omega) htn)
        · exact m_type_full hM hq (by omega) (by omega) htn
    · have hqf : sp_in (nI k) 1 8 = false := Bool.not_eq_true _ ▸ hq
      refine ⟨-1, tn, c0, c1, c2, sh, tx, s, kp, bw, ar, tu, k0, k1, tr, hR0, fun G n M hsio hC => ?_, fun G n M hM => ?_⟩
      · obtain ⟨g, g', fa, fb, fc, hgg, h20, hG, hA, hfa, hB, hfb, hCC, hfc, hst, hbo, har, hT, hV, h40⟩ := cl_open hc hc1 hc2 hC
        exact cl_qs hC (c12_type_k h20 hqf)
      · exact m_type_k hM hqf
  · have hkf : sp_in k 1 8 = false := by
      rcases hi with h | h
      · exact sp_in_1 (Int32.lt_iff_toInt_lt.mpr (by have := Int32.lt_iff_toInt_lt.mp h; rw [show (0 : Int32).toInt = 0 from rfl] at this; rw [show (1 : Int32).toInt = 1 from rfl]; omega))
      · exact sp_in_2 (Int32.lt_iff_toInt_lt.mpr (by have := Int32.le_iff_toInt_le.mp h; rw [nI_toInt (by decide)] at this; rw [show (8 : Int32).toInt = 8 from rfl]; omega))
    refine ⟨-1, tn, c0, c1, c2, sh, tx, s, kp, bw, ar, tu, k0, k1, tr, hR0, fun G n M hsio hC => ?_, fun G n M hM => ?_⟩
    · obtain ⟨g, g', fa, fb, fc, hgg, h20, hG, hA, hfa, hB, hfb, hCC, hfc, hst, hbo, har, hT, hV, h40⟩ := cl_open hc hc1 hc2 hC
      exact cl_qs hC (c12_type_k h20 hkf)
    · exact m_type_k hM hkf
