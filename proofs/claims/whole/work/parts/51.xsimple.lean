/-! ===== both sides: calls that change nothing ===== -/
theorem cl_open {M : ev_M} {tn c0 c1 c2 sh : Nat} {tx s kp bw ar tu : Nat → Int32} {k0 k1 : Bool} {tr : Int64} (hc : c0 ≤ 12) (hc1 : c1 ≤ 3) (hc2 : c2 ≤ 3) (hC : cl_S M tn c0 c1 c2 sh tx s kp bw ar tu k0 k1 tr) : ∃ (g g' : Nat) (fa fb fc : Nat → Option Nat), ((g = 85 ∧ g' = 107) ∨ (g = 107 ∧ g' = 85)) ∧ M 21 = .inr (11, [.ref 22, .ref 25, .ref 27, .ref 35, .ref 39, .ref 40, .ref 41, .ref 63, .ref g, .ref g', .int (s 84)]) ∧ M g = .inr (3, [.ref (g + 1), .ref (g + 2), .ref (g + 3), .int (nI c0), .int (nI c1), .int (nI c2)]) ∧ M (g + 1) = .inl (2, 12, ev_q fa) ∧ (∀ i, i < 12 → fa i = some (g + 4 + i)) ∧ M (g + 2) = .inl (3, 3, ev_q fb) ∧ (∀ i, i < 3 → fb i = some (g + 16 + i)) ∧ M (g + 3) = .inl (4, 3, ev_q fc) ∧ (∀ i, i < 3 → fc i = some (g + 19 + i)) ∧
    (∀ j, j < c0 → cl_stk M (g + 4 + j) (fun q => s (7 * j + q))) ∧ (∀ b, b < c1 → M (g + 16 + b) = .inr (1, [.int (bw (2 * b)), .int (bw (2 * b + 1))])) ∧ (∀ a, a < c2 → M (g + 19 + a) = .inr (0, [.int (ar (2 * a)), .int (ar (2 * a + 1))])) ∧ M 25 = .inr (10, [.ref 26]) ∧ M 26 = .inl (0, 4, .inl tu) ∧ M 40 = .inr (5, [.long tr]) := by
  obtain ⟨g, g', d0, d1, d2, tb, sC, bC, aC, sD, bD, aD, nm, q0, q1, q2, pl, z0, z1, z2, t0, t1, t2, t3, t4, hgg, h20, h21, h22, htb, h24, h25, h26, h27, h85, h35, h36, h37, h38, h39, h40, h41, h63, hG, hsC, hbC, haC, hG', hd0, hd1, hd2⟩ := hC
  obtain ⟨hGg, ⟨fa, hA, hfa⟩, ⟨fb, hB, hfb⟩, ⟨fc, hCC, hfc⟩, hSS, hWW, hRR⟩ := hG
  refine ⟨g, g', fa, fb, fc, hgg, h20, hGg, hA, hfa, hB, hfb, hCC, hfc, fun j hj => ?_, fun b hb => ?_, fun a ha => ?_, h25, h26, h40⟩
  · have h := hSS j (by omega)
    simp only [cl_stk] at h ⊢
    rw [h, hsC (7 * j + 0) (by omega), hsC (7 * j + 1) (by omega), hsC (7 * j + 2) (by omega), hsC (7 * j + 3) (by omega), hsC (7 * j + 4) (by omega), hsC (7 * j + 5) (by omega), hsC (7 * j + 6) (by omega)]
  · rw [hWW b (by omega), hbC (2 * b) (by omega), hbC (2 * b + 1) (by omega)]
  · rw [hRR a (by omega), haC (2 * a) (by omega), haC (2 * a + 1) (by omega)]
theorem cl_open27 {M : ev_M} {tn c0 c1 c2 sh : Nat} {tx s kp bw ar tu : Nat → Int32} {k0 k1 : Bool} {tr : Int64} (hC : cl_S M tn c0 c1 c2 sh tx s kp bw ar tu k0 k1 tr) : ∃ (f0 f1 f2 f3 f4 f5 f6 : Nat → Int32) (up dn : Int64),
  M (27) = .inr (8, [.ref (27 + 1), .ref (27 + 2), .ref (27 + 3), .ref (27 + 4), .ref (27 + 5), .ref (27 + 6), .ref (27 + 7), .long up, .long dn, .int (nI sh)]) ∧ M (27 + 1) = .inl (0, 60, .inl f0) ∧ M (27 + 2) = .inl (0, 60, .inl f1) ∧ M (27 + 3) = .inl (0, 60, .inl f2) ∧ M (27 + 4) = .inl (0, 60, .inl f3) ∧ M (27 + 5) = .inl (0, 60, .inl f4) ∧ M (27 + 6) = .inl (0, 12, .inl f5) ∧ M (27 + 7) = .inl (0, 12, .inl f6) ∧
  ∀ k, k < sh → f0 k = s (86 + 5 * k) ∧ f1 k = s (86 + (5 * k + 1)) ∧ f2 k = s (86 + (5 * k + 2)) ∧ f3 k = s (86 + (5 * k + 3)) ∧ f4 k = s (86 + (5 * k + 4)) := by
  obtain ⟨g, g', d0, d1, d2, tb, sC, bC, aC, sD, bD, aD, nm, q0, q1, q2, pl, z0, z1, z2, t0, t1, t2, t3, t4, hgg, h20, h21, h22, htb, h24, h25, h26, h27, h85, h35, h36, h37, h38, h39, h40, h41, h63, hG, hsC, hbC, haC, hG', hd0, hd1, hd2⟩ := hC
  exact h27
/-- a call that changes nothing -/
theorem x_ok_q {yX yM : ev_MI} {fX fM : Nat} {as : List Value} (h : ∀ (tn c0 c1 c2 sh : Nat) (tx s kp bw ar tu : Nat → Int32) (k0 k1 : Bool) (tr : Int64), st_R tn c0 c1 c2 sh tx s kp bw ar tu k0 k1 → ∃ v : Int32, (∀ (G : ev_G) (n : Nat) (M : ev_M), ev_hs G → cl_S M tn c0 c1 c2 sh tx s kp bw ar tu k0 k1 tr → ev_Cal G yX fX 0 0 (.ref 21 :: as) n M (ev_is (some (.int v)) M)) ∧ ∀ (G : ev_G) (n : Nat) (M : ev_M), md_S M tn c0 c1 c2 sh tx s kp bw ar tu k0 k1 tr → ev_Cal G yM fM 0 0 (.ref 129 :: as) n M (md_is M (.int v) tn c0 c1 c2 sh tx s kp bw ar tu k0 k1 tr)) : x_ok yX yM fX fM as := by
  rintro G n M hs ⟨tn, c0, c1, c2, sh, tx, s, kp, bw, ar, tu, k0, k1, tr, hR, hC, hM⟩
  obtain ⟨v, hX, hY⟩ := h _ _ _ _ _ _ _ _ _ _ _ _ _ tr hR
  refine (hX G n M hs hC).post (fun r M1 h1 => ?_)
  obtain ⟨rfl, rfl⟩ := h1
  exact ⟨v, rfl, md_S_129 hM, (hY G n _ hM).post (fun r2 M2 h2 => ⟨h2.1, _, _, _, _, _, _, _, _, _, _, _, _, _, _, hR, cl_S_keep (fun q hq => h2.2.2 q hq.2) hC, h2.2.1⟩)⟩
/-- a call that changes the state -/
theorem x_ok_s {yX yM : ev_MI} {fX fM : Nat} {as : List Value} (h : ∀ (tn c0 c1 c2 sh : Nat) (tx s kp bw ar tu : Nat → Int32) (k0 k1 : Bool) (tr : Int64), st_R tn c0 c1 c2 sh tx s kp bw ar tu k0 k1 → ∃ (v : Int32) (tn' c0' c1' c2' sh' : Nat) (tx' s' kp' bw' ar' tu' : Nat → Int32) (k0' k1' : Bool) (tr' : Int64), st_R tn' c0' c1' c2' sh' tx' s' kp' bw' ar' tu' k0' k1' ∧ (∀ (G : ev_G) (n : Nat) (M : ev_M), ev_hs G → cl_S M tn c0 c1 c2 sh tx s kp bw ar tu k0 k1 tr → ev_Cal G yX fX 0 0 (.ref 21 :: as) n M (fun r M1 => r = some (.int v) ∧ cl_S M1 tn' c0' c1' c2' sh' tx' s' kp' bw' ar' tu' k0' k1' tr' ∧ ∀ k, 129 ≤ k → M1 k = M k)) ∧ ∀ (G : ev_G) (n : Nat) (M : ev_M), md_S M tn c0 c1 c2 sh tx s kp bw ar tu k0 k1 tr → ev_Cal G yM fM 0 0 (.ref 129 :: as) n M (md_is M (.int v) tn' c0' c1' c2' sh' tx' s' kp' bw' ar' tu' k0' k1' tr')) : x_ok yX yM fX fM as := by
  rintro G n M hs ⟨tn, c0, c1, c2, sh, tx, s, kp, bw, ar, tu, k0, k1, tr, hR, hC, hM⟩
  obtain ⟨v, tn', c0', c1', c2', sh', tx', s', kp', bw', ar', tu', k0', k1', tr', hR', hX, hY⟩ := h _ _ _ _ _ _ _ _ _ _ _ _ _ tr hR
  refine (hX G n M hs hC).post (fun r M1 h1 => ?_)
  obtain ⟨rfl, hC1, hk1⟩ := h1
  have hM1 := md_S_keep hk1 hM
  exact ⟨v, rfl, md_S_129 hM1, (hY G n _ hM1).post (fun r2 M2 h2 => ⟨h2.1, _, _, _, _, _, _, _, _, _, _, _, _, _, _, hR', cl_S_keep (fun q hq => h2.2.2 q hq.2) hC1, h2.2.1⟩)⟩
theorem x_hi {w : Int32} {k : Nat} (hk : k < 2 ^ 30) (h : w < 0 ∨ nI (k + 1) ≤ w) : w.toInt < 0 ∨ (k : Int) < w.toInt := by
  rcases h with h | h
  · exact Or.inl (Int32.lt_iff_toInt_lt.mp h)
  · have h1 := Int32.le_iff_toInt_le.mp h
    rw [nI_toInt (by omega)] at h1
    exact Or.inr (by omega)
theorem x_hI {w : Int32} {k : Nat} (hk : k < 2 ^ 30) (h : w < 0 ∨ nI (k + 1) ≤ w) : w < 0 ∨ nI k < w := by
  rcases h with h | h
  · exact Or.inl h
  · refine Or.inr (Int32.lt_iff_toInt_lt.mpr ?_)
    have h1 := Int32.le_iff_toInt_le.mp h
    rw [nI_toInt (by omega)] at h1
    rw [nI_toInt (by omega)]
    omega
theorem x_ne {w : Int32} {k : Nat} (j : Nat) (hj : j < k) (hk : k < 2 ^ 31) (h : w < 0 ∨ nI k ≤ w) : ¬ w = nI j := by
  rintro rfl
  rcases h with h | h
  · exact nI_pos (by omega) h
  · exact Int32.not_le.mpr (nI_lt hj hk) h
theorem x_stick (i w : Int32) : x_ok mX11_stick mX12_stick 2 3 [.int i, .int w] := by
  refine x_ok_q (fun tn c0 c1 c2 sh tx s kp bw ar tu k0 k1 tr hR => ?_)
  obtain ⟨⟨htn, htx⟩, ⟨hc, hs⟩, ⟨hc1, hw⟩, ⟨hc2, ha⟩, ht, hsh, hk0, hk1⟩ := hR
  rcases sp_pos (i := i) (c := c0) (by omega) with ⟨j, hj, rfl⟩ | hi
  · rcases sp_pos (i := w) (c := 7) (by decide) with ⟨k, hk, rfl⟩ | hw'
    · refine ⟨s (7 * j + k), fun G n M hsio hC => ?_, fun G n M hM => m_stick hM hc hj hk⟩
      obtain ⟨g, g', fa, fb, fc, hgg, h20, hG, hA, hfa, hB, hfb, hCC, hfc, hst, hbo, har, hT, hV, h40⟩ := cl_open hc hc1 hc2 hC
      rcases k with _ | _ | _ | _ | _ | _ | _ | k
      · exact c12_stick_0 (s := fun q => s (7 * j + q)) h20 hG hA hfa hj hc (hst j hj)
      · exact c12_stick_1 (s := fun q => s (7 * j + q)) h20 hG hA hfa hj hc (hst j hj)
      · exact c12_stick_2 (s := fun q => s (7 * j + q)) h20 hG hA hfa hj hc (hst j hj)
      · exact c12_stick_3 (s := fun q => s (7 * j + q)) h20 hG hA hfa hj hc (hst j hj)
      · exact c12_stick_4 (s := fun q => s (7 * j + q)) h20 hG hA hfa hj hc (hst j hj)
      · exact c12_stick_5 (s := fun q => s (7 * j + q)) h20 hG hA hfa hj hc (hst j hj)
      · exact c12_stick_6 (s := fun q => s (7 * j + q)) h20 hG hA hfa hj hc (hst j hj)
      · omega
    · refine ⟨-1, fun G n M hsio hC => ?_, fun G n M hM => ?_⟩
      · obtain ⟨g, g', fa, fb, fc, hgg, h20, hG, hA, hfa, hB, hfb, hCC, hfc, hst, hbo, har, hT, hV, h40⟩ := cl_open hc hc1 hc2 hC
        exact c12_stick_w h20 hG hA hfa hj hc (x_hi (k := 6) (by decide) hw')
      · exact m_stick_w hM hc hj (x_hI (k := 6) (by decide) hw')
  · refine ⟨-1, fun G n M hsio hC => ?_, fun G n M hM => ?_⟩
    · obtain ⟨g, g', fa, fb, fc, hgg, h20, hG, hA, hfa, hB, hfb, hCC, hfc, hst, hbo, har, hT, hV, h40⟩ := cl_open hc hc1 hc2 hC
      exact c12_stick_i h20 hG hi
    · exact m_stick_i hM hc hi
theorem x_bow (i w : Int32) : x_ok mX11_bow mX12_bow 3 3 [.int i, .int w] := by
  refine x_ok_q (fun tn c0 c1 c2 sh tx s kp bw ar tu k0 k1 tr hR => ?_)
  obtain ⟨⟨htn, htx⟩, ⟨hc, hs⟩, ⟨hc1, hw⟩, ⟨hc2, ha⟩, ht, hsh, hk0, hk1⟩ := hR
  rcases sp_pos (i := i) (c := c1) (by omega) with ⟨b, hb, rfl⟩ | hi
  · rcases sp_pos (i := w) (c := 3) (by decide) with ⟨k, hk, rfl⟩ | hw'
    · rcases k with _ | _ | _ | k
      · refine ⟨bw (2 * b), fun G n M hsio hC => ?_, fun G n M hM => ?_⟩
        · obtain ⟨g, g', fa, fb, fc, hgg, h20, hG, hA, hfa, hB, hfb, hCC, hfc, hst, hbo, har, hT, hV, h40⟩ := cl_open hc hc1 hc2 hC
          exact c12_bow_0 h20 hG hB hfb hb hc1 (hbo b hb)
        · exact m_bow (k := 0) hM hb hc1 (by decide)
      · refine ⟨bw (2 * b + 1), fun G n M hsio hC => ?_, fun G n M hM => ?_⟩
        · obtain ⟨g, g', fa, fb, fc, hgg, h20, hG, hA, hfa, hB, hfb, hCC, hfc, hst, hbo, har, hT, hV, h40⟩ := cl_open hc hc1 hc2 hC
          exact c12_bow_1 h20 hG hB hfb hb hc1 (hbo b hb)
        · exact m_bow (k := 1) hM hb hc1 (by decide)
      · refine ⟨sp_need (bw (2 * b)) (bw (2 * b + 1)), fun G n M hsio hC => ?_, fun G n M hM => ?_⟩
        · obtain ⟨g, g', fa, fb, fc, hgg, h20, hG, hA, hfa, hB, hfb, hCC, hfc, hst, hbo, har, hT, hV, h40⟩ := cl_open hc hc1 hc2 hC
          exact c12_bow_2 h20 hG hB hfb hb hc1 (hbo b hb)
        · exact m_bow_2 hM hb hc1
      · omega
    · refine ⟨-1, fun G n M hsio hC => ?_, fun G n M hM => ?_⟩
      · obtain ⟨g, g', fa, fb, fc, hgg, h20, hG, hA, hfa, hB, hfb, hCC, hfc, hst, hbo, har, hT, hV, h40⟩ := cl_open hc hc1 hc2 hC
        exact c12_bow_w h20 hG hB hfb hb hc1 (x_hi (k := 2) (by decide) hw')
      · exact m_bow_w hM hb hc1 (x_hI (k := 2) (by decide) hw')
  · refine ⟨-1, fun G n M hsio hC => ?_, fun G n M hM => ?_⟩
    · obtain ⟨g, g', fa, fb, fc, hgg, h20, hG, hA, hfa, hB, hfb, hCC, hfc, hst, hbo, har, hT, hV, h40⟩ := cl_open hc hc1 hc2 hC
      exact c12_bow_b h20 hG hi
    · exact m_bow_b hM hc1 hi
theorem x_archer (i w : Int32) : x_ok mX11_archer mX12_archer 2 2 [.int i, .int w] := by
  refine x_ok_q (fun tn c0 c1 c2 sh tx s kp bw ar tu k0 k1 tr hR => ?_)
  obtain ⟨⟨htn, htx⟩, ⟨hc, hs⟩, ⟨hc1, hw⟩, ⟨hc2, ha⟩, ht, hsh, hk0, hk1⟩ := hR
  rcases sp_pos (i := i) (c := c2) (by omega) with ⟨a, ha', rfl⟩ | hi
  · rcases sp_pos (i := w) (c := 2) (by decide) with ⟨k, hk, rfl⟩ | hw'
    · rcases k with _ | _ | k
      · refine ⟨ar (2 * a), fun G n M hsio hC => ?_, fun G n M hM => ?_⟩
        · obtain ⟨g, g', fa, fb, fc, hgg, h20, hG, hA, hfa, hB, hfb, hCC, hfc, hst, hbo, har, hT, hV, h40⟩ := cl_open hc hc1 hc2 hC
          exact c12_archer_0 h20 hG hCC hfc ha' hc2 (har a ha')
        · exact m_archer (k := 0) hM ha' hc2 (by decide)
      · refine ⟨ar (2 * a + 1), fun G n M hsio hC => ?_, fun G n M hM => ?_⟩
        · obtain ⟨g, g', fa, fb, fc, hgg, h20, hG, hA, hfa, hB, hfb, hCC, hfc, hst, hbo, har, hT, hV, h40⟩ := cl_open hc hc1 hc2 hC
          exact c12_archer_1 h20 hG hCC hfc ha' hc2 (har a ha')
        · exact m_archer (k := 1) hM ha' hc2 (by decide)
      · omega
    · refine ⟨-1000000, fun G n M hsio hC => ?_, fun G n M hM => ?_⟩
      · obtain ⟨g, g', fa, fb, fc, hgg, h20, hG, hA, hfa, hB, hfb, hCC, hfc, hst, hbo, har, hT, hV, h40⟩ := cl_open hc hc1 hc2 hC
        exact c12_archer_w h20 hG hCC hfc ha' hc2 (x_ne 0 (by decide) (by decide) hw') (x_ne 1 (by decide) (by decide) hw')
      · exact m_archer_w hM ha' hc2 (x_hI (k := 1) (by decide) hw')
  · refine ⟨-1000000, fun G n M hsio hC => ?_, fun G n M hM => ?_⟩
    · obtain ⟨g, g', fa, fb, fc, hgg, h20, hG, hA, hfa, hB, hfb, hCC, hfc, hst, hbo, har, hT, hV, h40⟩ := cl_open hc hc1 hc2 hC
      exact c12_archer_a h20 hG hi
    · exact m_archer_a hM hc2 hi
theorem cl_open21 {M : ev_M} {tn c0 c1 c2 sh : Nat} {tx s kp bw ar tu : Nat → Int32} {k0 k1 : Bool} {tr : Int64} (hC : cl_S M tn c0 c1 c2 sh tx s kp bw ar tu k0 k1 tr) : ∃ pl : Int32, M 22 = .inr (7, [.ref 23, .ref 24, .int pl, .int (nI tn)]) := by
  obtain ⟨g, g', d0, d1, d2, tb, sC, bC, aC, sD, bD, aD, nm, q0, q1, q2, pl, z0, z1, z2, t0, t1, t2, t3, t4, hgg, h20, h21, h22, htb, h24, h25, h26, h27, h85, h35, h36, h37, h38, h39, h40, h41, h63, hG, hsC, hbC, haC, hG', hd0, hd1, hd2⟩ := hC
  exact ⟨_, h21⟩
theorem x_count (w : Int32) : x_ok mX11_count mX12_count 1 1 [.int w] := by
  refine x_ok_q (fun tn c0 c1 c2 sh tx s kp bw ar tu k0 k1 tr hR => ?_)
  obtain ⟨⟨htn, htx⟩, ⟨hc, hs⟩, ⟨hc1, hw⟩, ⟨hc2, ha⟩, ht, hsh, hk0, hk1⟩ := hR
  rcases sp_pos (i := w) (c := 5) (by decide) with ⟨k, hk, rfl⟩ | hw'
  · rcases k with _ | _ | _ | _ | _ | k
    · refine ⟨nI c0, fun G n M hsio hC => ?_, fun G n M hM => ?_⟩
      · obtain ⟨g, g', fa, fb, fc, hgg, h20, hG, hA, hfa, hB, hfb, hCC, hfc, hst, hbo, har, hT, hV, h40⟩ := cl_open hc hc1 hc2 hC
        exact c12_count_0 h20 hG
      · exact m_count_0 hM
    · refine ⟨nI c1, fun G n M hsio hC => ?_, fun G n M hM => ?_⟩
      · obtain ⟨g, g', fa, fb, fc, hgg, h20, hG, hA, hfa, hB, hfb, hCC, hfc, hst, hbo, har, hT, hV, h40⟩ := cl_open hc hc1 hc2 hC
        exact c12_count_1 h20 hG
      · exact m_count_1 hM
    · refine ⟨nI c2, fun G n M hsio hC => ?_, fun G n M hM => ?_⟩
      · obtain ⟨g, g', fa, fb, fc, hgg, h20, hG, hA, hfa, hB, hfb, hCC, hfc, hst, hbo, har, hT, hV, h40⟩ := cl_open hc hc1 hc2 hC
        exact c12_count_2 h20 hG
      · exact m_count_2 hM
    · refine ⟨nI sh, fun G n M hsio hC => ?_, fun G n M hM => ?_⟩
      · obtain ⟨g, g', fa, fb, fc, hgg, h20, hG, hA, hfa, hB, hfb, hCC, hfc, hst, hbo, har, hT, hV, h40⟩ := cl_open hc hc1 hc2 hC
        obtain ⟨f0, f1, f2, f3, f4, f5, f6, up, dn, hz, z0, z1, z2, z3, z4, z5, z6, hff⟩ := cl_open27 hC
        exact c12_count_3 h20 hz z0 z1 z2 z3 z4 z5 z6
      · exact m_count_3 hM
    · refine ⟨nI tn, fun G n M hsio hC => ?_, fun G n M hM => ?_⟩
      · obtain ⟨g, g', fa, fb, fc, hgg, h20, hG, hA, hfa, hB, hfb, hCC, hfc, hst, hbo, har, hT, hV, h40⟩ := cl_open hc hc1 hc2 hC
        obtain ⟨pl, hT2⟩ := cl_open21 hC
        exact c12_count_4 h20 hT2
      · exact m_count_4 hM
    · omega
  · refine ⟨-1, fun G n M hsio hC => ?_, fun G n M hM => ?_⟩
    · obtain ⟨g, g', fa, fb, fc, hgg, h20, hG, hA, hfa, hB, hfb, hCC, hfc, hst, hbo, har, hT, hV, h40⟩ := cl_open hc hc1 hc2 hC
      exact c12_count_w (x_hi (k := 4) (by decide) hw')
    · exact m_count_w hM (x_ne 0 (by decide) (by decide) hw') (x_ne 1 (by decide) (by decide) hw') (x_ne 2 (by decide) (by decide) hw') (x_ne 3 (by decide) (by decide) hw') (x_ne 4 (by decide) (by decide) hw')
theorem x_shot (i w : Int32) : x_ok mX11_shot mX12_shot 2 2 [.int i, .int w] := by
  refine x_ok_q (fun tn c0 c1 c2 sh tx s kp bw ar tu k0 k1 tr hR => ?_)
  obtain ⟨⟨htn, htx⟩, ⟨hc, hs⟩, ⟨hc1, hw⟩, ⟨hc2, ha⟩, ht, hsh, hk0, hk1⟩ := hR
  rcases sp_pos (i := i) (c := sh) (by have := hsh.1; omega) with ⟨j, hj, rfl⟩ | hi
  · rcases sp_pos (i := w) (c := 5) (by decide) with ⟨k, hk, rfl⟩ | hw'
    · rcases k with _ | _ | _ | _ | _ | k
      · refine ⟨s (86 + (5 * j + 0)), fun G n M hsio hC => ?_, fun G n M hM => m_shot hM hsh.1 hj (by decide)⟩
        obtain ⟨g, g', fa, fb, fc, hgg, h20, hG, hA, hfa, hB, hfb, hCC, hfc, hst, hbo, har, hT, hV, h40⟩ := cl_open hc hc1 hc2 hC
        obtain ⟨f0, f1, f2, f3, f4, f5, f6, up, dn, hz, z0, z1, z2, z3, z4, z5, z6, hff⟩ := cl_open27 hC
        have h := c12_shot_0 (G := G) (n := n) h20 hz z0 z1 z2 z3 z4 z5 z6 hj hsh.1
        rw [(hff j hj).1] at h
        exact h
      · refine ⟨s (86 + (5 * j + 1)), fun G n M hsio hC => ?_, fun G n M hM => m_shot hM hsh.1 hj (by decide)⟩
        obtain ⟨g, g', fa, fb, fc, hgg, h20, hG, hA, hfa, hB, hfb, hCC, hfc, hst, hbo, har, hT, hV, h40⟩ := cl_open hc hc1 hc2 hC
        obtain ⟨f0, f1, f2, f3, f4, f5, f6, up, dn, hz, z0, z1, z2, z3, z4, z5, z6, hff⟩ := cl_open27 hC
        have h := c12_shot_1 (G := G) (n := n) h20 hz z0 z1 z2 z3 z4 z5 z6 hj hsh.1
        rw [(hff j hj).2.1] at h
        exact h
      · refine ⟨s (86 + (5 * j + 2)), fun G n M hsio hC => ?_, fun G n M hM => m_shot hM hsh.1 hj (by decide)⟩
        obtain ⟨g, g', fa, fb, fc, hgg, h20, hG, hA, hfa, hB, hfb, hCC, hfc, hst, hbo, har, hT, hV, h40⟩ := cl_open hc hc1 hc2 hC
        obtain ⟨f0, f1, f2, f3, f4, f5, f6, up, dn, hz, z0, z1, z2, z3, z4, z5, z6, hff⟩ := cl_open27 hC
        have h := c12_shot_2 (G := G) (n := n) h20 hz z0 z1 z2 z3 z4 z5 z6 hj hsh.1
        rw [(hff j hj).2.2.1] at h
        exact h
      · refine ⟨s (86 + (5 * j + 3)), fun G n M hsio hC => ?_, fun G n M hM => m_shot hM hsh.1 hj (by decide)⟩
        obtain ⟨g, g', fa, fb, fc, hgg, h20, hG, hA, hfa, hB, hfb, hCC, hfc, hst, hbo, har, hT, hV, h40⟩ := cl_open hc hc1 hc2 hC
        obtain ⟨f0, f1, f2, f3, f4, f5, f6, up, dn, hz, z0, z1, z2, z3, z4, z5, z6, hff⟩ := cl_open27 hC
        have h := c12_shot_3 (G := G) (n := n) h20 hz z0 z1 z2 z3 z4 z5 z6 hj hsh.1
        rw [(hff j hj).2.2.2.1] at h
        exact h
      · refine ⟨s (86 + (5 * j + 4)), fun G n M hsio hC => ?_, fun G n M hM => m_shot hM hsh.1 hj (by decide)⟩
        obtain ⟨g, g', fa, fb, fc, hgg, h20, hG, hA, hfa, hB, hfb, hCC, hfc, hst, hbo, har, hT, hV, h40⟩ := cl_open hc hc1 hc2 hC
        obtain ⟨f0, f1, f2, f3, f4, f5, f6, up, dn, hz, z0, z1, z2, z3, z4, z5, z6, hff⟩ := cl_open27 hC
        have h := c12_shot_4 (G := G) (n := n) h20 hz z0 z1 z2 z3 z4 z5 z6 hj hsh.1
        rw [(hff j hj).2.2.2.2] at h
        exact h
      · omega
    · refine ⟨-1000000, fun G n M hsio hC => ?_, fun G n M hM => ?_⟩
      · obtain ⟨g, g', fa, fb, fc, hgg, h20, hG, hA, hfa, hB, hfb, hCC, hfc, hst, hbo, har, hT, hV, h40⟩ := cl_open hc hc1 hc2 hC
        obtain ⟨f0, f1, f2, f3, f4, f5, f6, up, dn, hz, z0, z1, z2, z3, z4, z5, z6, hff⟩ := cl_open27 hC
        exact c12_shot_w h20 hz z0 z1 z2 z3 z4 z5 z6 hj hsh.1 (x_hi (k := 4) (by decide) hw')
      · exact m_shot_w hM hsh.1 hj (x_hI (k := 4) (by decide) hw')
  · refine ⟨-1000000, fun G n M hsio hC => ?_, fun G n M hM => ?_⟩
    · obtain ⟨g, g', fa, fb, fc, hgg, h20, hG, hA, hfa, hB, hfb, hCC, hfc, hst, hbo, har, hT, hV, h40⟩ := cl_open hc hc1 hc2 hC
      obtain ⟨f0, f1, f2, f3, f4, f5, f6, up, dn, hz, z0, z1, z2, z3, z4, z5, z6, hff⟩ := cl_open27 hC
      exact c12_shot_k h20 hz z0 z1 z2 z3 z4 z5 z6 hi
    · exact m_shot_k hM hsh.1 hi
theorem x_flight (i b w : Int32) : x_ok mX11_flight mX12_flight 6 6 [.int i, .int b, .int w] := by
  refine x_ok_q (fun tn c0 c1 c2 sh tx s kp bw ar tu k0 k1 tr hR => ?_)
  obtain ⟨⟨htn, htx⟩, ⟨hc, hs⟩, ⟨hc1, hw⟩, ⟨hc2, ha⟩, ht, hsh, hk0, hk1⟩ := hR
  rcases sp_pos (i := i) (c := c0) (by omega) with ⟨j, hj, rfl⟩ | hi
  · rcases sp_pos (i := b) (c := c1) (by omega) with ⟨b, hb, rfl⟩ | hb'
    · rcases sp_pos (i := w) (c := 6) (by decide) with ⟨k, hk, rfl⟩ | hw'
      · rcases k with _ | _ | _ | _ | _ | _ | k
        · refine ⟨fx_sp (fun q => s (7 * j + q)), fun G n M hsio hC => ?_, fun G n M hM => ?_⟩
          · obtain ⟨g, g', fa, fb, fc, hgg, h20, hG, hA, hfa, hB, hfb, hCC, hfc, hst, hbo, har, hT, hV, h40⟩ := cl_open hc hc1 hc2 hC
            exact c12_flight_0 (s := fun q => s (7 * j + q)) h20 hG hA hfa hB hfb hj hc hb hc1 (hst j hj) (hbo b hb) hT hV
          · exact m_flight_0 hM hj hc hb hc1 (sk_of (hs j hj)) (bw_of (hw b hb)) (tu_of ht)
        · refine ⟨fx_of (fun q => s (7 * j + q)) (bw (2 * b)) (bw (2 * b + 1)), fun G n M hsio hC => ?_, fun G n M hM => ?_⟩
          · obtain ⟨g, g', fa, fb, fc, hgg, h20, hG, hA, hfa, hB, hfb, hCC, hfc, hst, hbo, har, hT, hV, h40⟩ := cl_open hc hc1 hc2 hC
            exact c12_flight_1 (s := fun q => s (7 * j + q)) h20 hG hA hfa hB hfb hj hc hb hc1 (hst j hj) (hbo b hb) hT hV
          · exact m_flight_1 hM hj hc hb hc1 (sk_of (hs j hj)) (bw_of (hw b hb)) (tu_of ht)
        · refine ⟨fx_ba tu (fun q => s (7 * j + q)) (bw (2 * b)) (bw (2 * b + 1)), fun G n M hsio hC => ?_, fun G n M hM => ?_⟩
          · obtain ⟨g, g', fa, fb, fc, hgg, h20, hG, hA, hfa, hB, hfb, hCC, hfc, hst, hbo, har, hT, hV, h40⟩ := cl_open hc hc1 hc2 hC
            exact c12_flight_2 (s := fun q => s (7 * j + q)) h20 hG hA hfa hB hfb hj hc hb hc1 (hst j hj) (hbo b hb) hT hV
          · exact m_flight_2 hM hj hc hb hc1 (sk_of (hs j hj)) (bw_of (hw b hb)) (tu_of ht)
        · refine ⟨fx_go tu (fun q => s (7 * j + q)) (bw (2 * b)) (bw (2 * b + 1)), fun G n M hsio hC => ?_, fun G n M hM => ?_⟩
          · obtain ⟨g, g', fa, fb, fc, hgg, h20, hG, hA, hfa, hB, hfb, hCC, hfc, hst, hbo, har, hT, hV, h40⟩ := cl_open hc hc1 hc2 hC
            exact c12_flight_3 (s := fun q => s (7 * j + q)) h20 hG hA hfa hB hfb hj hc hb hc1 (hst j hj) (hbo b hb) hT hV
          · exact m_flight_3 hM hj hc hb hc1 (sk_of (hs j hj)) (bw_of (hw b hb)) (tu_of ht)
        · refine ⟨fx_dr (fun q => s (7 * j + q)) (bw (2 * b)), fun G n M hsio hC => ?_, fun G n M hM => ?_⟩
          · obtain ⟨g, g', fa, fb, fc, hgg, h20, hG, hA, hfa, hB, hfb, hCC, hfc, hst, hbo, har, hT, hV, h40⟩ := cl_open hc hc1 hc2 hC
            exact c12_flight_4 (s := fun q => s (7 * j + q)) h20 hG hA hfa hB hfb hj hc hb hc1 (hst j hj) (hbo b hb) hT hV
          · exact m_flight_4 hM hj hc hb hc1 (sk_of (hs j hj)) (bw_of (hw b hb)) (tu_of ht)
        · refine ⟨fx_ki tu (fun q => s (7 * j + q)) (bw (2 * b)) (bw (2 * b + 1)), fun G n M hsio hC => ?_, fun G n M hM => ?_⟩
          · obtain ⟨g, g', fa, fb, fc, hgg, h20, hG, hA, hfa, hB, hfb, hCC, hfc, hst, hbo, har, hT, hV, h40⟩ := cl_open hc hc1 hc2 hC
            exact c12_flight_5 (s := fun q => s (7 * j + q)) h20 hG hA hfa hB hfb hj hc hb hc1 (hst j hj) (hbo b hb) hT hV
          · exact m_flight_5 hM hj hc hb hc1 (sk_of (hs j hj)) (bw_of (hw b hb)) (tu_of ht)
        · omega
      · refine ⟨-1000000, fun G n M hsio hC => ?_, fun G n M hM => ?_⟩
        · obtain ⟨g, g', fa, fb, fc, hgg, h20, hG, hA, hfa, hB, hfb, hCC, hfc, hst, hbo, har, hT, hV, h40⟩ := cl_open hc hc1 hc2 hC
          exact c12_flight_w (s := fun q => s (7 * j + q)) h20 hG hA hfa hB hfb hj hc hb hc1 (hst j hj) (hbo b hb) hT hV (x_hi (k := 5) (by decide) hw')
        · exact m_flight_no hM (by rw [show sp_in w 0 5 = false from sp_in_no.mpr (x_hI (k := 5) (by decide) hw'), Bool.and_false])
    · refine ⟨-1000000, fun G n M hsio hC => ?_, fun G n M hM => ?_⟩
      · obtain ⟨g, g', fa, fb, fc, hgg, h20, hG, hA, hfa, hB, hfb, hCC, hfc, hst, hbo, har, hT, hV, h40⟩ := cl_open hc hc1 hc2 hC
        exact c12_flight_b h20 hG hA hfa hj hc hb'
      · exact m_flight_no hM (by rw [sp_in_out (by omega) hb', Bool.and_false]; rfl)
  · refine ⟨-1000000, fun G n M hsio hC => ?_, fun G n M hM => ?_⟩
    · obtain ⟨g, g', fa, fb, fc, hgg, h20, hG, hA, hfa, hB, hfb, hCC, hfc, hst, hbo, har, hT, hV, h40⟩ := cl_open hc hc1 hc2 hC
      exact c12_flight_i h20 hG hA hfa hB hfb hc hc1 hi
    · exact m_flight_no hM (by rw [sp_in_out (by omega) hi]; rfl)
theorem x_w01 {w : Int32} (h : sp_in w 0 1 = true) : w = 0 ∨ w = 1 := by
  have h1 := sp_in_to (a := 0) (b := 1) h rfl rfl
  rcases (show w.toInt = 0 ∨ w.toInt = 1 by omega) with e | e
  · exact Or.inl (Int32.toInt_inj.mp e)
  · exact Or.inr (Int32.toInt_inj.mp e)
theorem x_band (b len tip w : Int32) : x_ok mX11_band mX12_band 3 3 [.int b, .int len, .int tip, .int w] := by
  refine x_ok_q (fun tn c0 c1 c2 sh tx s kp bw ar tu k0 k1 tr hR => ?_)
  obtain ⟨⟨htn, htx⟩, ⟨hc, hs⟩, ⟨hc1, hw⟩, ⟨hc2, ha⟩, ht, hsh, hk0, hk1⟩ := hR
  rcases sp_pos (i := b) (c := c1) (by omega) with ⟨b, hb, rfl⟩ | hb'
  · by_cases hl : sp_in len 80 130 = true
    · by_cases htp : sp_in tip 0 200 = true
      · by_cases hw1 : sp_in w 0 1 = true
        · rcases x_w01 hw1 with rfl | rfl
          · refine ⟨sp_first (sb_band tu len tip (bw (2 * b)) (bw (2 * b + 1))) sb_v20 (-9) 80, fun G n M hsio hC => ?_, fun G n M hM => ?_⟩
            · obtain ⟨g, g', fa, fb, fc, hgg, h20, hG, hA, hfa, hB, hfb, hCC, hfc, hst, hbo, har, hT, hV, h40⟩ := cl_open hc hc1 hc2 hC
              exact c12_band_0 h20 hG hB hfb hb hc1 (hbo b hb) hT hV hl htp
            · exact (by have h := m_band (G := G) (n := n) hM hb hc1 hl htp hw1; rw [if_pos rfl] at h; exact h)
          · refine ⟨sp_last (sb_band tu len tip (bw (2 * b)) (bw (2 * b + 1))) sb_v20 (-9) 80, fun G n M hsio hC => ?_, fun G n M hM => ?_⟩
            · obtain ⟨g, g', fa, fb, fc, hgg, h20, hG, hA, hfa, hB, hfb, hCC, hfc, hst, hbo, har, hT, hV, h40⟩ := cl_open hc hc1 hc2 hC
              exact c12_band_1 h20 hG hB hfb hb hc1 (hbo b hb) hT hV hl htp
            · exact (by have h := m_band (G := G) (n := n) hM hb hc1 hl htp hw1; rw [if_neg (by decide)] at h; exact h)
        · have hw1f : sp_in w 0 1 = false := Bool.not_eq_true _ ▸ hw1
          refine ⟨-1, fun G n M hsio hC => ?_, fun G n M hM => ?_⟩
          · obtain ⟨g, g', fa, fb, fc, hgg, h20, hG, hA, hfa, hB, hfb, hCC, hfc, hst, hbo, har, hT, hV, h40⟩ := cl_open hc hc1 hc2 hC
            exact c12_band_no h20 hG hB hfb hb hc1 (Or.inr (Or.inr hw1f))
          · exact m_band_no hM (by simp only [hw1f, Bool.and_false, Bool.false_and])
      · have htpf : sp_in tip 0 200 = false := Bool.not_eq_true _ ▸ htp
        refine ⟨-1, fun G n M hsio hC => ?_, fun G n M hM => ?_⟩
        · obtain ⟨g, g', fa, fb, fc, hgg, h20, hG, hA, hfa, hB, hfb, hCC, hfc, hst, hbo, har, hT, hV, h40⟩ := cl_open hc hc1 hc2 hC
          exact c12_band_no h20 hG hB hfb hb hc1 (Or.inr (Or.inl htpf))
        · exact m_band_no hM (by simp only [htpf, Bool.and_false, Bool.false_and])
    · have hlf : sp_in len 80 130 = false := Bool.not_eq_true _ ▸ hl
      refine ⟨-1, fun G n M hsio hC => ?_, fun G n M hM => ?_⟩
      · obtain ⟨g, g', fa, fb, fc, hgg, h20, hG, hA, hfa, hB, hfb, hCC, hfc, hst, hbo, har, hT, hV, h40⟩ := cl_open hc hc1 hc2 hC
        exact c12_band_no h20 hG hB hfb hb hc1 (Or.inl hlf)
      · exact m_band_no hM (by simp only [hlf, Bool.and_false, Bool.false_and])
  · refine ⟨-1, fun G n M hsio hC => ?_, fun G n M hM => ?_⟩
    · obtain ⟨g, g', fa, fb, fc, hgg, h20, hG, hA, hfa, hB, hfb, hCC, hfc, hst, hbo, har, hT, hV, h40⟩ := cl_open hc hc1 hc2 hC
      exact c12_band_b h20 hG hb'
    · exact m_band_no hM (by simp only [sp_in_out (show c1 < 2 ^ 31 by omega) hb', Bool.and_false, Bool.false_and])
theorem x_says (x fe w : Int32) : x_ok mX11_says mX12_says 5 4 [.int x, .int fe, .int w] := by
  refine x_ok_q (fun tn c0 c1 c2 sh tx s kp bw ar tu k0 k1 tr hR => ?_)
  obtain ⟨⟨htn, htx⟩, ⟨hc, hs⟩, ⟨hc1, hw⟩, ⟨hc2, ha⟩, ht, hsh, hk0, hk1⟩ := hR
  by_cases hx : sp_in x (-999) 999 = true
  · by_cases hfe : sp_in fe 0 9 = true
    · by_cases hw1 : sp_in w 0 1 = true
      · rcases x_w01 hw1 with rfl | rfl
        · refine ⟨sp_first (sb_says tu fe x) sb_v60 (-1000000) 121, fun G n M hsio hC => ?_, fun G n M hM => ?_⟩
          · obtain ⟨g, g', fa, fb, fc, hgg, h20, hG, hA, hfa, hB, hfb, hCC, hfc, hst, hbo, har, hT, hV, h40⟩ := cl_open hc hc1 hc2 hC
            exact c12_says_0 h20 hT hV hx hfe
          · exact (by have h := m_says (G := G) (n := n) hM (tu_of ht) hx hfe hw1; rw [if_pos rfl] at h; exact h)
        · refine ⟨sp_last (sb_says tu fe x) sb_v60 (-1000000) 121, fun G n M hsio hC => ?_, fun G n M hM => ?_⟩
          · obtain ⟨g, g', fa, fb, fc, hgg, h20, hG, hA, hfa, hB, hfb, hCC, hfc, hst, hbo, har, hT, hV, h40⟩ := cl_open hc hc1 hc2 hC
            exact c12_says_1 h20 hT hV hx hfe
          · exact (by have h := m_says (G := G) (n := n) hM (tu_of ht) hx hfe hw1; rw [if_neg (by decide)] at h; exact h)
      · have hw1f : sp_in w 0 1 = false := Bool.not_eq_true _ ▸ hw1
        refine ⟨-1000000, fun G n M hsio hC => ?_, fun G n M hM => ?_⟩
        · obtain ⟨g, g', fa, fb, fc, hgg, h20, hG, hA, hfa, hB, hfb, hCC, hfc, hst, hbo, har, hT, hV, h40⟩ := cl_open hc hc1 hc2 hC
          exact c12_says_no (Or.inr (Or.inr hw1f))
        · exact m_says_no hM (by simp only [hw1f, Bool.and_false, Bool.false_and])
    · have hfef : sp_in fe 0 9 = false := Bool.not_eq_true _ ▸ hfe
      refine ⟨-1000000, fun G n M hsio hC => ?_, fun G n M hM => ?_⟩
      · obtain ⟨g, g', fa, fb, fc, hgg, h20, hG, hA, hfa, hB, hfb, hCC, hfc, hst, hbo, har, hT, hV, h40⟩ := cl_open hc hc1 hc2 hC
        exact c12_says_no (Or.inr (Or.inl hfef))
      · exact m_says_no hM (by simp only [hfef, Bool.and_false, Bool.false_and])
  · have hxf : sp_in x (-999) 999 = false := Bool.not_eq_true _ ▸ hx
    refine ⟨-1000000, fun G n M hsio hC => ?_, fun G n M hM => ?_⟩
    · obtain ⟨g, g', fa, fb, fc, hgg, h20, hG, hA, hfa, hB, hfb, hCC, hfc, hst, hbo, har, hT, hV, h40⟩ := cl_open hc hc1 hc2 hC
      exact c12_says_no (Or.inl hxf)
    · exact m_says_no hM (by simp only [hxf, Bool.and_false, Bool.false_and])
theorem x_wreck (i wide w : Int32) : x_ok mX11_wreck mX12_wreck 5 5 [.int i, .int wide, .int w] := by
  refine x_ok_q (fun tn c0 c1 c2 sh tx s kp bw ar tu k0 k1 tr hR => ?_)
  obtain ⟨⟨htn, htx⟩, ⟨hc, hs⟩, ⟨hc1, hw⟩, ⟨hc2, ha⟩, ht, hsh, hk0, hk1⟩ := hR
  rcases sp_pos (i := i) (c := c0) (by omega) with ⟨j, hj, rfl⟩ | hi
  · by_cases hwi : sp_in wide 0 9 = true
    · by_cases hw1 : sp_in w 0 1 = true
      · rcases x_w01 hw1 with rfl | rfl
        · refine ⟨sp_first (sb_wreck tu (fun q => s (7 * j + q)) wide) sb_v20 (-9) 51, fun G n M hsio hC => ?_, fun G n M hM => ?_⟩
          · obtain ⟨g, g', fa, fb, fc, hgg, h20, hG, hA, hfa, hB, hfb, hCC, hfc, hst, hbo, har, hT, hV, h40⟩ := cl_open hc hc1 hc2 hC
            exact c12_wreck_0 (s := fun q => s (7 * j + q)) h20 hG hA hfa hj hc (hst j hj) hT hV hwi
          · exact (by have h := m_wreck (G := G) (n := n) hM hj hc (sk_of (hs j hj)) (tu_of ht) hwi hw1; rw [if_pos rfl] at h; exact h)
        · refine ⟨sp_last (sb_wreck tu (fun q => s (7 * j + q)) wide) sb_v20 (-9) 51, fun G n M hsio hC => ?_, fun G n M hM => ?_⟩
          · obtain ⟨g, g', fa, fb, fc, hgg, h20, hG, hA, hfa, hB, hfb, hCC, hfc, hst, hbo, har, hT, hV, h40⟩ := cl_open hc hc1 hc2 hC
            exact c12_wreck_1 (s := fun q => s (7 * j + q)) h20 hG hA hfa hj hc (hst j hj) hT hV hwi
          · exact (by have h := m_wreck (G := G) (n := n) hM hj hc (sk_of (hs j hj)) (tu_of ht) hwi hw1; rw [if_neg (by decide)] at h; exact h)
      · have hw1f : sp_in w 0 1 = false := Bool.not_eq_true _ ▸ hw1
        refine ⟨-1, fun G n M hsio hC => ?_, fun G n M hM => ?_⟩
        · obtain ⟨g, g', fa, fb, fc, hgg, h20, hG, hA, hfa, hB, hfb, hCC, hfc, hst, hbo, har, hT, hV, h40⟩ := cl_open hc hc1 hc2 hC
          exact c12_wreck_no h20 hG hA hfa hj hc (Or.inr hw1f)
        · exact m_wreck_no hM (by simp only [hw1f, Bool.and_false, Bool.false_and])
    · have hwif : sp_in wide 0 9 = false := Bool.not_eq_true _ ▸ hwi
      refine ⟨-1, fun G n M hsio hC => ?_, fun G n M hM => ?_⟩
      · obtain ⟨g, g', fa, fb, fc, hgg, h20, hG, hA, hfa, hB, hfb, hCC, hfc, hst, hbo, har, hT, hV, h40⟩ := cl_open hc hc1 hc2 hC
        exact c12_wreck_no h20 hG hA hfa hj hc (Or.inl hwif)
      · exact m_wreck_no hM (by simp only [hwif, Bool.and_false, Bool.false_and])
  · refine ⟨-1, fun G n M hsio hC => ?_, fun G n M hM => ?_⟩
    · obtain ⟨g, g', fa, fb, fc, hgg, h20, hG, hA, hfa, hB, hfb, hCC, hfc, hst, hbo, har, hT, hV, h40⟩ := cl_open hc hc1 hc2 hC
      exact c12_wreck_i h20 hG hi
    · exact m_wreck_no hM (by simp only [sp_in_out (show c0 < 2 ^ 31 by omega) hi, Bool.and_false, Bool.false_and])
theorem x_feather (i b far : Int32) : x_ok mX11_feather mX12_feather 6 5 [.int i, .int b, .int far] := by
  refine x_ok_q (fun tn c0 c1 c2 sh tx s kp bw ar tu k0 k1 tr hR => ?_)
  obtain ⟨⟨htn, htx⟩, ⟨hc, hs⟩, ⟨hc1, hw⟩, ⟨hc2, ha⟩, ht, hsh, hk0, hk1⟩ := hR
  rcases sp_pos (i := i) (c := c0) (by omega) with ⟨j, hj, rfl⟩ | hi
  · rcases sp_pos (i := b) (c := c1) (by omega) with ⟨b, hb, rfl⟩ | hb'
    · by_cases hf : sp_in far 0 99 = true
      · refine ⟨(sp_bf (sb_fe tu (fun q => s (7 * j + q)) (bw (2 * b)) (bw (2 * b + 1)) far) 10).1, fun G n M hsio hC => ?_, fun G n M hM => ?_⟩
        · obtain ⟨g, g', fa, fb, fc, hgg, h20, hG, hA, hfa, hB, hfb, hCC, hfc, hst, hbo, har, hT, hV, h40⟩ := cl_open hc hc1 hc2 hC
          exact c12_feather_ok (s := fun q => s (7 * j + q)) h20 hG hA hfa hB hfb hj hc hb hc1 (hst j hj) (hbo b hb) hT hV hf
        · exact m_feather hM hj hc hb hc1 (sk_of (hs j hj)) (bw_of (hw b hb)) (tu_of ht) hf
      · have hff : sp_in far 0 99 = false := Bool.not_eq_true _ ▸ hf
        refine ⟨-1, fun G n M hsio hC => ?_, fun G n M hM => ?_⟩
        · obtain ⟨g, g', fa, fb, fc, hgg, h20, hG, hA, hfa, hB, hfb, hCC, hfc, hst, hbo, har, hT, hV, h40⟩ := cl_open hc hc1 hc2 hC
          exact c12_feather_f (s := fun q => s (7 * j + q)) h20 hG hA hfa hB hfb hj hc hb hc1 (hst j hj) (hbo b hb) hT hV hff
        · exact m_feather_no hM (by simp only [hff, Bool.and_false, Bool.false_and])
    · refine ⟨-1, fun G n M hsio hC => ?_, fun G n M hM => ?_⟩
      · obtain ⟨g, g', fa, fb, fc, hgg, h20, hG, hA, hfa, hB, hfb, hCC, hfc, hst, hbo, har, hT, hV, h40⟩ := cl_open hc hc1 hc2 hC
        exact c12_feather_b h20 hG hA hfa hj hc hb'
      · exact m_feather_no hM (by simp only [sp_in_out (show c1 < 2 ^ 31 by omega) hb', Bool.and_false, Bool.false_and])
  · refine ⟨-1, fun G n M hsio hC => ?_, fun G n M hM => ?_⟩
    · obtain ⟨g, g', fa, fb, fc, hgg, h20, hG, hA, hfa, hB, hfb, hCC, hfc, hst, hbo, har, hT, hV, h40⟩ := cl_open hc hc1 hc2 hC
      exact c12_feather_i h20 hG hA hfa hB hfb hc hc1 hi
    · exact m_feather_no hM (by simp only [sp_in_out (show c0 < 2 ^ 31 by omega) hi, Bool.and_false, Bool.false_and])
