/-! ===== both sides: keep, back ===== -/
theorem cl_img_c {M : ev_M} {a c0 : Nat} {kp kp' : Nat → Int32} {k : Bool} (hc : c0 ≤ 12) (h : ∀ q, q < 386 → kp' q = kp q) (hI : cl_img M a c0 kp k) : cl_img M a c0 kp' k := by
  obtain ⟨lt, s, m, f, h0, h1, h2, h3, h4, h5⟩ := hI
  exact ⟨lt, s, m, f, h0, h1, h2, h3, h4, fun e => ⟨(h5 e).1.trans (h 84 (by decide)).symm, (h 85 (by decide)).trans (h5 e).2.1, fun q hq => ((h5 e).2.2.1 q hq).trans (h q (by omega)).symm, fun q hq => ((h5 e).2.2.2 q hq).trans (h (86 + q) (by omega)).symm⟩⟩
theorem cl_img_new {M M' : ev_M} {a c0 sh : Nat} {kp kp' s : Nat → Int32} {k : Bool} (hsz : sh ≤ 60) (hI : cl_img M a c0 kp k) (h0 : M' a = .inr (4, [.ref (a + 1), .ref (a + 2), .int (s 84), .int (ev_b true)])) (h1 : M' (a + 1) = M (a + 1)) (h2 : cl_sheet M' (a + 2) sh (fun k => s (86 + k)))
    (hin : ∀ i, i < c0 → cl_stk M' (a + 10 + i) (fun k => s (7 * i + k))) (hout : ∀ i, c0 ≤ i → i < 12 → M' (a + 10 + i) = M (a + 10 + i)) (hc : c0 ≤ 12) (h85 : s 85 = nI sh) (hk : ∀ q, q < 386 → kp' q = s q) : cl_img M' a c0 kp' true := by
  obtain ⟨lt, v, m, f, g0, ⟨q, g1, g2⟩, g3, g4, g5, g6⟩ := hI
  refine ⟨s 84, fun q => if q < 7 * c0 then s q else v q, sh, fun k => s (86 + k), h0, ⟨q, h1.trans g1, g2⟩, h2, fun i hi => ?_, hsz, fun _ => ⟨(hk 84 (by decide)).symm, (hk 85 (by decide)).trans h85, fun q hq => (if_pos hq).trans (hk q (by omega)).symm, fun q hq => (hk (86 + q) (by omega)).symm⟩⟩
  by_cases e : i < c0
  · exact cl_stk_c (hin i e) (fun k hk2 => if_pos (by omega))
  · have h : cl_stk M' (a + 10 + i) (fun k => v (7 * i + k)) := (hout i (by omega) hi).trans (g4 i hi)
    exact cl_stk_c h (fun k hk2 => if_neg (by omega))
theorem cl_sheet_mix {M' : ev_M} {a n : Nat} {up dn : Int64} {f : Nat → Int32} {f0 f1 f2 f3 f4 g0 g1 g2 g3 g4 g5 g6 : Nat → Int32} (h0 : M' a = .inr (8, [.ref (a + 1), .ref (a + 2), .ref (a + 3), .ref (a + 4), .ref (a + 5), .ref (a + 6), .ref (a + 7), .long up, .long dn, .int (nI n)])) (h1 : M' (a + 1) = .inl (0, 60, .inl (fl_mix n f0 g0))) (h2 : M' (a + 2) = .inl (0, 60, .inl (fl_mix n f1 g1))) (h3 : M' (a + 3) = .inl (0, 60, .inl (fl_mix n f2 g2))) (h4 : M' (a + 4) = .inl (0, 60, .inl (fl_mix n f3 g3))) (h5 : M' (a + 5) = .inl (0, 60, .inl (fl_mix n f4 g4))) (h6 : M' (a + 6) = .inl (0, 12, .inl g5)) (h7 : M' (a + 7) = .inl (0, 12, .inl g6))
    (hf : ∀ k, k < n → f0 k = f (5 * k) ∧ f1 k = f (5 * k + 1) ∧ f2 k = f (5 * k + 2) ∧ f3 k = f (5 * k + 3) ∧ f4 k = f (5 * k + 4)) : cl_sheet M' a n f := by
  refine ⟨_, _, _, _, _, _, _, up, dn, h0, h1, h2, h3, h4, h5, h6, h7, fun k hk => ?_⟩
  simp only [fl_mix, if_pos hk]
  exact hf k hk
theorem kq_a {kp s : Nat → Int32} {q : Nat} (h : q < 386) : kq_k kp s 0 386 q = s q := by unfold kq_k; rw [if_pos (by omega), Nat.sub_zero]
theorem kq_b {kp s : Nat → Int32} {q : Nat} (h : 386 ≤ q) : kq_k kp s 0 386 q = kp q := by unfold kq_k; rw [if_neg (by omega)]
theorem kq_c {kp s : Nat → Int32} {q : Nat} (h : q < 386) : kq_k kp s 386 386 q = kp q := by unfold kq_k; rw [if_neg (by omega)]
theorem kq_d {kp s : Nat → Int32} {q : Nat} (h : q < 386) : kq_k kp s 386 386 (386 + q) = s q := by unfold kq_k; rw [if_pos (by omega), Nat.add_sub_cancel_left]
theorem bq_a {kp s : Nat → Int32} {o q : Nat} (h : q < 386) : bq_k kp s o 386 q = kp (o + q) := by unfold bq_k; rw [if_pos h]
theorem st_stk_e {f f' : Nat → Int32} (h : st_stk f) (e : ∀ q, q < 7 → f' q = f q) : st_stk f' := by
  simp only [st_stk] at h ⊢
  rw [e 0 (by decide), e 1 (by decide), e 2 (by decide), e 3 (by decide), e 4 (by decide), e 5 (by decide), e 6 (by decide)]
  exact h
theorem st_shots_c {c0 n : Nat} {f f' : Nat → Int32} (h : st_shots c0 n f) (e : ∀ q, q < 300 → f' q = f q) : st_shots c0 n f' := by
  refine ⟨h.1, fun k hk => ?_⟩
  have h1 := h.1
  rw [e _ (by omega), e _ (by omega), e _ (by omega), e _ (by omega)]
  exact h.2 k hk
theorem st_R_keep0 {tn c0 c1 c2 sh : Nat} {tx s kp bw ar tu : Nat → Int32} {k0 k1 : Bool} (h85 : s 85 = nI sh) (hR : st_R tn c0 c1 c2 sh tx s kp bw ar tu k0 k1) : st_R tn c0 c1 c2 sh tx s (kq_k kp s 0 386) bw ar tu true k1 := by
  obtain ⟨⟨htn, htx⟩, ⟨hc, hs⟩, ⟨hc1, hw⟩, ⟨hc2, ha⟩, ht, hsh, hk0, hk1⟩ := hR
  refine ⟨⟨htn, htx⟩, ⟨hc, hs⟩, ⟨hc1, hw⟩, ⟨hc2, ha⟩, ht, hsh, fun _ => ⟨fun i hi => ?_, sh, ?_, ?_⟩, fun e => ⟨fun i hi => ?_, ?_⟩⟩
  · exact st_stk_e (hs i hi) (fun q hq => kq_a (by omega))
  · rw [kq_a (by decide)]; exact h85
  · exact st_shots_c hsh (fun q hq => kq_a (by omega))
  · exact st_stk_e ((hk1 e).1 i hi) (fun q hq => kq_b (by omega))
  · obtain ⟨m, hm, hm2⟩ := (hk1 e).2
    exact ⟨m, by rw [kq_b (by decide)]; exact hm, st_shots_c hm2 (fun q hq => kq_b (by omega))⟩
theorem st_R_keep1 {tn c0 c1 c2 sh : Nat} {tx s kp bw ar tu : Nat → Int32} {k0 k1 : Bool} (h85 : s 85 = nI sh) (hR : st_R tn c0 c1 c2 sh tx s kp bw ar tu k0 k1) : st_R tn c0 c1 c2 sh tx s (kq_k kp s 386 386) bw ar tu k0 true := by
  obtain ⟨⟨htn, htx⟩, ⟨hc, hs⟩, ⟨hc1, hw⟩, ⟨hc2, ha⟩, ht, hsh, hk0, hk1⟩ := hR
  refine ⟨⟨htn, htx⟩, ⟨hc, hs⟩, ⟨hc1, hw⟩, ⟨hc2, ha⟩, ht, hsh, fun e => ⟨fun i hi => ?_, ?_⟩, fun _ => ⟨fun i hi => ?_, sh, ?_, ?_⟩⟩
  · exact st_stk_e ((hk0 e).1 i hi) (fun q hq => kq_c (by omega))
  · obtain ⟨m, hm, hm2⟩ := (hk0 e).2
    exact ⟨m, by rw [kq_c (by decide)]; exact hm, st_shots_c hm2 (fun q hq => kq_c (by omega))⟩
  · exact st_stk_e (hs i hi) (fun q hq => kq_d (by omega))
  · exact (kq_d (q := 85) (by decide)).trans h85
  · exact st_shots_c hsh (fun q hq => by rw [show 472 + q = 386 + (86 + q) by omega]; exact kq_d (by omega))
theorem st_R_back0 {tn c0 c1 c2 sh : Nat} {tx s kp bw ar tu : Nat → Int32} {k0 k1 : Bool} {m : Nat} (hR : st_R tn c0 c1 c2 sh tx s kp bw ar tu k0 k1) (hkS : ∀ i, i < c0 → st_stk (fun k => kp (7 * i + k))) (hkM : st_shots c0 m (fun k => kp (86 + k))) : st_R tn c0 c1 c2 m tx (bq_k kp s 0 386) kp bw ar tu k0 k1 := by
  obtain ⟨⟨htn, htx⟩, ⟨hc, hs⟩, ⟨hc1, hw⟩, ⟨hc2, ha⟩, ht, hsh, hk0, hk1⟩ := hR
  refine ⟨⟨htn, htx⟩, ⟨hc, fun i hi => ?_⟩, ⟨hc1, hw⟩, ⟨hc2, ha⟩, ht, ?_, hk0, hk1⟩
  · exact st_stk_e (hkS i hi) (fun q hq => (bq_a (by omega)).trans (by rw [Nat.zero_add]))
  · exact st_shots_c hkM (fun q hq => (bq_a (by omega)).trans (by rw [Nat.zero_add]))
theorem st_R_back1 {tn c0 c1 c2 sh : Nat} {tx s kp bw ar tu : Nat → Int32} {k0 k1 : Bool} {m : Nat} (hR : st_R tn c0 c1 c2 sh tx s kp bw ar tu k0 k1) (hkS : ∀ i, i < c0 → st_stk (fun k => kp (386 + (7 * i + k)))) (hkM : st_shots c0 m (fun k => kp (472 + k))) : st_R tn c0 c1 c2 m tx (bq_k kp s 386 386) kp bw ar tu k0 k1 := by
  obtain ⟨⟨htn, htx⟩, ⟨hc, hs⟩, ⟨hc1, hw⟩, ⟨hc2, ha⟩, ht, hsh, hk0, hk1⟩ := hR
  refine ⟨⟨htn, htx⟩, ⟨hc, fun i hi => ?_⟩, ⟨hc1, hw⟩, ⟨hc2, ha⟩, ht, ?_, hk0, hk1⟩
  · exact st_stk_e (hkS i hi) (fun q hq => bq_a (by omega))
  · exact st_shots_c hkM (fun q hq => (bq_a (by omega)).trans (by rw [show 386 + (86 + q) = 472 + q by omega]))
theorem cl_S_keep0 {M : ev_M} {tn c0 c1 c2 sh : Nat} {tx s kp bw ar tu : Nat → Int32} {k0 k1 : Bool} {tr : Int64} {up2 dn2 : Int64} {f0 f1 f2 f3 f4 g0 g1 g2 g3 g4 g5 g6 : Nat → Int32} (hc : c0 ≤ 12) (hsz : sh ≤ 60) (hC : cl_S M tn c0 c1 c2 sh tx s kp bw ar tu k0 k1 tr) (y5 : M (43 + 6) = .inl (0, 12, .inl g5)) (y6 : M (43 + 7) = .inl (0, 12, .inl g6)) (hff : ∀ k, k < sh → f0 k = s (86 + 5 * k) ∧ f1 k = s (86 + (5 * k + 1)) ∧ f2 k = s (86 + (5 * k + 2)) ∧ f3 k = s (86 + (5 * k + 3)) ∧ f4 k = s (86 + (5 * k + 4))) : cl_S (ev_set (ev_ml (cp_stk M (41 + 10) s (c0)) [(43, .inr (8, [.ref (43 + 1), .ref (43 + 2), .ref (43 + 3), .ref (43 + 4), .ref (43 + 5), .ref (43 + 6), .ref (43 + 7), .long up2, .long dn2, .int (nI sh)])), (43 + 1, .inl (0, 60, .inl (fl_mix sh f0 g0))), (43 + 2, .inl (0, 60, .inl (fl_mix sh f1 g1))), (43 + 3, .inl (0, 60, .inl (fl_mix sh f2 g2))), (43 + 4, .inl (0, 60, .inl (fl_mix sh f3 g3))), (43 + 5, .inl (0, 60, .inl (fl_mix sh f4 g4)))]) 41 (.inr (4, [.ref (41 + 1), .ref (41 + 2), .int (s 84), .int (ev_b true)]))) tn c0 c1 c2 sh tx s (kq_k kp s 0 386) bw ar tu true k1 tr ∧ ∀ q, 129 ≤ q → (ev_set (ev_ml (cp_stk M (41 + 10) s (c0)) [(43, .inr (8, [.ref (43 + 1), .ref (43 + 2), .ref (43 + 3), .ref (43 + 4), .ref (43 + 5), .ref (43 + 6), .ref (43 + 7), .long up2, .long dn2, .int (nI sh)])), (43 + 1, .inl (0, 60, .inl (fl_mix sh f0 g0))), (43 + 2, .inl (0, 60, .inl (fl_mix sh f1 g1))), (43 + 3, .inl (0, 60, .inl (fl_mix sh f2 g2))), (43 + 4, .inl (0, 60, .inl (fl_mix sh f3 g3))), (43 + 5, .inl (0, 60, .inl (fl_mix sh f4 g4)))]) 41 (.inr (4, [.ref (41 + 1), .ref (41 + 2), .int (s 84), .int (ev_b true)]))) q = M q := by
  obtain ⟨g, g', d0, d1, d2, tb, sC, bC, aC, sD, bD, aD, nm, q0, q1, q2, pl, z0, z1, z2, t0, t1, t2, t3, t4, hgg, h20, h21, h22, htb, h24, h25, h26, h27, h85, h35, h36, h37, h38, h39, h40, h41, h63, hG, hsC, hbC, haC, hG', hd0, hd1, hd2⟩ := hC
  have hk : ∀ q, (q < 41 ∨ q = 41 + 1 ∨ q = 41 + 8 ∨ q = 41 + 9 ∨ 41 + 22 ≤ q) → (ev_set (ev_ml (cp_stk M (41 + 10) s (c0)) [(43, .inr (8, [.ref (43 + 1), .ref (43 + 2), .ref (43 + 3), .ref (43 + 4), .ref (43 + 5), .ref (43 + 6), .ref (43 + 7), .long up2, .long dn2, .int (nI sh)])), (43 + 1, .inl (0, 60, .inl (fl_mix sh f0 g0))), (43 + 2, .inl (0, 60, .inl (fl_mix sh f1 g1))), (43 + 3, .inl (0, 60, .inl (fl_mix sh f2 g2))), (43 + 4, .inl (0, 60, .inl (fl_mix sh f3 g3))), (43 + 5, .inl (0, 60, .inl (fl_mix sh f4 g4)))]) 41 (.inr (4, [.ref (41 + 1), .ref (41 + 2), .int (s 84), .int (ev_b true)]))) q = M q := fun q hq => (ev_set_ne (by omega)).trans ((ev_ml_out _ (by simp only [List.map_cons, List.map_nil, List.mem_cons, List.not_mem_nil, or_false, not_or]; omega)).trans (cp_stk_out (by omega)))
  have ho : ∀ q, (41 + 8 < q ∧ q < 41 + 22) → (ev_set (ev_ml (cp_stk M (41 + 10) s (c0)) [(43, .inr (8, [.ref (43 + 1), .ref (43 + 2), .ref (43 + 3), .ref (43 + 4), .ref (43 + 5), .ref (43 + 6), .ref (43 + 7), .long up2, .long dn2, .int (nI sh)])), (43 + 1, .inl (0, 60, .inl (fl_mix sh f0 g0))), (43 + 2, .inl (0, 60, .inl (fl_mix sh f1 g1))), (43 + 3, .inl (0, 60, .inl (fl_mix sh f2 g2))), (43 + 4, .inl (0, 60, .inl (fl_mix sh f3 g3))), (43 + 5, .inl (0, 60, .inl (fl_mix sh f4 g4)))]) 41 (.inr (4, [.ref (41 + 1), .ref (41 + 2), .int (s 84), .int (ev_b true)]))) q = cp_stk M (41 + 10) s c0 q := fun q hq => (ev_set_ne (by omega)).trans (ev_ml_out _ (by simp only [List.map_cons, List.map_nil, List.mem_cons, List.not_mem_nil, or_false, not_or]; omega))
  have h1 : (ev_set (ev_ml (cp_stk M (41 + 10) s (c0)) [(43, .inr (8, [.ref (43 + 1), .ref (43 + 2), .ref (43 + 3), .ref (43 + 4), .ref (43 + 5), .ref (43 + 6), .ref (43 + 7), .long up2, .long dn2, .int (nI sh)])), (43 + 1, .inl (0, 60, .inl (fl_mix sh f0 g0))), (43 + 2, .inl (0, 60, .inl (fl_mix sh f1 g1))), (43 + 3, .inl (0, 60, .inl (fl_mix sh f2 g2))), (43 + 4, .inl (0, 60, .inl (fl_mix sh f3 g3))), (43 + 5, .inl (0, 60, .inl (fl_mix sh f4 g4)))]) 41 (.inr (4, [.ref (41 + 1), .ref (41 + 2), .int (s 84), .int (ev_b true)]))) (41 + 1) = M (41 + 1) := hk _ (by omega)
  have h6 : (ev_set (ev_ml (cp_stk M (41 + 10) s (c0)) [(43, .inr (8, [.ref (43 + 1), .ref (43 + 2), .ref (43 + 3), .ref (43 + 4), .ref (43 + 5), .ref (43 + 6), .ref (43 + 7), .long up2, .long dn2, .int (nI sh)])), (43 + 1, .inl (0, 60, .inl (fl_mix sh f0 g0))), (43 + 2, .inl (0, 60, .inl (fl_mix sh f1 g1))), (43 + 3, .inl (0, 60, .inl (fl_mix sh f2 g2))), (43 + 4, .inl (0, 60, .inl (fl_mix sh f3 g3))), (43 + 5, .inl (0, 60, .inl (fl_mix sh f4 g4)))]) 41 (.inr (4, [.ref (41 + 1), .ref (41 + 2), .int (s 84), .int (ev_b true)]))) (43 + 6) = M (43 + 6) := hk _ (by omega)
  have h7 : (ev_set (ev_ml (cp_stk M (41 + 10) s (c0)) [(43, .inr (8, [.ref (43 + 1), .ref (43 + 2), .ref (43 + 3), .ref (43 + 4), .ref (43 + 5), .ref (43 + 6), .ref (43 + 7), .long up2, .long dn2, .int (nI sh)])), (43 + 1, .inl (0, 60, .inl (fl_mix sh f0 g0))), (43 + 2, .inl (0, 60, .inl (fl_mix sh f1 g1))), (43 + 3, .inl (0, 60, .inl (fl_mix sh f2 g2))), (43 + 4, .inl (0, 60, .inl (fl_mix sh f3 g3))), (43 + 5, .inl (0, 60, .inl (fl_mix sh f4 g4)))]) 41 (.inr (4, [.ref (41 + 1), .ref (41 + 2), .int (s 84), .int (ev_b true)]))) (43 + 7) = M (43 + 7) := hk _ (by omega)
  have hnew : cl_img (ev_set (ev_ml (cp_stk M (41 + 10) s (c0)) [(43, .inr (8, [.ref (43 + 1), .ref (43 + 2), .ref (43 + 3), .ref (43 + 4), .ref (43 + 5), .ref (43 + 6), .ref (43 + 7), .long up2, .long dn2, .int (nI sh)])), (43 + 1, .inl (0, 60, .inl (fl_mix sh f0 g0))), (43 + 2, .inl (0, 60, .inl (fl_mix sh f1 g1))), (43 + 3, .inl (0, 60, .inl (fl_mix sh f2 g2))), (43 + 4, .inl (0, 60, .inl (fl_mix sh f3 g3))), (43 + 5, .inl (0, 60, .inl (fl_mix sh f4 g4)))]) 41 (.inr (4, [.ref (41 + 1), .ref (41 + 2), .int (s 84), .int (ev_b true)]))) 41 c0 (kq_k kp s 0 386) true := cl_img_new (a := 41) hsz h41 ev_set_eq h1 (cl_sheet_mix (a := 43) (f := fun k => s (86 + k)) (up := up2) (dn := dn2) rfl rfl rfl rfl rfl rfl (h6.trans y5) (h7.trans y6) hff)
    (fun i hi => (ho _ (by omega)).trans (cp_stk_in hi)) (fun i h1 h2 => (ho _ (by omega)).trans (cp_stk_out (by omega))) hc h85 (fun q hq => kq_a hq)
  refine ⟨?_, fun q hq => hk q (by omega)⟩
  exact ⟨g, g', d0, d1, d2, _, _, _, _, _, _, _, _, _, _, _, _, _, _, _, _, _, _, _, _, hgg, ((hk 21 (by omega)).trans h20), ((hk 22 (by omega)).trans h21), ((hk 23 (by omega)).trans h22), htb, ((hk 24 (by omega)).trans h24), ((hk 25 (by omega)).trans h25), ((hk 26 (by omega)).trans h26), (cl_sheet_keep (fun a z1 z2 => hk a (by omega)) h27), h85, ((hk 35 (by omega)).trans h35), ((hk 36 (by omega)).trans h36), ((hk 37 (by omega)).trans h37), ((hk 38 (by omega)).trans h38), ((hk 39 (by omega)).trans h39), ((hk 40 (by omega)).trans h40), hnew, (cl_img_keep (fun a z1 z2 => hk a (by omega)) (cl_img_c hc (fun q hq => kq_b (by omega)) h63)), (cl_gear_keep (fun a z1 z2 => hk a (by omega)) hG), hsC, hbC, haC, (cl_gear_keep (fun a z1 z2 => hk a (by omega)) hG'), hd0, hd1, hd2⟩
theorem cl_S_keep1 {M : ev_M} {tn c0 c1 c2 sh : Nat} {tx s kp bw ar tu : Nat → Int32} {k0 k1 : Bool} {tr : Int64} {up2 dn2 : Int64} {f0 f1 f2 f3 f4 g0 g1 g2 g3 g4 g5 g6 : Nat → Int32} (hc : c0 ≤ 12) (hsz : sh ≤ 60) (hC : cl_S M tn c0 c1 c2 sh tx s kp bw ar tu k0 k1 tr) (y5 : M (65 + 6) = .inl (0, 12, .inl g5)) (y6 : M (65 + 7) = .inl (0, 12, .inl g6)) (hff : ∀ k, k < sh → f0 k = s (86 + 5 * k) ∧ f1 k = s (86 + (5 * k + 1)) ∧ f2 k = s (86 + (5 * k + 2)) ∧ f3 k = s (86 + (5 * k + 3)) ∧ f4 k = s (86 + (5 * k + 4))) : cl_S (ev_set (ev_ml (cp_stk M (63 + 10) s (c0)) [(65, .inr (8, [.ref (65 + 1), .ref (65 + 2), .ref (65 + 3), .ref (65 + 4), .ref (65 + 5), .ref (65 + 6), .ref (65 + 7), .long up2, .long dn2, .int (nI sh)])), (65 + 1, .inl (0, 60, .inl (fl_mix sh f0 g0))), (65 + 2, .inl (0, 60, .inl (fl_mix sh f1 g1))), (65 + 3, .inl (0, 60, .inl (fl_mix sh f2 g2))), (65 + 4, .inl (0, 60, .inl (fl_mix sh f3 g3))), (65 + 5, .inl (0, 60, .inl (fl_mix sh f4 g4)))]) 63 (.inr (4, [.ref (63 + 1), .ref (63 + 2), .int (s 84), .int (ev_b true)]))) tn c0 c1 c2 sh tx s (kq_k kp s 386 386) bw ar tu k0 true tr ∧ ∀ q, 129 ≤ q → (ev_set (ev_ml (cp_stk M (63 + 10) s (c0)) [(65, .inr (8, [.ref (65 + 1), .ref (65 + 2), .ref (65 + 3), .ref (65 + 4), .ref (65 + 5), .ref (65 + 6), .ref (65 + 7), .long up2, .long dn2, .int (nI sh)])), (65 + 1, .inl (0, 60, .inl (fl_mix sh f0 g0))), (65 + 2, .inl (0, 60, .inl (fl_mix sh f1 g1))), (65 + 3, .inl (0, 60, .inl (fl_mix sh f2 g2))), (65 + 4, .inl (0, 60, .inl (fl_mix sh f3 g3))), (65 + 5, .inl (0, 60, .inl (fl_mix sh f4 g4)))]) 63 (.inr (4, [.ref (63 + 1), .ref (63 + 2), .int (s 84), .int (ev_b true)]))) q = M q := by
  obtain ⟨g, g', d0, d1, d2, tb, sC, bC, aC, sD, bD, aD, nm, q0, q1, q2, pl, z0, z1, z2, t0, t1, t2, t3, t4, hgg, h20, h21, h22, htb, h24, h25, h26, h27, h85, h35, h36, h37, h38, h39, h40, h41, h63, hG, hsC, hbC, haC, hG', hd0, hd1, hd2⟩ := hC
  have hk : ∀ q, (q < 63 ∨ q = 63 + 1 ∨ q = 63 + 8 ∨ q = 63 + 9 ∨ 63 + 22 ≤ q) → (ev_set (ev_ml (cp_stk M (63 + 10) s (c0)) [(65, .inr (8, [.ref (65 + 1), .ref (65 + 2), .ref (65 + 3), .ref (65 + 4), .ref (65 + 5), .ref (65 + 6), .ref (65 + 7), .long up2, .long dn2, .int (nI sh)])), (65 + 1, .inl (0, 60, .inl (fl_mix sh f0 g0))), (65 + 2, .inl (0, 60, .inl (fl_mix sh f1 g1))), (65 + 3, .inl (0, 60, .inl (fl_mix sh f2 g2))), (65 + 4, .inl (0, 60, .inl (fl_mix sh f3 g3))), (65 + 5, .inl (0, 60, .inl (fl_mix sh f4 g4)))]) 63 (.inr (4, [.ref (63 + 1), .ref (63 + 2), .int (s 84), .int (ev_b true)]))) q = M q := fun q hq => (ev_set_ne (by omega)).trans ((ev_ml_out _ (by simp only [List.map_cons, List.map_nil, List.mem_cons, List.not_mem_nil, or_false, not_or]; omega)).trans (cp_stk_out (by omega)))
  have ho : ∀ q, (63 + 8 < q ∧ q < 63 + 22) → (ev_set (ev_ml (cp_stk M (63 + 10) s (c0)) [(65, .inr (8, [.ref (65 + 1), .ref (65 + 2), .ref (65 + 3), .ref (65 + 4), .ref (65 + 5), .ref (65 + 6), .ref (65 + 7), .long up2, .long dn2, .int (nI sh)])), (65 + 1, .inl (0, 60, .inl (fl_mix sh f0 g0))), (65 + 2, .inl (0, 60, .inl (fl_mix sh f1 g1))), (65 + 3, .inl (0, 60, .inl (fl_mix sh f2 g2))), (65 + 4, .inl (0, 60, .inl (fl_mix sh f3 g3))), (65 + 5, .inl (0, 60, .inl (fl_mix sh f4 g4)))]) 63 (.inr (4, [.ref (63 + 1), .ref (63 + 2), .int (s 84), .int (ev_b true)]))) q = cp_stk M (63 + 10) s c0 q := fun q hq => (ev_set_ne (by omega)).trans (ev_ml_out _ (by simp only [List.map_cons, List.map_nil, List.mem_cons, List.not_mem_nil, or_false, not_or]; omega))
  have h1 : (ev_set (ev_ml (cp_stk M (63 + 10) s (c0)) [(65, .inr (8, [.ref (65 + 1), .ref (65 + 2), .ref (65 + 3), .ref (65 + 4), .ref (65 + 5), .ref (65 + 6), .ref (65 + 7), .long up2, .long dn2, .int (nI sh)])), (65 + 1, .inl (0, 60, .inl (fl_mix sh f0 g0))), (65 + 2, .inl (0, 60, .inl (fl_mix sh f1 g1))), (65 + 3, .inl (0, 60, .inl (fl_mix sh f2 g2))), (65 + 4, .inl (0, 60, .inl (fl_mix sh f3 g3))), (65 + 5, .inl (0, 60, .inl (fl_mix sh f4 g4)))]) 63 (.inr (4, [.ref (63 + 1), .ref (63 + 2), .int (s 84), .int (ev_b true)]))) (63 + 1) = M (63 + 1) := hk _ (by omega)
  have h6 : (ev_set (ev_ml (cp_stk M (63 + 10) s (c0)) [(65, .inr (8, [.ref (65 + 1), .ref (65 + 2), .ref (65 + 3), .ref (65 + 4), .ref (65 + 5), .ref (65 + 6), .ref (65 + 7), .long up2, .long dn2, .int (nI sh)])), (65 + 1, .inl (0, 60, .inl (fl_mix sh f0 g0))), (65 + 2, .inl (0, 60, .inl (fl_mix sh f1 g1))), (65 + 3, .inl (0, 60, .inl (fl_mix sh f2 g2))), (65 + 4, .inl (0, 60, .inl (fl_mix sh f3 g3))), (65 + 5, .inl (0, 60, .inl (fl_mix sh f4 g4)))]) 63 (.inr (4, [.ref (63 + 1), .ref (63 + 2), .int (s 84), .int (ev_b true)]))) (65 + 6) = M (65 + 6) := hk _ (by omega)
  have h7 : (ev_set (ev_ml (cp_stk M (63 + 10) s (c0)) [(65, .inr (8, [.ref (65 + 1), .ref (65 + 2), .ref (65 + 3), .ref (65 + 4), .ref (65 + 5), .ref (65 + 6), .ref (65 + 7), .long up2, .long dn2, .int (nI sh)])), (65 + 1, .inl (0, 60, .inl (fl_mix sh f0 g0))), (65 + 2, .inl (0, 60, .inl (fl_mix sh f1 g1))), (65 + 3, .inl (0, 60, .inl (fl_mix sh f2 g2))), (65 + 4, .inl (0, 60, .inl (fl_mix sh f3 g3))), (65 + 5, .inl (0, 60, .inl (fl_mix sh f4 g4)))]) 63 (.inr (4, [.ref (63 + 1), .ref (63 + 2), .int (s 84), .int (ev_b true)]))) (65 + 7) = M (65 + 7) := hk _ (by omega)
  have hnew : cl_img (ev_set (ev_ml (cp_stk M (63 + 10) s (c0)) [(65, .inr (8, [.ref (65 + 1), .ref (65 + 2), .ref (65 + 3), .ref (65 + 4), .ref (65 + 5), .ref (65 + 6), .ref (65 + 7), .long up2, .long dn2, .int (nI sh)])), (65 + 1, .inl (0, 60, .inl (fl_mix sh f0 g0))), (65 + 2, .inl (0, 60, .inl (fl_mix sh f1 g1))), (65 + 3, .inl (0, 60, .inl (fl_mix sh f2 g2))), (65 + 4, .inl (0, 60, .inl (fl_mix sh f3 g3))), (65 + 5, .inl (0, 60, .inl (fl_mix sh f4 g4)))]) 63 (.inr (4, [.ref (63 + 1), .ref (63 + 2), .int (s 84), .int (ev_b true)]))) 63 c0 (fun k => (kq_k kp s 386 386) (386 + k)) true := cl_img_new (a := 63) hsz h63 ev_set_eq h1 (cl_sheet_mix (a := 65) (f := fun k => s (86 + k)) (up := up2) (dn := dn2) rfl rfl rfl rfl rfl rfl (h6.trans y5) (h7.trans y6) hff)
    (fun i hi => (ho _ (by omega)).trans (cp_stk_in hi)) (fun i h1 h2 => (ho _ (by omega)).trans (cp_stk_out (by omega))) hc h85 (fun q hq => kq_d hq)
  refine ⟨?_, fun q hq => hk q (by omega)⟩
  exact ⟨g, g', d0, d1, d2, _, _, _, _, _, _, _, _, _, _, _, _, _, _, _, _, _, _, _, _, hgg, ((hk 21 (by omega)).trans h20), ((hk 22 (by omega)).trans h21), ((hk 23 (by omega)).trans h22), htb, ((hk 24 (by omega)).trans h24), ((hk 25 (by omega)).trans h25), ((hk 26 (by omega)).trans h26), (cl_sheet_keep (fun a z1 z2 => hk a (by omega)) h27), h85, ((hk 35 (by omega)).trans h35), ((hk 36 (by omega)).trans h36), ((hk 37 (by omega)).trans h37), ((hk 38 (by omega)).trans h38), ((hk 39 (by omega)).trans h39), ((hk 40 (by omega)).trans h40), (cl_img_keep (fun a z1 z2 => hk a (by omega)) (cl_img_c hc (fun q hq => kq_c hq) h41)), hnew, (cl_gear_keep (fun a z1 z2 => hk a (by omega)) hG), hsC, hbC, haC, (cl_gear_keep (fun a z1 z2 => hk a (by omega)) hG'), hd0, hd1, hd2⟩
theorem cl_open_i {M : ev_M} {tn c0 c1 c2 sh : Nat} {tx s kp bw ar tu : Nat → Int32} {k0 k1 : Bool} {tr : Int64} (hC : cl_S M tn c0 c1 c2 sh tx s kp bw ar tu k0 k1 tr) : cl_img M 41 c0 kp k0 ∧ cl_img M 63 c0 (fun k => kp (386 + k)) k1 := by
  obtain ⟨g, g', d0, d1, d2, tb, sC, bC, aC, sD, bD, aD, nm, q0, q1, q2, pl, z0, z1, z2, t0, t1, t2, t3, t4, hgg, h20, h21, h22, htb, h24, h25, h26, h27, h85, h35, h36, h37, h38, h39, h40, h41, h63, hG, hsC, hbC, haC, hG', hd0, hd1, hd2⟩ := hC
  exact ⟨h41, h63⟩
theorem cl_85 {M : ev_M} {tn c0 c1 c2 sh : Nat} {tx s kp bw ar tu : Nat → Int32} {k0 k1 : Bool} {tr : Int64} (hC : cl_S M tn c0 c1 c2 sh tx s kp bw ar tu k0 k1 tr) : s 85 = nI sh := by
  obtain ⟨g, g', d0, d1, d2, tb, sC, bC, aC, sD, bD, aD, nm, q0, q1, q2, pl, z0, z1, z2, t0, t1, t2, t3, t4, hgg, h20, h21, h22, htb, h24, h25, h26, h27, h85, h35, h36, h37, h38, h39, h40, h41, h63, hG, hsC, hbC, haC, hG', hd0, hd1, hd2⟩ := hC
  exact h85
theorem x_ok_s5 {yX yM : ev_MI} {fX fM : Nat} {as : List Value} (h : ∀ (tn c0 c1 c2 sh : Nat) (tx s kp bw ar tu : Nat → Int32) (k0 k1 : Bool) (tr : Int64), st_R tn c0 c1 c2 sh tx s kp bw ar tu k0 k1 → s 85 = nI sh → ∃ (v : Int32) (tn' c0' c1' c2' sh' : Nat) (tx' s' kp' bw' ar' tu' : Nat → Int32) (k0' k1' : Bool) (tr' : Int64), st_R tn' c0' c1' c2' sh' tx' s' kp' bw' ar' tu' k0' k1' ∧ (∀ (G : ev_G) (n : Nat) (M : ev_M), ev_hs G → cl_S M tn c0 c1 c2 sh tx s kp bw ar tu k0 k1 tr → ev_Cal G yX fX 0 0 (.ref 21 :: as) n M (fun r M1 => r = some (.int v) ∧ cl_S M1 tn' c0' c1' c2' sh' tx' s' kp' bw' ar' tu' k0' k1' tr' ∧ ∀ k, 129 ≤ k → M1 k = M k)) ∧ ∀ (G : ev_G) (n : Nat) (M : ev_M), md_S M tn c0 c1 c2 sh tx s kp bw ar tu k0 k1 tr → ev_Cal G yM fM 0 0 (.ref 129 :: as) n M (md_is M (.int v) tn' c0' c1' c2' sh' tx' s' kp' bw' ar' tu' k0' k1' tr')) : x_ok yX yM fX fM as := by
  rintro G n M hs ⟨tn, c0, c1, c2, sh, tx, s, kp, bw, ar, tu, k0, k1, tr, hR, hC, hM⟩
  obtain ⟨v, tn', c0', c1', c2', sh', tx', s', kp', bw', ar', tu', k0', k1', tr', hR', hX, hY⟩ := h _ _ _ _ _ _ _ _ _ _ _ _ _ tr hR (cl_85 hC)
  refine (hX G n M hs hC).post (fun r M1 h1 => ?_)
  obtain ⟨rfl, hC1, hk1⟩ := h1
  have hM1 := md_S_keep hk1 hM
  exact ⟨v, rfl, md_S_129 hM1, (hY G n _ hM1).post (fun r2 M2 h2 => ⟨h2.1, _, _, _, _, _, _, _, _, _, _, _, _, _, _, hR', cl_S_keep (fun q hq => h2.2.2 q hq.2) hC1, h2.2.1⟩)⟩
theorem x_keep (w : Int32) : x_ok mX11_keep mX12_keep 3 2 [.int w] := by
  refine x_ok_s5 (fun tn c0 c1 c2 sh tx s kp bw ar tu k0 k1 tr hR h85 => ?_)
  have hR0 := hR
  obtain ⟨⟨htn, htx⟩, ⟨hc, hs⟩, ⟨hc1, hw⟩, ⟨hc2, ha⟩, ht, hsh, hk0, hk1⟩ := hR
  by_cases hx1 : sp_in w 0 1 = true
  · rcases x_w01 hx1 with rfl | rfl
    · refine ⟨nI sh, tn, c0, c1, c2, sh, tx, s, (kq_k kp s 0 386), bw, ar, tu, true, k1, tr, st_R_keep0 h85 hR0, fun G n M hsio hC => ?_, fun G n M hM => ?_⟩
      · obtain ⟨g, g', fa, fb, fc, hgg, h20, hG, hA, hfa, hB, hfb, hCC, hfc, hst, hbo, har, hT, hV, h40⟩ := cl_open hc hc1 hc2 hC
        obtain ⟨f0, f1, f2, f3, f4, f5, f6, up, dn, hz, z0, z1, z2, z3, z4, z5, z6, hff⟩ := cl_open27 hC
        obtain ⟨hi41, hi63⟩ := cl_open_i hC
        obtain ⟨lt, vi, m0, fm, hI, ⟨fi, hJ, hfi⟩, ⟨g0, g1, g2, g3, g4, g5, g6, up2, dn2, hy, y0, y1, y2, y3, y4, y5, y6, hgf⟩, hD, hm60, hkept⟩ := hi41
        have hN := cl_S_keep0 (g0 := g0) (g1 := g1) (g2 := g2) (g3 := g3) (g4 := g4) (up2 := up2) (dn2 := dn2) hc hsh.1 hC y5 y6 hff
        exact cl_us (c12_keep_41 (s := s) (v := vi) hG hA hfa hc (by omega) hI hJ hfi hst hD hz z0 z1 z2 z3 z4 z5 z6 hy y0 y1 y2 y3 y4 hsh.1 h20) hN.1 hN.2
      · exact m_keep_0 hM
    · refine ⟨nI sh, tn, c0, c1, c2, sh, tx, s, (kq_k kp s 386 386), bw, ar, tu, k0, true, tr, st_R_keep1 h85 hR0, fun G n M hsio hC => ?_, fun G n M hM => ?_⟩
      · obtain ⟨g, g', fa, fb, fc, hgg, h20, hG, hA, hfa, hB, hfb, hCC, hfc, hst, hbo, har, hT, hV, h40⟩ := cl_open hc hc1 hc2 hC
        obtain ⟨f0, f1, f2, f3, f4, f5, f6, up, dn, hz, z0, z1, z2, z3, z4, z5, z6, hff⟩ := cl_open27 hC
        obtain ⟨hi41, hi63⟩ := cl_open_i hC
        obtain ⟨lt, vi, m0, fm, hI, ⟨fi, hJ, hfi⟩, ⟨g0, g1, g2, g3, g4, g5, g6, up2, dn2, hy, y0, y1, y2, y3, y4, y5, y6, hgf⟩, hD, hm60, hkept⟩ := hi63
        have hN := cl_S_keep1 (g0 := g0) (g1 := g1) (g2 := g2) (g3 := g3) (g4 := g4) (up2 := up2) (dn2 := dn2) hc hsh.1 hC y5 y6 hff
        exact cl_us (c12_keep_63 (s := s) (v := vi) hG hA hfa hc (by omega) hI hJ hfi hst hD hz z0 z1 z2 z3 z4 z5 z6 hy y0 y1 y2 y3 y4 hsh.1 h20) hN.1 hN.2
      · exact m_keep_1 hM
  · have hxf : sp_in w 0 1 = false := Bool.not_eq_true _ ▸ hx1
    refine ⟨-1, tn, c0, c1, c2, sh, tx, s, kp, bw, ar, tu, k0, k1, tr, hR0, fun G n M hsio hC => ?_, fun G n M hM => ?_⟩
    · obtain ⟨g, g', fa, fb, fc, hgg, h20, hG, hA, hfa, hB, hfb, hCC, hfc, hst, hbo, har, hT, hV, h40⟩ := cl_open hc hc1 hc2 hC
      exact cl_qs hC (c12_keep_x h20 (fun e => hx1 (by rw [e]; decide)) (fun e => hx1 (by rw [e]; decide)))
    · exact m_keep_x hM hxf
theorem cl_S_back {M : ev_M} {tn c0 c1 c2 sh : Nat} {tx s kp bw ar tu : Nat → Int32} {k0 k1 : Bool} {tr : Int64} {g g' m : Nat} {lot lt : Int32} {up2 dn2 : Int64} {vi s' f0 f1 f2 f3 f4 f5 f6 g0 g1 g2 g3 g4 : Nat → Int32} (hc : c0 ≤ 12) (hm : m ≤ 60) (h20' : M 21 = .inr (11, [.ref 22, .ref 25, .ref 27, .ref 35, .ref 39, .ref 40, .ref 41, .ref 63, .ref g, .ref g', .int lot])) (hC : cl_S M tn c0 c1 c2 sh tx s kp bw ar tu k0 k1 tr) (z5 : M (27 + 6) = .inl (0, 12, .inl f5)) (z6 : M (27 + 7) = .inl (0, 12, .inl f6)) (hgf : ∀ k, k < m → g0 k = s' (86 + 5 * k) ∧ g1 k = s' (86 + (5 * k + 1)) ∧ g2 k = s' (86 + (5 * k + 2)) ∧ g3 k = s' (86 + (5 * k + 3)) ∧ g4 k = s' (86 + (5 * k + 4))) (hlt : lt = s' 84) (h85' : s' 85 = nI m) (hv : ∀ k, k < 7 * c0 → vi k = s' k) : cl_S (ev_set (ev_ml (cp_stk M (g + 4) vi (c0)) [(27, .inr (8, [.ref (27 + 1), .ref (27 + 2), .ref (27 + 3), .ref (27 + 4), .ref (27 + 5), .ref (27 + 6), .ref (27 + 7), .long up2, .long dn2, .int (nI m)])), (27 + 1, .inl (0, 60, .inl (fl_mix m g0 f0))), (27 + 2, .inl (0, 60, .inl (fl_mix m g1 f1))), (27 + 3, .inl (0, 60, .inl (fl_mix m g2 f2))), (27 + 4, .inl (0, 60, .inl (fl_mix m g3 f3))), (27 + 5, .inl (0, 60, .inl (fl_mix m g4 f4)))]) 21 (.inr (11, [.ref 22, .ref 25, .ref 27, .ref 35, .ref 39, .ref 40, .ref 41, .ref 63, .ref g, .ref g', .int lt]))) tn c0 c1 c2 m tx s' kp bw ar tu k0 k1 tr ∧ ∀ q, 129 ≤ q → (ev_set (ev_ml (cp_stk M (g + 4) vi (c0)) [(27, .inr (8, [.ref (27 + 1), .ref (27 + 2), .ref (27 + 3), .ref (27 + 4), .ref (27 + 5), .ref (27 + 6), .ref (27 + 7), .long up2, .long dn2, .int (nI m)])), (27 + 1, .inl (0, 60, .inl (fl_mix m g0 f0))), (27 + 2, .inl (0, 60, .inl (fl_mix m g1 f1))), (27 + 3, .inl (0, 60, .inl (fl_mix m g2 f2))), (27 + 4, .inl (0, 60, .inl (fl_mix m g3 f3))), (27 + 5, .inl (0, 60, .inl (fl_mix m g4 f4)))]) 21 (.inr (11, [.ref 22, .ref 25, .ref 27, .ref 35, .ref 39, .ref 40, .ref 41, .ref 63, .ref g, .ref g', .int lt]))) q = M q := by
  obtain ⟨u, u', d0, d1, d2, tb, sC, bC, aC, sD, bD, aD, nm, q0, q1, q2, pl, z0, z1, z2, t0, t1, t2, t3, t4, hgg, h20, h21, h22, htb, h24, h25, h26, h27, h85, h35, h36, h37, h38, h39, h40, h41, h63, hG, hsC, hbC, haC, hG', hd0, hd1, hd2⟩ := hC
  obtain ⟨rfl, rfl⟩ : u = g ∧ u' = g' := by
    have e := h20.symm.trans h20'
    simp only [Sum.inr.injEq, Prod.mk.injEq, List.cons.injEq, Value.ref.injEq] at e
    simp only [true_and] at e
    exact ⟨e.1, e.2.1⟩
  have hk : ∀ q, (¬ q = 21 ∧ (q < 27 ∨ 32 < q) ∧ (q < u + 4 ∨ u + 16 ≤ q)) → (ev_set (ev_ml (cp_stk M (u + 4) vi (c0)) [(27, .inr (8, [.ref (27 + 1), .ref (27 + 2), .ref (27 + 3), .ref (27 + 4), .ref (27 + 5), .ref (27 + 6), .ref (27 + 7), .long up2, .long dn2, .int (nI m)])), (27 + 1, .inl (0, 60, .inl (fl_mix m g0 f0))), (27 + 2, .inl (0, 60, .inl (fl_mix m g1 f1))), (27 + 3, .inl (0, 60, .inl (fl_mix m g2 f2))), (27 + 4, .inl (0, 60, .inl (fl_mix m g3 f3))), (27 + 5, .inl (0, 60, .inl (fl_mix m g4 f4)))]) 21 (.inr (11, [.ref 22, .ref 25, .ref 27, .ref 35, .ref 39, .ref 40, .ref 41, .ref 63, .ref u, .ref u', .int lt]))) q = M q := fun q hq => (ev_set_ne hq.1).trans ((ev_ml_out _ (by simp only [List.map_cons, List.map_nil, List.mem_cons, List.not_mem_nil, or_false, not_or]; omega)).trans (cp_stk_out (by omega)))
  have ho : ∀ q, (u + 4 ≤ q ∧ q < u + 16) → (ev_set (ev_ml (cp_stk M (u + 4) vi (c0)) [(27, .inr (8, [.ref (27 + 1), .ref (27 + 2), .ref (27 + 3), .ref (27 + 4), .ref (27 + 5), .ref (27 + 6), .ref (27 + 7), .long up2, .long dn2, .int (nI m)])), (27 + 1, .inl (0, 60, .inl (fl_mix m g0 f0))), (27 + 2, .inl (0, 60, .inl (fl_mix m g1 f1))), (27 + 3, .inl (0, 60, .inl (fl_mix m g2 f2))), (27 + 4, .inl (0, 60, .inl (fl_mix m g3 f3))), (27 + 5, .inl (0, 60, .inl (fl_mix m g4 f4)))]) 21 (.inr (11, [.ref 22, .ref 25, .ref 27, .ref 35, .ref 39, .ref 40, .ref 41, .ref 63, .ref u, .ref u', .int lt]))) q = cp_stk M (u + 4) vi c0 q := fun q hq => (ev_set_ne (by omega)).trans (ev_ml_out _ (by simp only [List.map_cons, List.map_nil, List.mem_cons, List.not_mem_nil, or_false, not_or]; omega))
  obtain ⟨hGg, ⟨fa, hA, hfa⟩, ⟨fb, hB, hfb⟩, ⟨fc, hCC, hfc⟩, hSS, hWW, hRR⟩ := hG
  have hgn : cl_gear (ev_set (ev_ml (cp_stk M (u + 4) vi (c0)) [(27, .inr (8, [.ref (27 + 1), .ref (27 + 2), .ref (27 + 3), .ref (27 + 4), .ref (27 + 5), .ref (27 + 6), .ref (27 + 7), .long up2, .long dn2, .int (nI m)])), (27 + 1, .inl (0, 60, .inl (fl_mix m g0 f0))), (27 + 2, .inl (0, 60, .inl (fl_mix m g1 f1))), (27 + 3, .inl (0, 60, .inl (fl_mix m g2 f2))), (27 + 4, .inl (0, 60, .inl (fl_mix m g3 f3))), (27 + 5, .inl (0, 60, .inl (fl_mix m g4 f4)))]) 21 (.inr (11, [.ref 22, .ref 25, .ref 27, .ref 35, .ref 39, .ref 40, .ref 41, .ref 63, .ref u, .ref u', .int lt]))) u c0 c1 c2 (fun k => if k < 7 * c0 then vi k else sC k) bC aC := by
    refine ⟨(hk _ (by omega)).trans hGg, ⟨fa, (hk _ (by omega)).trans hA, hfa⟩, ⟨fb, (hk _ (by omega)).trans hB, hfb⟩, ⟨fc, (hk _ (by omega)).trans hCC, hfc⟩, fun i hi => ?_, fun i hi => (hk _ (by omega)).trans (hWW i hi), fun i hi => (hk _ (by omega)).trans (hRR i hi)⟩
    by_cases e : i < c0
    · have h : cl_stk (ev_set (ev_ml (cp_stk M (u + 4) vi (c0)) [(27, .inr (8, [.ref (27 + 1), .ref (27 + 2), .ref (27 + 3), .ref (27 + 4), .ref (27 + 5), .ref (27 + 6), .ref (27 + 7), .long up2, .long dn2, .int (nI m)])), (27 + 1, .inl (0, 60, .inl (fl_mix m g0 f0))), (27 + 2, .inl (0, 60, .inl (fl_mix m g1 f1))), (27 + 3, .inl (0, 60, .inl (fl_mix m g2 f2))), (27 + 4, .inl (0, 60, .inl (fl_mix m g3 f3))), (27 + 5, .inl (0, 60, .inl (fl_mix m g4 f4)))]) 21 (.inr (11, [.ref 22, .ref 25, .ref 27, .ref 35, .ref 39, .ref 40, .ref 41, .ref 63, .ref u, .ref u', .int lt]))) (u + 4 + i) (fun k => vi (7 * i + k)) := (ho _ (by omega)).trans (cp_stk_in e)
      exact cl_stk_c h (fun k hk2 => if_pos (by omega))
    · have h : cl_stk (ev_set (ev_ml (cp_stk M (u + 4) vi (c0)) [(27, .inr (8, [.ref (27 + 1), .ref (27 + 2), .ref (27 + 3), .ref (27 + 4), .ref (27 + 5), .ref (27 + 6), .ref (27 + 7), .long up2, .long dn2, .int (nI m)])), (27 + 1, .inl (0, 60, .inl (fl_mix m g0 f0))), (27 + 2, .inl (0, 60, .inl (fl_mix m g1 f1))), (27 + 3, .inl (0, 60, .inl (fl_mix m g2 f2))), (27 + 4, .inl (0, 60, .inl (fl_mix m g3 f3))), (27 + 5, .inl (0, 60, .inl (fl_mix m g4 f4)))]) 21 (.inr (11, [.ref 22, .ref 25, .ref 27, .ref 35, .ref 39, .ref 40, .ref 41, .ref 63, .ref u, .ref u', .int lt]))) (u + 4 + i) (fun k => sC (7 * i + k)) := (ho _ (by omega)).trans ((cp_stk_out (by omega)).trans (hSS i hi))
      exact cl_stk_c h (fun k hk2 => if_neg (by omega))
  have h27n : cl_sheet (ev_set (ev_ml (cp_stk M (u + 4) vi (c0)) [(27, .inr (8, [.ref (27 + 1), .ref (27 + 2), .ref (27 + 3), .ref (27 + 4), .ref (27 + 5), .ref (27 + 6), .ref (27 + 7), .long up2, .long dn2, .int (nI m)])), (27 + 1, .inl (0, 60, .inl (fl_mix m g0 f0))), (27 + 2, .inl (0, 60, .inl (fl_mix m g1 f1))), (27 + 3, .inl (0, 60, .inl (fl_mix m g2 f2))), (27 + 4, .inl (0, 60, .inl (fl_mix m g3 f3))), (27 + 5, .inl (0, 60, .inl (fl_mix m g4 f4)))]) 21 (.inr (11, [.ref 22, .ref 25, .ref 27, .ref 35, .ref 39, .ref 40, .ref 41, .ref 63, .ref u, .ref u', .int lt]))) 27 m (fun k => s' (86 + k)) := cl_sheet_mix (a := 27) (f := fun k => s' (86 + k)) (up := up2) (dn := dn2) rfl rfl rfl rfl rfl rfl ((hk _ (by omega)).trans z5) ((hk _ (by omega)).trans z6) hgf
  refine ⟨?_, fun q hq => hk q (by omega)⟩
  exact ⟨u, u', d0, d1, d2, _, (fun k => if k < 7 * c0 then vi k else sC k), _, _, _, _, _, _, _, _, _, _, _, _, _, _, _, _, _, _, hgg, ev_set_eq.trans (by rw [hlt]), ((hk 22 (by omega)).trans h21), ((hk 23 (by omega)).trans h22), htb, ((hk 24 (by omega)).trans h24), ((hk 25 (by omega)).trans h25), ((hk 26 (by omega)).trans h26), h27n, h85', ((hk 35 (by omega)).trans h35), ((hk 36 (by omega)).trans h36), ((hk 37 (by omega)).trans h37), ((hk 38 (by omega)).trans h38), ((hk 39 (by omega)).trans h39), ((hk 40 (by omega)).trans h40), (cl_img_keep (fun a z1 z2 => hk a (by omega)) h41), (cl_img_keep (fun a z1 z2 => hk a (by omega)) h63), hgn, fun k hk2 => (if_pos hk2).trans (hv k hk2), hbC, haC, (cl_gear_keep (fun a z1 z2 => hk a (by omega)) hG'), hd0, hd1, hd2⟩
theorem x_back (w : Int32) : x_ok mX11_back mX12_back 3 2 [.int w] := by
  refine x_ok_s5 (fun tn c0 c1 c2 sh tx s kp bw ar tu k0 k1 tr hR h85 => ?_)
  have hR0 := hR
  obtain ⟨⟨htn, htx⟩, ⟨hc, hs⟩, ⟨hc1, hw⟩, ⟨hc2, ha⟩, ht, hsh, hk0, hk1⟩ := hR
  by_cases hx1 : sp_in w 0 1 = true
  · rcases x_w01 hx1 with rfl | rfl
    · by_cases hkt : k0 = true
      · obtain ⟨hkS, m, hm, hkM⟩ := hk0 hkt
        refine ⟨nI m, tn, c0, c1, c2, m, tx, (bq_k kp s 0 386), kp, bw, ar, tu, k0, k1, tr, st_R_back0 hR0 hkS hkM, fun G n M hsio hC => ?_, fun G n M hM => ?_⟩
        · obtain ⟨g, g', fa, fb, fc, hgg, h20, hG, hA, hfa, hB, hfb, hCC, hfc, hst, hbo, har, hT, hV, h40⟩ := cl_open hc hc1 hc2 hC
          obtain ⟨f0, f1, f2, f3, f4, f5, f6, up, dn, hz, z0, z1, z2, z3, z4, z5, z6, hff⟩ := cl_open27 hC
          obtain ⟨hi41, hi63⟩ := cl_open_i hC
          obtain ⟨lt, vi, fm0, fm, hI, ⟨fi, hJ, hfi⟩, ⟨g0, g1, g2, g3, g4, g5, g6, up2, dn2, hy, y0, y1, y2, y3, y4, y5, y6, hgf⟩, hD, hm60, hkept⟩ := hi41
          rw [hkt] at hI hkept
          obtain ⟨hl1, hl2, hl3, hl4⟩ := hkept rfl
          have hmm : fm0 = m := by
            have e : nI fm0 = nI m := hl2.symm.trans hm
            have e2 := congrArg Int32.toInt e
            rw [nI_toInt (by omega), nI_toInt (by have := hkM.1; omega)] at e2
            omega
          subst hmm
          obtain ⟨sC, hSS, -⟩ := cl_open12 h20 hC
          have hN := cl_S_back (s' := (bq_k kp s 0 386)) (vi := vi) (up2 := up) (dn2 := dn) (g0 := g0) (g1 := g1) (g2 := g2) (g3 := g3) (g4 := g4) (f0 := f0) (f1 := f1) (f2 := f2) (f3 := f3) (f4 := f4) hc hm60 h20 hC z5 z6 (fun k hk => by
            obtain ⟨e0, e1, e2, e3, e4⟩ := hgf k hk
            refine ⟨e0.trans ((hl4 _ (by omega)).trans ?_), e1.trans ((hl4 _ (by omega)).trans ?_), e2.trans ((hl4 _ (by omega)).trans ?_), e3.trans ((hl4 _ (by omega)).trans ?_), e4.trans ((hl4 _ (by omega)).trans ?_)⟩ <;> (rw [bq_a (by omega), Nat.zero_add])) (hl1.trans (by rw [bq_a (by omega), Nat.zero_add])) ((bq_a (q := 85) (by decide)).trans ((by rw [Nat.zero_add]; exact hm))) (fun k hk => (hl3 k hk).trans (by rw [bq_a (by omega), Nat.zero_add]))
          exact cl_us (c12_back_41 (s := vi) (v := sC) hG hA hfa hc (by omega) hI hJ hfi (fun i hi => hD i (by omega)) hSS hy y0 y1 y2 y3 y4 y5 y6 hz z0 z1 z2 z3 z4 hm60 h20) hN.1 hN.2
        · exact m_back_0 hM (by rw [Nat.zero_add]; exact hm) hkt
      · have hkf : k0 = false := Bool.not_eq_true _ ▸ hkt
        refine ⟨-2, tn, c0, c1, c2, sh, tx, s, kp, bw, ar, tu, k0, k1, tr, hR0, fun G n M hsio hC => ?_, fun G n M hM => ?_⟩
        · obtain ⟨g, g', fa, fb, fc, hgg, h20, hG, hA, hfa, hB, hfb, hCC, hfc, hst, hbo, har, hT, hV, h40⟩ := cl_open hc hc1 hc2 hC
          obtain ⟨hi41, hi63⟩ := cl_open_i hC
          obtain ⟨lt, vi, m0, fm, hI, ⟨fi, hJ, hfi⟩, ⟨g0, g1, g2, g3, g4, g5, g6, up2, dn2, hy, y0, y1, y2, y3, y4, y5, y6, hgf⟩, hD, hm60, hkept⟩ := hi41
          rw [hkf] at hI
          exact cl_qs hC (c12_back_41_no h20 hI)
        · exact m_back_0_no hM hkf
    · by_cases hkt : k1 = true
      · obtain ⟨hkS, m, hm, hkM⟩ := hk1 hkt
        refine ⟨nI m, tn, c0, c1, c2, m, tx, (bq_k kp s 386 386), kp, bw, ar, tu, k0, k1, tr, st_R_back1 hR0 hkS hkM, fun G n M hsio hC => ?_, fun G n M hM => ?_⟩
        · obtain ⟨g, g', fa, fb, fc, hgg, h20, hG, hA, hfa, hB, hfb, hCC, hfc, hst, hbo, har, hT, hV, h40⟩ := cl_open hc hc1 hc2 hC
          obtain ⟨f0, f1, f2, f3, f4, f5, f6, up, dn, hz, z0, z1, z2, z3, z4, z5, z6, hff⟩ := cl_open27 hC
          obtain ⟨hi41, hi63⟩ := cl_open_i hC
          obtain ⟨lt, vi, fm0, fm, hI, ⟨fi, hJ, hfi⟩, ⟨g0, g1, g2, g3, g4, g5, g6, up2, dn2, hy, y0, y1, y2, y3, y4, y5, y6, hgf⟩, hD, hm60, hkept⟩ := hi63
          rw [hkt] at hI hkept
          obtain ⟨hl1, hl2, hl3, hl4⟩ := hkept rfl
          have hmm : fm0 = m := by
            have e : nI fm0 = nI m := hl2.symm.trans hm
            have e2 := congrArg Int32.toInt e
            rw [nI_toInt (by omega), nI_toInt (by have := hkM.1; omega)] at e2
            omega
          subst hmm
          obtain ⟨sC, hSS, -⟩ := cl_open12 h20 hC
          have hN := cl_S_back (s' := (bq_k kp s 386 386)) (vi := vi) (up2 := up) (dn2 := dn) (g0 := g0) (g1 := g1) (g2 := g2) (g3 := g3) (g4 := g4) (f0 := f0) (f1 := f1) (f2 := f2) (f3 := f3) (f4 := f4) hc hm60 h20 hC z5 z6 (fun k hk => by
            obtain ⟨e0, e1, e2, e3, e4⟩ := hgf k hk
            refine ⟨e0.trans ((hl4 _ (by omega)).trans ?_), e1.trans ((hl4 _ (by omega)).trans ?_), e2.trans ((hl4 _ (by omega)).trans ?_), e3.trans ((hl4 _ (by omega)).trans ?_), e4.trans ((hl4 _ (by omega)).trans ?_)⟩ <;> (rw [bq_a (by omega)])) (hl1.trans (by rw [bq_a (by omega)])) ((bq_a (q := 85) (by decide)).trans (hm)) (fun k hk => (hl3 k hk).trans (by rw [bq_a (by omega)]))
          exact cl_us (c12_back_63 (s := vi) (v := sC) hG hA hfa hc (by omega) hI hJ hfi (fun i hi => hD i (by omega)) hSS hy y0 y1 y2 y3 y4 y5 y6 hz z0 z1 z2 z3 z4 hm60 h20) hN.1 hN.2
        · exact m_back_1 hM hm hkt
      · have hkf : k1 = false := Bool.not_eq_true _ ▸ hkt
        refine ⟨-2, tn, c0, c1, c2, sh, tx, s, kp, bw, ar, tu, k0, k1, tr, hR0, fun G n M hsio hC => ?_, fun G n M hM => ?_⟩
        · obtain ⟨g, g', fa, fb, fc, hgg, h20, hG, hA, hfa, hB, hfb, hCC, hfc, hst, hbo, har, hT, hV, h40⟩ := cl_open hc hc1 hc2 hC
          obtain ⟨hi41, hi63⟩ := cl_open_i hC
          obtain ⟨lt, vi, m0, fm, hI, ⟨fi, hJ, hfi⟩, ⟨g0, g1, g2, g3, g4, g5, g6, up2, dn2, hy, y0, y1, y2, y3, y4, y5, y6, hgf⟩, hD, hm60, hkept⟩ := hi63
          rw [hkf] at hI
          exact cl_qs hC (c12_back_63_no h20 hI)
        · exact m_back_1_no hM hkf
  · have hxf : sp_in w 0 1 = false := Bool.not_eq_true _ ▸ hx1
    refine ⟨-1, tn, c0, c1, c2, sh, tx, s, kp, bw, ar, tu, k0, k1, tr, hR0, fun G n M hsio hC => ?_, fun G n M hM => ?_⟩
    · obtain ⟨g, g', fa, fb, fc, hgg, h20, hG, hA, hfa, hB, hfb, hCC, hfc, hst, hbo, har, hT, hV, h40⟩ := cl_open hc hc1 hc2 hC
      exact cl_qs hC (c12_back_x h20 (fun e => hx1 (by rw [e]; decide)) (fun e => hx1 (by rw [e]; decide)))
    · exact m_back_x hM hxf
