/-! ===== both sides: parted ===== -/
theorem pt_s_c {kf kf' xs xs' : Nat → Int32} {g : Nat} : ∀ n : Nat, (∀ k, k < n → kf' k = kf k) → (∀ k, k < n → xs' k = xs k) → pt_s kf' xs' g n = pt_s kf xs g n
  | 0, _, _ => rfl
  | n + 1, h1, h2 => by rw [pt_s, pt_s, h1 n (by omega), h2 n (by omega), pt_s_c n (fun k hk => h1 k (by omega)) (fun k hk => h2 k (by omega))]
theorem pt_c_c {kf kf' : Nat → Int32} {g : Nat} : ∀ n : Nat, (∀ k, k < n → kf' k = kf k) → pt_c kf' g n = pt_c kf g n
  | 0, _ => rfl
  | n + 1, h1 => by rw [pt_c, pt_c, h1 n (by omega), pt_c_c n (fun k hk => h1 k (by omega))]
theorem pt_c_0 {kf : Nat → Int32} {g : Nat} : ∀ n : Nat, (∀ k, k < n → ¬ kf k = nI g) → pt_c kf g n = 0
  | 0, _ => rfl
  | n + 1, h => by rw [pt_c, if_neg (h n (by omega)), pt_c_0 n (fun k hk => h k (by omega))]
theorem cl_S_parted {M : ev_M} {tn c0 c1 c2 sh : Nat} {tx s kp bw ar tu : Nat → Int32} {k0 k1 : Bool} {tr : Int64} {u v : Int64} {g5 g6 : Nat → Int32} (hC : cl_S M tn c0 c1 c2 sh tx s kp bw ar tu k0 k1 tr) : cl_S (ev_ml M [(27, .inr (8, [.ref (27 + 1), .ref (27 + 2), .ref (27 + 3), .ref (27 + 4), .ref (27 + 5), .ref (27 + 6), .ref (27 + 7), .long u, .long v, .int (nI sh)])), (27 + 6, .inl (0, 12, .inl g5)), (27 + 7, .inl (0, 12, .inl g6))]) tn c0 c1 c2 sh tx s kp bw ar tu k0 k1 tr ∧ ∀ q, 129 ≤ q → (ev_ml M [(27, .inr (8, [.ref (27 + 1), .ref (27 + 2), .ref (27 + 3), .ref (27 + 4), .ref (27 + 5), .ref (27 + 6), .ref (27 + 7), .long u, .long v, .int (nI sh)])), (27 + 6, .inl (0, 12, .inl g5)), (27 + 7, .inl (0, 12, .inl g6))]) q = M q := by
  obtain ⟨g, g', d0, d1, d2, tb, sC, bC, aC, sD, bD, aD, nm, q0, q1, q2, pl, z0, z1, z2, t0, t1, t2, t3, t4, hgg, h20, h21, h22, htb, h24, h25, h26, h27, h85, h35, h36, h37, h38, h39, h40, h41, h63, hG, hsC, hbC, haC, hG', hd0, hd1, hd2⟩ := hC
  have hk : ∀ q, (¬ q = 27 ∧ ¬ q = 33 ∧ ¬ q = 34) → (ev_ml M [(27, .inr (8, [.ref (27 + 1), .ref (27 + 2), .ref (27 + 3), .ref (27 + 4), .ref (27 + 5), .ref (27 + 6), .ref (27 + 7), .long u, .long v, .int (nI sh)])), (27 + 6, .inl (0, 12, .inl g5)), (27 + 7, .inl (0, 12, .inl g6))]) q = M q := fun q hq => ev_ml_out _ (by simp only [List.map_cons, List.map_nil, List.mem_cons, List.not_mem_nil, or_false, not_or]; omega)
  obtain ⟨f0, f1, f2, f3, f4, f5, f6, up', dn', y0, y1, y2, y3, y4, y5, y6, y7, y8⟩ := h27
  refine ⟨?_, fun q hq => hk q (by omega)⟩
  exact ⟨g, g', d0, d1, d2, _, _, _, _, _, _, _, _, _, _, _, _, _, _, _, _, _, _, _, _, hgg, ((hk 21 (by omega)).trans h20), ((hk 22 (by omega)).trans h21), ((hk 23 (by omega)).trans h22), htb, ((hk 24 (by omega)).trans h24), ((hk 25 (by omega)).trans h25), ((hk 26 (by omega)).trans h26), ⟨f0, f1, f2, f3, f4, g5, g6, u, v, rfl, (hk _ (by omega)).trans y1, (hk _ (by omega)).trans y2, (hk _ (by omega)).trans y3, (hk _ (by omega)).trans y4, (hk _ (by omega)).trans y5, rfl, rfl, y8⟩, h85, ((hk 35 (by omega)).trans h35), ((hk 36 (by omega)).trans h36), ((hk 37 (by omega)).trans h37), ((hk 38 (by omega)).trans h38), ((hk 39 (by omega)).trans h39), ((hk 40 (by omega)).trans h40), (cl_img_keep (fun a z1 z2 => hk a (by omega)) h41), (cl_img_keep (fun a z1 z2 => hk a (by omega)) h63), (cl_gear_keep (fun a z1 z2 => hk a (by omega)) hG), hsC, hbC, haC, (cl_gear_keep (fun a z1 z2 => hk a (by omega)) hG'), hd0, hd1, hd2⟩
theorem fq_of {A B : Int × Nat} (h : fr A B) : fq A B := ⟨h.1, h.2.2.1, h.2.2.2⟩
theorem pt_xb {c0 sh : Nat} {s : Nat → Int32} (hsh : st_shots c0 sh (fun k => s (86 + k))) : ∀ k, k < sh → -1000 ≤ (pt_xs s k).toInt ∧ (pt_xs s k).toInt ≤ 1000 := fun k hk => ti_rg (hsh.2 k hk).2.2.2 (y := -1000) (z := 1000) rfl rfl
theorem pt_60 {s : Nat → Int32} {sh a : Nat} (h : sh ≤ 60) {K : Nat} (hK : K ≤ 12) : sm (pt_C s sh a) K ≤ 60 := Nat.le_trans (pt_sm (kf := pt_kf s a) sh K hK) h
theorem pt_z {c0 sh w : Nat} {s : Nat → Int32} (hsh : st_shots c0 sh (fun k => s (86 + k))) (hw : w = 1 ∨ w = 2) : ∀ j, 3 ≤ j → j < 3 + 9 → pt_C s sh (pt_at w) j = 0 := by
  intro j h3 h12
  refine pt_c_0 sh (fun k hk e => ?_)
  have h := hsh.2 k hk
  have hb : (pt_kf s (pt_at w) k) < 3 := by
    rcases hw with rfl | rfl
    · exact h.2.2.1.2
    · exact h.2.1.2
  rw [e] at hb
  have hz := Int32.lt_iff_toInt_lt.mp hb
  rw [nI_toInt (by omega), show (3 : Int32).toInt = 3 from rfl] at hz
  omega
theorem pt_d {c0 sh w : Nat} {s : Nat → Int32} (hsh : st_shots c0 sh (fun k => s (86 + k))) (hw : w = 1 ∨ w = 2) : (cF (pt_S s sh (pt_at w)) (pt_C s sh (pt_at w)) 12).2 ≤ 8000 := by
  rw [cF_d]
  exact lm_3 (k := 9) (pt_z hsh hw) (pt_60 hsh.1 (by decide))
theorem pt_ok2 {A1 B1 A2 B2 : Int × Nat} (f1 : fr A1 B1) (f2 : fr A2 B2) (b1 : 0 ≤ A1.1 ∧ A1.1 ≤ ((60000000 * A1.2 : Nat) : Int)) (b2 : 0 ≤ A2.1 ∧ A2.1 ≤ ((60000000 * A2.2 : Nat) : Int)) (d1 : A1.2 ≤ 8000) (d2 : A2.2 ≤ 7983360) : pa_ok B1 (-B2.1) B2.2 := by
  have u1 := fr_up f1.1 b1.1 b1.2 f1.2.2.2
  have u2 := fr_up f2.1 b2.1 b2.2 f2.2.2.2
  have l1 := Nat.le_of_dvd f1.2.2.2 f1.2.1
  have l2 := Nat.le_of_dvd f2.2.2.2 f2.2.1
  have p1 := f1.2.2.1
  have p2 := f2.2.2.1
  have q1 : (B1.1 * ((B2.2 / Nat.gcd B1.2 B2.2 : Nat) : Int)).natAbs ≤ 60000000 * 8000 * 7983360 := by
    rw [Int.natAbs_mul, Int.natAbs_natCast]
    exact Nat.mul_le_mul (show B1.1.natAbs ≤ 60000000 * 8000 by omega) (Nat.le_trans (Nat.div_le_self _ _) (by omega))
  have q2 : (-B2.1 * ((B1.2 / Nat.gcd B1.2 B2.2 : Nat) : Int)).natAbs ≤ 60000000 * 7983360 * 8000 := by
    rw [Int.natAbs_mul, Int.natAbs_natCast]
    exact Nat.mul_le_mul (show (-B2.1).natAbs ≤ 60000000 * 7983360 by omega) (Nat.le_trans (Nat.div_le_self _ _) (by omega))
  have n1 : 0 ≤ B1.1 * ((B2.2 / Nat.gcd B1.2 B2.2 : Nat) : Int) := Int.mul_nonneg u1.1 (Int.natCast_nonneg _)
  have n2 : -B2.1 * ((B1.2 / Nat.gcd B1.2 B2.2 : Nat) : Int) ≤ 0 := by
    rw [Int.neg_mul]
    have := Int.mul_nonneg u2.1 (Int.natCast_nonneg (B1.2 / Nat.gcd B1.2 B2.2))
    omega
  have dd : pa_D B1.2 B2.2 ≤ 8000 * 7983360 := Nat.mul_le_mul (Nat.le_trans (Nat.div_le_self _ _) (by omega)) (by omega)
  refine ⟨⟨p1, by omega⟩, ⟨p2, by omega⟩, ?_, by omega⟩
  unfold pa_U
  omega
theorem x_parted  : x_ok mX11_parted mX12_parted 5 4 [] := by
  refine x_ok_s (fun tn c0 c1 c2 sh tx s kp bw ar tu k0 k1 tr hR => ?_)
  have hR0 := hR
  obtain ⟨⟨htn, htx⟩, ⟨hc, hs⟩, ⟨hc1, hw⟩, ⟨hc2, ha⟩, ht, hsh, hk0, hk1⟩ := hR
  have hSb : ∀ a g, (pt_S s sh a g).natAbs ≤ 1000 * pt_C s sh a g := fun a g => pt_s_b sh (pt_xb hsh)
  have hAll : ∀ w, 0 ≤ (cF (pt_S s sh (pt_at w)) (pt_C s sh (pt_at w)) 12).1 ∧ (cF (pt_S s sh (pt_at w)) (pt_C s sh (pt_at w)) 12).1 ≤ ((60000000 * (cF (pt_S s sh (pt_at w)) (pt_C s sh (pt_at w)) 12).2 : Nat) : Int) ∧ 0 < (cF (pt_S s sh (pt_at w)) (pt_C s sh (pt_at w)) 12).2 ∧ (cF (pt_S s sh (pt_at w)) (pt_C s sh (pt_at w)) 12).2 ≤ 7983360 := fun w => cF_all (hSb _) (pt_60 hsh.1 (by decide))
  have hFr : ∀ w, fr (cF (pt_S s sh (pt_at w)) (pt_C s sh (pt_at w)) 12) (pt_W s sh w) := fun w => fr_F 12
  by_cases h0 : sh = 0
  · subst h0
    refine ⟨-9, tn, c0, c1, c2, 0, tx, s, kp, bw, ar, tu, k0, k1, tr, hR0, fun G n M hsio hC => ?_, fun G n M hM => ?_⟩
    · obtain ⟨g, g', fa, fb, fc, hgg, h20, hG, hA, hfa, hB, hfb, hCC, hfc, hst, hbo, har, hT, hV, h40⟩ := cl_open hc hc1 hc2 hC
      obtain ⟨f0, f1, f2, f3, f4, f5, f6, up, dn, hz, z0, z1, z2, z3, z4, z5, z6, hff⟩ := cl_open27 hC
      exact cl_qs hC (c12_parted_0 h20 hz)
    · exact m_parted_none hM rfl
  · refine ⟨nI (pd_best (pt_W s sh)), tn, c0, c1, c2, sh, tx, s, kp, bw, ar, tu, k0, k1, tr, hR0, fun G n M hsio hC => ?_, fun G n M hM => m_parted hM (by omega) hsh.1 (fun w hw g hg hne => pt_F_ok (hSb _) (pt_60 hsh.1 (Nat.le_refl 12)) hg hne) (fun w v hw hv => pt_ok2 (hFr w) (hFr v) ⟨(hAll w).1, (hAll w).2.1⟩ ⟨(hAll v).1, (hAll v).2.1⟩ (pt_d hsh (by omega)) (hAll v).2.2.2)⟩
    obtain ⟨g, g', fa, fb, fc, hgg, h20, hG, hA, hfa, hB, hfb, hCC, hfc, hst, hbo, har, hT, hV, h40⟩ := cl_open hc hc1 hc2 hC
    obtain ⟨f0, f1, f2, f3, f4, f5, f6, up, dn, hz, z0, z1, z2, z3, z4, z5, z6, hff⟩ := cl_open27 hC
    have hkf : ∀ w, w < 3 → ∀ k, k < sh → (sh_kf f0 f1 f2 w) k = pt_kf s (pt_at w) k := by
      intro w hw k hk
      obtain ⟨e0, e1, e2, e3, e4⟩ := hff k hk
      rcases w with _ | _ | _ | w
      · exact e0
      · exact e2
      · exact e1
      · omega
    have hxs : ∀ k, k < sh → f3 k = pt_xs s k := fun k hk => (hff k hk).2.2.2.1
    have hxb : ∀ k, k < sh → -1000 ≤ (f3 k).toInt ∧ (f3 k).toInt ≤ 1000 := fun k hk => by rw [hxs k hk]; exact pt_xb hsh k hk
    have hbest := best_eq (A := fun w => cF (pt_S s sh (pt_at w)) (pt_C s sh (pt_at w)) 12) (F := pt_W s sh) (W := fun w => sh_W (sh_kf f0 f1 f2 w) f3 sh) (fun w hw => sh_w_lI (K := 12) (fun g => (sh_sum_pt sh hsh.1 hxb).trans (pt_s_c sh (hkf w hw) hxs)) (fun g => (sh_cnt_pt sh hsh.1).1.trans (congrArg nI (pt_c_c sh (hkf w hw)))) (pt_60 hsh.1 (by decide)) 12 (Nat.le_refl _)) (fun w _ => fq_of (hFr w)) (fun w _ => ⟨(hAll w).1, (hAll w).2.1⟩) (hAll 0).2.2.2 (pt_d hsh (Or.inl rfl)) (pt_d hsh (Or.inr rfl))
    refine (c12_parted_1 h20 hz z0 z1 z2 z3 z4 z5 z6 hsh.1 (by omega)).post (fun r M1 h => ?_)
    obtain ⟨hr, u, v, g5, g6, rfl⟩ := h
    have hN := cl_S_parted (u := u) (v := v) (g5 := g5) (g6 := g6) hC
    exact ⟨by rw [hr, hbest], hN.1, hN.2⟩
