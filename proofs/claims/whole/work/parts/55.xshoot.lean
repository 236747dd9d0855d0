/-! ===== both sides: shoot ===== -/
theorem x_drawn0 (x : BitVec 32) : (x.sshiftRight 16) &&& 65535#32 = x >>> 16 := by
  apply BitVec.eq_of_getLsbD_eq
  intro i hi
  rw [BitVec.getLsbD_and, BitVec.getLsbD_sshiftRight, BitVec.getLsbD_ushiftRight]
  by_cases h : i < 16
  · have e1 : (65535#32).getLsbD i = true := by
      have : ∀ i, i < 16 → (65535#32).getLsbD i = true := by decide +kernel
      exact this i h
    rw [if_pos (by omega), e1, decide_eq_false (by omega : ¬ 32 ≤ i)]
    simp
  · have e1 : (65535#32).getLsbD i = false := by
      have : ∀ i, i < 32 → ¬ i < 16 → (65535#32).getLsbD i = false := by decide +kernel
      exact this i hi h
    rw [e1, Bool.and_false]
    exact (BitVec.getLsbD_of_ge _ _ (by omega)).symm
theorem x_drawn (L : Int32) : ((L >>> (16 &&& 31)) &&& 65535) = (L.toUInt32 >>> ((16 : Int32).toUInt32 &&& Int32.toUInt32 31)).toInt32 := by
  apply Int32.toBitVec_inj.1
  have e1 : (((16 : Int32) &&& 31).toBitVec.smod 32).toNat = 16 := by decide +kernel
  have e2 : (((16 : Int32).toUInt32 &&& Int32.toUInt32 31).toBitVec % 32).toNat = 16 := by decide +kernel
  have l : ((L >>> (16 &&& 31)) &&& 65535).toBitVec = (L.toBitVec.sshiftRight (((16 : Int32) &&& 31).toBitVec.smod 32).toNat) &&& 65535#32 := rfl
  have r : ((L.toUInt32 >>> ((16 : Int32).toUInt32 &&& Int32.toUInt32 31)).toInt32).toBitVec = L.toBitVec >>> (((16 : Int32).toUInt32 &&& Int32.toUInt32 31).toBitVec % 32).toNat := rfl
  rw [l, r, e1, e2]
  exact x_drawn0 L.toBitVec
theorem x_65535 (v : Int32) : 0 ≤ (v &&& 65535).toInt ∧ (v &&& 65535).toInt ≤ 65535 := by
  have h1 : (v &&& 65535).toBitVec.toNat = v.toBitVec.toNat &&& 65535 := by rw [Int32.toBitVec_and, BitVec.toNat_and]; rfl
  have h2 : (v &&& 65535).toBitVec.toNat < 65536 := by
    rw [h1, show (65535 : Nat) = 2 ^ 16 - 1 from rfl, Nat.and_two_pow_sub_one_eq_mod]
    exact Nat.mod_lt _ (by decide)
  have h3 : v &&& 65535 = nI (v &&& 65535).toBitVec.toNat := by
    apply Int32.toBitVec_inj.mp
    apply BitVec.eq_of_toNat_eq
    show _ = (BitVec.ofNat 32 _).toNat
    rw [BitVec.toNat_ofNat, Nat.mod_eq_of_lt (BitVec.isLt _)]
  have h4 : (v &&& 65535).toInt = ((v &&& 65535).toBitVec.toNat : Int) := (congrArg Int32.toInt h3).trans (nI_toInt (by omega))
  omega
theorem x_rem {v b : Int32} (hv : 0 ≤ v.toInt ∧ v.toInt ≤ 65535) (hb : 1 ≤ b.toInt ∧ b.toInt ≤ 41) : 0 ≤ (sp_rem v b).toInt ∧ (sp_rem v b).toInt ≤ 40 := by
  have hb0 : ¬ b = 0 := fun e => by rw [e] at hb; exact absurd hb.1 (by decide +kernel)
  have e1 : (v / b).toInt = v.toInt / b.toInt := by rw [ti_div (by omega), Int.tdiv_eq_ediv_of_nonneg hv.1]
  have r1 : rb (v / b) 65535 := rb_div (c := 1) (A := 65535) (rb_of hv.1 hv.2 (by omega) (by omega)) (by omega) (by decide) (by omega)
  have r2 : rb b 41 := rb_of hb.1 hb.2 (by omega) (by omega)
  have e2 : (v / b * b).toInt = v.toInt / b.toInt * b.toInt := by rw [ti_mul r1 r2 (by decide), e1]
  have r3 : rb (v / b * b) (65535 * 41) := rb_mul r1 r2 (Nat.le_refl _) (by decide)
  have e3 : (sp_rem v b).toInt = v.toInt - v.toInt / b.toInt * b.toInt := by
    rw [sp_rem, if_neg hb0, ti_sub (A := 65535) (rb_of hv.1 hv.2 (by omega) (by omega)) r3 (by decide), e2]
  have e4 : v.toInt - v.toInt / b.toInt * b.toInt = v.toInt % b.toInt := by rw [Int.emod_def, Int.mul_comm]
  rw [e3, e4]
  have h1 := Int.emod_nonneg v.toInt (show b.toInt ≠ 0 by omega)
  have h2 := Int.emod_lt_of_pos v.toInt (show 0 < b.toInt by omega)
  omega
theorem fx_go_b {tu o : Nat → Int32} {dr wi : Int32} (h : sk_ok o) (h1 : 20 ≤ dr.toInt ∧ dr.toInt ≤ 70) (h2 : 0 ≤ wi.toInt ∧ wi.toInt ≤ 9) (ht : tu_ok tu) : rb (fx_go tu o dr wi) 735 := by
  have a := fx_of_b h h1 (by decide) h2
  have r0 : rb (fx_of o dr wi) 118 := rb_of a.1 a.2 (by decide) (by decide)
  have r1 : rb (fx_of o dr wi * tu 2) 3540 := rb_mul r0 (rb_of (A := 30) ht.2.2.1.1 ht.2.2.1.2 (by decide) (by decide)) (by decide) (by decide)
  have r2 : rb (fx_of o dr wi * tu 2 / 10) 354 := rb_div (c := 10) r1 (by decide +kernel) (by decide) (by decide)
  have r3 : rb (-(fx_of o dr wi * tu 2 / 10)) 354 := rb_neg r2 (by decide)
  have r4 : rb (sp_bare (tu 0) (tu 1) (tu 2) (fx_of o dr wi)) 708 := by
    unfold sp_bare
    split
    · exact rb_l (by decide +kernel)
    · split
      · exact rb_mul (A := 2) (rb_l (by decide +kernel)) r3 (by decide) (by decide)
      · exact rb_w r3 (by decide)
  have hf := h.2.2.2.2.2.1
  have e10 : (10 - o 5).toInt = 10 - (o 5).toInt := by rw [ti_sub (A := 10) (B := 9) (rb_l (by decide +kernel)) (rb_of hf.1 hf.2 (by decide) (by decide)) (by decide)]; rfl
  have r5 : rb (10 - o 5) 10 := rb_of (a := 1) (b := 10) (by rw [e10]; omega) (by rw [e10]; omega) (by decide) (by decide)
  have r6 : rb (sp_fth (tu 0) (tu 1) (tu 2) (fx_of o dr wi) (o 5)) 708 := rb_div (c := 10) (rb_mul r4 r5 (Nat.le_refl _) (by decide)) (by decide +kernel) (by decide) (by decide)
  have hm := sk_mass h
  have r7 : rb (tu 3 * 600) 5400 := rb_mul (A := 9) (B := 600) (rb_of ht.2.2.2.1 ht.2.2.2.2 (by decide) (by decide)) (rb_l (by decide +kernel)) (by decide) (by decide)
  have r8 : rb (sp_div (tu 3 * 600) (o 1 + o 4)) 27 := by
    unfold sp_div
    rw [if_neg (sk_n1 h)]
    exact rb_div (c := 200) r7 hm.2.1 (by decide) (by decide)
  exact rb_add r6 r8 (by decide) (by decide)
theorem sh_S_lo {s : Nat → Int32} {sh q : Nat} {l i b a x y : Int32} (h : q < 84 ∨ (86 ≤ q ∧ q < 86 + 5 * sh)) : sh_S s sh l i b a x y q = s q := by
  unfold sh_S
  rw [upd_ne (by omega), upd_ne (by omega), upd_ne (by omega), upd_ne (by omega), upd_ne (by omega), upd_ne (by omega), upd_ne (by omega)]
theorem sh_S_84 {s : Nat → Int32} {sh : Nat} {l i b a x y : Int32} : sh_S s sh l i b a x y 84 = l := by
  unfold sh_S
  rw [upd_ne (by omega), upd_ne (by omega), upd_ne (by omega), upd_ne (by omega), upd_ne (by omega), upd_ne (by omega), upd_at]
theorem sh_S_85 {s : Nat → Int32} {sh : Nat} {l i b a x y : Int32} : sh_S s sh l i b a x y 85 = nI (sh + 1) := by
  unfold sh_S
  rw [upd_at]
theorem sh_S_n {s : Nat → Int32} {sh : Nat} {l i b a x y : Int32} : sh_S s sh l i b a x y (86 + 5 * sh) = i ∧ sh_S s sh l i b a x y (86 + (5 * sh + 1)) = b ∧ sh_S s sh l i b a x y (86 + (5 * sh + 2)) = a ∧ sh_S s sh l i b a x y (86 + (5 * sh + 3)) = x ∧ sh_S s sh l i b a x y (86 + (5 * sh + 4)) = y := by
  unfold sh_S
  refine ⟨?_, ?_, ?_, ?_, ?_⟩
  · rw [upd_ne (by omega), upd_ne (by omega), upd_ne (by omega), upd_ne (by omega), upd_ne (by omega), upd_at]
  · rw [upd_ne (by omega), upd_ne (by omega), upd_ne (by omega), upd_ne (by omega), show 86 + (5 * sh + 1) = 86 + 5 * sh + 1 by omega, upd_at]
  · rw [upd_ne (by omega), upd_ne (by omega), upd_ne (by omega), show 86 + (5 * sh + 2) = 86 + 5 * sh + 2 by omega, upd_at]
  · rw [upd_ne (by omega), upd_ne (by omega), show 86 + (5 * sh + 3) = 86 + 5 * sh + 3 by omega, upd_at]
  · rw [upd_ne (by omega), show 86 + (5 * sh + 4) = 86 + 5 * sh + 4 by omega, upd_at]
theorem st_R_shoot {tn c0 c1 c2 sh : Nat} {tx s kp bw ar tu : Nat → Int32} {k0 k1 : Bool} {j b a : Nat} {l x y : Int32} (hR : st_R tn c0 c1 c2 sh tx s kp bw ar tu k0 k1) (hs6 : sh < 60) (hj : j < c0) (hb : b < c1) (hc1 : c1 ≤ 3) (ha : a < c2) (hc2 : c2 ≤ 3) (hx : -1000 ≤ x ∧ x ≤ 1000) : st_R tn c0 c1 c2 (sh + 1) tx (sh_S s sh l (nI j) (nI b) (nI a) x y) kp bw ar tu k0 k1 := by
  have hj3 : ∀ q : Nat, q < 3 → (0 : Int32) ≤ nI q ∧ nI q < 3 := by decide
  obtain ⟨⟨htn, htx⟩, ⟨hc, hs⟩, ⟨hc1x, hw0⟩, ⟨hc2x, ha0⟩, ht, hsh, hk0, hk1⟩ := hR
  refine ⟨⟨htn, htx⟩, ⟨hc, fun i hi => st_stk_e (hs i hi) (fun q hq => sh_S_lo (by omega))⟩, ⟨hc1x, hw0⟩, ⟨hc2x, ha0⟩, ht, ⟨by omega, fun k hk => ?_⟩, hk0, hk1⟩
  show (∃ i, i < c0 ∧ (sh_S s sh l (nI j) (nI b) (nI a) x y) (86 + 5 * k) = nI i) ∧ (0 ≤ (sh_S s sh l (nI j) (nI b) (nI a) x y) (86 + (5 * k + 1)) ∧ (sh_S s sh l (nI j) (nI b) (nI a) x y) (86 + (5 * k + 1)) < 3) ∧ (0 ≤ (sh_S s sh l (nI j) (nI b) (nI a) x y) (86 + (5 * k + 2)) ∧ (sh_S s sh l (nI j) (nI b) (nI a) x y) (86 + (5 * k + 2)) < 3) ∧ (-1000 ≤ (sh_S s sh l (nI j) (nI b) (nI a) x y) (86 + (5 * k + 3)) ∧ (sh_S s sh l (nI j) (nI b) (nI a) x y) (86 + (5 * k + 3)) ≤ 1000)
  by_cases e : k = sh
  · subst e
    obtain ⟨e0, e1, e2, e3, -⟩ := sh_S_n (s := s) (sh := k) (l := l) (i := nI j) (b := nI b) (a := nI a) (x := x) (y := y)
    rw [e0, e1, e2, e3]
    exact ⟨⟨j, hj, rfl⟩, hj3 b (by omega), hj3 a (by omega), hx⟩
  · rw [sh_S_lo (by omega), sh_S_lo (by omega), sh_S_lo (by omega), sh_S_lo (by omega)]
    exact hsh.2 k (by omega)
theorem cl_S_shoot {M : ev_M} {tn c0 c1 c2 sh : Nat} {tx s kp bw ar tu : Nat → Int32} {k0 k1 : Bool} {tr : Int64} {g g' j b a : Nat} {lot l x y : Int32} {up dn : Int64} {f0 f1 f2 f3 f4 f5 f6 : Nat → Int32} (hc : c0 ≤ 12) (hs6 : sh < 60) (h20' : M 21 = .inr (11, [.ref 22, .ref 25, .ref 27, .ref 35, .ref 39, .ref 40, .ref 41, .ref 63, .ref g, .ref g', .int lot])) (hC : cl_S M tn c0 c1 c2 sh tx s kp bw ar tu k0 k1 tr) (z5 : M (27 + 6) = .inl (0, 12, .inl f5)) (z6 : M (27 + 7) = .inl (0, 12, .inl f6)) (hff : ∀ k, k < sh → f0 k = s (86 + 5 * k) ∧ f1 k = s (86 + (5 * k + 1)) ∧ f2 k = s (86 + (5 * k + 2)) ∧ f3 k = s (86 + (5 * k + 3)) ∧ f4 k = s (86 + (5 * k + 4))) : cl_S (ev_ml (ev_set M 21 (.inr (11, [.ref 22, .ref 25, .ref 27, .ref 35, .ref 39, .ref 40, .ref 41, .ref 63, .ref g, .ref g', .int l]))) [(27, .inr (8, [.ref (27 + 1), .ref (27 + 2), .ref (27 + 3), .ref (27 + 4), .ref (27 + 5), .ref (27 + 6), .ref (27 + 7), .long up, .long dn, .int (nI (sh + 1))])), (27 + 1, .inl (0, 60, .inl (upd f0 sh (nI j)))), (27 + 2, .inl (0, 60, .inl (upd f1 sh (nI b)))), (27 + 3, .inl (0, 60, .inl (upd f2 sh (nI a)))), (27 + 4, .inl (0, 60, .inl (upd f3 sh x))), (27 + 5, .inl (0, 60, .inl (upd f4 sh y)))]) tn c0 c1 c2 (sh + 1) tx (sh_S s sh l (nI j) (nI b) (nI a) x y) kp bw ar tu k0 k1 tr ∧ ∀ q, 129 ≤ q → (ev_ml (ev_set M 21 (.inr (11, [.ref 22, .ref 25, .ref 27, .ref 35, .ref 39, .ref 40, .ref 41, .ref 63, .ref g, .ref g', .int l]))) [(27, .inr (8, [.ref (27 + 1), .ref (27 + 2), .ref (27 + 3), .ref (27 + 4), .ref (27 + 5), .ref (27 + 6), .ref (27 + 7), .long up, .long dn, .int (nI (sh + 1))])), (27 + 1, .inl (0, 60, .inl (upd f0 sh (nI j)))), (27 + 2, .inl (0, 60, .inl (upd f1 sh (nI b)))), (27 + 3, .inl (0, 60, .inl (upd f2 sh (nI a)))), (27 + 4, .inl (0, 60, .inl (upd f3 sh x))), (27 + 5, .inl (0, 60, .inl (upd f4 sh y)))]) q = M q := by
  obtain ⟨u, u', d0, d1, d2, tb, sC, bC, aC, sD, bD, aD, nm, q0, q1, q2, pl, z0, z1, z2, t0, t1, t2, t3, t4, hgg, h20, h21, h22, htb, h24, h25, h26, h27, h85, h35, h36, h37, h38, h39, h40, h41, h63, hG, hsC, hbC, haC, hG', hd0, hd1, hd2⟩ := hC
  obtain ⟨rfl, rfl⟩ : u = g ∧ u' = g' := by
    have e := h20.symm.trans h20'
    simp only [Sum.inr.injEq, Prod.mk.injEq, List.cons.injEq, Value.ref.injEq] at e
    simp only [true_and] at e
    exact ⟨e.1, e.2.1⟩
  have hk : ∀ q, (¬ q = 21 ∧ (q < 27 ∨ 32 < q)) → (ev_ml (ev_set M 21 (.inr (11, [.ref 22, .ref 25, .ref 27, .ref 35, .ref 39, .ref 40, .ref 41, .ref 63, .ref u, .ref u', .int l]))) [(27, .inr (8, [.ref (27 + 1), .ref (27 + 2), .ref (27 + 3), .ref (27 + 4), .ref (27 + 5), .ref (27 + 6), .ref (27 + 7), .long up, .long dn, .int (nI (sh + 1))])), (27 + 1, .inl (0, 60, .inl (upd f0 sh (nI j)))), (27 + 2, .inl (0, 60, .inl (upd f1 sh (nI b)))), (27 + 3, .inl (0, 60, .inl (upd f2 sh (nI a)))), (27 + 4, .inl (0, 60, .inl (upd f3 sh x))), (27 + 5, .inl (0, 60, .inl (upd f4 sh y)))]) q = M q := fun q hq => (ev_ml_out _ (by simp only [List.map_cons, List.map_nil, List.mem_cons, List.not_mem_nil, or_false, not_or]; omega)).trans (ev_set_ne hq.1)
  have h20n : (ev_ml (ev_set M 21 (.inr (11, [.ref 22, .ref 25, .ref 27, .ref 35, .ref 39, .ref 40, .ref 41, .ref 63, .ref u, .ref u', .int l]))) [(27, .inr (8, [.ref (27 + 1), .ref (27 + 2), .ref (27 + 3), .ref (27 + 4), .ref (27 + 5), .ref (27 + 6), .ref (27 + 7), .long up, .long dn, .int (nI (sh + 1))])), (27 + 1, .inl (0, 60, .inl (upd f0 sh (nI j)))), (27 + 2, .inl (0, 60, .inl (upd f1 sh (nI b)))), (27 + 3, .inl (0, 60, .inl (upd f2 sh (nI a)))), (27 + 4, .inl (0, 60, .inl (upd f3 sh x))), (27 + 5, .inl (0, 60, .inl (upd f4 sh y)))]) 21 = .inr (11, [.ref 22, .ref 25, .ref 27, .ref 35, .ref 39, .ref 40, .ref 41, .ref 63, .ref u, .ref u', .int l]) := rfl
  have h27n : cl_sheet (ev_ml (ev_set M 21 (.inr (11, [.ref 22, .ref 25, .ref 27, .ref 35, .ref 39, .ref 40, .ref 41, .ref 63, .ref u, .ref u', .int l]))) [(27, .inr (8, [.ref (27 + 1), .ref (27 + 2), .ref (27 + 3), .ref (27 + 4), .ref (27 + 5), .ref (27 + 6), .ref (27 + 7), .long up, .long dn, .int (nI (sh + 1))])), (27 + 1, .inl (0, 60, .inl (upd f0 sh (nI j)))), (27 + 2, .inl (0, 60, .inl (upd f1 sh (nI b)))), (27 + 3, .inl (0, 60, .inl (upd f2 sh (nI a)))), (27 + 4, .inl (0, 60, .inl (upd f3 sh x))), (27 + 5, .inl (0, 60, .inl (upd f4 sh y)))]) 27 (sh + 1) (fun k => (sh_S s sh l (nI j) (nI b) (nI a) x y) (86 + k)) := by
    refine ⟨upd f0 sh (nI j), upd f1 sh (nI b), upd f2 sh (nI a), upd f3 sh x, upd f4 sh y, f5, f6, up, dn, rfl, rfl, rfl, rfl, rfl, rfl, (hk _ (by omega)).trans z5, (hk _ (by omega)).trans z6, fun k hk2 => ?_⟩
    show upd f0 sh (nI j) k = (sh_S s sh l (nI j) (nI b) (nI a) x y) (86 + 5 * k) ∧ upd f1 sh (nI b) k = (sh_S s sh l (nI j) (nI b) (nI a) x y) (86 + (5 * k + 1)) ∧ upd f2 sh (nI a) k = (sh_S s sh l (nI j) (nI b) (nI a) x y) (86 + (5 * k + 2)) ∧ upd f3 sh x k = (sh_S s sh l (nI j) (nI b) (nI a) x y) (86 + (5 * k + 3)) ∧ upd f4 sh y k = (sh_S s sh l (nI j) (nI b) (nI a) x y) (86 + (5 * k + 4))
    by_cases e : k = sh
    · subst e
      obtain ⟨e0, e1, e2, e3, e4⟩ := sh_S_n (s := s) (sh := k) (l := l) (i := nI j) (b := nI b) (a := nI a) (x := x) (y := y)
      rw [upd_at, upd_at, upd_at, upd_at, upd_at, e0, e1, e2, e3, e4]
      exact ⟨rfl, rfl, rfl, rfl, rfl⟩
    · rw [upd_ne e, upd_ne e, upd_ne e, upd_ne e, upd_ne e, sh_S_lo (by omega), sh_S_lo (by omega), sh_S_lo (by omega), sh_S_lo (by omega), sh_S_lo (by omega)]
      exact hff k (by omega)
  refine ⟨?_, fun q hq => hk q (by omega)⟩
  exact ⟨u, u', d0, d1, d2, _, _, _, _, _, _, _, _, _, _, _, _, _, _, _, _, _, _, _, _, hgg, h20n.trans (by rw [sh_S_84]), ((hk 22 (by omega)).trans h21), ((hk 23 (by omega)).trans h22), htb, ((hk 24 (by omega)).trans h24), ((hk 25 (by omega)).trans h25), ((hk 26 (by omega)).trans h26), h27n, sh_S_85, ((hk 35 (by omega)).trans h35), ((hk 36 (by omega)).trans h36), ((hk 37 (by omega)).trans h37), ((hk 38 (by omega)).trans h38), ((hk 39 (by omega)).trans h39), ((hk 40 (by omega)).trans h40), (cl_img_keep (fun a z1 z2 => hk a (by omega)) h41), (cl_img_keep (fun a z1 z2 => hk a (by omega)) h63), (cl_gear_keep (fun a z1 z2 => hk a (by omega)) hG), fun k hk2 => (hsC k hk2).trans (sh_S_lo (by omega)).symm, hbC, haC, (cl_gear_keep (fun a z1 z2 => hk a (by omega)) hG'), hd0, hd1, hd2⟩
theorem x_shot_b {go am r wa : Int32} (h1 : rb go 735) (h2 : -30 ≤ am ∧ am ≤ 30) (h3 : 0 ≤ r.toInt ∧ r.toInt ≤ 40) (h4 : 0 ≤ wa ∧ wa ≤ 20) : -1000 ≤ go + am + r - wa ∧ go + am + r - wa ≤ 1000 := by
  have b2 := ti_rg h2 (y := -30) (z := 30) rfl rfl
  have b4 := ti_rg h4 (y := 0) (z := 20) rfl rfl
  have r1 : rb (go + am) 765 := rb_add (B := 30) h1 (rb_of b2.1 b2.2 (by decide) (by decide)) (by decide) (by decide)
  have r2 : rb (go + am + r) 805 := rb_add (B := 40) r1 (rb_of h3.1 h3.2 (by decide) (by decide)) (by decide) (by decide)
  have r3 : rb (go + am + r - wa) 825 := rb_sub (B := 20) r2 (rb_of b4.1 b4.2 (by decide) (by decide)) (by decide) (by decide)
  have r4 := rb_iff.mp r3
  exact ti_gr (y := -1000) (z := 1000) ⟨by omega, by omega⟩ rfl rfl
theorem x_shoot (i b a : Int32) : x_ok mX11_shoot mX12_shoot 6 6 [.int i, .int b, .int a] := by
  refine x_ok_s (fun tn c0 c1 c2 sh tx s kp bw ar tu k0 k1 tr hR => ?_)
  have hR0 := hR
  obtain ⟨⟨htn, htx⟩, ⟨hc, hs⟩, ⟨hc1, hw⟩, ⟨hc2, ha⟩, ht, hsh, hk0, hk1⟩ := hR
  rcases sp_pos (i := i) (c := c0) (by omega) with ⟨j, hj, rfl⟩ | hi
  · rcases sp_pos (i := b) (c := c1) (by omega) with ⟨b, hb, rfl⟩ | hb'
    · rcases sp_pos (i := a) (c := c2) (by omega) with ⟨a, ha', rfl⟩ | ha'
      · by_cases hs6 : sh < 60
        · have hwb := bw_of (hw b hb)
          have hwa := ti_rg (ha a ha').2 (y := 0) (z := 20) rfl rfl
          have hw20 := ti_rg (hw b hb).1 (y := 20) (z := 70) rfl rfl
          have e2 : (2 * ar (2 * a + 1) + 1).toInt = 2 * (ar (2 * a + 1)).toInt + 1 := by
            have r0 : rb (ar (2 * a + 1)) 20 := rb_of hwa.1 hwa.2 (by decide) (by decide)
            have r1 : rb (2 * ar (2 * a + 1)) 40 := rb_mul (A := 2) (rb_l (by decide +kernel)) r0 (by decide) (by decide)
            rw [ti_add (B := 1) r1 (rb_l (by decide +kernel)) (by decide), ti_mul (A := 2) (rb_l (by decide +kernel)) r0 (by decide)]; rfl
          have hx := x_shot_b (fx_go_b (tu := tu) (sk_of (hs j hj)) hw20 hwb.2 (tu_of ht)) (ha a ha').1 (x_rem (x_65535 ((s 84 * 1103515245 + 12345) >>> (16 &&& 31))) (b := 2 * ar (2 * a + 1) + 1) (by omega)) (ha a ha').2
          refine ⟨(fx_go tu (fun q => s (7 * j + q)) (bw (2 * b)) (bw (2 * b + 1)) + ar (2 * a) + sp_rem (((s 84 * 1103515245 + 12345) >>> (16 &&& 31)) &&& 65535) (2 * ar (2 * a + 1) + 1) - ar (2 * a + 1)), tn, c0, c1, c2, (sh + 1), tx, (sh_S s sh (s 84 * 1103515245 + 12345) (nI j) (nI b) (nI a) (fx_go tu (fun q => s (7 * j + q)) (bw (2 * b)) (bw (2 * b + 1)) + ar (2 * a) + sp_rem (((s 84 * 1103515245 + 12345) >>> (16 &&& 31)) &&& 65535) (2 * ar (2 * a + 1) + 1) - ar (2 * a + 1)) (fx_dr (fun q => s (7 * j + q)) (bw (2 * b)))), kp, bw, ar, tu, k0, k1, tr, st_R_shoot hR0 hs6 hj hb hc1 ha' hc2 hx, fun G n M hsio hC => ?_, fun G n M hM => ?_⟩
          · obtain ⟨g, g', fa, fb, fc, hgg, h20, hG, hA, hfa, hB, hfb, hCC, hfc, hst, hbo, har, hT, hV, h40⟩ := cl_open hc hc1 hc2 hC
            obtain ⟨f0, f1, f2, f3, f4, f5, f6, up, dn, hz, z0, z1, z2, z3, z4, z5, z6, hff⟩ := cl_open27 hC
            have hcal := c12_shoot_ok (G := G) (n := n) (s := fun q => s (7 * j + q)) h20 hG hA hfa hB hfb hCC hfc hj hc hb hc1 ha' hc2 (hst j hj) (hbo b hb) (har a ha') hT hV hz z0 z1 z2 z3 z4 z5 z6 (by omega) hs6
            rw [← x_drawn] at hcal
            have hN := cl_S_shoot (g := g) (g' := g') (j := j) (b := b) (a := a) (l := s 84 * 1103515245 + 12345) (x := (fx_go tu (fun q => s (7 * j + q)) (bw (2 * b)) (bw (2 * b + 1)) + ar (2 * a) + sp_rem (((s 84 * 1103515245 + 12345) >>> (16 &&& 31)) &&& 65535) (2 * ar (2 * a + 1) + 1) - ar (2 * a + 1))) (y := (fx_dr (fun q => s (7 * j + q)) (bw (2 * b)))) (up := up) (dn := dn) hc hs6 h20 hC z5 z6 hff
            exact cl_us hcal hN.1 hN.2
          · exact m_shoot hM hj hc hb hc1 ha' hc2 hwa (sk_of (hs j hj)) hwb (tu_of ht) hs6
        · have hs60 : sh = 60 := by have := hsh.1; omega
          refine ⟨-1000000, tn, c0, c1, c2, sh, tx, s, kp, bw, ar, tu, k0, k1, tr, hR0, fun G n M hsio hC => ?_, fun G n M hM => ?_⟩
          · obtain ⟨g, g', fa, fb, fc, hgg, h20, hG, hA, hfa, hB, hfb, hCC, hfc, hst, hbo, har, hT, hV, h40⟩ := cl_open hc hc1 hc2 hC
            obtain ⟨f0, f1, f2, f3, f4, f5, f6, up, dn, hz, z0, z1, z2, z3, z4, z5, z6, hff⟩ := cl_open27 hC
            exact cl_qs hC (c12_shoot_full h20 hG hA hfa hB hfb hCC hfc hj hc hb hc1 ha' hc2 hz z0 z1 z2 z3 z4 z5 z6 hs60)
          · exact m_shoot_no hM hsh.1 (Or.inr hs60)
      · refine ⟨-1000000, tn, c0, c1, c2, sh, tx, s, kp, bw, ar, tu, k0, k1, tr, hR0, fun G n M hsio hC => ?_, fun G n M hM => ?_⟩
        · obtain ⟨g, g', fa, fb, fc, hgg, h20, hG, hA, hfa, hB, hfb, hCC, hfc, hst, hbo, har, hT, hV, h40⟩ := cl_open hc hc1 hc2 hC
          exact cl_qs hC (c12_shoot_a h20 hG hA hfa hB hfb hj hc hb hc1 ha')
        · exact m_shoot_no hM hsh.1 (Or.inl (by simp only [sp_in_out (show c2 < 2 ^ 31 by omega) ha', Bool.and_false, Bool.false_and]))
    · refine ⟨-1000000, tn, c0, c1, c2, sh, tx, s, kp, bw, ar, tu, k0, k1, tr, hR0, fun G n M hsio hC => ?_, fun G n M hM => ?_⟩
      · obtain ⟨g, g', fa, fb, fc, hgg, h20, hG, hA, hfa, hB, hfb, hCC, hfc, hst, hbo, har, hT, hV, h40⟩ := cl_open hc hc1 hc2 hC
        exact cl_qs hC (c12_shoot_b h20 hG hA hfa hCC hfc hj hc hc2 hb')
      · exact m_shoot_no hM hsh.1 (Or.inl (by simp only [sp_in_out (show c1 < 2 ^ 31 by omega) hb', Bool.and_false, Bool.false_and]))
  · refine ⟨-1000000, tn, c0, c1, c2, sh, tx, s, kp, bw, ar, tu, k0, k1, tr, hR0, fun G n M hsio hC => ?_, fun G n M hM => ?_⟩
    · obtain ⟨g, g', fa, fb, fc, hgg, h20, hG, hA, hfa, hB, hfb, hCC, hfc, hst, hbo, har, hT, hV, h40⟩ := cl_open hc hc1 hc2 hC
      exact cl_qs hC (c12_shoot_i h20 hG hB hfb hCC hfc hc1 hc2 hi)
    · exact m_shoot_no hM hsh.1 (Or.inl (by simp only [sp_in_out (show c0 < 2 ^ 31 by omega) hi, Bool.and_false, Bool.false_and]))
