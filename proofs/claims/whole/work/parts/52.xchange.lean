/-! ===== both sides: simple calls that change the state ===== -/
theorem cl_qs {G : ev_G} {y : ev_MI} {f n : Nat} {M : ev_M} {as : List Value} {v : Value} {tn c0 c1 c2 sh : Nat} {tx s kp bw ar tu : Nat → Int32} {k0 k1 : Bool} {tr : Int64} (hC : cl_S M tn c0 c1 c2 sh tx s kp bw ar tu k0 k1 tr) (h : ev_Cal G y f 0 0 as n M (ev_is (some v) M)) : ev_Cal G y f 0 0 as n M (fun r M1 => r = some v ∧ cl_S M1 tn c0 c1 c2 sh tx s kp bw ar tu k0 k1 tr ∧ ∀ k, 129 ≤ k → M1 k = M k) := h.post (fun r M1 q => ⟨q.1, by rw [q.2]; exact hC, fun k _ => by rw [q.2]⟩)
theorem cl_us {G : ev_G} {y : ev_MI} {f n : Nat} {M M' : ev_M} {as : List Value} {v : Value} {tn c0 c1 c2 sh : Nat} {tx s kp bw ar tu : Nat → Int32} {k0 k1 : Bool} {tr : Int64} (h : ev_Cal G y f 0 0 as n M (ev_is (some v) M')) (hC : cl_S M' tn c0 c1 c2 sh tx s kp bw ar tu k0 k1 tr) (hk : ∀ k, 129 ≤ k → M' k = M k) : ev_Cal G y f 0 0 as n M (fun r M1 => r = some v ∧ cl_S M1 tn c0 c1 c2 sh tx s kp bw ar tu k0 k1 tr ∧ ∀ k, 129 ≤ k → M1 k = M k) := h.post (fun r M1 q => ⟨q.1, by rw [q.2]; exact hC, fun k hh => by rw [q.2]; exact hk k hh⟩)
theorem cl_stk_c {M : ev_M} {a : Nat} {f f' : Nat → Int32} (h : cl_stk M a f) (e : ∀ k, k < 7 → f' k = f k) : cl_stk M a f' := by
  simp only [cl_stk] at h ⊢
  rw [h, e 0 (by decide), e 1 (by decide), e 2 (by decide), e 3 (by decide), e 4 (by decide), e 5 (by decide), e 6 (by decide)]
theorem cl_sheet_c {M : ev_M} {a n : Nat} {f f' : Nat → Int32} (h : cl_sheet M a n f) (e : ∀ k, k < 5 * n → f' k = f k) : cl_sheet M a n f' := by
  obtain ⟨f0, f1, f2, f3, f4, f5, f6, up, dn, h0, h1, h2, h3, h4, h5, h6, h7, h8⟩ := h
  exact ⟨f0, f1, f2, f3, f4, f5, f6, up, dn, h0, h1, h2, h3, h4, h5, h6, h7, fun k hk => by rw [e _ (by omega), e _ (by omega), e _ (by omega), e _ (by omega), e _ (by omega)]; exact h8 k hk⟩
/-- the picture may differ where nothing is looked at -/
theorem cl_S_cg {M : ev_M} {tn c0 c1 c2 sh : Nat} {tx s kp bw ar tu : Nat → Int32} {k0 k1 : Bool} {tr : Int64} {s' bw' ar' : Nat → Int32} (hC : cl_S M tn c0 c1 c2 sh tx s kp bw ar tu k0 k1 tr) (hs : ∀ k, k < 7 * c0 → s' k = s k) (h84 : s' 84 = s 84) (h85 : s' 85 = s 85) (h86 : ∀ k, k < 5 * sh → s' (86 + k) = s (86 + k)) (hb : ∀ k, k < 2 * c1 → bw' k = bw k) (ha : ∀ k, k < 2 * c2 → ar' k = ar k) : cl_S M tn c0 c1 c2 sh tx s' kp bw' ar' tu k0 k1 tr := by
  obtain ⟨g, g', d0, d1, d2, tb, sC, bC, aC, sD, bD, aD, nm, q0, q1, q2, pl, z0, z1, z2, t0, t1, t2, t3, t4, hgg, h20, h21, h22, htb, h24, h25, h26, h27, h850, h35, h36, h37, h38, h39, h40, h41, h63, hG, hsC, hbC, haC, hG', hd0, hd1, hd2⟩ := hC
  exact ⟨g, g', d0, d1, d2, tb, sC, bC, aC, sD, bD, aD, nm, q0, q1, q2, pl, z0, z1, z2, t0, t1, t2, t3, t4, hgg, by rw [h84]; exact h20, h21, h22, htb, h24, h25, h26, cl_sheet_c h27 h86, h85.trans h850, h35, h36, h37, h38, h39, h40, h41, h63, hG, fun k hk => (hsC k hk).trans (hs k hk).symm, fun k hk => (hbC k hk).trans (hb k hk).symm, fun k hk => (haC k hk).trans (ha k hk).symm, hG', hd0, hd1, hd2⟩
/-- one stick is another -/
theorem cl_S_stk {M M' : ev_M} {tn c0 c1 c2 sh : Nat} {tx s kp bw ar tu : Nat → Int32} {k0 k1 : Bool} {tr : Int64} {g g' j : Nat} {lot : Int32} {s' : Nat → Int32} (hc : c0 ≤ 12) (h20' : M 21 = .inr (11, [.ref 22, .ref 25, .ref 27, .ref 35, .ref 39, .ref 40, .ref 41, .ref 63, .ref g, .ref g', .int lot])) (hC : cl_S M tn c0 c1 c2 sh tx s kp bw ar tu k0 k1 tr) (hj : j < c0) (hs' : ∀ k, (k < 7 * j ∨ 7 * j + 7 ≤ k) → s' k = s k) (hk' : ∀ q, q ≠ g + 4 + j → M' q = M q) (hst : cl_stk M' (g + 4 + j) (fun k => s' (7 * j + k))) : cl_S M' tn c0 c1 c2 sh tx s' kp bw ar tu k0 k1 tr := by
  obtain ⟨u, u', d0, d1, d2, tb, sC, bC, aC, sD, bD, aD, nm, q0, q1, q2, pl, z0, z1, z2, t0, t1, t2, t3, t4, hgg, h20, h21, h22, htb, h24, h25, h26, h27, h85, h35, h36, h37, h38, h39, h40, h41, h63, hG, hsC, hbC, haC, hG', hd0, hd1, hd2⟩ := hC
  obtain ⟨rfl, rfl⟩ : u = g ∧ u' = g' := by
    have e := h20.symm.trans h20'
    simp only [Sum.inr.injEq, Prod.mk.injEq, List.cons.injEq, Value.ref.injEq] at e
    simp only [true_and] at e
    exact ⟨e.1, e.2.1⟩
  have hgs : ∀ q, (q < u + 4 + j ∨ u + 4 + j < q) → M' q = M q := fun q hq => hk' q (by omega)
  obtain ⟨hGg, ⟨fa, hA, hfa⟩, ⟨fb, hB, hfb⟩, ⟨fc, hCC, hfc⟩, hSS, hWW, hRR⟩ := hG
  have hk : ∀ q, (q < 85) → M' q = M q := fun q hq => hk' q (by omega)
  refine ⟨u, u', d0, d1, d2, tb, (fun k => if 7 * j ≤ k ∧ k < 7 * j + 7 then s' k else sC k), bC, aC, sD, bD, aD, nm, q0, q1, q2, pl, z0, z1, z2, t0, t1, t2, t3, t4, hgg, by rw [hk 21 (by decide), hs' 84 (by omega)]; exact h20, (hk 22 (by decide)).trans h21, (hk 23 (by decide)).trans h22, htb, (hk 24 (by decide)).trans h24, (hk 25 (by decide)).trans h25, (hk 26 (by decide)).trans h26, cl_sheet_c (cl_sheet_keep (fun a z1 z2 => hk a (by omega)) h27) (fun k _ => hs' (86 + k) (by omega)), (hs' 85 (by omega)).trans h85, (hk 35 (by decide)).trans h35, (hk 36 (by decide)).trans h36, (hk 37 (by decide)).trans h37, (hk 38 (by decide)).trans h38, (hk 39 (by decide)).trans h39, (hk 40 (by decide)).trans h40, cl_img_keep (fun a z1 z2 => hk a (by omega)) h41, cl_img_keep (fun a z1 z2 => hk a (by omega)) h63, ⟨(hk' u (by omega)).trans hGg, ⟨fa, (hk' _ (by omega)).trans hA, hfa⟩, ⟨fb, (hk' _ (by omega)).trans hB, hfb⟩, ⟨fc, (hk' _ (by omega)).trans hCC, hfc⟩, fun i hi => ?_, fun i hi => (hk' _ (by omega)).trans (hWW i hi), fun i hi => (hk' _ (by omega)).trans (hRR i hi)⟩, fun k hk2 => ?_, hbC, haC, cl_gear_keep (fun a z1 z2 => hgs a (by omega)) hG', hd0, hd1, hd2⟩
  · by_cases e : i = j
    · subst e
      exact cl_stk_c hst (fun k hk2 => if_pos (by omega))
    · have h := hSS i hi
      have h2 : cl_stk M' (u + 4 + i) (fun k => sC (7 * i + k)) := (hk' _ (by omega)).trans h
      exact cl_stk_c h2 (fun k hk2 => if_neg (by omega))
  · show (if 7 * j ≤ k ∧ k < 7 * j + 7 then s' k else sC k) = s' k
    split
    · rfl
    · rw [hs' k (by omega)]; exact hsC k hk2
theorem st_R_stk {tn c0 c1 c2 sh : Nat} {tx s kp bw ar tu : Nat → Int32} {k0 k1 : Bool} {j : Nat} {s' : Nat → Int32} (hR : st_R tn c0 c1 c2 sh tx s kp bw ar tu k0 k1) (hj : j < c0) (hs' : ∀ k, (k < 7 * j ∨ 7 * j + 7 ≤ k) → s' k = s k) (hk : st_stk (fun k => s' (7 * j + k))) : st_R tn c0 c1 c2 sh tx s' kp bw ar tu k0 k1 := by
  obtain ⟨⟨htn, htx⟩, ⟨hc, hs⟩, ⟨hc1, hw⟩, ⟨hc2, ha⟩, ht, hsh, hk0, hk1⟩ := hR
  refine ⟨⟨htn, htx⟩, ⟨hc, fun i hi => ?_⟩, ⟨hc1, hw⟩, ⟨hc2, ha⟩, ht, ⟨hsh.1, fun k hk2 => ?_⟩, hk0, hk1⟩
  · by_cases e : i = j
    · subst e; exact hk
    · have h := hs i hi
      simp only [st_stk] at h ⊢
      rw [hs' _ (by omega), hs' _ (by omega), hs' _ (by omega), hs' _ (by omega), hs' _ (by omega), hs' _ (by omega), hs' _ (by omega)]
      exact h
  · have h := hsh.2 k hk2
    show (∃ i, i < c0 ∧ s' (86 + 5 * k) = nI i) ∧ (0 ≤ s' (86 + (5 * k + 1)) ∧ s' (86 + (5 * k + 1)) < 3) ∧ (0 ≤ s' (86 + (5 * k + 2)) ∧ s' (86 + (5 * k + 2)) < 3) ∧ (-1000 ≤ s' (86 + (5 * k + 3)) ∧ s' (86 + (5 * k + 3)) ≤ 1000)
    rw [hs' _ (by omega), hs' _ (by omega), hs' _ (by omega), hs' _ (by omega)]
    exact h
theorem upd_at {f : Nat → Int32} {k : Nat} {x : Int32} : upd f k x k = x := if_pos rfl
theorem upd_ne {f : Nat → Int32} {k i : Nat} {x : Int32} (h : i ≠ k) : upd f k x i = f i := if_neg h
theorem sp_min_ti (a b : Int32) : (sp_min a b).toInt = min a.toInt b.toInt := by
  unfold sp_min
  split
  · rename_i h; have h1 := Int32.lt_iff_toInt_lt.mp h; omega
  · rename_i h; have h1 := Int32.le_iff_toInt_le.mp (Int32.not_lt.mp h); omega
theorem x_scr {a b w : Int32} (h2 : 20 ≤ a.toInt ∧ a.toInt ≤ 99) (h3 : 20 ≤ b.toInt ∧ b.toInt ≤ 99) (h1 : 200 ≤ w.toInt ∧ w.toInt ≤ 600) : (sp_scr a b w).toInt = min (min a.toInt b.toInt - 20) ((w.toInt - 200) / 2) := by
  have e1 : (sp_min a b - 20).toInt = min a.toInt b.toInt - 20 := by
    have hm := sp_min_ti a b
    rw [ti_sub (A := 99) (B := 20) (rb_of (a := 20) (b := 99) (by omega) (by omega) (by omega) (by omega)) (rb_l (by decide +kernel)) (by omega), hm]
    rfl
  have e2 : ((w - 200) / 2).toInt = (w.toInt - 200) / 2 := by
    have e3 : (w - 200).toInt = w.toInt - 200 := by
      rw [ti_sub (A := 600) (B := 200) (rb_of h1.1 h1.2 (by omega) (by omega)) (rb_l (by decide +kernel)) (by omega)]
      rfl
    rw [ti_div (by decide +kernel), e3, show ((2 : Int32).toInt) = 2 from rfl, Int.tdiv_eq_ediv_of_nonneg (by omega)]
  rw [sp_scr, sp_min_ti, e1, e2]
theorem x_scr_iff {a b w : Int32} (h2 : 20 ≤ a.toInt ∧ a.toInt ≤ 99) (h3 : 20 ≤ b.toInt ∧ b.toInt ≤ 99) (h1 : 200 ≤ w.toInt ∧ w.toInt ≤ 600) : (1 ≤ sp_scr a b w) ↔ ((20 ≤ a - 1 ∧ 20 ≤ b - 1) ∧ 200 ≤ w - 2 * 1) := by
  have ea : (a - 1).toInt = a.toInt - 1 := by rw [ti_sub (A := 99) (B := 1) (rb_of h2.1 h2.2 (by omega) (by omega)) (rb_l (by decide +kernel)) (by omega)]; rfl
  have eb : (b - 1).toInt = b.toInt - 1 := by rw [ti_sub (A := 99) (B := 1) (rb_of h3.1 h3.2 (by omega) (by omega)) (rb_l (by decide +kernel)) (by omega)]; rfl
  have ew : (w - 2 * 1).toInt = w.toInt - 2 := by rw [ti_sub (A := 600) (B := 2) (rb_of h1.1 h1.2 (by omega) (by omega)) (rb_l (by decide +kernel)) (by omega)]; rfl
  rw [Int32.le_iff_toInt_le, Int32.le_iff_toInt_le, Int32.le_iff_toInt_le, Int32.le_iff_toInt_le, x_scr h2 h3 h1, ea, eb, ew, show (1 : Int32).toInt = 1 from rfl, show (20 : Int32).toInt = 20 from rfl, show (200 : Int32).toInt = 200 from rfl]
  omega
theorem x_load_iff {t : Int32} (h : 0 ≤ t.toInt ∧ t.toInt ≤ 200) : (1 ≤ (200 - t) / 5) ↔ (t + 5 ≤ 200) := by
  have e1 : (200 - t).toInt = 200 - t.toInt := by rw [ti_sub (A := 200) (B := 200) (rb_l (by decide +kernel)) (rb_of h.1 h.2 (by omega) (by omega)) (by omega)]; rfl
  have e2 : (t + 5).toInt = t.toInt + 5 := by rw [ti_add (A := 200) (B := 5) (rb_of h.1 h.2 (by omega) (by omega)) (rb_l (by decide +kernel)) (by omega)]; rfl
  rw [Int32.le_iff_toInt_le, Int32.le_iff_toInt_le, ti_div (by decide +kernel), e1, e2, show (1 : Int32).toInt = 1 from rfl, show (5 : Int32).toInt = 5 from rfl, show (200 : Int32).toInt = 200 from rfl, Int.tdiv_eq_ediv_of_nonneg (by omega)]
  omega
theorem x_cut_iff {t : Int32} (h : 80 ≤ t.toInt ∧ t.toInt ≤ 130) : (1 ≤ t - 80) ↔ ¬ t = 80 := by
  have e1 : (t - 80).toInt = t.toInt - 80 := by rw [ti_sub (A := 130) (B := 80) (rb_of h.1 h.2 (by omega) (by omega)) (rb_l (by decide +kernel)) (by omega)]; rfl
  rw [Int32.le_iff_toInt_le, e1, show (1 : Int32).toInt = 1 from rfl]
  constructor
  · rintro h1 rfl
    exact absurd h1 (by decide +kernel)
  · intro h1
    have : ¬ t.toInt = 80 := fun e => h1 (Int32.toInt_inj.mp e)
    omega
theorem x_le {a : Int32} {z : Int32} {b : Int} (h : b ≤ a.toInt) (e : z.toInt = b) : z ≤ a := Int32.le_iff_toInt_le.mpr (by rw [e]; exact h)
theorem x_ge {a : Int32} {z : Int32} {b : Int} (h : a.toInt ≤ b) (e : z.toInt = b) : a ≤ z := Int32.le_iff_toInt_le.mpr (by rw [e]; exact h)
theorem x_down {a z : Int32} {lo hi d : Int} {A : Nat} (h : lo ≤ a.toInt ∧ a.toInt ≤ hi) (ez : z.toInt = d) (hd : 0 ≤ d ∧ d ≤ 5) (hA : -(A : Int) ≤ lo ∧ hi ≤ A) (hA2 : A < 1000) : (a - z).toInt = a.toInt - d := by
  rw [ti_sub (A := A) (B := 5) (rb_of h.1 h.2 hA.1 hA.2) (rb_of (a := 0) (b := 5) (by omega) (by omega) (by omega) (by omega)) (by omega), ez]
theorem x_up {a z : Int32} {lo hi d : Int} {A : Nat} (h : lo ≤ a.toInt ∧ a.toInt ≤ hi) (ez : z.toInt = d) (hd : 0 ≤ d ∧ d ≤ 5) (hA : -(A : Int) ≤ lo ∧ hi ≤ A) (hA2 : A < 1000) : (a + z).toInt = a.toInt + d := by
  rw [ti_add (A := A) (B := 5) (rb_of h.1 h.2 hA.1 hA.2) (rb_of (a := 0) (b := 5) (by omega) (by omega) (by omega) (by omega)) (by omega), ez]
theorem x_cut (i : Int32) : x_ok mX11_cut mX12_cut 2 3 [.int i] := by
  refine x_ok_s (fun tn c0 c1 c2 sh tx s kp bw ar tu k0 k1 tr hR => ?_)
  have hR0 := hR
  obtain ⟨⟨htn, htx⟩, ⟨hc, hs⟩, ⟨hc1, hw⟩, ⟨hc2, ha⟩, ht, hsh, hk0, hk1⟩ := hR
  rcases sp_pos (i := i) (c := c0) (by omega) with ⟨j, hj, rfl⟩ | hi
  · have hsk := sk_of (hs j hj)
    have hb0 : 80 ≤ (s (7 * j)).toInt ∧ (s (7 * j)).toInt ≤ 130 := hsk.1
    have hb1 : 200 ≤ (s (7 * j + 1)).toInt ∧ (s (7 * j + 1)).toInt ≤ 600 := hsk.2.1
    have hb2 : 20 ≤ (s (7 * j + 2)).toInt ∧ (s (7 * j + 2)).toInt ≤ 99 := hsk.2.2.1
    have hb3 : 20 ≤ (s (7 * j + 3)).toInt ∧ (s (7 * j + 3)).toInt ≤ 99 := hsk.2.2.2.1
    have hb4 : 0 ≤ (s (7 * j + 4)).toInt ∧ (s (7 * j + 4)).toInt ≤ 200 := hsk.2.2.2.2.1
    have hb6 := (hs j hj).2.2.2.2.2.2
    by_cases hcd : ¬ s (7 * j) = 80
    · have e0 : (upd s (7 * j) (s (7 * j) - 1)) (7 * j + 0) = s (7 * j) - 1 := upd_at
      have e1 : (upd s (7 * j) (s (7 * j) - 1)) (7 * j + 1) = s (7 * j + 1) := (upd_ne (by omega))
      have e2 : (upd s (7 * j) (s (7 * j) - 1)) (7 * j + 2) = s (7 * j + 2) := (upd_ne (by omega))
      have e3 : (upd s (7 * j) (s (7 * j) - 1)) (7 * j + 3) = s (7 * j + 3) := (upd_ne (by omega))
      have e4 : (upd s (7 * j) (s (7 * j) - 1)) (7 * j + 4) = s (7 * j + 4) := (upd_ne (by omega))
      have e5 : (upd s (7 * j) (s (7 * j) - 1)) (7 * j + 5) = s (7 * j + 5) := (upd_ne (by omega))
      have e6 : (upd s (7 * j) (s (7 * j) - 1)) (7 * j + 6) = s (7 * j + 6) := (upd_ne (by omega))
      have hk7 : st_stk (fun k => (upd s (7 * j) (s (7 * j) - 1)) (7 * j + k)) := by
        show (80 ≤ (upd s (7 * j) (s (7 * j) - 1)) (7 * j + 0) ∧ (upd s (7 * j) (s (7 * j) - 1)) (7 * j + 0) ≤ 130) ∧ (200 ≤ (upd s (7 * j) (s (7 * j) - 1)) (7 * j + 1) ∧ (upd s (7 * j) (s (7 * j) - 1)) (7 * j + 1) ≤ 600) ∧ (20 ≤ (upd s (7 * j) (s (7 * j) - 1)) (7 * j + 2) ∧ (upd s (7 * j) (s (7 * j) - 1)) (7 * j + 2) ≤ 99) ∧ (20 ≤ (upd s (7 * j) (s (7 * j) - 1)) (7 * j + 3) ∧ (upd s (7 * j) (s (7 * j) - 1)) (7 * j + 3) ≤ 99) ∧ (0 ≤ (upd s (7 * j) (s (7 * j) - 1)) (7 * j + 4) ∧ (upd s (7 * j) (s (7 * j) - 1)) (7 * j + 4) ≤ 200) ∧ (0 ≤ (upd s (7 * j) (s (7 * j) - 1)) (7 * j + 5) ∧ (upd s (7 * j) (s (7 * j) - 1)) (7 * j + 5) ≤ 9) ∧ ((upd s (7 * j) (s (7 * j) - 1)) (7 * j + 6) = 0 ∨ (upd s (7 * j) (s (7 * j) - 1)) (7 * j + 6) = 1)
        rw [e0, e1, e2, e3, e4, e5, e6]
        exact ⟨⟨x_le (b := 80) (by have h1 : ¬ (s (7 * j)).toInt = 80 := fun e => hcd (Int32.toInt_inj.mp e); have h2 : 80 ≤ (s (7 * j)).toInt := hb0.1; rw [x_down (A := 130) hb0 (show (1 : Int32).toInt = 1 from rfl) (by decide) (by decide) (by decide)]; omega) rfl, x_ge (b := 130) (by have h2 : (s (7 * j)).toInt ≤ 130 := hb0.2; rw [x_down (A := 130) hb0 (show (1 : Int32).toInt = 1 from rfl) (by decide) (by decide) (by decide)]; omega) rfl⟩, (hs j hj).2⟩
      have hfr : ∀ k, (k < 7 * j ∨ 7 * j + 7 ≤ k) → (upd s (7 * j) (s (7 * j) - 1)) k = s k := fun k hk => (upd_ne (by omega))
      refine ⟨s (7 * j) - 1, tn, c0, c1, c2, sh, tx, (upd s (7 * j) (s (7 * j) - 1)), kp, bw, ar, tu, k0, k1, tr, st_R_stk hR0 hj hfr hk7, fun G n M hsio hC => ?_, fun G n M hM => ?_⟩
      · obtain ⟨g, g', fa, fb, fc, hgg, h20, hG, hA, hfa, hB, hfb, hCC, hfc, hst, hbo, har, hT, hV, h40⟩ := cl_open hc hc1 hc2 hC
        exact cl_us (c12_cut_ok (s := fun q => s (7 * j + q)) h20 hG hA hfa hj hc (hst j hj) ((x_cut_iff hb0).mpr hcd)) (cl_S_stk hc h20 hC hj hfr (fun q hq => ev_set_ne hq) (by rw [cl_stk, ev_set_eq, e0, e1, e2, e3, e4, e5, e6]; try rfl)) (fun k hk => ev_set_ne (by omega))
      · exact m_cut hM hj hc hcd
    · refine ⟨-2, tn, c0, c1, c2, sh, tx, s, kp, bw, ar, tu, k0, k1, tr, hR0, fun G n M hsio hC => ?_, fun G n M hM => ?_⟩
      · obtain ⟨g, g', fa, fb, fc, hgg, h20, hG, hA, hfa, hB, hfb, hCC, hfc, hst, hbo, har, hT, hV, h40⟩ := cl_open hc hc1 hc2 hC
        exact cl_qs hC (c12_cut_no (s := fun q => s (7 * j + q)) h20 hG hA hfa hj hc (hst j hj) (Int32.not_le.mp (fun h => hcd ((x_cut_iff hb0).mp h))))
      · exact m_cut_no hM hj hc (Decidable.not_not.mp hcd)
  · refine ⟨-1, tn, c0, c1, c2, sh, tx, s, kp, bw, ar, tu, k0, k1, tr, hR0, fun G n M hsio hC => ?_, fun G n M hM => ?_⟩
    · obtain ⟨g, g', fa, fb, fc, hgg, h20, hG, hA, hfa, hB, hfb, hCC, hfc, hst, hbo, har, hT, hV, h40⟩ := cl_open hc hc1 hc2 hC
      exact cl_qs hC (c12_cut_i h20 hG hi)
    · exact m_cut_i hM hc hi
theorem x_scrape (i : Int32) : x_ok mX11_scrape mX12_scrape 2 3 [.int i] := by
  refine x_ok_s (fun tn c0 c1 c2 sh tx s kp bw ar tu k0 k1 tr hR => ?_)
  have hR0 := hR
  obtain ⟨⟨htn, htx⟩, ⟨hc, hs⟩, ⟨hc1, hw⟩, ⟨hc2, ha⟩, ht, hsh, hk0, hk1⟩ := hR
  rcases sp_pos (i := i) (c := c0) (by omega) with ⟨j, hj, rfl⟩ | hi
  · have hsk := sk_of (hs j hj)
    have hb0 : 80 ≤ (s (7 * j)).toInt ∧ (s (7 * j)).toInt ≤ 130 := hsk.1
    have hb1 : 200 ≤ (s (7 * j + 1)).toInt ∧ (s (7 * j + 1)).toInt ≤ 600 := hsk.2.1
    have hb2 : 20 ≤ (s (7 * j + 2)).toInt ∧ (s (7 * j + 2)).toInt ≤ 99 := hsk.2.2.1
    have hb3 : 20 ≤ (s (7 * j + 3)).toInt ∧ (s (7 * j + 3)).toInt ≤ 99 := hsk.2.2.2.1
    have hb4 : 0 ≤ (s (7 * j + 4)).toInt ∧ (s (7 * j + 4)).toInt ≤ 200 := hsk.2.2.2.2.1
    have hb6 := (hs j hj).2.2.2.2.2.2
    by_cases hcd : (20 ≤ s (7 * j + 2) - 1 ∧ 20 ≤ s (7 * j + 3) - 1) ∧ 200 ≤ s (7 * j + 1) - 2 * 1
    · have e0 : (upd (upd (upd s (7 * j + 2) (s (7 * j + 2) - 1)) (7 * j + 3) (s (7 * j + 3) - 1)) (7 * j + 1) (s (7 * j + 1) - 2)) (7 * j + 0) = s (7 * j + 0) := ((upd_ne (by omega)).trans ((upd_ne (by omega)).trans (upd_ne (by omega))))
      have e1 : (upd (upd (upd s (7 * j + 2) (s (7 * j + 2) - 1)) (7 * j + 3) (s (7 * j + 3) - 1)) (7 * j + 1) (s (7 * j + 1) - 2)) (7 * j + 1) = s (7 * j + 1) - 2 := upd_at
      have e2 : (upd (upd (upd s (7 * j + 2) (s (7 * j + 2) - 1)) (7 * j + 3) (s (7 * j + 3) - 1)) (7 * j + 1) (s (7 * j + 1) - 2)) (7 * j + 2) = s (7 * j + 2) - 1 := ((upd_ne (by omega)).trans ((upd_ne (by omega)).trans upd_at))
      have e3 : (upd (upd (upd s (7 * j + 2) (s (7 * j + 2) - 1)) (7 * j + 3) (s (7 * j + 3) - 1)) (7 * j + 1) (s (7 * j + 1) - 2)) (7 * j + 3) = s (7 * j + 3) - 1 := ((upd_ne (by omega)).trans upd_at)
      have e4 : (upd (upd (upd s (7 * j + 2) (s (7 * j + 2) - 1)) (7 * j + 3) (s (7 * j + 3) - 1)) (7 * j + 1) (s (7 * j + 1) - 2)) (7 * j + 4) = s (7 * j + 4) := ((upd_ne (by omega)).trans ((upd_ne (by omega)).trans (upd_ne (by omega))))
      have e5 : (upd (upd (upd s (7 * j + 2) (s (7 * j + 2) - 1)) (7 * j + 3) (s (7 * j + 3) - 1)) (7 * j + 1) (s (7 * j + 1) - 2)) (7 * j + 5) = s (7 * j + 5) := ((upd_ne (by omega)).trans ((upd_ne (by omega)).trans (upd_ne (by omega))))
      have e6 : (upd (upd (upd s (7 * j + 2) (s (7 * j + 2) - 1)) (7 * j + 3) (s (7 * j + 3) - 1)) (7 * j + 1) (s (7 * j + 1) - 2)) (7 * j + 6) = s (7 * j + 6) := ((upd_ne (by omega)).trans ((upd_ne (by omega)).trans (upd_ne (by omega))))
      have hk7 : st_stk (fun k => (upd (upd (upd s (7 * j + 2) (s (7 * j + 2) - 1)) (7 * j + 3) (s (7 * j + 3) - 1)) (7 * j + 1) (s (7 * j + 1) - 2)) (7 * j + k)) := by
        show (80 ≤ (upd (upd (upd s (7 * j + 2) (s (7 * j + 2) - 1)) (7 * j + 3) (s (7 * j + 3) - 1)) (7 * j + 1) (s (7 * j + 1) - 2)) (7 * j + 0) ∧ (upd (upd (upd s (7 * j + 2) (s (7 * j + 2) - 1)) (7 * j + 3) (s (7 * j + 3) - 1)) (7 * j + 1) (s (7 * j + 1) - 2)) (7 * j + 0) ≤ 130) ∧ (200 ≤ (upd (upd (upd s (7 * j + 2) (s (7 * j + 2) - 1)) (7 * j + 3) (s (7 * j + 3) - 1)) (7 * j + 1) (s (7 * j + 1) - 2)) (7 * j + 1) ∧ (upd (upd (upd s (7 * j + 2) (s (7 * j + 2) - 1)) (7 * j + 3) (s (7 * j + 3) - 1)) (7 * j + 1) (s (7 * j + 1) - 2)) (7 * j + 1) ≤ 600) ∧ (20 ≤ (upd (upd (upd s (7 * j + 2) (s (7 * j + 2) - 1)) (7 * j + 3) (s (7 * j + 3) - 1)) (7 * j + 1) (s (7 * j + 1) - 2)) (7 * j + 2) ∧ (upd (upd (upd s (7 * j + 2) (s (7 * j + 2) - 1)) (7 * j + 3) (s (7 * j + 3) - 1)) (7 * j + 1) (s (7 * j + 1) - 2)) (7 * j + 2) ≤ 99) ∧ (20 ≤ (upd (upd (upd s (7 * j + 2) (s (7 * j + 2) - 1)) (7 * j + 3) (s (7 * j + 3) - 1)) (7 * j + 1) (s (7 * j + 1) - 2)) (7 * j + 3) ∧ (upd (upd (upd s (7 * j + 2) (s (7 * j + 2) - 1)) (7 * j + 3) (s (7 * j + 3) - 1)) (7 * j + 1) (s (7 * j + 1) - 2)) (7 * j + 3) ≤ 99) ∧ (0 ≤ (upd (upd (upd s (7 * j + 2) (s (7 * j + 2) - 1)) (7 * j + 3) (s (7 * j + 3) - 1)) (7 * j + 1) (s (7 * j + 1) - 2)) (7 * j + 4) ∧ (upd (upd (upd s (7 * j + 2) (s (7 * j + 2) - 1)) (7 * j + 3) (s (7 * j + 3) - 1)) (7 * j + 1) (s (7 * j + 1) - 2)) (7 * j + 4) ≤ 200) ∧ (0 ≤ (upd (upd (upd s (7 * j + 2) (s (7 * j + 2) - 1)) (7 * j + 3) (s (7 * j + 3) - 1)) (7 * j + 1) (s (7 * j + 1) - 2)) (7 * j + 5) ∧ (upd (upd (upd s (7 * j + 2) (s (7 * j + 2) - 1)) (7 * j + 3) (s (7 * j + 3) - 1)) (7 * j + 1) (s (7 * j + 1) - 2)) (7 * j + 5) ≤ 9) ∧ ((upd (upd (upd s (7 * j + 2) (s (7 * j + 2) - 1)) (7 * j + 3) (s (7 * j + 3) - 1)) (7 * j + 1) (s (7 * j + 1) - 2)) (7 * j + 6) = 0 ∨ (upd (upd (upd s (7 * j + 2) (s (7 * j + 2) - 1)) (7 * j + 3) (s (7 * j + 3) - 1)) (7 * j + 1) (s (7 * j + 1) - 2)) (7 * j + 6) = 1)
        rw [e0, e1, e2, e3, e4, e5, e6]
        exact ⟨(hs j hj).1, ⟨hcd.2, x_ge (b := 600) (by have h2 : (s (7 * j + 1)).toInt ≤ 600 := hb1.2; rw [x_down (A := 600) hb1 (show (2 : Int32).toInt = 2 from rfl) (by decide) (by decide) (by decide)]; omega) rfl⟩, ⟨hcd.1.1, x_ge (b := 99) (by have h2 : (s (7 * j + 2)).toInt ≤ 99 := hb2.2; rw [x_down (A := 99) hb2 (show (1 : Int32).toInt = 1 from rfl) (by decide) (by decide) (by decide)]; omega) rfl⟩, ⟨hcd.1.2, x_ge (b := 99) (by have h2 : (s (7 * j + 3)).toInt ≤ 99 := hb3.2; rw [x_down (A := 99) hb3 (show (1 : Int32).toInt = 1 from rfl) (by decide) (by decide) (by decide)]; omega) rfl⟩, (hs j hj).2.2.2.2⟩
      have hfr : ∀ k, (k < 7 * j ∨ 7 * j + 7 ≤ k) → (upd (upd (upd s (7 * j + 2) (s (7 * j + 2) - 1)) (7 * j + 3) (s (7 * j + 3) - 1)) (7 * j + 1) (s (7 * j + 1) - 2)) k = s k := fun k hk => ((upd_ne (by omega)).trans ((upd_ne (by omega)).trans (upd_ne (by omega))))
      refine ⟨s (7 * j + 1) - 2, tn, c0, c1, c2, sh, tx, (upd (upd (upd s (7 * j + 2) (s (7 * j + 2) - 1)) (7 * j + 3) (s (7 * j + 3) - 1)) (7 * j + 1) (s (7 * j + 1) - 2)), kp, bw, ar, tu, k0, k1, tr, st_R_stk hR0 hj hfr hk7, fun G n M hsio hC => ?_, fun G n M hM => ?_⟩
      · obtain ⟨g, g', fa, fb, fc, hgg, h20, hG, hA, hfa, hB, hfb, hCC, hfc, hst, hbo, har, hT, hV, h40⟩ := cl_open hc hc1 hc2 hC
        exact cl_us (c12_scrape_ok (s := fun q => s (7 * j + q)) h20 hG hA hfa hj hc (hst j hj) ((x_scr_iff hb2 hb3 hb1).mpr hcd)) (cl_S_stk hc h20 hC hj hfr (fun q hq => ev_set_ne hq) (by rw [cl_stk, ev_set_eq, e0, e1, e2, e3, e4, e5, e6]; try rfl)) (fun k hk => ev_set_ne (by omega))
      · exact m_scrape hM hj hc hcd
    · refine ⟨-2, tn, c0, c1, c2, sh, tx, s, kp, bw, ar, tu, k0, k1, tr, hR0, fun G n M hsio hC => ?_, fun G n M hM => ?_⟩
      · obtain ⟨g, g', fa, fb, fc, hgg, h20, hG, hA, hfa, hB, hfb, hCC, hfc, hst, hbo, har, hT, hV, h40⟩ := cl_open hc hc1 hc2 hC
        exact cl_qs hC (c12_scrape_no (s := fun q => s (7 * j + q)) h20 hG hA hfa hj hc (hst j hj) (Int32.not_le.mp (fun h => hcd ((x_scr_iff hb2 hb3 hb1).mp h))))
      · exact m_scrape_no hM hj hc hcd
  · refine ⟨-1, tn, c0, c1, c2, sh, tx, s, kp, bw, ar, tu, k0, k1, tr, hR0, fun G n M hsio hC => ?_, fun G n M hM => ?_⟩
    · obtain ⟨g, g', fa, fb, fc, hgg, h20, hG, hA, hfa, hB, hfb, hCC, hfc, hst, hbo, har, hT, hV, h40⟩ := cl_open hc hc1 hc2 hC
      exact cl_qs hC (c12_scrape_i h20 hG hi)
    · exact m_scrape_i hM hc hi
theorem x_load (i : Int32) : x_ok mX11_load mX12_load 2 3 [.int i] := by
  refine x_ok_s (fun tn c0 c1 c2 sh tx s kp bw ar tu k0 k1 tr hR => ?_)
  have hR0 := hR
  obtain ⟨⟨htn, htx⟩, ⟨hc, hs⟩, ⟨hc1, hw⟩, ⟨hc2, ha⟩, ht, hsh, hk0, hk1⟩ := hR
  rcases sp_pos (i := i) (c := c0) (by omega) with ⟨j, hj, rfl⟩ | hi
  · have hsk := sk_of (hs j hj)
    have hb0 : 80 ≤ (s (7 * j)).toInt ∧ (s (7 * j)).toInt ≤ 130 := hsk.1
    have hb1 : 200 ≤ (s (7 * j + 1)).toInt ∧ (s (7 * j + 1)).toInt ≤ 600 := hsk.2.1
    have hb2 : 20 ≤ (s (7 * j + 2)).toInt ∧ (s (7 * j + 2)).toInt ≤ 99 := hsk.2.2.1
    have hb3 : 20 ≤ (s (7 * j + 3)).toInt ∧ (s (7 * j + 3)).toInt ≤ 99 := hsk.2.2.2.1
    have hb4 : 0 ≤ (s (7 * j + 4)).toInt ∧ (s (7 * j + 4)).toInt ≤ 200 := hsk.2.2.2.2.1
    have hb6 := (hs j hj).2.2.2.2.2.2
    by_cases hcd : s (7 * j + 4) + 5 ≤ 200
    · have e0 : (upd s (7 * j + 4) (s (7 * j + 4) + 5)) (7 * j + 0) = s (7 * j + 0) := (upd_ne (by omega))
      have e1 : (upd s (7 * j + 4) (s (7 * j + 4) + 5)) (7 * j + 1) = s (7 * j + 1) := (upd_ne (by omega))
      have e2 : (upd s (7 * j + 4) (s (7 * j + 4) + 5)) (7 * j + 2) = s (7 * j + 2) := (upd_ne (by omega))
      have e3 : (upd s (7 * j + 4) (s (7 * j + 4) + 5)) (7 * j + 3) = s (7 * j + 3) := (upd_ne (by omega))
      have e4 : (upd s (7 * j + 4) (s (7 * j + 4) + 5)) (7 * j + 4) = s (7 * j + 4) + 5 := upd_at
      have e5 : (upd s (7 * j + 4) (s (7 * j + 4) + 5)) (7 * j + 5) = s (7 * j + 5) := (upd_ne (by omega))
      have e6 : (upd s (7 * j + 4) (s (7 * j + 4) + 5)) (7 * j + 6) = s (7 * j + 6) := (upd_ne (by omega))
      have hk7 : st_stk (fun k => (upd s (7 * j + 4) (s (7 * j + 4) + 5)) (7 * j + k)) := by
        show (80 ≤ (upd s (7 * j + 4) (s (7 * j + 4) + 5)) (7 * j + 0) ∧ (upd s (7 * j + 4) (s (7 * j + 4) + 5)) (7 * j + 0) ≤ 130) ∧ (200 ≤ (upd s (7 * j + 4) (s (7 * j + 4) + 5)) (7 * j + 1) ∧ (upd s (7 * j + 4) (s (7 * j + 4) + 5)) (7 * j + 1) ≤ 600) ∧ (20 ≤ (upd s (7 * j + 4) (s (7 * j + 4) + 5)) (7 * j + 2) ∧ (upd s (7 * j + 4) (s (7 * j + 4) + 5)) (7 * j + 2) ≤ 99) ∧ (20 ≤ (upd s (7 * j + 4) (s (7 * j + 4) + 5)) (7 * j + 3) ∧ (upd s (7 * j + 4) (s (7 * j + 4) + 5)) (7 * j + 3) ≤ 99) ∧ (0 ≤ (upd s (7 * j + 4) (s (7 * j + 4) + 5)) (7 * j + 4) ∧ (upd s (7 * j + 4) (s (7 * j + 4) + 5)) (7 * j + 4) ≤ 200) ∧ (0 ≤ (upd s (7 * j + 4) (s (7 * j + 4) + 5)) (7 * j + 5) ∧ (upd s (7 * j + 4) (s (7 * j + 4) + 5)) (7 * j + 5) ≤ 9) ∧ ((upd s (7 * j + 4) (s (7 * j + 4) + 5)) (7 * j + 6) = 0 ∨ (upd s (7 * j + 4) (s (7 * j + 4) + 5)) (7 * j + 6) = 1)
        rw [e0, e1, e2, e3, e4, e5, e6]
        exact ⟨(hs j hj).1, (hs j hj).2.1, (hs j hj).2.2.1, (hs j hj).2.2.2.1, ⟨x_le (b := 0) (by have h2 : 0 ≤ (s (7 * j + 4)).toInt := hb4.1; rw [x_up (A := 200) hb4 (show (5 : Int32).toInt = 5 from rfl) (by decide) (by decide) (by decide)]; omega) rfl, hcd⟩, (hs j hj).2.2.2.2.2⟩
      have hfr : ∀ k, (k < 7 * j ∨ 7 * j + 7 ≤ k) → (upd s (7 * j + 4) (s (7 * j + 4) + 5)) k = s k := fun k hk => (upd_ne (by omega))
      refine ⟨s (7 * j + 4) + 5, tn, c0, c1, c2, sh, tx, (upd s (7 * j + 4) (s (7 * j + 4) + 5)), kp, bw, ar, tu, k0, k1, tr, st_R_stk hR0 hj hfr hk7, fun G n M hsio hC => ?_, fun G n M hM => ?_⟩
      · obtain ⟨g, g', fa, fb, fc, hgg, h20, hG, hA, hfa, hB, hfb, hCC, hfc, hst, hbo, har, hT, hV, h40⟩ := cl_open hc hc1 hc2 hC
        exact cl_us (c12_load_ok (s := fun q => s (7 * j + q)) h20 hG hA hfa hj hc (hst j hj) ((x_load_iff hb4).mpr hcd)) (cl_S_stk hc h20 hC hj hfr (fun q hq => ev_set_ne hq) (by rw [cl_stk, ev_set_eq, e0, e1, e2, e3, e4, e5, e6]; try rfl)) (fun k hk => ev_set_ne (by omega))
      · exact m_load hM hj hc hcd
    · refine ⟨-2, tn, c0, c1, c2, sh, tx, s, kp, bw, ar, tu, k0, k1, tr, hR0, fun G n M hsio hC => ?_, fun G n M hM => ?_⟩
      · obtain ⟨g, g', fa, fb, fc, hgg, h20, hG, hA, hfa, hB, hfb, hCC, hfc, hst, hbo, har, hT, hV, h40⟩ := cl_open hc hc1 hc2 hC
        exact cl_qs hC (c12_load_no (s := fun q => s (7 * j + q)) h20 hG hA hfa hj hc (hst j hj) (Int32.not_le.mp (fun h => hcd ((x_load_iff hb4).mp h))))
      · exact m_load_no hM hj hc (Int32.not_le.mp hcd)
  · refine ⟨-1, tn, c0, c1, c2, sh, tx, s, kp, bw, ar, tu, k0, k1, tr, hR0, fun G n M hsio hC => ?_, fun G n M hM => ?_⟩
    · obtain ⟨g, g', fa, fb, fc, hgg, h20, hG, hA, hfa, hB, hfb, hCC, hfc, hst, hbo, har, hT, hV, h40⟩ := cl_open hc hc1 hc2 hC
      exact cl_qs hC (c12_load_i h20 hG hi)
    · exact m_load_i hM hc hi
theorem x_turn (i : Int32) : x_ok mX11_turn mX12_turn 2 3 [.int i] := by
  refine x_ok_s (fun tn c0 c1 c2 sh tx s kp bw ar tu k0 k1 tr hR => ?_)
  have hR0 := hR
  obtain ⟨⟨htn, htx⟩, ⟨hc, hs⟩, ⟨hc1, hw⟩, ⟨hc2, ha⟩, ht, hsh, hk0, hk1⟩ := hR
  rcases sp_pos (i := i) (c := c0) (by omega) with ⟨j, hj, rfl⟩ | hi
  · have hsk := sk_of (hs j hj)
    have hb0 : 80 ≤ (s (7 * j)).toInt ∧ (s (7 * j)).toInt ≤ 130 := hsk.1
    have hb1 : 200 ≤ (s (7 * j + 1)).toInt ∧ (s (7 * j + 1)).toInt ≤ 600 := hsk.2.1
    have hb2 : 20 ≤ (s (7 * j + 2)).toInt ∧ (s (7 * j + 2)).toInt ≤ 99 := hsk.2.2.1
    have hb3 : 20 ≤ (s (7 * j + 3)).toInt ∧ (s (7 * j + 3)).toInt ≤ 99 := hsk.2.2.2.1
    have hb4 : 0 ≤ (s (7 * j + 4)).toInt ∧ (s (7 * j + 4)).toInt ≤ 200 := hsk.2.2.2.2.1
    have hb6 := (hs j hj).2.2.2.2.2.2
    have e0 : (upd s (7 * j + 6) (1 - s (7 * j + 6))) (7 * j + 0) = s (7 * j + 0) := (upd_ne (by omega))
    have e1 : (upd s (7 * j + 6) (1 - s (7 * j + 6))) (7 * j + 1) = s (7 * j + 1) := (upd_ne (by omega))
    have e2 : (upd s (7 * j + 6) (1 - s (7 * j + 6))) (7 * j + 2) = s (7 * j + 2) := (upd_ne (by omega))
    have e3 : (upd s (7 * j + 6) (1 - s (7 * j + 6))) (7 * j + 3) = s (7 * j + 3) := (upd_ne (by omega))
    have e4 : (upd s (7 * j + 6) (1 - s (7 * j + 6))) (7 * j + 4) = s (7 * j + 4) := (upd_ne (by omega))
    have e5 : (upd s (7 * j + 6) (1 - s (7 * j + 6))) (7 * j + 5) = s (7 * j + 5) := (upd_ne (by omega))
    have e6 : (upd s (7 * j + 6) (1 - s (7 * j + 6))) (7 * j + 6) = 1 - s (7 * j + 6) := upd_at
    have hk7 : st_stk (fun k => (upd s (7 * j + 6) (1 - s (7 * j + 6))) (7 * j + k)) := by
      show (80 ≤ (upd s (7 * j + 6) (1 - s (7 * j + 6))) (7 * j + 0) ∧ (upd s (7 * j + 6) (1 - s (7 * j + 6))) (7 * j + 0) ≤ 130) ∧ (200 ≤ (upd s (7 * j + 6) (1 - s (7 * j + 6))) (7 * j + 1) ∧ (upd s (7 * j + 6) (1 - s (7 * j + 6))) (7 * j + 1) ≤ 600) ∧ (20 ≤ (upd s (7 * j + 6) (1 - s (7 * j + 6))) (7 * j + 2) ∧ (upd s (7 * j + 6) (1 - s (7 * j + 6))) (7 * j + 2) ≤ 99) ∧ (20 ≤ (upd s (7 * j + 6) (1 - s (7 * j + 6))) (7 * j + 3) ∧ (upd s (7 * j + 6) (1 - s (7 * j + 6))) (7 * j + 3) ≤ 99) ∧ (0 ≤ (upd s (7 * j + 6) (1 - s (7 * j + 6))) (7 * j + 4) ∧ (upd s (7 * j + 6) (1 - s (7 * j + 6))) (7 * j + 4) ≤ 200) ∧ (0 ≤ (upd s (7 * j + 6) (1 - s (7 * j + 6))) (7 * j + 5) ∧ (upd s (7 * j + 6) (1 - s (7 * j + 6))) (7 * j + 5) ≤ 9) ∧ ((upd s (7 * j + 6) (1 - s (7 * j + 6))) (7 * j + 6) = 0 ∨ (upd s (7 * j + 6) (1 - s (7 * j + 6))) (7 * j + 6) = 1)
      rw [e0, e1, e2, e3, e4, e5, e6]
      exact ⟨(hs j hj).1, (hs j hj).2.1, (hs j hj).2.2.1, (hs j hj).2.2.2.1, (hs j hj).2.2.2.2.1, (hs j hj).2.2.2.2.2.1, by rcases hb6 with e | e <;> (have e : s (7 * j + 6) = _ := e; rw [e]; decide)⟩
    have hfr : ∀ k, (k < 7 * j ∨ 7 * j + 7 ≤ k) → (upd s (7 * j + 6) (1 - s (7 * j + 6))) k = s k := fun k hk => (upd_ne (by omega))
    refine ⟨1 - s (7 * j + 6), tn, c0, c1, c2, sh, tx, (upd s (7 * j + 6) (1 - s (7 * j + 6))), kp, bw, ar, tu, k0, k1, tr, st_R_stk hR0 hj hfr hk7, fun G n M hsio hC => ?_, fun G n M hM => ?_⟩
    · obtain ⟨g, g', fa, fb, fc, hgg, h20, hG, hA, hfa, hB, hfb, hCC, hfc, hst, hbo, har, hT, hV, h40⟩ := cl_open hc hc1 hc2 hC
      exact cl_us (c12_turn_ok (s := fun q => s (7 * j + q)) h20 hG hA hfa hj hc (hst j hj)) (cl_S_stk hc h20 hC hj hfr (fun q hq => ev_set_ne hq) (by rw [cl_stk, ev_set_eq, e0, e1, e2, e3, e4, e5, e6]; try rfl)) (fun k hk => ev_set_ne (by omega))
    · exact m_turn hM hj hc
  · refine ⟨-1, tn, c0, c1, c2, sh, tx, s, kp, bw, ar, tu, k0, k1, tr, hR0, fun G n M hsio hC => ?_, fun G n M hM => ?_⟩
    · obtain ⟨g, g', fa, fb, fc, hgg, h20, hG, hA, hfa, hB, hfb, hCC, hfc, hst, hbo, har, hT, hV, h40⟩ := cl_open hc hc1 hc2 hC
      exact cl_qs hC (c12_turn_i h20 hG hi)
    · exact m_turn_i hM hc hi
theorem cl_S_clear {M : ev_M} {tn c0 c1 c2 sh : Nat} {tx s kp bw ar tu : Nat → Int32} {k0 k1 : Bool} {tr : Int64} {pl' : Int32} (hC : cl_S M tn c0 c1 c2 sh tx s kp bw ar tu k0 k1 tr) : cl_S (ev_set M 22 (.inr (7, [.ref 23, .ref 24, .int pl', .int 0]))) 0 c0 c1 c2 sh tx s kp bw ar tu k0 k1 tr := by
  obtain ⟨g, g', d0, d1, d2, tb, sC, bC, aC, sD, bD, aD, nm, q0, q1, q2, pl, z0, z1, z2, t0, t1, t2, t3, t4, hgg, h20, h21, h22, htb, h24, h25, h26, h27, h85, h35, h36, h37, h38, h39, h40, h41, h63, hG, hsC, hbC, haC, hG', hd0, hd1, hd2⟩ := hC
  have hk : ∀ q, q ≠ 22 → ev_set M 22 (.inr (7, [.ref 23, .ref 24, .int pl', .int 0])) q = M q := fun q hq => ev_set_ne hq
  exact ⟨g, g', d0, d1, d2, _, _, _, _, _, _, _, _, _, _, _, _, _, _, _, _, _, _, _, _, hgg, ((hk 21 (by omega)).trans h20), ev_set_eq, ((hk 23 (by omega)).trans h22), fun k hk2 => absurd hk2 (Nat.not_lt_zero k), ((hk 24 (by omega)).trans h24), ((hk 25 (by omega)).trans h25), ((hk 26 (by omega)).trans h26), (cl_sheet_keep (fun a z1 z2 => hk a (by omega)) h27), h85, ((hk 35 (by omega)).trans h35), ((hk 36 (by omega)).trans h36), ((hk 37 (by omega)).trans h37), ((hk 38 (by omega)).trans h38), ((hk 39 (by omega)).trans h39), ((hk 40 (by omega)).trans h40), (cl_img_keep (fun a z1 z2 => hk a (by omega)) h41), (cl_img_keep (fun a z1 z2 => hk a (by omega)) h63), (cl_gear_keep (fun a z1 z2 => hk a (by omega)) hG), hsC, hbC, haC, (cl_gear_keep (fun a z1 z2 => hk a (by omega)) hG'), hd0, hd1, hd2⟩
theorem cl_S_trace {M : ev_M} {tn c0 c1 c2 sh : Nat} {tx s kp bw ar tu : Nat → Int32} {k0 k1 : Bool} {tr : Int64} {tr' : Int64} (hC : cl_S M tn c0 c1 c2 sh tx s kp bw ar tu k0 k1 tr) : cl_S (ev_set M 40 (.inr (5, [.long tr']))) tn c0 c1 c2 sh tx s kp bw ar tu k0 k1 tr' := by
  obtain ⟨g, g', d0, d1, d2, tb, sC, bC, aC, sD, bD, aD, nm, q0, q1, q2, pl, z0, z1, z2, t0, t1, t2, t3, t4, hgg, h20, h21, h22, htb, h24, h25, h26, h27, h85, h35, h36, h37, h38, h39, h40, h41, h63, hG, hsC, hbC, haC, hG', hd0, hd1, hd2⟩ := hC
  have hk : ∀ q, q ≠ 40 → ev_set M 40 (.inr (5, [.long tr'])) q = M q := fun q hq => ev_set_ne hq
  exact ⟨g, g', d0, d1, d2, _, _, _, _, _, _, _, _, _, _, _, _, _, _, _, _, _, _, _, _, hgg, ((hk 21 (by omega)).trans h20), ((hk 22 (by omega)).trans h21), ((hk 23 (by omega)).trans h22), htb, ((hk 24 (by omega)).trans h24), ((hk 25 (by omega)).trans h25), ((hk 26 (by omega)).trans h26), (cl_sheet_keep (fun a z1 z2 => hk a (by omega)) h27), h85, ((hk 35 (by omega)).trans h35), ((hk 36 (by omega)).trans h36), ((hk 37 (by omega)).trans h37), ((hk 38 (by omega)).trans h38), ((hk 39 (by omega)).trans h39), ev_set_eq, (cl_img_keep (fun a z1 z2 => hk a (by omega)) h41), (cl_img_keep (fun a z1 z2 => hk a (by omega)) h63), (cl_gear_keep (fun a z1 z2 => hk a (by omega)) hG), hsC, hbC, haC, (cl_gear_keep (fun a z1 z2 => hk a (by omega)) hG'), hd0, hd1, hd2⟩
theorem cl_S_tune {M : ev_M} {tn c0 c1 c2 sh : Nat} {tx s kp bw ar tu : Nat → Int32} {k0 k1 : Bool} {tr : Int64} {tu' : Nat → Int32} (hC : cl_S M tn c0 c1 c2 sh tx s kp bw ar tu k0 k1 tr) : cl_S (ev_set M 26 (.inl (0, 4, .inl tu'))) tn c0 c1 c2 sh tx s kp bw ar tu' k0 k1 tr := by
  obtain ⟨g, g', d0, d1, d2, tb, sC, bC, aC, sD, bD, aD, nm, q0, q1, q2, pl, z0, z1, z2, t0, t1, t2, t3, t4, hgg, h20, h21, h22, htb, h24, h25, h26, h27, h85, h35, h36, h37, h38, h39, h40, h41, h63, hG, hsC, hbC, haC, hG', hd0, hd1, hd2⟩ := hC
  have hk : ∀ q, q ≠ 26 → ev_set M 26 (.inl (0, 4, .inl tu')) q = M q := fun q hq => ev_set_ne hq
  exact ⟨g, g', d0, d1, d2, _, _, _, _, _, _, _, _, _, _, _, _, _, _, _, _, _, _, _, _, hgg, ((hk 21 (by omega)).trans h20), ((hk 22 (by omega)).trans h21), ((hk 23 (by omega)).trans h22), htb, ((hk 24 (by omega)).trans h24), ((hk 25 (by omega)).trans h25), ev_set_eq, (cl_sheet_keep (fun a z1 z2 => hk a (by omega)) h27), h85, ((hk 35 (by omega)).trans h35), ((hk 36 (by omega)).trans h36), ((hk 37 (by omega)).trans h37), ((hk 38 (by omega)).trans h38), ((hk 39 (by omega)).trans h39), ((hk 40 (by omega)).trans h40), (cl_img_keep (fun a z1 z2 => hk a (by omega)) h41), (cl_img_keep (fun a z1 z2 => hk a (by omega)) h63), (cl_gear_keep (fun a z1 z2 => hk a (by omega)) hG), hsC, hbC, haC, (cl_gear_keep (fun a z1 z2 => hk a (by omega)) hG'), hd0, hd1, hd2⟩
theorem cl_S_lot {M : ev_M} {tn c0 c1 c2 sh : Nat} {tx s kp bw ar tu : Nat → Int32} {k0 k1 : Bool} {tr : Int64} {g g' : Nat} {lot v : Int32} (hc : c0 ≤ 12) (h20' : M 21 = .inr (11, [.ref 22, .ref 25, .ref 27, .ref 35, .ref 39, .ref 40, .ref 41, .ref 63, .ref g, .ref g', .int lot])) (hC : cl_S M tn c0 c1 c2 sh tx s kp bw ar tu k0 k1 tr) : cl_S (ev_set M 21 (.inr (11, [.ref 22, .ref 25, .ref 27, .ref 35, .ref 39, .ref 40, .ref 41, .ref 63, .ref g, .ref g', .int v]))) tn c0 c1 c2 sh tx (upd s 84 v) kp bw ar tu k0 k1 tr := by
  obtain ⟨u, u', d0, d1, d2, tb, sC, bC, aC, sD, bD, aD, nm, q0, q1, q2, pl, z0, z1, z2, t0, t1, t2, t3, t4, hgg, h20, h21, h22, htb, h24, h25, h26, h27, h85, h35, h36, h37, h38, h39, h40, h41, h63, hG, hsC, hbC, haC, hG', hd0, hd1, hd2⟩ := hC
  obtain ⟨rfl, rfl⟩ : u = g ∧ u' = g' := by
    have e := h20.symm.trans h20'
    simp only [Sum.inr.injEq, Prod.mk.injEq, List.cons.injEq, Value.ref.injEq] at e
    simp only [true_and] at e
    exact ⟨e.1, e.2.1⟩
  have hk : ∀ q, q ≠ 21 → ev_set M 21 (.inr (11, [.ref 22, .ref 25, .ref 27, .ref 35, .ref 39, .ref 40, .ref 41, .ref 63, .ref u, .ref u', .int v])) q = M q := fun q hq => ev_set_ne hq
  exact ⟨u, u', d0, d1, d2, _, _, _, _, _, _, _, _, _, _, _, _, _, _, _, _, _, _, _, _, hgg, ev_set_eq.trans (by rw [upd_at]), ((hk 22 (by omega)).trans h21), ((hk 23 (by omega)).trans h22), htb, ((hk 24 (by omega)).trans h24), ((hk 25 (by omega)).trans h25), ((hk 26 (by omega)).trans h26), cl_sheet_c (cl_sheet_keep (fun a z1 z2 => hk a (by omega)) h27) (fun k _ => upd_ne (by omega)), (upd_ne (by decide)).trans h85, ((hk 35 (by omega)).trans h35), ((hk 36 (by omega)).trans h36), ((hk 37 (by omega)).trans h37), ((hk 38 (by omega)).trans h38), ((hk 39 (by omega)).trans h39), ((hk 40 (by omega)).trans h40), (cl_img_keep (fun a z1 z2 => hk a (by omega)) h41), (cl_img_keep (fun a z1 z2 => hk a (by omega)) h63), (cl_gear_keep (fun a z1 z2 => hk a (by omega)) hG), fun k hk2 => (hsC k hk2).trans (upd_ne (by omega)).symm, hbC, haC, (cl_gear_keep (fun a z1 z2 => hk a (by omega)) hG'), hd0, hd1, hd2⟩
theorem cl_S_wipe {M : ev_M} {tn c0 c1 c2 sh : Nat} {tx s kp bw ar tu : Nat → Int32} {k0 k1 : Bool} {tr : Int64} {up dn : Int64} (hc : c0 ≤ 12) (hC : cl_S M tn c0 c1 c2 sh tx s kp bw ar tu k0 k1 tr) : cl_S (ev_set M 27 (.inr (8, [.ref (27 + 1), .ref (27 + 2), .ref (27 + 3), .ref (27 + 4), .ref (27 + 5), .ref (27 + 6), .ref (27 + 7), .long up, .long dn, .int 0]))) tn c0 c1 c2 0 tx (upd s 85 0) kp bw ar tu k0 k1 tr := by
  obtain ⟨g, g', d0, d1, d2, tb, sC, bC, aC, sD, bD, aD, nm, q0, q1, q2, pl, z0, z1, z2, t0, t1, t2, t3, t4, hgg, h20, h21, h22, htb, h24, h25, h26, h27, h85, h35, h36, h37, h38, h39, h40, h41, h63, hG, hsC, hbC, haC, hG', hd0, hd1, hd2⟩ := hC
  have hk : ∀ q, q ≠ 27 → ev_set M 27 (.inr (8, [.ref (27 + 1), .ref (27 + 2), .ref (27 + 3), .ref (27 + 4), .ref (27 + 5), .ref (27 + 6), .ref (27 + 7), .long up, .long dn, .int 0])) q = M q := fun q hq => ev_set_ne hq
  obtain ⟨f0, f1, f2, f3, f4, f5, f6, up', dn', y0, y1, y2, y3, y4, y5, y6, y7, y8⟩ := h27
  exact ⟨g, g', d0, d1, d2, _, _, _, _, _, _, _, _, _, _, _, _, _, _, _, _, _, _, _, _, hgg, (hk 21 (by omega)).trans (by rw [upd_ne (by decide)]; exact h20), ((hk 22 (by omega)).trans h21), ((hk 23 (by omega)).trans h22), htb, ((hk 24 (by omega)).trans h24), ((hk 25 (by omega)).trans h25), ((hk 26 (by omega)).trans h26), ⟨f0, f1, f2, f3, f4, f5, f6, up, dn, ev_set_eq, (hk _ (by decide)).trans y1, (hk _ (by decide)).trans y2, (hk _ (by decide)).trans y3, (hk _ (by decide)).trans y4, (hk _ (by decide)).trans y5, (hk _ (by decide)).trans y6, (hk _ (by decide)).trans y7, fun k hk2 => absurd hk2 (Nat.not_lt_zero k)⟩, upd_at, ((hk 35 (by omega)).trans h35), ((hk 36 (by omega)).trans h36), ((hk 37 (by omega)).trans h37), ((hk 38 (by omega)).trans h38), ((hk 39 (by omega)).trans h39), ((hk 40 (by omega)).trans h40), (cl_img_keep (fun a z1 z2 => hk a (by omega)) h41), (cl_img_keep (fun a z1 z2 => hk a (by omega)) h63), (cl_gear_keep (fun a z1 z2 => hk a (by omega)) hG), fun k hk2 => (hsC k hk2).trans (upd_ne (by omega)).symm, hbC, haC, (cl_gear_keep (fun a z1 z2 => hk a (by omega)) hG'), hd0, hd1, hd2⟩
theorem st_R_o {tn c0 c1 c2 sh : Nat} {tx s kp bw ar tu : Nat → Int32} {k0 k1 : Bool} {s' : Nat → Int32} (hR : st_R tn c0 c1 c2 sh tx s kp bw ar tu k0 k1) (hs' : ∀ k, (k < 84 ∨ 85 < k) → s' k = s k) : st_R tn c0 c1 c2 sh tx s' kp bw ar tu k0 k1 := by
  obtain ⟨⟨htn, htx⟩, ⟨hc, hs⟩, ⟨hc1, hw⟩, ⟨hc2, ha⟩, ht, hsh, hk0, hk1⟩ := hR
  refine ⟨⟨htn, htx⟩, ⟨hc, fun i hi => ?_⟩, ⟨hc1, hw⟩, ⟨hc2, ha⟩, ht, ⟨hsh.1, fun k hk2 => ?_⟩, hk0, hk1⟩
  · have h := hs i hi
    simp only [st_stk] at h ⊢
    rw [hs' _ (by omega), hs' _ (by omega), hs' _ (by omega), hs' _ (by omega), hs' _ (by omega), hs' _ (by omega), hs' _ (by omega)]
    exact h
  · have h := hsh.2 k hk2
    show (∃ i, i < c0 ∧ s' (86 + 5 * k) = nI i) ∧ (0 ≤ s' (86 + (5 * k + 1)) ∧ s' (86 + (5 * k + 1)) < 3) ∧ (0 ≤ s' (86 + (5 * k + 2)) ∧ s' (86 + (5 * k + 2)) < 3) ∧ (-1000 ≤ s' (86 + (5 * k + 3)) ∧ s' (86 + (5 * k + 3)) ≤ 1000)
    rw [hs' _ (by omega), hs' _ (by omega), hs' _ (by omega), hs' _ (by omega)]
    exact h
theorem st_R_0 {tn c0 c1 c2 sh : Nat} {tx s kp bw ar tu : Nat → Int32} {k0 k1 : Bool} (hR : st_R tn c0 c1 c2 sh tx s kp bw ar tu k0 k1) : st_R tn c0 c1 c2 0 tx s kp bw ar tu k0 k1 := ⟨hR.1, hR.2.1, hR.2.2.1, hR.2.2.2.1, hR.2.2.2.2.1, ⟨Nat.zero_le _, fun k h => absurd h (Nat.not_lt_zero k)⟩, hR.2.2.2.2.2.2⟩
theorem st_R_t0 {tn c0 c1 c2 sh : Nat} {tx s kp bw ar tu : Nat → Int32} {k0 k1 : Bool} (hR : st_R tn c0 c1 c2 sh tx s kp bw ar tu k0 k1) : st_R 0 c0 c1 c2 sh tx s kp bw ar tu k0 k1 := ⟨⟨Nat.zero_le _, fun k h => absurd h (Nat.not_lt_zero k)⟩, hR.2⟩
theorem x_clear  : x_ok mX11_clear mX12_clear 2 1 [] := by
  refine x_ok_s (fun tn c0 c1 c2 sh tx s kp bw ar tu k0 k1 tr hR => ?_)
  have hR0 := hR
  obtain ⟨⟨htn, htx⟩, ⟨hc, hs⟩, ⟨hc1, hw⟩, ⟨hc2, ha⟩, ht, hsh, hk0, hk1⟩ := hR
  refine ⟨nI tn, 0, c0, c1, c2, sh, tx, s, kp, bw, ar, tu, k0, k1, tr, st_R_t0 hR0, fun G n M hsio hC => ?_, fun G n M hM => ?_⟩
  · obtain ⟨g, g', fa, fb, fc, hgg, h20, hG, hA, hfa, hB, hfb, hCC, hfc, hst, hbo, har, hT, hV, h40⟩ := cl_open hc hc1 hc2 hC
    obtain ⟨pl, hT2⟩ := cl_open21 hC
    exact cl_us (c12_clear h20 hT2) (cl_S_clear hC) (fun k hk => ev_set_ne (by omega))
  · exact m_clear hM
theorem x_lot (v : Int32) : x_ok mX11_lot mX12_lot 1 1 [.int v] := by
  refine x_ok_s (fun tn c0 c1 c2 sh tx s kp bw ar tu k0 k1 tr hR => ?_)
  have hR0 := hR
  obtain ⟨⟨htn, htx⟩, ⟨hc, hs⟩, ⟨hc1, hw⟩, ⟨hc2, ha⟩, ht, hsh, hk0, hk1⟩ := hR
  refine ⟨s 84, tn, c0, c1, c2, sh, tx, (upd s 84 v), kp, bw, ar, tu, k0, k1, tr, st_R_o hR0 (fun k hk => upd_ne (by omega)), fun G n M hsio hC => ?_, fun G n M hM => ?_⟩
  · obtain ⟨g, g', fa, fb, fc, hgg, h20, hG, hA, hfa, hB, hfb, hCC, hfc, hst, hbo, har, hT, hV, h40⟩ := cl_open hc hc1 hc2 hC
    exact cl_us (c12_lot h20) (cl_S_lot hc h20 hC) (fun k hk => ev_set_ne (by omega))
  · exact m_lot hM
theorem x_wipe  : x_ok mX11_wipe mX12_wipe 2 1 [] := by
  refine x_ok_s (fun tn c0 c1 c2 sh tx s kp bw ar tu k0 k1 tr hR => ?_)
  have hR0 := hR
  obtain ⟨⟨htn, htx⟩, ⟨hc, hs⟩, ⟨hc1, hw⟩, ⟨hc2, ha⟩, ht, hsh, hk0, hk1⟩ := hR
  refine ⟨nI sh, tn, c0, c1, c2, 0, tx, (upd s 85 0), kp, bw, ar, tu, k0, k1, tr, st_R_0 (st_R_o hR0 (fun k hk => upd_ne (by omega))), fun G n M hsio hC => ?_, fun G n M hM => ?_⟩
  · obtain ⟨g, g', fa, fb, fc, hgg, h20, hG, hA, hfa, hB, hfb, hCC, hfc, hst, hbo, har, hT, hV, h40⟩ := cl_open hc hc1 hc2 hC
    obtain ⟨f0, f1, f2, f3, f4, f5, f6, up, dn, hz, z0, z1, z2, z3, z4, z5, z6, hff⟩ := cl_open27 hC
    exact cl_us (c12_wipe h20 hz z0 z1 z2 z3 z4 z5 z6) (cl_S_wipe hc hC) (fun k hk => ev_set_ne (by omega))
  · exact m_wipe hM
theorem x_tune (w v : Int32) : x_ok mX11_tune mX12_tune 3 2 [.int w, .int v] := by
  refine x_ok_s (fun tn c0 c1 c2 sh tx s kp bw ar tu k0 k1 tr hR => ?_)
  have hR0 := hR
  obtain ⟨⟨htn, htx⟩, ⟨hc, hs⟩, ⟨hc1, hw⟩, ⟨hc2, ha⟩, ht, hsh, hk0, hk1⟩ := hR
  rcases sp_pos (i := w) (c := 4) (by decide) with ⟨k, hk, rfl⟩ | hw'
  · rcases k with _ | _ | _ | _ | k
    · by_cases hv : sp_in v 0 20 = true
      · refine ⟨tu 0, tn, c0, c1, c2, sh, tx, s, kp, bw, ar, (upd tu 0 v), k0, k1, tr, ⟨⟨htn, htx⟩, ⟨hc, hs⟩, ⟨hc1, hw⟩, ⟨hc2, ha⟩, ⟨(by rw [upd_at]; exact sp_in_iff.mp hv), (by rw [upd_ne (by decide)]; exact ht.2.1), (by rw [upd_ne (by decide)]; exact ht.2.2.1), (by rw [upd_ne (by decide)]; exact ht.2.2.2)⟩, hsh, hk0, hk1⟩, fun G n M hsio hC => ?_, fun G n M hM => ?_⟩
        · obtain ⟨g, g', fa, fb, fc, hgg, h20, hG, hA, hfa, hB, hfb, hCC, hfc, hst, hbo, har, hT, hV, h40⟩ := cl_open hc hc1 hc2 hC
          exact cl_us (c12_tune_0 h20 hT hV hv) (cl_S_tune hC) (fun k hk => ev_set_ne (by omega))
        · exact m_tune_0 hM (sp_in_iff.mp hv)
      · have hvf : sp_in v 0 20 = false := Bool.not_eq_true _ ▸ hv
        refine ⟨-1000000, tn, c0, c1, c2, sh, tx, s, kp, bw, ar, tu, k0, k1, tr, hR0, fun G n M hsio hC => ?_, fun G n M hM => ?_⟩
        · obtain ⟨g, g', fa, fb, fc, hgg, h20, hG, hA, hfa, hB, hfb, hCC, hfc, hst, hbo, har, hT, hV, h40⟩ := cl_open hc hc1 hc2 hC
          exact cl_qs hC (c12_tune_0_no h20 hT hV hvf)
        · exact m_tune_0_no hM (sp_in_no.mp hvf)
    · by_cases hv : sp_in v 0 60 = true
      · refine ⟨tu 1, tn, c0, c1, c2, sh, tx, s, kp, bw, ar, (upd tu 1 v), k0, k1, tr, ⟨⟨htn, htx⟩, ⟨hc, hs⟩, ⟨hc1, hw⟩, ⟨hc2, ha⟩, ⟨(by rw [upd_ne (by decide)]; exact ht.1), (by rw [upd_at]; exact sp_in_iff.mp hv), (by rw [upd_ne (by decide)]; exact ht.2.2.1), (by rw [upd_ne (by decide)]; exact ht.2.2.2)⟩, hsh, hk0, hk1⟩, fun G n M hsio hC => ?_, fun G n M hM => ?_⟩
        · obtain ⟨g, g', fa, fb, fc, hgg, h20, hG, hA, hfa, hB, hfb, hCC, hfc, hst, hbo, har, hT, hV, h40⟩ := cl_open hc hc1 hc2 hC
          exact cl_us (c12_tune_1 h20 hT hV hv) (cl_S_tune hC) (fun k hk => ev_set_ne (by omega))
        · exact m_tune_1 hM (sp_in_iff.mp hv)
      · have hvf : sp_in v 0 60 = false := Bool.not_eq_true _ ▸ hv
        refine ⟨-1000000, tn, c0, c1, c2, sh, tx, s, kp, bw, ar, tu, k0, k1, tr, hR0, fun G n M hsio hC => ?_, fun G n M hM => ?_⟩
        · obtain ⟨g, g', fa, fb, fc, hgg, h20, hG, hA, hfa, hB, hfb, hCC, hfc, hst, hbo, har, hT, hV, h40⟩ := cl_open hc hc1 hc2 hC
          exact cl_qs hC (c12_tune_1_no h20 hT hV hvf)
        · exact m_tune_1_no hM (sp_in_no.mp hvf)
    · by_cases hv : sp_in v 0 30 = true
      · refine ⟨tu 2, tn, c0, c1, c2, sh, tx, s, kp, bw, ar, (upd tu 2 v), k0, k1, tr, ⟨⟨htn, htx⟩, ⟨hc, hs⟩, ⟨hc1, hw⟩, ⟨hc2, ha⟩, ⟨(by rw [upd_ne (by decide)]; exact ht.1), (by rw [upd_ne (by decide)]; exact ht.2.1), (by rw [upd_at]; exact sp_in_iff.mp hv), (by rw [upd_ne (by decide)]; exact ht.2.2.2)⟩, hsh, hk0, hk1⟩, fun G n M hsio hC => ?_, fun G n M hM => ?_⟩
        · obtain ⟨g, g', fa, fb, fc, hgg, h20, hG, hA, hfa, hB, hfb, hCC, hfc, hst, hbo, har, hT, hV, h40⟩ := cl_open hc hc1 hc2 hC
          exact cl_us (c12_tune_2 h20 hT hV hv) (cl_S_tune hC) (fun k hk => ev_set_ne (by omega))
        · exact m_tune_2 hM (sp_in_iff.mp hv)
      · have hvf : sp_in v 0 30 = false := Bool.not_eq_true _ ▸ hv
        refine ⟨-1000000, tn, c0, c1, c2, sh, tx, s, kp, bw, ar, tu, k0, k1, tr, hR0, fun G n M hsio hC => ?_, fun G n M hM => ?_⟩
        · obtain ⟨g, g', fa, fb, fc, hgg, h20, hG, hA, hfa, hB, hfb, hCC, hfc, hst, hbo, har, hT, hV, h40⟩ := cl_open hc hc1 hc2 hC
          exact cl_qs hC (c12_tune_2_no h20 hT hV hvf)
        · exact m_tune_2_no hM (sp_in_no.mp hvf)
    · by_cases hv : sp_in v (-9) 9 = true
      · refine ⟨tu 3, tn, c0, c1, c2, sh, tx, s, kp, bw, ar, (upd tu 3 v), k0, k1, tr, ⟨⟨htn, htx⟩, ⟨hc, hs⟩, ⟨hc1, hw⟩, ⟨hc2, ha⟩, ⟨(by rw [upd_ne (by decide)]; exact ht.1), (by rw [upd_ne (by decide)]; exact ht.2.1), (by rw [upd_ne (by decide)]; exact ht.2.2.1), (by rw [upd_at]; exact sp_in_iff.mp hv)⟩, hsh, hk0, hk1⟩, fun G n M hsio hC => ?_, fun G n M hM => ?_⟩
        · obtain ⟨g, g', fa, fb, fc, hgg, h20, hG, hA, hfa, hB, hfb, hCC, hfc, hst, hbo, har, hT, hV, h40⟩ := cl_open hc hc1 hc2 hC
          exact cl_us (c12_tune_3 h20 hT hV hv) (cl_S_tune hC) (fun k hk => ev_set_ne (by omega))
        · exact m_tune_3 hM (sp_in_iff.mp hv)
      · have hvf : sp_in v (-9) 9 = false := Bool.not_eq_true _ ▸ hv
        refine ⟨-1000000, tn, c0, c1, c2, sh, tx, s, kp, bw, ar, tu, k0, k1, tr, hR0, fun G n M hsio hC => ?_, fun G n M hM => ?_⟩
        · obtain ⟨g, g', fa, fb, fc, hgg, h20, hG, hA, hfa, hB, hfb, hCC, hfc, hst, hbo, har, hT, hV, h40⟩ := cl_open hc hc1 hc2 hC
          exact cl_qs hC (c12_tune_3_no h20 hT hV hvf)
        · exact m_tune_3_no hM (sp_in_no.mp hvf)
    · omega
  · refine ⟨-1000000, tn, c0, c1, c2, sh, tx, s, kp, bw, ar, tu, k0, k1, tr, hR0, fun G n M hsio hC => ?_, fun G n M hM => ?_⟩
    · obtain ⟨g, g', fa, fb, fc, hgg, h20, hG, hA, hfa, hB, hfb, hCC, hfc, hst, hbo, har, hT, hV, h40⟩ := cl_open hc hc1 hc2 hC
      exact cl_qs hC (c12_tune_w h20 hT hV (x_hI (k := 3) (by decide) hw'))
    · exact m_tune_w hM (x_hI (k := 3) (by decide) hw')
theorem x_rate (w i : Int32) : x_ok mX11_rate mX12_rate 9 6 [.int w, .int i] := by
  refine x_ok_s (fun tn c0 c1 c2 sh tx s kp bw ar tu k0 k1 tr hR => ?_)
  have hR0 := hR
  obtain ⟨⟨htn, htx⟩, ⟨hc, hs⟩, ⟨hc1, hw⟩, ⟨hc2, ha⟩, ht, hsh, hk0, hk1⟩ := hR
  rcases sp_pos (i := i) (c := c0) (by omega) with ⟨j, hj, rfl⟩ | hi
  · by_cases hb : 0 < c1
    · rcases sp_pos (i := w) (c := 6) (by decide) with ⟨k, hk, rfl⟩ | hw'
      · rcases k with _ | _ | _ | _ | _ | _ | k
        · refine ⟨fx_sp (fun q => s (7 * j + q)), tn, c0, c1, c2, sh, tx, s, kp, bw, ar, tu, k0, k1, (tr + 1), hR0, fun G n M hsio hC => ?_, fun G n M hM => ?_⟩
          · obtain ⟨g, g', fa, fb, fc, hgg, h20, hG, hA, hfa, hB, hfb, hCC, hfc, hst, hbo, har, hT, hV, h40⟩ := cl_open hc hc1 hc2 hC
            have h := c12_rate_0 (G := G) (n := n) (s := fun q => s (7 * j + q)) h20 hG hA hfa hB hfb hj hc hb hc1 (hst j hj) (hbo 0 hb) hT hV h40 (by omega)
            exact cl_us h (cl_S_trace hC) (fun k hk => ev_set_ne (by omega))
          · exact m_rate_0 hM hj hc hb hc1 (sk_of (hs j hj)) (bw_of (hw 0 hb)) (tu_of ht)
        · refine ⟨fx_sp (fun q => s (7 * j + q)) + s (7 * j + 1), tn, c0, c1, c2, sh, tx, s, kp, bw, ar, tu, k0, k1, (tr + 11), hR0, fun G n M hsio hC => ?_, fun G n M hM => ?_⟩
          · obtain ⟨g, g', fa, fb, fc, hgg, h20, hG, hA, hfa, hB, hfb, hCC, hfc, hst, hbo, har, hT, hV, h40⟩ := cl_open hc hc1 hc2 hC
            have et : tr + 10 + 1 = tr + 11 := by simp only [Int64.add_assoc]; rfl
            have h := c12_rate_1 (G := G) (n := n) (s := fun q => s (7 * j + q)) h20 hG hA hfa hB hfb hj hc hb hc1 (hst j hj) (hbo 0 hb) hT hV h40 (by omega)
            rw [et] at h
            exact cl_us h (cl_S_trace hC) (fun k hk => ev_set_ne (by omega))
          · exact m_rate_1 hM hj hc hb hc1 (sk_of (hs j hj)) (bw_of (hw 0 hb)) (tu_of ht)
        · refine ⟨fx_sp (fun q => s (7 * j + q)) - fx_dr (fun q => s (7 * j + q)) (bw (2 * 0)), tn, c0, c1, c2, sh, tx, s, kp, bw, ar, tu, k0, k1, (tr + 101), hR0, fun G n M hsio hC => ?_, fun G n M hM => ?_⟩
          · obtain ⟨g, g', fa, fb, fc, hgg, h20, hG, hA, hfa, hB, hfb, hCC, hfc, hst, hbo, har, hT, hV, h40⟩ := cl_open hc hc1 hc2 hC
            have et : tr + 100 + 1 = tr + 101 := by simp only [Int64.add_assoc]; rfl
            have h := c12_rate_2 (G := G) (n := n) (s := fun q => s (7 * j + q)) h20 hG hA hfa hB hfb hj hc hb hc1 (hst j hj) (hbo 0 hb) hT hV h40 (by omega)
            rw [et] at h
            exact cl_us h (cl_S_trace hC) (fun k hk => ev_set_ne (by omega))
          · exact m_rate_2 hM hj hc hb hc1 (sk_of (hs j hj)) (bw_of (hw 0 hb)) (tu_of ht)
        · refine ⟨fx_sp (fun q => s (7 * j + q)) + s (7 * j + 1) + tu 3, tn, c0, c1, c2, sh, tx, s, kp, bw, ar, tu, k0, k1, (tr + 1011), hR0, fun G n M hsio hC => ?_, fun G n M hM => ?_⟩
          · obtain ⟨g, g', fa, fb, fc, hgg, h20, hG, hA, hfa, hB, hfb, hCC, hfc, hst, hbo, har, hT, hV, h40⟩ := cl_open hc hc1 hc2 hC
            have et : tr + 1000 + 10 + 1 = tr + 1011 := by simp only [Int64.add_assoc]; rfl
            have h := c12_rate_3 (G := G) (n := n) (s := fun q => s (7 * j + q)) h20 hG hA hfa hB hfb hj hc hb hc1 (hst j hj) (hbo 0 hb) hT hV h40 (by omega)
            rw [et] at h
            exact cl_us h (cl_S_trace hC) (fun k hk => ev_set_ne (by omega))
          · exact m_rate_3 hM hj hc hb hc1 (sk_of (hs j hj)) (bw_of (hw 0 hb)) (tu_of ht)
        · refine ⟨2 * (fx_sp (fun q => s (7 * j + q)) - fx_dr (fun q => s (7 * j + q)) (bw (2 * 0))), tn, c0, c1, c2, sh, tx, s, kp, bw, ar, tu, k0, k1, (tr + 10101), hR0, fun G n M hsio hC => ?_, fun G n M hM => ?_⟩
          · obtain ⟨g, g', fa, fb, fc, hgg, h20, hG, hA, hfa, hB, hfb, hCC, hfc, hst, hbo, har, hT, hV, h40⟩ := cl_open hc hc1 hc2 hC
            have et : tr + 10000 + 100 + 1 = tr + 10101 := by simp only [Int64.add_assoc]; rfl
            have h := c12_rate_4 (G := G) (n := n) (s := fun q => s (7 * j + q)) h20 hG hA hfa hB hfb hj hc hb hc1 (hst j hj) (hbo 0 hb) hT hV h40 (by omega)
            rw [et] at h
            exact cl_us h (cl_S_trace hC) (fun k hk => ev_set_ne (by omega))
          · exact m_rate_4 hM hj hc hb hc1 (sk_of (hs j hj)) (bw_of (hw 0 hb)) (tu_of ht)
        · refine ⟨fx_sp (fun q => s (7 * j + q)) + s (7 * j + 4), tn, c0, c1, c2, sh, tx, s, kp, bw, ar, tu, k0, k1, (tr + 100001), hR0, fun G n M hsio hC => ?_, fun G n M hM => ?_⟩
          · obtain ⟨g, g', fa, fb, fc, hgg, h20, hG, hA, hfa, hB, hfb, hCC, hfc, hst, hbo, har, hT, hV, h40⟩ := cl_open hc hc1 hc2 hC
            have et : tr + 100000 + 1 = tr + 100001 := by simp only [Int64.add_assoc]; rfl
            have h := c12_rate_5 (G := G) (n := n) (s := fun q => s (7 * j + q)) h20 hG hA hfa hB hfb hj hc hb hc1 (hst j hj) (hbo 0 hb) hT hV h40 (by omega)
            rw [et] at h
            exact cl_us h (cl_S_trace hC) (fun k hk => ev_set_ne (by omega))
          · exact m_rate_5 hM hj hc hb hc1 (sk_of (hs j hj)) (bw_of (hw 0 hb)) (tu_of ht)
        · omega
      · refine ⟨-1000000, tn, c0, c1, c2, sh, tx, s, kp, bw, ar, tu, k0, k1, tr, hR0, fun G n M hsio hC => ?_, fun G n M hM => ?_⟩
        · obtain ⟨g, g', fa, fb, fc, hgg, h20, hG, hA, hfa, hB, hfb, hCC, hfc, hst, hbo, har, hT, hV, h40⟩ := cl_open hc hc1 hc2 hC
          exact cl_qs hC (c12_rate_w (s := fun q => s (7 * j + q)) h20 hG hA hfa hB hfb hj hc hb hc1 (hst j hj) (hbo 0 hb) hT hV h40 (by omega) (x_hi (k := 5) (by decide) hw'))
        · exact m_rate_no hM hc1 (Or.inl (by rw [show sp_in w 0 5 = false from sp_in_no.mpr (x_hI (k := 5) (by decide) hw'), Bool.false_and]))
    · have h0 : c1 = 0 := by omega
      refine ⟨-1000000, tn, c0, c1, c2, sh, tx, s, kp, bw, ar, tu, k0, k1, tr, hR0, fun G n M hsio hC => ?_, fun G n M hM => ?_⟩
      · obtain ⟨g, g', fa, fb, fc, hgg, h20, hG, hA, hfa, hB, hfb, hCC, hfc, hst, hbo, har, hT, hV, h40⟩ := cl_open hc hc1 hc2 hC
        exact cl_qs hC (c12_rate_b h20 hG hA hfa hj hc h0)
      · exact m_rate_no hM hc1 (Or.inr h0)
  · refine ⟨-1000000, tn, c0, c1, c2, sh, tx, s, kp, bw, ar, tu, k0, k1, tr, hR0, fun G n M hsio hC => ?_, fun G n M hM => ?_⟩
    · obtain ⟨g, g', fa, fb, fc, hgg, h20, hG, hA, hfa, hB, hfb, hCC, hfc, hst, hbo, har, hT, hV, h40⟩ := cl_open hc hc1 hc2 hC
      exact cl_qs hC (c12_rate_i h20 hG hA hfa hB hfb hc hc1 hi)
    · exact m_rate_no hM hc1 (Or.inl (by rw [sp_in_out (show c0 < 2 ^ 31 by omega) hi, Bool.and_false]))
theorem x_trace : x_okl mX11_trace mX12_trace 1 1 [] := by
  rintro G n M hsio ⟨tn, c0, c1, c2, sh, tx, s, kp, bw, ar, tu, k0, k1, tr, hR, hC, hM⟩
  have hR0 := hR
  obtain ⟨⟨htn, htx⟩, ⟨hc, hs⟩, ⟨hc1, hw⟩, ⟨hc2, ha⟩, ht, hsh, hk0, hk1⟩ := hR
  obtain ⟨g, g', fa, fb, fc, hgg, h20, hG, hA, hfa, hB, hfb, hCC, hfc, hst, hbo, har, hT, hV, h40⟩ := cl_open hc hc1 hc2 hC
  refine (c12_trace h20 h40).post (fun r M1 h1 => ?_)
  obtain ⟨rfl, rfl⟩ := h1
  exact ⟨tr, rfl, md_S_129 hM, (m_trace hM).post (fun r2 M2 h2 => ⟨h2.1, _, _, _, _, _, _, _, _, _, _, _, _, _, _, hR0, cl_S_keep (fun q hq => h2.2.2 q hq.2) hC, h2.2.1⟩)⟩
