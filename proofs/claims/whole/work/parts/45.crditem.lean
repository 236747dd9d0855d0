/-! ===== contracts: the class, reading items ===== -/
theorem nb_p_stay {tn : Nat} {tb lo hi : Nat → Int32} {p k f : Nat} (h : nb_p tn tb lo hi p k = (false, f)) : ∀ m, nb_p tn tb lo hi p (k + m) = (false, f)
  | 0 => h
  | m + 1 => by
    rw [show k + (m + 1) = (k + m) + 1 by omega, nb_p, nb_p_stay h m]; rfl
theorem rd_nb {tn : Nat} {tb lo hi : Nat → Int32} {p N : Nat} : ∀ (m k p2 : Nat) (nm : Nat → Int32), k + m = N → nb_p tn tb lo hi p k = (true, p2) →
    (rd_nums tn tb lo hi m k p2 nm).1 = (nb_p tn tb lo hi p N).1 ∧ (rd_nums tn tb lo hi m k p2 nm).2.1 = (nb_p tn tb lo hi p N).2 ∧ ((rd_nums tn tb lo hi m k p2 nm).1 = true → (∀ j, j < k → (rd_nums tn tb lo hi m k p2 nm).2.2 j = nm j) ∧ ∀ j, k ≤ j → j < N → (rd_nums tn tb lo hi m k p2 nm).2.2 j = nb_w tn tb lo hi p j) := by
  intro m
  induction m with
  | zero =>
    intro k p2 nm hk h
    have e : k = N := by omega
    subst e
    rw [h]
    exact ⟨rfl, rfl, fun _ => ⟨fun j _ => rfl, fun j h1 h2 => absurd h1 (by omega)⟩⟩
  | succ m ih =>
    intro k p2 nm hk h
    cases hv : rd_V tn tb (rd_skip tn tb p2) (lo k) (hi k) with
    | true =>
      rw [rd_nums_1 hv]
      have h2 : nb_p tn tb lo hi p (k + 1) = (true, (rd_nm tn tb (rd_skip tn tb p2)).1) := by
        rw [nb_p, h, nb_s, if_pos rfl, if_pos hv]
      have hw : nb_w tn tb lo hi p k = (rd_nm tn tb (rd_skip tn tb p2)).2 := by
        rw [nb_w, h, nb_v, if_pos ⟨rfl, hv⟩]
      obtain ⟨a, b, c⟩ := ih (k + 1) _ (upd nm k (rd_nm tn tb (rd_skip tn tb p2)).2) (by omega) h2
      refine ⟨a, b, fun t => ?_⟩
      obtain ⟨c1, c2⟩ := c t
      refine ⟨fun j hj => ?_, fun j h1 h2 => ?_⟩
      · rw [c1 j (by omega)]; exact if_neg (by omega)
      · by_cases e : j = k
        · subst e; rw [c1 j (by omega), hw]; exact if_pos rfl
        · exact c2 j (by omega) h2
    | false =>
      rw [rd_nums_0 hv]
      have h2 : nb_p tn tb lo hi p (k + 1) = (false, rd_skip tn tb p2) := by
        rw [nb_p, h, nb_s, if_pos rfl, if_neg (by rw [hv]; decide)]
      have h3 := nb_p_stay h2 m
      rw [show k + 1 + m = N by omega] at h3
      rw [h3]
      exact ⟨rfl, rfl, fun t => by cases t⟩
theorem rs_stk_at {S : Nat → Int32} {c k : Nat} {v : Nat → Int32} (hk : k < 6) : rs_stk S c v (7 * c + k) = v k := by
  unfold rs_stk; rw [if_pos (by omega), Nat.add_sub_cancel_left]
theorem rs_stk_6 {S : Nat → Int32} {c : Nat} {v : Nat → Int32} : rs_stk S c v (7 * c + 6) = 0 := by
  unfold rs_stk; rw [if_neg (by omega), if_pos rfl]
theorem rs_stk_ne {S : Nat → Int32} {c i k : Nat} {v : Nat → Int32} (h : i ≠ c) (hk : k < 7) : rs_stk S c v (7 * i + k) = S (7 * i + k) := by
  unfold rs_stk; rw [if_neg (by omega), if_neg (by omega)]
theorem rs_two_0 {B : Nat → Int32} {c : Nat} {x y : Int32} : rs_two B c x y (2 * c) = x := by
  unfold rs_two; simp only [upd]; rw [if_neg (by omega)]; exact if_pos trivial
theorem rs_two_1 {B : Nat → Int32} {c : Nat} {x y : Int32} : rs_two B c x y (2 * c + 1) = y := if_pos rfl
theorem rs_two_ne {B : Nat → Int32} {c k : Nat} {x y : Int32} (h : k < 2 * c ∨ 2 * c + 1 < k) : rs_two B c x y k = B k := by
  unfold rs_two; simp only [upd]; rw [if_neg (by omega), if_neg (by omega)]
theorem cl_gear_keep {M M1 : ev_M} {g c0 c1 c2 : Nat} {s bw ar : Nat → Int32} (h : ∀ a, g ≤ a → a < g + 22 → M1 a = M a) (hG : cl_gear M g c0 c1 c2 s bw ar) : cl_gear M1 g c0 c1 c2 s bw ar := by
  obtain ⟨h1, ⟨f1, h2, h3⟩, ⟨f2, h4, h5⟩, ⟨f3, h6, h7⟩, hs, hb, ha⟩ := hG
  exact ⟨(h _ (by omega) (by omega)).trans h1, ⟨f1, (h _ (by omega) (by omega)).trans h2, h3⟩, ⟨f2, (h _ (by omega) (by omega)).trans h4, h5⟩, ⟨f3, (h _ (by omega) (by omega)).trans h6, h7⟩, fun i hi => (h _ (by omega) (by omega)).trans (hs i hi), fun i hi => (h _ (by omega) (by omega)).trans (hb i hi), fun i hi => (h _ (by omega) (by omega)).trans (ha i hi)⟩
theorem cl_gear_S {M M1 : ev_M} {g c0 c1 c2 : Nat} {s bw ar v : Nat → Int32} (hc : c0 < 12) (h : ∀ a, g ≤ a → a < g + 22 → a ≠ g → a ≠ g + 4 + c0 → M1 a = M a) (hg : M1 g = .inr (3, [.ref (g + 1), .ref (g + 2), .ref (g + 3), .int (nI (c0 + 1)), .int (nI c1), .int (nI c2)])) (hv : M1 (g + 4 + c0) = .inr (9, [.int (v 0), .int (v 1), .int (v 2), .int (v 3), .int (v 4), .int (v 5), .int 0])) (hG : cl_gear M g c0 c1 c2 s bw ar) : cl_gear M1 g (c0 + 1) c1 c2 (rs_stk s c0 v) bw ar := by
  obtain ⟨h1, ⟨f1, h2, h3⟩, ⟨f2, h4, h5⟩, ⟨f3, h6, h7⟩, hs, hb, ha⟩ := hG
  refine ⟨hg, ⟨f1, (h _ (by omega) (by omega) (by omega) (by omega)).trans h2, h3⟩, ⟨f2, (h _ (by omega) (by omega) (by omega) (by omega)).trans h4, h5⟩, ⟨f3, (h _ (by omega) (by omega) (by omega) (by omega)).trans h6, h7⟩, fun i hi => ?_, fun i hi => (h _ (by omega) (by omega) (by omega) (by omega)).trans (hb i hi), fun i hi => (h _ (by omega) (by omega) (by omega) (by omega)).trans (ha i hi)⟩
  by_cases e : i = c0
  · subst e
    show M1 (g + 4 + i) = .inr (9, [.int (rs_stk s i v (7 * i + 0)), .int (rs_stk s i v (7 * i + 1)), .int (rs_stk s i v (7 * i + 2)), .int (rs_stk s i v (7 * i + 3)), .int (rs_stk s i v (7 * i + 4)), .int (rs_stk s i v (7 * i + 5)), .int (rs_stk s i v (7 * i + 6))])
    rw [hv, rs_stk_at (by omega), rs_stk_at (by omega), rs_stk_at (by omega), rs_stk_at (by omega), rs_stk_at (by omega), rs_stk_at (by omega), rs_stk_6]
  · have q := (h (g + 4 + i) (by omega) (by omega) (by omega) (by omega)).trans (hs i hi)
    show M1 (g + 4 + i) = .inr (9, [.int (rs_stk s c0 v (7 * i + 0)), .int (rs_stk s c0 v (7 * i + 1)), .int (rs_stk s c0 v (7 * i + 2)), .int (rs_stk s c0 v (7 * i + 3)), .int (rs_stk s c0 v (7 * i + 4)), .int (rs_stk s c0 v (7 * i + 5)), .int (rs_stk s c0 v (7 * i + 6))])
    rw [q, rs_stk_ne e (by omega), rs_stk_ne e (by omega), rs_stk_ne e (by omega), rs_stk_ne e (by omega), rs_stk_ne e (by omega), rs_stk_ne e (by omega), rs_stk_ne e (by omega)]
theorem cl_gear_B {M M1 : ev_M} {g c0 c1 c2 : Nat} {s bw ar : Nat → Int32} {x y : Int32} (hc : c1 < 3) (h : ∀ a, g ≤ a → a < g + 22 → a ≠ g → a ≠ g + 16 + c1 → M1 a = M a) (hg : M1 g = .inr (3, [.ref (g + 1), .ref (g + 2), .ref (g + 3), .int (nI c0), .int (nI (c1 + 1)), .int (nI c2)])) (hv : M1 (g + 16 + c1) = .inr (1, [.int x, .int y])) (hG : cl_gear M g c0 c1 c2 s bw ar) : cl_gear M1 g c0 (c1 + 1) c2 s (rs_two bw c1 x y) ar := by
  obtain ⟨h1, ⟨f1, h2, h3⟩, ⟨f2, h4, h5⟩, ⟨f3, h6, h7⟩, hs, hb, ha⟩ := hG
  refine ⟨hg, ⟨f1, (h _ (by omega) (by omega) (by omega) (by omega)).trans h2, h3⟩, ⟨f2, (h _ (by omega) (by omega) (by omega) (by omega)).trans h4, h5⟩, ⟨f3, (h _ (by omega) (by omega) (by omega) (by omega)).trans h6, h7⟩, fun i hi => (h _ (by omega) (by omega) (by omega) (by omega)).trans (hs i hi), fun i hi => ?_, fun i hi => (h _ (by omega) (by omega) (by omega) (by omega)).trans (ha i hi)⟩
  by_cases e : i = c1
  · subst e
    rw [rs_two_0, rs_two_1]; exact hv
  · rw [rs_two_ne (by omega), rs_two_ne (by omega)]
    exact (h _ (by omega) (by omega) (by omega) (by omega)).trans (hb i hi)
theorem cl_gear_A {M M1 : ev_M} {g c0 c1 c2 : Nat} {s bw ar : Nat → Int32} {x y : Int32} (hc : c2 < 3) (h : ∀ a, g ≤ a → a < g + 22 → a ≠ g → a ≠ g + 19 + c2 → M1 a = M a) (hg : M1 g = .inr (3, [.ref (g + 1), .ref (g + 2), .ref (g + 3), .int (nI c0), .int (nI c1), .int (nI (c2 + 1))])) (hv : M1 (g + 19 + c2) = .inr (0, [.int x, .int y])) (hG : cl_gear M g c0 c1 c2 s bw ar) : cl_gear M1 g c0 c1 (c2 + 1) s bw (rs_two ar c2 x y) := by
  obtain ⟨h1, ⟨f1, h2, h3⟩, ⟨f2, h4, h5⟩, ⟨f3, h6, h7⟩, hs, hb, ha⟩ := hG
  refine ⟨hg, ⟨f1, (h _ (by omega) (by omega) (by omega) (by omega)).trans h2, h3⟩, ⟨f2, (h _ (by omega) (by omega) (by omega) (by omega)).trans h4, h5⟩, ⟨f3, (h _ (by omega) (by omega) (by omega) (by omega)).trans h6, h7⟩, fun i hi => (h _ (by omega) (by omega) (by omega) (by omega)).trans (hs i hi), fun i hi => (h _ (by omega) (by omega) (by omega) (by omega)).trans (hb i hi), fun i hi => ?_⟩
  by_cases e : i = c2
  · subst e
    rw [rs_two_0, rs_two_1]; exact hv
  · rw [rs_two_ne (by omega), rs_two_ne (by omega)]
    exact (h _ (by omega) (by omega) (by omega) (by omega)).trans (ha i hi)
/-- the reader at a place, the gear that is read into, all else as it was -/
def rd_S (M M0 : ev_M) (tn : Nat) (tb : Nat → Int32) (g p : Nat) (A : rs_T) : Prop := M 23 = .inl (0, 400, .inl tb) ∧ M 22 = .inr (7, [.ref 23, .ref 24, .int (nI p), .int (nI tn)]) ∧ (∃ nm : Nat → Int32, M 24 = .inl (0, 6, .inl nm)) ∧ cl_gear M g A.1 A.2.1 A.2.2.1 A.2.2.2.1 A.2.2.2.2.1 A.2.2.2.2.2 ∧ ∀ a, a ≠ 22 → a ≠ 24 → (a < g ∨ g + 22 ≤ a) → M a = M0 a
theorem rd_S_keep {M M0 M1 : ev_M} {tn : Nat} {tb : Nat → Int32} {g p q : Nat} {A : rs_T} (hS : rd_S M M0 tn tb g p A) (hg : 40 < g) (h : ∀ a, a ≠ 22 → a ≠ 24 → M1 a = M a) (h23 : M1 22 = .inr (7, [.ref 23, .ref 24, .int (nI q), .int (nI tn)])) (h24 : ∃ nm : Nat → Int32, M1 24 = .inl (0, 6, .inl nm)) : rd_S M1 M0 tn tb g q A := by
  obtain ⟨a2, a3, a4, a5, a6⟩ := hS
  exact ⟨(h _ (by decide) (by decide)).trans a2, h23, h24, cl_gear_keep (fun a h1 h2 => h a (by omega) (by omega)) a5, fun a h1 h2 h3 => (h a h1 h2).trans (a6 a h1 h2 h3)⟩
theorem rd_ml {M : ev_M} {x y z : ev_MC} {a : Nat} (h1 : a ≠ 22) (h2 : a ≠ 24) : ev_ml (ev_set M 22 x) [(22, y), (24, z)] a = M a := by
  simp only [ev_ml]; rw [ev_set_ne h1, ev_set_ne h2, ev_set_ne h1]
theorem rd_ml23 {M : ev_M} {x y z : ev_MC} : ev_ml (ev_set M 22 x) [(22, y), (24, z)] 22 = y := rfl
theorem rd_ml24 {M : ev_M} {x y z : ev_MC} : ev_ml (ev_set M 22 x) [(22, y), (24, z)] 24 = z := rfl
theorem rd_ml2 {M : ev_M} {x y z u w : ev_MC} {a b c : Nat} (h1 : a ≠ 22) (h2 : a ≠ 24) (h3 : a ≠ b) (h4 : a ≠ c) : ev_set (ev_set (ev_ml (ev_set M 22 x) [(22, y), (24, z)]) b u) c w a = M a := by
  rw [ev_set_ne h4, ev_set_ne h3, rd_ml h1 h2]
theorem rd_gS {M M0 M1 : ev_M} {tn : Nat} {tb : Nat → Int32} {g p q : Nat} {A B : rs_T} {b : Nat} (hS : rd_S M M0 tn tb g p A) (hg : 40 < g) (hb : g < b ∧ b < g + 22) (h : ∀ a, a ≠ 22 → a ≠ 24 → a ≠ g → a ≠ b → M1 a = M a) (h23 : M1 22 = .inr (7, [.ref 23, .ref 24, .int (nI q), .int (nI tn)])) (h24 : ∃ nm : Nat → Int32, M1 24 = .inl (0, 6, .inl nm)) (hG : cl_gear M1 g B.1 B.2.1 B.2.2.1 B.2.2.2.1 B.2.2.2.2.1 B.2.2.2.2.2) : rd_S M1 M0 tn tb g q B := by
  obtain ⟨a2, a3, a4, a5, a6⟩ := hS
  exact ⟨(h _ (by decide) (by decide) (by omega) (by omega)).trans a2, h23, h24, hG, fun a h1 h2 h3 => (h a h1 h2 (by omega) (by omega)).trans (a6 a h1 h2 h3)⟩
theorem it_end_f {tn : Nat} {tb : Nat → Int32} {ps : Bool × Nat} (h : ps.1 = false) : it_end tn tb ps = (false, ps.2) := by
  unfold it_end; rw [if_neg (by rw [h]; decide), ← h]
theorem it_end_y {tn : Nat} {tb : Nat → Int32} {ps : Bool × Nat} (h : ps.1 = true) (h2 : rd_at tn tb (rd_skip tn tb ps.2) = 59) : it_end tn tb ps = (true, rd_skip tn tb ps.2 + 1) := by
  unfold it_end; rw [if_pos h, if_pos h2]
theorem it_end_e {tn : Nat} {tb : Nat → Int32} {ps : Bool × Nat} (h : ps.1 = true) (h2 : ¬ rd_at tn tb (rd_skip tn tb ps.2) = 59) : it_end tn tb ps = (false, rd_skip tn tb ps.2) := by
  unfold it_end; rw [if_pos h, if_neg h2]
/-- what an item leaves: the post of its reading -/
def it_post (M0 : ev_M) (tn : Nat) (tb : Nat → Int32) (g : Nat) (A : rs_T) (X : (Bool × Nat) × rs_T) : Option Value → ev_M → Prop := fun r M1 => r = some (.int (ev_b X.1.1)) ∧ rd_S M1 M0 tn tb g X.1.2 (if X.1.1 = true then X.2 else A)
theorem c7_row_S {G : ev_G} {n : Nat} {M M0 : ev_M} {tn : Nat} {tb : Nat → Int32} {g p : Nat} {A : rs_T} (hsio : ev_hs G) (hS : rd_S M M0 tn tb g p A) (hn : tn ≤ 400) (hp : p ≤ tn) (hg : 40 < g) (hl : A.1 < 12) (hpw : p + 5 ≤ tn) : ∃ (bb : Bool) (M1 : ev_M), ev_Cal G mX7_readStick 4 0 0 [.ref 22, .ref g] n (ev_set M 22 (.inr (7, [.ref 23, .ref 24, .int (nI (p + ch_n 0)), .int (nI tn)]))) (ev_is (some (.int (ev_b bb))) M1) ∧ it_post M0 tn tb g A (it_S tn tb p A) (some (.int (ev_b bb))) M1 := by
  have hS0 := hS
  obtain ⟨h22, h23, ⟨nm, h24⟩, hGr, hfr⟩ := hS
  have hG0 := hGr
  obtain ⟨hG, ⟨fa, hA, hfa⟩, -, -, hS1, -, -⟩ := hG0
  have hS2 : ∀ i, i < 12 → ev_set M 22 (.inr (7, [.ref 23, .ref 24, .int (nI (p + ch_n 0)), .int (nI tn)])) (g + 4 + i) = .inr (9, [.int ((fun k => A.2.2.2.1 (7 * i + k)) 0), .int ((fun k => A.2.2.2.1 (7 * i + k)) 1), .int ((fun k => A.2.2.2.1 (7 * i + k)) 2), .int ((fun k => A.2.2.2.1 (7 * i + k)) 3), .int ((fun k => A.2.2.2.1 (7 * i + k)) 4), .int ((fun k => A.2.2.2.1 (7 * i + k)) 5), .int ((fun k => A.2.2.2.1 (7 * i + k)) 6)]) := fun i hi => (ev_set_ne (by omega)).trans (hS1 i hi)
  obtain ⟨e1, e2, e3⟩ := rd_nb (tn := tn) (tb := tb) (lo := lo_S) (hi := hi_S) (p := p + 5) (N := 6) 6 0 (p + 5) nm (by omega) rfl
  have it : (it_S tn tb p A).1 = it_end tn tb (nb_p tn tb lo_S hi_S (p + 5) 6) := rfl
  cases hb : (nb_p tn tb lo_S hi_S (p + 5) 6).1 with
  | false =>
    rw [hb] at e1
    refine ⟨false, _, c7_readStick_n ((ev_set_ne (by decide)).trans h22) hn (p := p + ch_n 0) (nm := nm) ev_set_eq ((ev_set_ne (by decide)).trans h24) hpw e1, ?_⟩
    have hi := it_end_f (tn := tn) (tb := tb) hb
    refine ⟨by rw [it, hi], ?_⟩
    rw [it, hi]
    refine rd_S_keep hS0 hg (fun a z1 z2 => rd_ml z1 z2) ?_ ⟨_, rd_ml24⟩
    refine rd_ml23.trans ?_
    have hr : rd_row tn tb lo_S hi_S 6 (p + 5) nm = _ := rd_row_n e1; show Sum.inr (7, [Value.ref 23, Value.ref 24, Value.int (nI (rd_row tn tb lo_S hi_S 6 (p + 5) nm).2.1), Value.int (nI tn)]) = Sum.inr (7, [Value.ref 23, Value.ref 24, Value.int (nI (nb_p tn tb lo_S hi_S (p + 5) 6).2), Value.int (nI tn)]); rw [hr, ← e2]
  | true =>
    rw [hb] at e1
    have e3 := (e3 e1).2
    by_cases he : rd_at tn tb (rd_skip tn tb (nb_p tn tb lo_S hi_S (p + 5) 6).2) = 59
    · have he' := he
      rw [← e2] at he'
      refine ⟨true, _, c7_readStick_y ((ev_set_ne (by decide)).trans h22) hn (p := p + ch_n 0) (nm := nm) ev_set_eq ((ev_set_ne (by decide)).trans h24) hpw ((ev_set_ne (by omega)).trans hG) ((ev_set_ne (by omega)).trans hA) hfa (v := fun k => A.2.2.2.1 (7 * A.1 + k)) (hS2 A.1 hl) hl hg e1 he', ?_⟩
      have hi := it_end_y (tn := tn) (tb := tb) hb he
      refine ⟨by rw [it, hi], ?_⟩
      rw [it, hi, if_pos rfl]
      refine rd_gS hS0 hg (b := g + 4 + A.1) (by omega) (fun a z1 z2 z3 z4 => rd_ml2 z1 z2 z3 z4) ?_ ⟨_, (ev_set_ne (by omega)).trans ((ev_set_ne (by omega)).trans rd_ml24)⟩ ?_
      · refine (ev_set_ne (by omega)).trans ((ev_set_ne (by omega)).trans (rd_ml23.trans ?_))
        have hr : rd_row tn tb lo_S hi_S 6 (p + 5) nm = _ := rd_row_y e1 he'; show Sum.inr (7, [Value.ref 23, Value.ref 24, Value.int (nI (rd_row tn tb lo_S hi_S 6 (p + 5) nm).2.1), Value.int (nI tn)]) = Sum.inr (7, [Value.ref 23, Value.ref 24, Value.int (nI (rd_skip tn tb (nb_p tn tb lo_S hi_S (p + 5) 6).2 + 1)), Value.int (nI tn)]); rw [hr, ← e2]
      · have e3 : ∀ j, j < 6 → (rd_nums tn tb (fun k => (ev_stA 2).getD k 0) (fun k => (ev_stA 3).getD k 0) 6 0 (p + ch_n 0) nm).2.2 j = nb_w tn tb lo_S hi_S (p + 5) j := fun j hj => e3 j (Nat.zero_le _) hj
        exact cl_gear_S (v := nb_w tn tb lo_S hi_S (p + 5)) hl (fun a z1 z2 z3 z4 => rd_ml2 (by omega) (by omega) z3 z4) ((ev_set_ne (by omega)).trans ev_set_eq) (ev_set_eq.trans (by rw [e3 0 (by omega), e3 1 (by omega), e3 2 (by omega), e3 3 (by omega), e3 4 (by omega), e3 5 (by omega)])) hGr
    · have he' := he
      rw [← e2] at he'
      refine ⟨false, _, c7_readStick_e ((ev_set_ne (by decide)).trans h22) hn (p := p + ch_n 0) (nm := nm) ev_set_eq ((ev_set_ne (by decide)).trans h24) hpw e1 he', ?_⟩
      have hi := it_end_e (tn := tn) (tb := tb) hb he
      refine ⟨by rw [it, hi], ?_⟩
      rw [it, hi]
      refine rd_S_keep hS0 hg (fun a z1 z2 => rd_ml z1 z2) ?_ ⟨_, rd_ml24⟩
      refine rd_ml23.trans ?_
      have hr : rd_row tn tb lo_S hi_S 6 (p + 5) nm = _ := rd_row_e e1 he'; show Sum.inr (7, [Value.ref 23, Value.ref 24, Value.int (nI (rd_row tn tb lo_S hi_S 6 (p + 5) nm).2.1), Value.int (nI tn)]) = Sum.inr (7, [Value.ref 23, Value.ref 24, Value.int (nI (rd_skip tn tb (nb_p tn tb lo_S hi_S (p + 5) 6).2)), Value.int (nI tn)]); rw [hr, ← e2]
theorem c7_row_B {G : ev_G} {n : Nat} {M M0 : ev_M} {tn : Nat} {tb : Nat → Int32} {g p : Nat} {A : rs_T} (hsio : ev_hs G) (hS : rd_S M M0 tn tb g p A) (hn : tn ≤ 400) (hp : p ≤ tn) (hg : 40 < g) (hl : A.2.1 < 3) (hpw : p + 3 ≤ tn) : ∃ (bb : Bool) (M1 : ev_M), ev_Cal G mX7_readBow 4 0 0 [.ref 22, .ref g] n (ev_set M 22 (.inr (7, [.ref 23, .ref 24, .int (nI (p + ch_n 1)), .int (nI tn)]))) (ev_is (some (.int (ev_b bb))) M1) ∧ it_post M0 tn tb g A (it_B tn tb p A) (some (.int (ev_b bb))) M1 := by
  have hS0 := hS
  obtain ⟨h22, h23, ⟨nm, h24⟩, hGr, hfr⟩ := hS
  have hG0 := hGr
  obtain ⟨hG, -, ⟨fb, hB, hfb⟩, -, -, hB1, -⟩ := hG0
  obtain ⟨e1, e2, e3⟩ := rd_nb (tn := tn) (tb := tb) (lo := lo_B) (hi := hi_B) (p := p + 3) (N := 2) 2 0 (p + 3) nm (by omega) rfl
  have it : (it_B tn tb p A).1 = it_end tn tb (nb_p tn tb lo_B hi_B (p + 3) 2) := rfl
  cases hb : (nb_p tn tb lo_B hi_B (p + 3) 2).1 with
  | false =>
    rw [hb] at e1
    refine ⟨false, _, c7_readBow_n ((ev_set_ne (by decide)).trans h22) hn (p := p + ch_n 1) (nm := nm) ev_set_eq ((ev_set_ne (by decide)).trans h24) hpw e1, ?_⟩
    have hi := it_end_f (tn := tn) (tb := tb) hb
    refine ⟨by rw [it, hi], ?_⟩
    rw [it, hi]
    refine rd_S_keep hS0 hg (fun a z1 z2 => rd_ml z1 z2) ?_ ⟨_, rd_ml24⟩
    refine rd_ml23.trans ?_
    have hr : rd_row tn tb lo_B hi_B 2 (p + 3) nm = _ := rd_row_n e1; show Sum.inr (7, [Value.ref 23, Value.ref 24, Value.int (nI (rd_row tn tb lo_B hi_B 2 (p + 3) nm).2.1), Value.int (nI tn)]) = Sum.inr (7, [Value.ref 23, Value.ref 24, Value.int (nI (nb_p tn tb lo_B hi_B (p + 3) 2).2), Value.int (nI tn)]); rw [hr, ← e2]
  | true =>
    rw [hb] at e1
    have e3 := (e3 e1).2
    by_cases he : rd_at tn tb (rd_skip tn tb (nb_p tn tb lo_B hi_B (p + 3) 2).2) = 59
    · have he' := he
      rw [← e2] at he'
      refine ⟨true, _, c7_readBow_y ((ev_set_ne (by decide)).trans h22) hn (p := p + ch_n 1) (nm := nm) ev_set_eq ((ev_set_ne (by decide)).trans h24) hpw ((ev_set_ne (by omega)).trans hG) ((ev_set_ne (by omega)).trans hB) hfb ((ev_set_ne (by omega)).trans (hB1 A.2.1 hl)) hl hg e1 he', ?_⟩
      have hi := it_end_y (tn := tn) (tb := tb) hb he
      refine ⟨by rw [it, hi], ?_⟩
      rw [it, hi, if_pos rfl]
      refine rd_gS hS0 hg (b := g + 16 + A.2.1) (by omega) (fun a z1 z2 z3 z4 => rd_ml2 z1 z2 z3 z4) ?_ ⟨_, (ev_set_ne (by omega)).trans ((ev_set_ne (by omega)).trans rd_ml24)⟩ ?_
      · refine (ev_set_ne (by omega)).trans ((ev_set_ne (by omega)).trans (rd_ml23.trans ?_))
        have hr : rd_row tn tb lo_B hi_B 2 (p + 3) nm = _ := rd_row_y e1 he'; show Sum.inr (7, [Value.ref 23, Value.ref 24, Value.int (nI (rd_row tn tb lo_B hi_B 2 (p + 3) nm).2.1), Value.int (nI tn)]) = Sum.inr (7, [Value.ref 23, Value.ref 24, Value.int (nI (rd_skip tn tb (nb_p tn tb lo_B hi_B (p + 3) 2).2 + 1)), Value.int (nI tn)]); rw [hr, ← e2]
      · have e3 : ∀ j, j < 2 → (rd_nums tn tb (fun k => (ev_stA 4).getD k 0) (fun k => (ev_stA 5).getD k 0) 2 0 (p + ch_n 1) nm).2.2 j = nb_w tn tb lo_B hi_B (p + 3) j := fun j hj => e3 j (Nat.zero_le _) hj
        exact cl_gear_B hl (fun a z1 z2 z3 z4 => rd_ml2 (by omega) (by omega) z3 z4) ((ev_set_ne (by omega)).trans ev_set_eq) (ev_set_eq.trans (by rw [e3 0 (by omega), e3 1 (by omega)])) hGr
    · have he' := he
      rw [← e2] at he'
      refine ⟨false, _, c7_readBow_e ((ev_set_ne (by decide)).trans h22) hn (p := p + ch_n 1) (nm := nm) ev_set_eq ((ev_set_ne (by decide)).trans h24) hpw e1 he', ?_⟩
      have hi := it_end_e (tn := tn) (tb := tb) hb he
      refine ⟨by rw [it, hi], ?_⟩
      rw [it, hi]
      refine rd_S_keep hS0 hg (fun a z1 z2 => rd_ml z1 z2) ?_ ⟨_, rd_ml24⟩
      refine rd_ml23.trans ?_
      have hr : rd_row tn tb lo_B hi_B 2 (p + 3) nm = _ := rd_row_e e1 he'; show Sum.inr (7, [Value.ref 23, Value.ref 24, Value.int (nI (rd_row tn tb lo_B hi_B 2 (p + 3) nm).2.1), Value.int (nI tn)]) = Sum.inr (7, [Value.ref 23, Value.ref 24, Value.int (nI (rd_skip tn tb (nb_p tn tb lo_B hi_B (p + 3) 2).2)), Value.int (nI tn)]); rw [hr, ← e2]
theorem rd_ml0 {M : ev_M} {w x y z : ev_MC} {a : Nat} (h1 : a ≠ 22) (h2 : a ≠ 24) : ev_ml (ev_set (ev_set M 22 w) 22 x) [(22, y), (24, z)] a = M a := by
  rw [ev_set_set]; exact rd_ml h1 h2
theorem rd_ml3 {M : ev_M} {x0 x y z u w : ev_MC} {a b c : Nat} (h1 : a ≠ 22) (h2 : a ≠ 24) (h3 : a ≠ b) (h4 : a ≠ c) : ev_set (ev_set (ev_ml (ev_set (ev_set M 22 x0) 22 x) [(22, y), (24, z)]) b u) c w a = M a := by
  rw [ev_set_set]; exact rd_ml2 h1 h2 h3 h4
theorem c7_row_L {G : ev_G} {n : Nat} {M M0 : ev_M} {tn : Nat} {tb : Nat → Int32} {g p : Nat} {A : rs_T} (hsio : ev_hs G) (hS : rd_S M M0 tn tb g p A) (hn : tn ≤ 400) (hp : p ≤ tn) (hg : 40 < g) (hl : A.2.2.1 < 3) (hpw : p + 6 ≤ tn) (hL : rd_W tn tb 3 (rd_skip tn tb (p + 6))) : ∃ (bb : Bool) (M1 : ev_M), ev_Cal G mX7_readArcher 6 0 0 [.ref 22, .ref g] n (ev_set M 22 (.inr (7, [.ref 23, .ref 24, .int (nI (p + ch_n 2)), .int (nI tn)]))) (ev_is (some (.int (ev_b bb))) M1) ∧ it_post M0 tn tb g A (it_L tn tb (rd_skip tn tb (p + 6)) A) (some (.int (ev_b bb))) M1 := by
  have hS0 := hS
  obtain ⟨h22, h23, ⟨nm, h24⟩, hGr, hfr⟩ := hS
  have hG0 := hGr
  obtain ⟨hG, -, -, ⟨fc, hC, hfc⟩, -, -, hC1⟩ := hG0
  obtain ⟨e1, e2, e3⟩ := rd_nb (tn := tn) (tb := tb) (lo := lo_A) (hi := hi_A) (p := (rd_skip tn tb (p + 6)) + 4) (N := 2) 2 0 ((rd_skip tn tb (p + 6)) + 4) nm (by omega) rfl
  have it : (it_L tn tb (rd_skip tn tb (p + 6)) A).1 = it_end tn tb (nb_p tn tb lo_A hi_A ((rd_skip tn tb (p + 6)) + 4) 2) := rfl
  cases hb : (nb_p tn tb lo_A hi_A ((rd_skip tn tb (p + 6)) + 4) 2).1 with
  | false =>
    rw [hb] at e1
    refine ⟨false, _, c7_readArcher_L_n ((ev_set_ne (by decide)).trans h22) hn (p := p + ch_n 2) (nm := nm) hsio ev_set_eq ((ev_set_ne (by decide)).trans h24) hpw hL e1, ?_⟩
    have hi := it_end_f (tn := tn) (tb := tb) hb
    refine ⟨by rw [it, hi], ?_⟩
    rw [it, hi]
    refine rd_S_keep hS0 hg (fun a z1 z2 => rd_ml0 z1 z2) ?_ ⟨_, rd_ml24⟩
    refine rd_ml23.trans ?_
    have hr : rd_row tn tb lo_A hi_A 2 ((rd_skip tn tb (p + 6)) + 4) nm = _ := rd_row_n e1; show Sum.inr (7, [Value.ref 23, Value.ref 24, Value.int (nI (rd_row tn tb lo_A hi_A 2 ((rd_skip tn tb (p + 6)) + 4) nm).2.1), Value.int (nI tn)]) = Sum.inr (7, [Value.ref 23, Value.ref 24, Value.int (nI (nb_p tn tb lo_A hi_A ((rd_skip tn tb (p + 6)) + 4) 2).2), Value.int (nI tn)]); rw [hr, ← e2]
  | true =>
    rw [hb] at e1
    have e3 := (e3 e1).2
    by_cases he : rd_at tn tb (rd_skip tn tb (nb_p tn tb lo_A hi_A ((rd_skip tn tb (p + 6)) + 4) 2).2) = 59
    · have he' := he
      rw [← e2] at he'
      refine ⟨true, _, c7_readArcher_L_y ((ev_set_ne (by decide)).trans h22) hn (p := p + ch_n 2) (nm := nm) hsio ev_set_eq ((ev_set_ne (by decide)).trans h24) hpw hL ((ev_set_ne (by omega)).trans hG) ((ev_set_ne (by omega)).trans hC) hfc ((ev_set_ne (by omega)).trans (hC1 A.2.2.1 hl)) hl hg e1 he', ?_⟩
      have hi := it_end_y (tn := tn) (tb := tb) hb he
      refine ⟨by rw [it, hi], ?_⟩
      rw [it, hi, if_pos rfl]
      refine rd_gS hS0 hg (b := g + 19 + A.2.2.1) (by omega) (fun a z1 z2 z3 z4 => rd_ml3 z1 z2 z3 z4) ?_ ⟨_, (ev_set_ne (by omega)).trans ((ev_set_ne (by omega)).trans rd_ml24)⟩ ?_
      · refine (ev_set_ne (by omega)).trans ((ev_set_ne (by omega)).trans (rd_ml23.trans ?_))
        have hr : rd_row tn tb lo_A hi_A 2 ((rd_skip tn tb (p + 6)) + 4) nm = _ := rd_row_y e1 he'; show Sum.inr (7, [Value.ref 23, Value.ref 24, Value.int (nI (rd_row tn tb lo_A hi_A 2 ((rd_skip tn tb (p + 6)) + 4) nm).2.1), Value.int (nI tn)]) = Sum.inr (7, [Value.ref 23, Value.ref 24, Value.int (nI (rd_skip tn tb (nb_p tn tb lo_A hi_A ((rd_skip tn tb (p + 6)) + 4) 2).2 + 1)), Value.int (nI tn)]); rw [hr, ← e2]
      · have e3 : ∀ j, j < 2 → (rd_nums tn tb (fun k => (ev_stA 6).getD k 0) (fun k => (ev_stA 7).getD k 0) 2 0 (rd_skip tn tb (p + ch_n 2) + ch_n 3) nm).2.2 j = nb_w tn tb lo_A hi_A ((rd_skip tn tb (p + 6)) + 4) j := fun j hj => e3 j (Nat.zero_le _) hj
        exact cl_gear_A hl (fun a z1 z2 z3 z4 => rd_ml3 (by omega) (by omega) z3 z4) ((ev_set_ne (by omega)).trans ev_set_eq) (ev_set_eq.trans (by rw [e3 0 (by omega), e3 1 (by omega)])) hGr
    · have he' := he
      rw [← e2] at he'
      refine ⟨false, _, c7_readArcher_L_e ((ev_set_ne (by decide)).trans h22) hn (p := p + ch_n 2) (nm := nm) hsio ev_set_eq ((ev_set_ne (by decide)).trans h24) hpw hL e1 he', ?_⟩
      have hi := it_end_e (tn := tn) (tb := tb) hb he
      refine ⟨by rw [it, hi], ?_⟩
      rw [it, hi]
      refine rd_S_keep hS0 hg (fun a z1 z2 => rd_ml0 z1 z2) ?_ ⟨_, rd_ml24⟩
      refine rd_ml23.trans ?_
      have hr : rd_row tn tb lo_A hi_A 2 ((rd_skip tn tb (p + 6)) + 4) nm = _ := rd_row_e e1 he'; show Sum.inr (7, [Value.ref 23, Value.ref 24, Value.int (nI (rd_row tn tb lo_A hi_A 2 ((rd_skip tn tb (p + 6)) + 4) nm).2.1), Value.int (nI tn)]) = Sum.inr (7, [Value.ref 23, Value.ref 24, Value.int (nI (rd_skip tn tb (nb_p tn tb lo_A hi_A ((rd_skip tn tb (p + 6)) + 4) 2).2)), Value.int (nI tn)]); rw [hr, ← e2]
theorem c7_row_R {G : ev_G} {n : Nat} {M M0 : ev_M} {tn : Nat} {tb : Nat → Int32} {g p : Nat} {A : rs_T} (hsio : ev_hs G) (hS : rd_S M M0 tn tb g p A) (hn : tn ≤ 400) (hp : p ≤ tn) (hg : 40 < g) (hl : A.2.2.1 < 3) (hpw : p + 6 ≤ tn) (hL : ¬ rd_W tn tb 3 (rd_skip tn tb (p + 6))) (hR : rd_W tn tb 4 (rd_skip tn tb (p + 6))) : ∃ (bb : Bool) (M1 : ev_M), ev_Cal G mX7_readArcher 6 0 0 [.ref 22, .ref g] n (ev_set M 22 (.inr (7, [.ref 23, .ref 24, .int (nI (p + ch_n 2)), .int (nI tn)]))) (ev_is (some (.int (ev_b bb))) M1) ∧ it_post M0 tn tb g A (it_R tn tb (rd_skip tn tb (p + 6)) A) (some (.int (ev_b bb))) M1 := by
  have hS0 := hS
  obtain ⟨h22, h23, ⟨nm, h24⟩, hGr, hfr⟩ := hS
  have hG0 := hGr
  obtain ⟨hG, -, -, ⟨fc, hC, hfc⟩, -, -, hC1⟩ := hG0
  obtain ⟨e1, e2, e3⟩ := rd_nb (tn := tn) (tb := tb) (lo := lo_A) (hi := hi_A) (p := (rd_skip tn tb (p + 6)) + 5) (N := 2) 2 0 ((rd_skip tn tb (p + 6)) + 5) nm (by omega) rfl
  have it : (it_R tn tb (rd_skip tn tb (p + 6)) A).1 = it_end tn tb (nb_p tn tb lo_A hi_A ((rd_skip tn tb (p + 6)) + 5) 2) := rfl
  cases hb : (nb_p tn tb lo_A hi_A ((rd_skip tn tb (p + 6)) + 5) 2).1 with
  | false =>
    rw [hb] at e1
    refine ⟨false, _, c7_readArcher_R_n ((ev_set_ne (by decide)).trans h22) hn (p := p + ch_n 2) (nm := nm) hsio ev_set_eq ((ev_set_ne (by decide)).trans h24) hpw hL hR e1, ?_⟩
    have hi := it_end_f (tn := tn) (tb := tb) hb
    refine ⟨by rw [it, hi], ?_⟩
    rw [it, hi]
    refine rd_S_keep hS0 hg (fun a z1 z2 => rd_ml0 z1 z2) ?_ ⟨_, rd_ml24⟩
    refine rd_ml23.trans ?_
    have hr : rd_row tn tb lo_A hi_A 2 ((rd_skip tn tb (p + 6)) + 5) nm = _ := rd_row_n e1; show Sum.inr (7, [Value.ref 23, Value.ref 24, Value.int (nI (rd_row tn tb lo_A hi_A 2 ((rd_skip tn tb (p + 6)) + 5) nm).2.1), Value.int (nI tn)]) = Sum.inr (7, [Value.ref 23, Value.ref 24, Value.int (nI (nb_p tn tb lo_A hi_A ((rd_skip tn tb (p + 6)) + 5) 2).2), Value.int (nI tn)]); rw [hr, ← e2]
  | true =>
    rw [hb] at e1
    have e3 := (e3 e1).2
    by_cases he : rd_at tn tb (rd_skip tn tb (nb_p tn tb lo_A hi_A ((rd_skip tn tb (p + 6)) + 5) 2).2) = 59
    · have he' := he
      rw [← e2] at he'
      refine ⟨true, _, c7_readArcher_R_y ((ev_set_ne (by decide)).trans h22) hn (p := p + ch_n 2) (nm := nm) hsio ev_set_eq ((ev_set_ne (by decide)).trans h24) hpw hL hR ((ev_set_ne (by omega)).trans hG) ((ev_set_ne (by omega)).trans hC) hfc ((ev_set_ne (by omega)).trans (hC1 A.2.2.1 hl)) hl hg e1 he', ?_⟩
      have hi := it_end_y (tn := tn) (tb := tb) hb he
      refine ⟨by rw [it, hi], ?_⟩
      rw [it, hi, if_pos rfl]
      refine rd_gS hS0 hg (b := g + 19 + A.2.2.1) (by omega) (fun a z1 z2 z3 z4 => rd_ml3 z1 z2 z3 z4) ?_ ⟨_, (ev_set_ne (by omega)).trans ((ev_set_ne (by omega)).trans rd_ml24)⟩ ?_
      · refine (ev_set_ne (by omega)).trans ((ev_set_ne (by omega)).trans (rd_ml23.trans ?_))
        have hr : rd_row tn tb lo_A hi_A 2 ((rd_skip tn tb (p + 6)) + 5) nm = _ := rd_row_y e1 he'; show Sum.inr (7, [Value.ref 23, Value.ref 24, Value.int (nI (rd_row tn tb lo_A hi_A 2 ((rd_skip tn tb (p + 6)) + 5) nm).2.1), Value.int (nI tn)]) = Sum.inr (7, [Value.ref 23, Value.ref 24, Value.int (nI (rd_skip tn tb (nb_p tn tb lo_A hi_A ((rd_skip tn tb (p + 6)) + 5) 2).2 + 1)), Value.int (nI tn)]); rw [hr, ← e2]
      · have e3 : ∀ j, j < 2 → (rd_nums tn tb (fun k => (ev_stA 6).getD k 0) (fun k => (ev_stA 7).getD k 0) 2 0 (rd_skip tn tb (p + ch_n 2) + ch_n 4) nm).2.2 j = nb_w tn tb lo_A hi_A ((rd_skip tn tb (p + 6)) + 5) j := fun j hj => e3 j (Nat.zero_le _) hj
        exact cl_gear_A hl (fun a z1 z2 z3 z4 => rd_ml3 (by omega) (by omega) z3 z4) ((ev_set_ne (by omega)).trans ev_set_eq) (ev_set_eq.trans (by rw [e3 0 (by omega), e3 1 (by omega)])) hGr
    · have he' := he
      rw [← e2] at he'
      refine ⟨false, _, c7_readArcher_R_e ((ev_set_ne (by decide)).trans h22) hn (p := p + ch_n 2) (nm := nm) hsio ev_set_eq ((ev_set_ne (by decide)).trans h24) hpw hL hR e1 he', ?_⟩
      have hi := it_end_e (tn := tn) (tb := tb) hb he
      refine ⟨by rw [it, hi], ?_⟩
      rw [it, hi]
      refine rd_S_keep hS0 hg (fun a z1 z2 => rd_ml0 z1 z2) ?_ ⟨_, rd_ml24⟩
      refine rd_ml23.trans ?_
      have hr : rd_row tn tb lo_A hi_A 2 ((rd_skip tn tb (p + 6)) + 5) nm = _ := rd_row_e e1 he'; show Sum.inr (7, [Value.ref 23, Value.ref 24, Value.int (nI (rd_row tn tb lo_A hi_A 2 ((rd_skip tn tb (p + 6)) + 5) nm).2.1), Value.int (nI tn)]) = Sum.inr (7, [Value.ref 23, Value.ref 24, Value.int (nI (rd_skip tn tb (nb_p tn tb lo_A hi_A ((rd_skip tn tb (p + 6)) + 5) 2).2)), Value.int (nI tn)]); rw [hr, ← e2]
theorem c7_row_A {G : ev_G} {n : Nat} {M M0 : ev_M} {tn : Nat} {tb : Nat → Int32} {g p : Nat} {A : rs_T} (hsio : ev_hs G) (hS : rd_S M M0 tn tb g p A) (hn : tn ≤ 400) (hp : p ≤ tn) (hg : 40 < g) (hl : A.2.2.1 < 3) (hpw : p + 6 ≤ tn) : ∃ (bb : Bool) (M1 : ev_M), ev_Cal G mX7_readArcher 6 0 0 [.ref 22, .ref g] n (ev_set M 22 (.inr (7, [.ref 23, .ref 24, .int (nI (p + ch_n 2)), .int (nI tn)]))) (ev_is (some (.int (ev_b bb))) M1) ∧ it_post M0 tn tb g A (it_A tn tb p A) (some (.int (ev_b bb))) M1 := by
  by_cases hL : rd_W tn tb 3 (rd_skip tn tb (p + 6))
  · rw [it_A_L hL]; exact c7_row_L hsio hS hn hp hg hl hpw hL
  by_cases hR : rd_W tn tb 4 (rd_skip tn tb (p + 6))
  · rw [it_A_R hL hR]; exact c7_row_R hsio hS hn hp hg hl hpw hL hR
  · rw [it_A_F hL hR]
    have hS0 := hS
    obtain ⟨h22, h23, ⟨nm, h24⟩, hGr, hfr⟩ := hS
    refine ⟨false, _, c7_readArcher_no ((ev_set_ne (by decide)).trans h22) hn (p := p + ch_n 2) hsio ev_set_eq ((ev_set_ne (by decide)).trans h24) hpw hL hR, rfl, ?_⟩
    rw [ev_set_set]
    exact rd_S_keep hS0 hg (fun a z1 z2 => ev_set_ne z1) ev_set_eq ⟨nm, (ev_set_ne (by decide)).trans h24⟩
theorem it_post_of {M0 : ev_M} {tn : Nat} {tb : Nat → Int32} {g : Nat} {A : rs_T} {X : (Bool × Nat) × rs_T} {v : Option Value} {M1 : ev_M} (h : it_post M0 tn tb g A X v M1) : ∀ (r : Option Value) (M2 : ev_M), ev_is v M1 r M2 → it_post M0 tn tb g A X r M2 := by
  intro r M2 e
  obtain ⟨rfl, rfl⟩ := e
  exact h
theorem c7_item {G : ev_G} {n : Nat} {M M0 : ev_M} {tn : Nat} {tb : Nat → Int32} {g p : Nat} {A : rs_T} (hsio : ev_hs G) (hS : rd_S M M0 tn tb g p A) (hn : tn ≤ 400) (hp : p ≤ tn) (hg : 40 < g) (hfix : rd_skip tn tb p = p) (hcc : A.1 ≤ 12 ∧ A.2.1 ≤ 3 ∧ A.2.2.1 ≤ 3) : ev_Cal G mX7_readItem 7 0 0 [.ref 22, .ref g] n M (it_post M0 tn tb g A (it_x tn tb p A)) := by
  have hS0 := hS
  obtain ⟨h22, h23, ⟨nm, h24⟩, hGr, hfr⟩ := hS
  have hG := hGr.1
  by_cases h0 : A.1 < 12 ∧ rd_W tn tb 0 p
  · obtain ⟨bb, M1, h1, h2⟩ := c7_row_S hsio hS0 hn hp hg h0.1 (W_le (by decide) (by decide) h0.2) (n := n)
    rw [it_x_S h0.1 h0.2]
    exact (c7_readItem_S h22 hn hsio h23 hp hfix hG hcc h0.1 h0.2 h1).post (it_post_of h2)
  have n0 : A.1 < 12 → ¬ rd_W tn tb 0 p := fun z w => h0 ⟨z, w⟩
  have f0 : ¬ A.1 < 12 → A.1 = 12 := fun z => by omega
  by_cases h1 : A.2.1 < 3 ∧ rd_W tn tb 1 p
  · obtain ⟨bb, M1, g1, g2⟩ := c7_row_B hsio hS0 hn hp hg h1.1 (W_le (by decide) (by decide) h1.2) (n := n)
    rw [it_x_B h0 h1.1 h1.2]
    by_cases a : A.1 < 12
    · exact (c7_readItem_B_0 h22 hn hsio h23 hp hfix hG hcc a (n0 a) h1.1 h1.2 g1).post (it_post_of g2)
    · exact (c7_readItem_B_1 h22 hn hsio h23 hp hfix hG hcc (f0 a) h1.1 h1.2 g1).post (it_post_of g2)
  have n1 : A.2.1 < 3 → ¬ rd_W tn tb 1 p := fun z w => h1 ⟨z, w⟩
  have f1 : ¬ A.2.1 < 3 → A.2.1 = 3 := fun z => by omega
  by_cases h2 : A.2.2.1 < 3 ∧ rd_W tn tb 2 p
  · obtain ⟨bb, M1, g1, g2⟩ := c7_row_A hsio hS0 hn hp hg h2.1 (W_le (by decide) (by decide) h2.2) (n := n)
    rw [it_x_A h0 h1 h2.1 h2.2]
    by_cases a : A.1 < 12 <;> by_cases b : A.2.1 < 3
    · exact (c7_readItem_A_00 h22 hn hsio h23 hp hfix hG hcc a (n0 a) b (n1 b) h2.1 h2.2 g1).post (it_post_of g2)
    · exact (c7_readItem_A_01 h22 hn hsio h23 hp hfix hG hcc a (n0 a) (f1 b) h2.1 h2.2 g1).post (it_post_of g2)
    · exact (c7_readItem_A_10 h22 hn hsio h23 hp hfix hG hcc (f0 a) b (n1 b) h2.1 h2.2 g1).post (it_post_of g2)
    · exact (c7_readItem_A_11 h22 hn hsio h23 hp hfix hG hcc (f0 a) (f1 b) h2.1 h2.2 g1).post (it_post_of g2)
  have n2 : A.2.2.1 < 3 → ¬ rd_W tn tb 2 p := fun z w => h2 ⟨z, w⟩
  have f2 : ¬ A.2.2.1 < 3 → A.2.2.1 = 3 := fun z => by omega
  rw [it_x_no h0 h1 h2]
  have fin : it_post M0 tn tb g A ((false, p), A) (some (.int 0)) M := ⟨rfl, hS0⟩
  by_cases a : A.1 < 12 <;> by_cases b : A.2.1 < 3 <;> by_cases c : A.2.2.1 < 3
  · exact (c7_readItem_no_000 h22 hn hsio h23 hp hfix hG hcc a (n0 a) b (n1 b) c (n2 c)).post (it_post_of fin)
  · exact (c7_readItem_no_001 h22 hn hsio h23 hp hfix hG hcc a (n0 a) b (n1 b) (f2 c)).post (it_post_of fin)
  · exact (c7_readItem_no_010 h22 hn hsio h23 hp hfix hG hcc a (n0 a) (f1 b) c (n2 c)).post (it_post_of fin)
  · exact (c7_readItem_no_011 h22 hn hsio h23 hp hfix hG hcc a (n0 a) (f1 b) (f2 c)).post (it_post_of fin)
  · exact (c7_readItem_no_100 h22 hn hsio h23 hp hfix hG hcc (f0 a) b (n1 b) c (n2 c)).post (it_post_of fin)
  · exact (c7_readItem_no_101 h22 hn hsio h23 hp hfix hG hcc (f0 a) b (n1 b) (f2 c)).post (it_post_of fin)
  · exact (c7_readItem_no_110 h22 hn hsio h23 hp hfix hG hcc (f0 a) (f1 b) c (n2 c)).post (it_post_of fin)
  · exact (c7_readItem_no_111 h22 hn hsio h23 hp hfix hG hcc (f0 a) (f1 b) (f2 c)).post (it_post_of fin)
