/-! ===== both sides: alike ===== -/
theorem bs_c {P Q : Nat → Bool} : ∀ n : Nat, (∀ k, k < n → P k = Q k) → bs P n = bs Q n
  | 0, _ => rfl
  | n + 1, h => by rw [bs, bs, bs_c n (fun k hk => h k (by omega)), h n (by omega)]
theorem fl_set_c {P Q : Nat → Bool} : ∀ n : Nat, (∀ k, k < n → P k = Q k) → fl_set P n = fl_set Q n
  | 0, _ => rfl
  | n + 1, h => by rw [fl_set, fl_set, fl_set_c n (fun k hk => h k (by omega)), h n (by omega)]
theorem fl_try_c {p0 p1 p2 q0 q1 q2 : Nat → Int32} {g d dp e : Int32} {n : Nat} {B : Int32 × Int32} (h0 : ∀ k, k < n → p0 k = q0 k) (h1 : ∀ k, k < n → p1 k = q1 k) (h2 : ∀ k, k < n → p2 k = q2 k) : fl_try p0 p1 p2 n g d dp e B = fl_try q0 q1 q2 n g d dp e B := by
  have h : fl_set (fl_near p0 p1 p2 g d dp e) n = fl_set (fl_near q0 q1 q2 g d dp e) n := fl_set_c n (fun k hk => by simp only [fl_near, h0 k hk, h1 k hk, h2 k hk])
  rw [fl_try, fl_try, h]
theorem fl_j_c {p0 p1 p2 q0 q1 q2 : Nat → Int32} {d e : Int32} {n i : Nat} {B : Int32 × Int32} (h0 : ∀ k, k < n → p0 k = q0 k) (h1 : ∀ k, k < n → p1 k = q1 k) (h2 : ∀ k, k < n → p2 k = q2 k) (hi : i < n) : ∀ K : Nat, K ≤ n → fl_j p0 p1 p2 n d e i K B = fl_j q0 q1 q2 n d e i K B
  | 0, _ => rfl
  | K + 1, h => by rw [fl_j, fl_j, fl_j_c h0 h1 h2 hi K (by omega), fl_try_c h0 h1 h2, fl_try_c h0 h1 h2, h0 i hi, h1 i hi, h2 K (by omega)]
theorem fl_i_c {p0 p1 p2 q0 q1 q2 : Nat → Int32} {d e : Int32} {n : Nat} {B : Int32 × Int32} (h0 : ∀ k, k < n → p0 k = q0 k) (h1 : ∀ k, k < n → p1 k = q1 k) (h2 : ∀ k, k < n → p2 k = q2 k) : ∀ I : Nat, I ≤ n → fl_i p0 p1 p2 n d e I B = fl_i q0 q1 q2 n d e I B
  | 0, _ => rfl
  | I + 1, h => by rw [fl_i, fl_i, fl_i_c h0 h1 h2 I (by omega), fl_j_c h0 h1 h2 (by omega) n (Nat.le_refl _)]
theorem bs_mod {B : Nat} : ∀ c : Nat, bs (fun k => decide (al_t B k = 1)) c = B % 2 ^ c
  | 0 => (Nat.mod_one B).symm
  | c + 1 => by
    rw [bs, bs_mod c, Nat.mod_pow_succ]
    have h := al_t2 B c
    show B % 2 ^ c + (if decide (al_t B c = 1) = true then 2 ^ c else 0) = B % 2 ^ c + 2 ^ c * al_t B c
    rcases h with h | h
    · rw [h, if_neg (by decide), Nat.mul_zero]
    · rw [h, if_pos (by decide), Nat.mul_one]
theorem pc_cn {B : Nat} : ∀ c : Nat, al_pc B c = cn (fun k => decide (al_t B k = 1)) c
  | 0 => rfl
  | c + 1 => by
    rw [al_pc, cn, pc_cn c]
    rcases al_t2 B c with h | h
    · rw [h, if_neg (by decide)]
    · rw [h, if_pos (by decide)]
theorem cn_sub {P Q : Nat → Bool} : ∀ n : Nat, (∀ k, k < n → P k = true → Q k = true) → cn P n ≤ cn Q n ∧ (cn P n = cn Q n → ∀ k, k < n → P k = Q k)
  | 0, _ => ⟨Nat.le_refl _, fun _ k h => absurd h (Nat.not_lt_zero k)⟩
  | n + 1, h => by
    obtain ⟨i1, i2⟩ := cn_sub n (fun k hk => h k (by omega))
    have hn := h n (by omega)
    rw [cn, cn]
    by_cases hp : P n = true
    · have hq := hn hp
      rw [if_pos hp, if_pos hq]
      refine ⟨by omega, fun e k hk => ?_⟩
      by_cases z : k = n
      · subst z; rw [hp, hq]
      · exact i2 (by omega) k (by omega)
    · rw [if_neg hp]
      by_cases hq : Q n = true
      · rw [if_pos hq]
        exact ⟨by omega, fun e => by omega⟩
      · rw [if_neg hq]
        refine ⟨by omega, fun e k hk => ?_⟩
        by_cases z : k = n
        · subst z
          exact (Bool.eq_false_iff.mpr hp).trans (Bool.eq_false_iff.mpr hq).symm
        · exact i2 (by omega) k (by omega)
theorem cn_0 {P : Nat → Bool} : ∀ n : Nat, cn P n = 0 → ∀ k, k < n → P k = false
  | 0, _, k, h => absurd h (Nat.not_lt_zero k)
  | n + 1, h, k, hk => by
    rw [cn] at h
    by_cases hp : P n = true
    · rw [if_pos hp] at h; omega
    · by_cases z : k = n
      · subst z; exact Bool.not_eq_true _ ▸ hp
      · exact cn_0 n (by omega) k (by omega)
theorem bs_0 {P : Nat → Bool} : ∀ n : Nat, (∀ k, k < n → P k = false) → bs P n = 0
  | 0, _ => rfl
  | n + 1, h => by rw [bs, bs_0 n (fun k hk => h k (by omega)), h n (by omega)]; rfl
theorem x_min {P : Nat → Bool} {V : Nat → Int32} : ∀ n : Nat, (∃ j, j < n ∧ P j = true) → ∃ i, i < n ∧ P i = true ∧ ∀ j, j < n → P j = true → V i ≤ V j
  | 0, ⟨j, h, _⟩ => absurd h (Nat.not_lt_zero j)
  | n + 1, ⟨j, hj, hp⟩ => by
    by_cases hex : ∃ j, j < n ∧ P j = true
    · obtain ⟨i, hi, hpi, hmin⟩ := x_min n hex
      by_cases c : P n = true ∧ V n < V i
      · refine ⟨n, by omega, c.1, fun k hk hpk => ?_⟩
        by_cases z : k = n
        · subst z; exact Int32.le_refl _
        · exact Int32.le_trans (Int32.le_of_lt c.2) (hmin k (by omega) hpk)
      · refine ⟨i, by omega, hpi, fun k hk hpk => ?_⟩
        by_cases z : k = n
        · subst z; exact Int32.not_lt.mp (fun q => c ⟨hpk, q⟩)
        · exact hmin k (by omega) hpk
    · have e : j = n := by
        by_cases z : j = n
        · exact z
        · exact absurd ⟨j, by omega, hp⟩ hex
      subst e
      refine ⟨j, by omega, hp, fun k hk hpk => ?_⟩
      by_cases z : k = j
      · subst z; exact Int32.le_refl _
      · exact absurd ⟨k, by omega, hpk⟩ hex
theorem x_abs_le {x y d : Int32} (hx : rb x 1000) (hy : rb y 1000) : sp_abs (x - y) ≤ d ↔ (x.toInt - y.toInt ≤ d.toInt ∧ y.toInt - x.toInt ≤ d.toInt) := by
  have h1 := rb_iff.mp hx
  have h2 := rb_iff.mp hy
  rw [Int32.le_iff_toInt_le, ts_abs (ts_sub (a := x.toInt) (b := y.toInt) rfl rfl (by omega)) (by omega)]
  omega
theorem x_in_iff {x g d : Int32} (hg : rb g 1000) (hd : 0 ≤ d.toInt ∧ d.toInt ≤ 999) : sp_in x g (g + d) = true ↔ (g.toInt ≤ x.toInt ∧ x.toInt ≤ g.toInt + d.toInt) := by
  have h1 := rb_iff.mp hg
  rw [sp_in_iff, Int32.le_iff_toInt_le, Int32.le_iff_toInt_le, ts_add (a := g.toInt) (b := d.toInt) rfl rfl (by omega)]
theorem near_iff {V D : Nat → Int32} {g d dp e : Int32} {k : Nat} (hg : rb g 1000) (hp : rb dp 1000) (hd : 0 ≤ d.toInt ∧ d.toInt ≤ 999) (he : 0 ≤ e.toInt ∧ e.toInt ≤ 999) : fl_near V V D g d dp e k = true ↔ ((g.toInt ≤ (V k).toInt ∧ (V k).toInt ≤ g.toInt + d.toInt) ∧ (dp.toInt ≤ (D k).toInt ∧ (D k).toInt ≤ dp.toInt + e.toInt)) := by
  unfold fl_near
  rw [Bool.or_self, Bool.and_eq_true, x_in_iff hg hd, x_in_iff hp he]
theorem near_ok {V D : Nat → Int32} {g d dp e : Int32} {c : Nat} (hV : ∀ i, i < c → rb (V i) 1000) (hD : ∀ i, i < c → rb (D i) 1000) (hg : rb g 1000) (hp : rb dp 1000) (hd : 0 ≤ d.toInt ∧ d.toInt ≤ 999) (he : 0 ≤ e.toInt ∧ e.toInt ≤ 999) : al_ok c V D d e (bs (fl_near V V D g d dp e) c) := by
  intro i hi j hj h1 h2
  have t1 : fl_near V V D g d dp e i = true := by
    rw [bs_t c i hi] at h1
    by_cases z : fl_near V V D g d dp e i = true
    · exact z
    · rw [if_neg z] at h1; omega
  have t2 : fl_near V V D g d dp e j = true := by
    rw [bs_t c j (by omega)] at h2
    by_cases z : fl_near V V D g d dp e j = true
    · exact z
    · rw [if_neg z] at h2; omega
  rw [near_iff hg hp hd he] at t1 t2
  rw [x_abs_le (hV i hi) (hV j (by omega)), x_abs_le (hD i hi) (hD j (by omega))]
  omega
theorem al_eq {V D : Nat → Int32} {d e : Int32} {c B : Nat} (hc : c ≤ 12) (hV : ∀ i, i < c → rb (V i) 1000) (hD : ∀ i, i < c → rb (D i) 1000) (hd : 0 ≤ d.toInt ∧ d.toInt ≤ 999) (he : 0 ≤ e.toInt ∧ e.toInt ≤ 999) (hB : B < 2 ^ c) (h : al_best c V D d e (2 ^ c) B) : fl_i V V D c d e c (0, 0) = (nI B, nI (al_pc B c)) := by
  obtain ⟨S, m, hF, ⟨hS, hm⟩, h3, h4⟩ := fl_best_i (q0 := V) (q1 := V) (q2 := D) (d := d) (e := e) hc c
  obtain ⟨hok, hbest⟩ := h
  have hT : ∀ N, fl_Ti V V D c d e c N → ∃ i k, i < c ∧ k < c ∧ N = fl_near V V D (V i) d (D k) e := fun N ⟨i, hi, k, hk, hN⟩ => ⟨i, k, hi, hk, hN.elim id id⟩
  have hS2 : S < 2 ^ c ∧ al_ok c V D d e S ∧ al_pc S c = m := by
    rcases h3 with ⟨rfl, rfl⟩ | ⟨N, hN, rfl, rfl⟩
    · refine ⟨Nat.two_pow_pos c, al_ok_0, ?_⟩
      have z := pc_bs (N := fun _ => false) (n := c) c (Nat.le_refl _)
      rw [bs_0 c (fun _ _ => rfl)] at z
      rw [z]
      have : ∀ n, cn (fun _ => false) n = 0 := fun n => by
        induction n with
        | zero => rfl
        | succ n ih => rw [cn, ih]; rfl
      exact this c
    · obtain ⟨i, k, hi, hk, rfl⟩ := hT N hN
      exact ⟨bs_lt c, near_ok hV hD (hV i hi) (hD k hk) hd he, pc_bs c (Nat.le_refl _)⟩
  have hb1 := hbest S hS2.1 hS2.2.1
  rw [hS2.2.2] at hb1
  have hBm : bs (fun k => decide (al_t B k = 1)) c = B := (bs_mod c).trans (Nat.mod_eq_of_lt hB)
  rw [hF]
  by_cases h0 : al_pc B c = 0
  · have hm0 : m = 0 := by omega
    have hS0 : S = 0 := by
      rcases h3 with ⟨z, _⟩ | ⟨N, hN, e1, e2⟩
      · exact z
      · rw [e1]; exact bs_0 c (cn_0 c (by omega))
    have hB0 : B = 0 := by
      rw [← hBm]; exact bs_0 c (cn_0 c (by rw [← pc_cn]; exact h0))
    rw [h0, hm0, hS0, hB0]
  · have hex : ∃ j, j < c ∧ decide (al_t B j = 1) = true := by
      by_cases z : ∃ j, j < c ∧ decide (al_t B j = 1) = true
      · exact z
      · refine absurd ?_ h0
        rw [pc_cn]
        have : ∀ n, n ≤ c → cn (fun k => decide (al_t B k = 1)) n = 0 := fun n => by
          induction n with
          | zero => intro _; rfl
          | succ n ih =>
            intro hn
            rw [cn, ih (by omega), if_neg (fun q => z ⟨n, by omega, q⟩)]
        exact this c (Nat.le_refl _)
    obtain ⟨i, hi, hpi, hmi⟩ := x_min (V := V) c hex
    obtain ⟨k, hk, hpk, hmk⟩ := x_min (V := D) c hex
    have hpair : ∀ a b, a < c → b < c → al_t B a = 1 → al_t B b = 1 → ((V a).toInt - (V b).toInt ≤ d.toInt) ∧ ((D a).toInt - (D b).toInt ≤ e.toInt) := by
      intro a b ha hb ta tb
      rcases Nat.lt_trichotomy a b with q | q | q
      · have z := hok b hb a q tb ta
        rw [x_abs_le (hV b hb) (hV a ha), x_abs_le (hD b hb) (hD a ha)] at z
        omega
      · subst q; omega
      · have z := hok a ha b q ta tb
        rw [x_abs_le (hV a ha) (hV b hb), x_abs_le (hD a ha) (hD b hb)] at z
        omega
    have hsub : ∀ j, j < c → decide (al_t B j = 1) = true → fl_near V V D (V i) d (D k) e j = true := by
      intro j hj hpj
      rw [near_iff (hV i hi) (hD k hk) hd he]
      have z1 := Int32.le_iff_toInt_le.mp (hmi j hj hpj)
      have z2 := Int32.le_iff_toInt_le.mp (hmk j hj hpj)
      have z3 := (hpair j i hj hi (of_decide_eq_true hpj) (of_decide_eq_true hpi)).1
      have z4 := (hpair j k hj hk (of_decide_eq_true hpj) (of_decide_eq_true hpk)).2
      omega
    have hs := cn_sub c hsub
    rw [← pc_cn] at hs
    have hb2 := hbest _ (bs_lt c) (near_ok (g := V i) (dp := D k) hV hD (hV i hi) (hD k hk) hd he)
    rw [pc_bs c (Nat.le_refl _)] at hb2
    have hce : al_pc B c = cn (fl_near V V D (V i) d (D k) e) c := by have := hs.1; omega
    have hBe : B = bs (fl_near V V D (V i) d (D k) e) c := hBm.symm.trans (bs_c c (hs.2 hce))
    have h5 := h4 (fl_near V V D (V i) d (D k) e) ⟨i, hi, k, hk, Or.inl rfl⟩
    rw [← hce, ← hBe] at h5
    rw [show m = al_pc B c by omega, show S = B by omega]
theorem fl_V_b {tu s : Nat → Int32} {dr wi : Int32} {i : Nat} (h : sk_ok (fun q => s (7 * i + q))) (h1 : 20 ≤ dr.toInt ∧ dr.toInt ≤ 70) (h2 : 0 ≤ wi.toInt ∧ wi.toInt ≤ 9) (ht : tu_ok tu) : rb (fl_V tu s dr wi i (s (7 * i + 6))) 1000 := rb_w (show rb (fx_go tu (fun q => s (7 * i + q)) dr wi) 735 from fx_go_b h h1 h2 ht) (by decide)
theorem fl_D_b {s : Nat → Int32} {dr : Int32} {i : Nat} (h : sk_ok (fun q => s (7 * i + q))) (h1 : 20 ≤ dr.toInt ∧ dr.toInt ≤ 70) : rb (fl_D s dr i) 1000 := by
  have hm := sk_mass h
  have hf := h.2.2.2.2.2.1
  have h0 : ¬ dr = 0 := fun e => by rw [e] at h1; exact absurd h1.1 (by decide +kernel)
  have r1 : rb (10 * (s (7 * i + 1) + s (7 * i + 4))) 8000 := rb_mul (A := 10) (B := 800) (rb_l (by decide +kernel)) (rb_of (a := 200) (b := 800) hm.2.1 hm.2.2 (by decide) (by decide)) (by decide) (by decide)
  have r2 : rb (sp_div (10 * (s (7 * i + 1) + s (7 * i + 4))) dr) 400 := by
    unfold sp_div
    rw [if_neg h0]
    exact rb_div (c := 20) r1 h1.1 (by decide) (by decide)
  exact rb_add (B := 9) r2 (rb_of hf.1 hf.2 (by decide) (by decide)) (by decide) (by decide)
theorem x_alike (b d e w : Int32) : x_ok mX11_alike mX12_alike 7 6 [.int b, .int d, .int e, .int w] := by
  refine x_ok_s (fun tn c0 c1 c2 sh tx s kp bw ar tu k0 k1 tr hR => ?_)
  have hR0 := hR
  obtain ⟨⟨htn, htx⟩, ⟨hc, hs⟩, ⟨hc1, hw⟩, ⟨hc2, ha⟩, ht, hsh, hk0, hk1⟩ := hR
  rcases sp_pos (i := b) (c := c1) (by omega) with ⟨b, hb, rfl⟩ | hb'
  · have hw20 := ti_rg (hw b hb).1 (y := 20) (z := 70) rfl rfl
    by_cases hd : sp_in d 0 999 = true
    · by_cases he : sp_in e 0 999 = true
      · by_cases hw1 : sp_in w 0 1 = true
        · rcases x_w01 hw1 with rfl | rfl
          · refine ⟨(fl_i (fun i => fl_V tu s (bw (2 * b)) (bw (2 * b + 1)) i (s (7 * i + 6))) (fun i => fl_V tu s (bw (2 * b)) (bw (2 * b + 1)) i (s (7 * i + 6))) (fl_D s (bw (2 * b))) c0 d e c0 (0, 0)).1, tn, c0, c1, c2, sh, tx, s, kp, bw, ar, tu, k0, k1, tr, hR0, fun G n M hsio hC => ?_, fun G n M hM => (m_alike (w := 0) hM hb hc1 hc (fun i hi => sk_of (hs i hi)) (bw_of (hw b hb)) (tu_of ht) (by rw [hd, he]; rfl) (by decide)).post (fun r M2 h => ?_)⟩
            · obtain ⟨g, g', fa, fb, fc, hgg, h20, hG, hA, hfa, hB, hfb, hCC, hfc, hst, hbo, har, hT, hV, h40⟩ := cl_open hc hc1 hc2 hC
              obtain ⟨zz, b0, b1, q0, q1, q2, h35, h36, h37, h38⟩ := cl_open35 hC
              have h := c12_alike_0 (G := G) (n := n) (s := s) h20 hG hA hfa hB hfb hb hc1 (hbo b hb) hT hV hc hst (by omega) h35 h36 h37 h38 hd he
              rw [fl_i_c (q0 := (fun i => fl_V tu s (bw (2 * b)) (bw (2 * b + 1)) i (s (7 * i + 6)))) (q1 := (fun i => fl_V tu s (bw (2 * b)) (bw (2 * b + 1)) i (s (7 * i + 6)))) (q2 := fl_D s (bw (2 * b))) (fun k hk => fl_mix_in hk) (fun k hk => fl_mix_in hk) (fun k hk => fl_mix_in hk) c0 (Nat.le_refl _)] at h
              exact cl_us h (cl_S_35 hC) (fun k hk => (ev_set_ne (by omega)).trans (fl_out (by omega)))
            · obtain ⟨⟨B, hB, hbest, hr⟩, hS, hf⟩ := h
              refine ⟨?_, hS, hf⟩
              have hE := al_eq hc (fun i hi => fl_V_b (sk_of (hs i hi)) hw20 (bw_of (hw b hb)).2 (tu_of ht)) (fun i hi => fl_D_b (sk_of (hs i hi)) hw20) (sp_in_to (a := 0) (b := 999) hd rfl rfl) (sp_in_to (a := 0) (b := 999) he rfl rfl) hB hbest
              rw [hE, hr, if_pos rfl]
          · refine ⟨(fl_i (fun i => fl_V tu s (bw (2 * b)) (bw (2 * b + 1)) i (s (7 * i + 6))) (fun i => fl_V tu s (bw (2 * b)) (bw (2 * b + 1)) i (s (7 * i + 6))) (fl_D s (bw (2 * b))) c0 d e c0 (0, 0)).2, tn, c0, c1, c2, sh, tx, s, kp, bw, ar, tu, k0, k1, tr, hR0, fun G n M hsio hC => ?_, fun G n M hM => (m_alike (w := 1) hM hb hc1 hc (fun i hi => sk_of (hs i hi)) (bw_of (hw b hb)) (tu_of ht) (by rw [hd, he]; rfl) (by decide)).post (fun r M2 h => ?_)⟩
            · obtain ⟨g, g', fa, fb, fc, hgg, h20, hG, hA, hfa, hB, hfb, hCC, hfc, hst, hbo, har, hT, hV, h40⟩ := cl_open hc hc1 hc2 hC
              obtain ⟨zz, b0, b1, q0, q1, q2, h35, h36, h37, h38⟩ := cl_open35 hC
              have h := c12_alike_1 (G := G) (n := n) (s := s) h20 hG hA hfa hB hfb hb hc1 (hbo b hb) hT hV hc hst (by omega) h35 h36 h37 h38 hd he
              rw [fl_i_c (q0 := (fun i => fl_V tu s (bw (2 * b)) (bw (2 * b + 1)) i (s (7 * i + 6)))) (q1 := (fun i => fl_V tu s (bw (2 * b)) (bw (2 * b + 1)) i (s (7 * i + 6)))) (q2 := fl_D s (bw (2 * b))) (fun k hk => fl_mix_in hk) (fun k hk => fl_mix_in hk) (fun k hk => fl_mix_in hk) c0 (Nat.le_refl _)] at h
              exact cl_us h (cl_S_35 hC) (fun k hk => (ev_set_ne (by omega)).trans (fl_out (by omega)))
            · obtain ⟨⟨B, hB, hbest, hr⟩, hS, hf⟩ := h
              refine ⟨?_, hS, hf⟩
              have hE := al_eq hc (fun i hi => fl_V_b (sk_of (hs i hi)) hw20 (bw_of (hw b hb)).2 (tu_of ht)) (fun i hi => fl_D_b (sk_of (hs i hi)) hw20) (sp_in_to (a := 0) (b := 999) hd rfl rfl) (sp_in_to (a := 0) (b := 999) he rfl rfl) hB hbest
              rw [hE, hr, if_neg (by decide)]
        · have hwf : sp_in w 0 1 = false := Bool.not_eq_true _ ▸ hw1
          refine ⟨-1, tn, c0, c1, c2, sh, tx, s, kp, bw, ar, tu, k0, k1, tr, hR0, fun G n M hsio hC => ?_, fun G n M hM => ?_⟩
          · obtain ⟨g, g', fa, fb, fc, hgg, h20, hG, hA, hfa, hB, hfb, hCC, hfc, hst, hbo, har, hT, hV, h40⟩ := cl_open hc hc1 hc2 hC
            exact cl_qs hC (c12_alike_no h20 hG hB hfb hb hc1 (by simp only [hwf, Bool.and_false, Bool.false_and]))
          · exact m_alike_no hM (by simp only [hwf, Bool.and_false, Bool.false_and])
      · have hef : sp_in e 0 999 = false := Bool.not_eq_true _ ▸ he
        refine ⟨-1, tn, c0, c1, c2, sh, tx, s, kp, bw, ar, tu, k0, k1, tr, hR0, fun G n M hsio hC => ?_, fun G n M hM => ?_⟩
        · obtain ⟨g, g', fa, fb, fc, hgg, h20, hG, hA, hfa, hB, hfb, hCC, hfc, hst, hbo, har, hT, hV, h40⟩ := cl_open hc hc1 hc2 hC
          exact cl_qs hC (c12_alike_no h20 hG hB hfb hb hc1 (by simp only [hef, Bool.and_false, Bool.false_and]))
        · exact m_alike_no hM (by simp only [hef, Bool.and_false, Bool.false_and])
    · have hdf : sp_in d 0 999 = false := Bool.not_eq_true _ ▸ hd
      refine ⟨-1, tn, c0, c1, c2, sh, tx, s, kp, bw, ar, tu, k0, k1, tr, hR0, fun G n M hsio hC => ?_, fun G n M hM => ?_⟩
      · obtain ⟨g, g', fa, fb, fc, hgg, h20, hG, hA, hfa, hB, hfb, hCC, hfc, hst, hbo, har, hT, hV, h40⟩ := cl_open hc hc1 hc2 hC
        exact cl_qs hC (c12_alike_no h20 hG hB hfb hb hc1 (by simp only [hdf, Bool.and_false, Bool.false_and]))
      · exact m_alike_no hM (by simp only [hdf, Bool.and_false, Bool.false_and])
  · refine ⟨-1, tn, c0, c1, c2, sh, tx, s, kp, bw, ar, tu, k0, k1, tr, hR0, fun G n M hsio hC => ?_, fun G n M hM => ?_⟩
    · obtain ⟨g, g', fa, fb, fc, hgg, h20, hG, hA, hfa, hB, hfb, hCC, hfc, hst, hbo, har, hT, hV, h40⟩ := cl_open hc hc1 hc2 hC
      exact cl_qs hC (c12_alike_b h20 hG hb')
    · exact m_alike_no hM (by simp only [sp_in_out (show c1 < 2 ^ 31 by omega) hb', Bool.and_false, Bool.false_and])
