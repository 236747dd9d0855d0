/-! ===== both sides: least ===== -/
theorem la_ok {s : Nat → Int32} {c q l : Nat} (hs : sk_ok s) (hc : c < 16) (hq : q < 16) (hl : l < 16) : (decide (nI c ≤ la_MC s) && (decide (nI q ≤ la_MS s) && decide (nI l ≤ la_ML s))) = tr_ok s (nI c) (nI q) (nI l) := by
  obtain ⟨h0, h1, h2, h3, h4, h5, h6⟩ := hs
  have ec : (nI c).toInt = (c : Int) := nI_toInt (by omega)
  have eq' : (nI q).toInt = (q : Int) := nI_toInt (by omega)
  have el : (nI l).toInt = (l : Int) := nI_toInt (by omega)
  have rc : rb (nI c) 16 := rb_nI (by omega) (by omega)
  have rq : rb (nI q) 16 := rb_nI (by omega) (by omega)
  have rl : rb (nI l) 16 := rb_nI (by omega) (by omega)
  have e0 : (s 0 - nI c).toInt = (s 0).toInt - c := by rw [ti_sub (A := 130) (rb_of h0.1 h0.2 (by omega) (by omega)) rc (by omega), ec]
  have e2 : (s 2 - nI q).toInt = (s 2).toInt - q := by rw [ti_sub (A := 99) (rb_of h2.1 h2.2 (by omega) (by omega)) rq (by omega), eq']
  have e3 : (s 3 - nI q).toInt = (s 3).toInt - q := by rw [ti_sub (A := 99) (rb_of h3.1 h3.2 (by omega) (by omega)) rq (by omega), eq']
  have r2q : rb (2 * nI q) 32 := rb_mul (A := 2) (rb_l (by decide +kernel)) rq (by omega) (by omega)
  have e1 : (s 1 - 2 * nI q).toInt = (s 1).toInt - 2 * q := by rw [ti_sub (A := 600) (rb_of h1.1 h1.2 (by omega) (by omega)) r2q (by omega), ti_mul (A := 2) (rb_l (by decide +kernel)) rq (by omega), ti_2, eq']
  have r5l : rb (5 * nI l) 80 := rb_mul (A := 5) (rb_l (by decide +kernel)) rl (by omega) (by omega)
  have e4 : (s 4 + 5 * nI l).toInt = (s 4).toInt + 5 * l := by rw [ti_add (A := 200) (rb_of h4.1 h4.2 (by omega) (by omega)) r5l (by omega), ti_mul (A := 5) (rb_l (by decide +kernel)) rl (by omega), show (5 : Int32).toInt = 5 from by decide +kernel, el]
  have m1 : (la_MC s).toInt = min 15 ((s 0).toInt - 80) := by
    rw [la_MC, sp_min_ti, ti_sub (A := 130) (B := 80) (rb_of h0.1 h0.2 (by omega) (by omega)) (rb_l (by decide +kernel)) (by omega)]; rfl
  have m2 : (la_MS s).toInt = min 15 (min (min (s 2).toInt (s 3).toInt - 20) (((s 1).toInt - 200) / 2)) := by
    rw [la_MS, sp_min_ti, x_scr h2 h3 h1]; rfl
  have m3 : (la_ML s).toInt = min 15 ((200 - (s 4).toInt) / 5) := by
    rw [la_ML, sp_min_ti, ti_div (by decide +kernel), ti_sub (A := 200) (B := 200) (rb_l (by decide +kernel)) (rb_of h4.1 h4.2 (by omega) (by omega)) (by omega), show (200 : Int32).toInt = 200 from rfl, show (5 : Int32).toInt = 5 from rfl, show (15 : Int32).toInt = 15 from rfl, Int.tdiv_eq_ediv_of_nonneg (by omega)]
  unfold tr_ok
  rw [Bool.eq_iff_iff]
  simp only [Bool.and_eq_true, Bool.or_eq_true, decide_eq_true_eq, Int32.le_iff_toInt_le, e0, e1, e2, e3, e4, ec, eq', el, m1, m2, m3]
  rw [show (80 : Int32).toInt = 80 from by decide +kernel, show (20 : Int32).toInt = 20 from by decide +kernel, show (200 : Int32).toInt = 200 from by decide +kernel, ti_0]
  omega
theorem la_mt {tu s : Nat → Int32} {dr wi a b : Int32} {t c q l : Nat} (hs : sk_ok s) (ht : t < 2) (hc : c < 16) (hq : q < 16) (hl : l < 16) : la_P tu s (sp_need dr wi) a b t c q l = mt_P tu s dr wi a b t c q l := by
  have h1 := la_ok hs hc hq hl
  have h2 : la_off s (sp_need dr wi) t c q l = fx_of (tr_o s (nI t) (nI c) (nI q) (nI l)) dr wi := by
    have e : la_st s t - nI q = sp_stiff (s 2 - nI q) (s 3 - nI q) (if nI t = 0 then s 6 else 1 - s 6) := by
      have et : (if t = 0 then s 6 else 1 - s 6) = (if nI t = 0 then s 6 else 1 - s 6) := by
        rcases t with _ | _ | t
        · rfl
        · rfl
        · omega
      unfold la_st sp_stiff
      rw [et]
      by_cases z : (if nI t = 0 then s 6 else 1 - s 6) = 0
      · rw [if_pos z, if_pos z]
      · rw [if_neg z, if_neg z]
    rw [la_off, e]
    rfl
  have h3 : la_mass s q l = tr_o s (nI t) (nI c) (nI q) (nI l) 1 + tr_o s (nI t) (nI c) (nI q) (nI l) 4 := by
    show s 1 + s 4 - 2 * nI q + 5 * nI l = (s 1 - 2 * nI q) + (s 4 + 5 * nI l)
    rw [Int32.sub_eq_add_neg, Int32.sub_eq_add_neg]
    ac_rfl
  have h4 : sp_clean (tu 0) (la_off s (sp_need dr wi) t c q l) = decide (fx_ki tu (tr_o s (nI t) (nI c) (nI q) (nI l)) dr wi = 1) := by
    rw [h2, sp_kind_1 (sl := tu 1)]; rfl
  unfold la_P mt_P
  rw [← h1, h4, h3, Bool.and_assoc, Bool.and_assoc, Bool.and_comm (sp_in _ _ _)]
theorem la_l_cg {P Q : Nat → Nat → Nat → Nat → Bool} {t c s : Nat} {A : la_A} : ∀ n : Nat, (∀ l, l < n → P t c s l = Q t c s l) → la_l P t c s n A = la_l Q t c s n A
  | 0, _ => rfl
  | n + 1, h => by rw [la_l, la_l, la_l_cg n (fun l hl => h l (by omega)), la_step, la_step, h n (by omega)]
theorem la_s_cg {P Q : Nat → Nat → Nat → Nat → Bool} {t c : Nat} {A : la_A} : ∀ n : Nat, (∀ s, s < n → ∀ l, l < 16 → P t c s l = Q t c s l) → la_s P t c n A = la_s Q t c n A
  | 0, _ => rfl
  | n + 1, h => by rw [la_s, la_s, la_s_cg n (fun s hs => h s (by omega)), la_l_cg 16 (h n (by omega))]
theorem la_c_cg {P Q : Nat → Nat → Nat → Nat → Bool} {t : Nat} {A : la_A} : ∀ n : Nat, (∀ c, c < n → ∀ s, s < 16 → ∀ l, l < 16 → P t c s l = Q t c s l) → la_c P t n A = la_c Q t n A
  | 0, _ => rfl
  | n + 1, h => by rw [la_c, la_c, la_c_cg n (fun c hc => h c (by omega)), la_s_cg 16 (h n (by omega))]
theorem la_t_cg {P Q : Nat → Nat → Nat → Nat → Bool} {A : la_A} : ∀ n : Nat, (∀ t, t < n → ∀ c, c < 16 → ∀ s, s < 16 → ∀ l, l < 16 → P t c s l = Q t c s l) → la_t P n A = la_t Q n A
  | 0, _ => rfl
  | n + 1, h => by rw [la_t, la_t, la_t_cg n (fun t ht => h t (by omega)), la_c_cg 16 (h n (by omega))]
/-- what was left from before is not read -/
def la_rel (A B : la_A) : Prop := A = B ∨ (A.1 = -9 ∧ B.1 = -9)
theorem la_rel_step {P : Nat → Nat → Nat → Nat → Bool} {t c s l : Nat} {A B : la_A} (h : la_rel A B) : la_rel (la_step P t c s l A) (la_step P t c s l B) := by
  rcases h with rfl | ⟨h1, h2⟩
  · exact Or.inl rfl
  · unfold la_step
    by_cases e : P t c s l = true
    · rw [if_pos ⟨e, Or.inl h1⟩, if_pos ⟨e, Or.inl h2⟩]; exact Or.inl rfl
    · rw [if_neg (fun q => e q.1), if_neg (fun q => e q.1)]; exact Or.inr ⟨h1, h2⟩
theorem la_rel_l {P : Nat → Nat → Nat → Nat → Bool} {t c s : Nat} {A B : la_A} (h : la_rel A B) : ∀ n : Nat, la_rel (la_l P t c s n A) (la_l P t c s n B)
  | 0 => h
  | n + 1 => la_rel_step (la_rel_l h n)
theorem la_rel_s {P : Nat → Nat → Nat → Nat → Bool} {t c : Nat} {A B : la_A} (h : la_rel A B) : ∀ n : Nat, la_rel (la_s P t c n A) (la_s P t c n B)
  | 0 => h
  | n + 1 => la_rel_l (la_rel_s h n) 16
theorem la_rel_c {P : Nat → Nat → Nat → Nat → Bool} {t : Nat} {A B : la_A} (h : la_rel A B) : ∀ n : Nat, la_rel (la_c P t n A) (la_c P t n B)
  | 0 => h
  | n + 1 => la_rel_s (la_rel_c h n) 16
theorem la_rel_t {P : Nat → Nat → Nat → Nat → Bool} {A B : la_A} (h : la_rel A B) : ∀ n : Nat, la_rel (la_t P n A) (la_t P n B)
  | 0 => h
  | n + 1 => la_rel_c (la_rel_t h n) 16
theorem la_w_rel {A B : la_A} {w : Nat} (h : la_rel A B) : la_w A w = la_w B w := by
  rcases h with rfl | ⟨h1, h2⟩
  · rfl
  · rw [la_w, la_w, if_pos h1, if_pos h2]
theorem cl_S_39 {M : ev_M} {tn c0 c1 c2 sh : Nat} {tx s kp bw ar tu : Nat → Int32} {k0 k1 : Bool} {tr : Int64} {A : la_A} (hC : cl_S M tn c0 c1 c2 sh tx s kp bw ar tu k0 k1 tr) : cl_S (ev_set M 39 (la_o A)) tn c0 c1 c2 sh tx s kp bw ar tu k0 k1 tr := by
  obtain ⟨g, g', d0, d1, d2, tb, sC, bC, aC, sD, bD, aD, nm, q0, q1, q2, pl, z0, z1, z2, t0, t1, t2, t3, t4, hgg, h20, h21, h22, htb, h24, h25, h26, h27, h85, h35, h36, h37, h38, h39, h40, h41, h63, hG, hsC, hbC, haC, hG', hd0, hd1, hd2⟩ := hC
  have hk : ∀ q, q ≠ 39 → ev_set M 39 (la_o A) q = M q := fun q hq => ev_set_ne hq
  exact ⟨g, g', d0, d1, d2, tb, sC, bC, aC, sD, bD, aD, nm, q0, q1, q2, pl, z0, z1, z2, A.1, A.2.1, A.2.2.1, A.2.2.2.1, A.2.2.2.2, hgg, (hk 21 (by decide)).trans h20, (hk 22 (by decide)).trans h21, (hk 23 (by decide)).trans h22, htb, (hk 24 (by decide)).trans h24, (hk 25 (by decide)).trans h25, (hk 26 (by decide)).trans h26, cl_sheet_keep (fun a z1 z2 => hk a (by omega)) h27, h85, (hk 35 (by decide)).trans h35, (hk 36 (by decide)).trans h36, (hk 37 (by decide)).trans h37, (hk 38 (by decide)).trans h38, ev_set_eq, (hk 40 (by decide)).trans h40, cl_img_keep (fun a z1 z2 => hk a (by omega)) h41, cl_img_keep (fun a z1 z2 => hk a (by omega)) h63, cl_gear_keep (fun a z1 z2 => hk a (by omega)) hG, hsC, hbC, haC, cl_gear_keep (fun a z1 z2 => hk a (by omega)) hG', hd0, hd1, hd2⟩
theorem cl_open39 {M : ev_M} {tn c0 c1 c2 sh : Nat} {tx s kp bw ar tu : Nat → Int32} {k0 k1 : Bool} {tr : Int64} (hC : cl_S M tn c0 c1 c2 sh tx s kp bw ar tu k0 k1 tr) : ∃ A : la_A, M 39 = la_o A := by
  obtain ⟨g, g', d0, d1, d2, tb, sC, bC, aC, sD, bD, aD, nm, q0, q1, q2, pl, z0, z1, z2, t0, t1, t2, t3, t4, hgg, h20, h21, h22, htb, h24, h25, h26, h27, h85, h35, h36, h37, h38, h39, h40, h41, h63, hG, hsC, hbC, haC, hG', hd0, hd1, hd2⟩ := hC
  exact ⟨(t0, t1, t2, t3, t4), h39⟩
theorem x_least (i b lo hi w : Int32) : x_ok mX11_least mX12_least 4 5 [.int i, .int b, .int lo, .int hi, .int w] := by
  refine x_ok_s (fun tn c0 c1 c2 sh tx s kp bw ar tu k0 k1 tr hR => ?_)
  have hR0 := hR
  obtain ⟨⟨htn, htx⟩, ⟨hc, hs⟩, ⟨hc1, hw⟩, ⟨hc2, ha⟩, ht, hsh, hk0, hk1⟩ := hR
  rcases sp_pos (i := i) (c := c0) (by omega) with ⟨j, hj, rfl⟩ | hi'
  · rcases sp_pos (i := b) (c := c1) (by omega) with ⟨b, hb, rfl⟩ | hb'
    · have hsk := sk_of (hs j hj)
      by_cases h1 : 200 ≤ lo
      · by_cases h2 : lo ≤ hi
        · by_cases h3 : hi ≤ 800
          · have hlo : sp_in lo 200 hi = true := sp_in_t h1 h2
            have hhi : sp_in hi 200 800 = true := sp_in_t (Int32.le_trans h1 h2) h3
            rcases sp_pos (i := w) (c := 5) (by decide) with ⟨k, hk, rfl⟩ | hw'
            · rcases k with _ | _ | _ | _ | _ | k
              · refine ⟨la_w (la_t (mt_P tu (fun q => s (7 * j + q)) (bw (2 * b)) (bw (2 * b + 1)) lo hi) 2 ((-9 : Int32), 0, 0, 0, 0)) 0, tn, c0, c1, c2, sh, tx, s, kp, bw, ar, tu, k0, k1, tr, hR0, fun G n M hsio hC => ?_, fun G n M hM => (m_least (w := 0) hM hj hc hb hc1 hsk (bw_of (hw b hb)) (tu_of ht) hhi hlo (by decide)).post (fun r M1 h => ?_)⟩
                · obtain ⟨g, g', fa, fb, fc, hgg, h20, hG, hA, hfa, hB, hfb, hCC, hfc, hst, hbo, har, hT, hV, h40⟩ := cl_open hc hc1 hc2 hC
                  obtain ⟨A, h39⟩ := cl_open39 hC
                  have hE : la_t (la_P tu (fun q => s (7 * j + q)) (sp_need (bw (2 * b)) (bw (2 * b + 1))) lo hi) 2 ((-9 : Int32), A.2) = la_t (mt_P tu (fun q => s (7 * j + q)) (bw (2 * b)) (bw (2 * b + 1)) lo hi) 2 ((-9 : Int32), A.2) := la_t_cg 2 (fun t ht c hc s hs l hl => la_mt hsk ht hc hs hl)
                  have hV2 : la_w (la_t (mt_P tu (fun q => s (7 * j + q)) (bw (2 * b)) (bw (2 * b + 1)) lo hi) 2 ((-9 : Int32), 0, 0, 0, 0)) 0 = la_w (la_t (mt_P tu (fun q => s (7 * j + q)) (bw (2 * b)) (bw (2 * b + 1)) lo hi) 2 ((-9 : Int32), A.2)) 0 := la_w_rel (la_rel_t (Or.inr ⟨rfl, rfl⟩) 2)
                  by_cases h9 : (la_t (mt_P tu (fun q => s (7 * j + q)) (bw (2 * b)) (bw (2 * b + 1)) lo hi) 2 ((-9 : Int32), A.2)).1 = -9
                  · have h := c12_least_none (G := G) (n := n) (s := fun q => s (7 * j + q)) h20 hG hA hfa hB hfb hj hc hb hc1 (hst j hj) (hbo b hb) hT hV h39 (by omega) h1 h2 h3 (w := 0) (by decide) (by rw [hE]; exact h9)
                    rw [show ((-9 : Int32)) = la_w (la_t (mt_P tu (fun q => s (7 * j + q)) (bw (2 * b)) (bw (2 * b + 1)) lo hi) 2 ((-9 : Int32), 0, 0, 0, 0)) 0 by rw [hV2, la_w, if_pos h9]] at h
                    exact cl_us h (cl_S_39 hC) (fun k hk => ev_set_ne (by omega))
                  · have h := c12_least_0 (G := G) (n := n) (s := fun q => s (7 * j + q)) h20 hG hA hfa hB hfb hj hc hb hc1 (hst j hj) (hbo b hb) hT hV h39 (by omega) h1 h2 h3 (by rw [hE]; exact h9)
                    rw [hE] at h
                    rw [hV2, la_w, if_neg h9]
                    exact cl_us h (cl_S_39 hC) (fun k hk => ev_set_ne (by omega))
                · obtain ⟨a1, a2, a3, a4, hr, hS, hf⟩ := h
                  refine ⟨?_, hS, hf⟩
                  rw [hr]
                  exact congrArg (fun z => some (Value.int z)) (la_w_rel (la_rel_t (Or.inr ⟨rfl, rfl⟩) 2))
              · refine ⟨la_w (la_t (mt_P tu (fun q => s (7 * j + q)) (bw (2 * b)) (bw (2 * b + 1)) lo hi) 2 ((-9 : Int32), 0, 0, 0, 0)) 1, tn, c0, c1, c2, sh, tx, s, kp, bw, ar, tu, k0, k1, tr, hR0, fun G n M hsio hC => ?_, fun G n M hM => (m_least (w := 1) hM hj hc hb hc1 hsk (bw_of (hw b hb)) (tu_of ht) hhi hlo (by decide)).post (fun r M1 h => ?_)⟩
                · obtain ⟨g, g', fa, fb, fc, hgg, h20, hG, hA, hfa, hB, hfb, hCC, hfc, hst, hbo, har, hT, hV, h40⟩ := cl_open hc hc1 hc2 hC
                  obtain ⟨A, h39⟩ := cl_open39 hC
                  have hE : la_t (la_P tu (fun q => s (7 * j + q)) (sp_need (bw (2 * b)) (bw (2 * b + 1))) lo hi) 2 ((-9 : Int32), A.2) = la_t (mt_P tu (fun q => s (7 * j + q)) (bw (2 * b)) (bw (2 * b + 1)) lo hi) 2 ((-9 : Int32), A.2) := la_t_cg 2 (fun t ht c hc s hs l hl => la_mt hsk ht hc hs hl)
                  have hV2 : la_w (la_t (mt_P tu (fun q => s (7 * j + q)) (bw (2 * b)) (bw (2 * b + 1)) lo hi) 2 ((-9 : Int32), 0, 0, 0, 0)) 1 = la_w (la_t (mt_P tu (fun q => s (7 * j + q)) (bw (2 * b)) (bw (2 * b + 1)) lo hi) 2 ((-9 : Int32), A.2)) 1 := la_w_rel (la_rel_t (Or.inr ⟨rfl, rfl⟩) 2)
                  by_cases h9 : (la_t (mt_P tu (fun q => s (7 * j + q)) (bw (2 * b)) (bw (2 * b + 1)) lo hi) 2 ((-9 : Int32), A.2)).1 = -9
                  · have h := c12_least_none (G := G) (n := n) (s := fun q => s (7 * j + q)) h20 hG hA hfa hB hfb hj hc hb hc1 (hst j hj) (hbo b hb) hT hV h39 (by omega) h1 h2 h3 (w := 1) (by decide) (by rw [hE]; exact h9)
                    rw [show ((-9 : Int32)) = la_w (la_t (mt_P tu (fun q => s (7 * j + q)) (bw (2 * b)) (bw (2 * b + 1)) lo hi) 2 ((-9 : Int32), 0, 0, 0, 0)) 1 by rw [hV2, la_w, if_pos h9]] at h
                    exact cl_us h (cl_S_39 hC) (fun k hk => ev_set_ne (by omega))
                  · have h := c12_least_1 (G := G) (n := n) (s := fun q => s (7 * j + q)) h20 hG hA hfa hB hfb hj hc hb hc1 (hst j hj) (hbo b hb) hT hV h39 (by omega) h1 h2 h3 (by rw [hE]; exact h9)
                    rw [hE] at h
                    rw [hV2, la_w, if_neg h9]
                    exact cl_us h (cl_S_39 hC) (fun k hk => ev_set_ne (by omega))
                · obtain ⟨a1, a2, a3, a4, hr, hS, hf⟩ := h
                  refine ⟨?_, hS, hf⟩
                  rw [hr]
                  exact congrArg (fun z => some (Value.int z)) (la_w_rel (la_rel_t (Or.inr ⟨rfl, rfl⟩) 2))
              · refine ⟨la_w (la_t (mt_P tu (fun q => s (7 * j + q)) (bw (2 * b)) (bw (2 * b + 1)) lo hi) 2 ((-9 : Int32), 0, 0, 0, 0)) 2, tn, c0, c1, c2, sh, tx, s, kp, bw, ar, tu, k0, k1, tr, hR0, fun G n M hsio hC => ?_, fun G n M hM => (m_least (w := 2) hM hj hc hb hc1 hsk (bw_of (hw b hb)) (tu_of ht) hhi hlo (by decide)).post (fun r M1 h => ?_)⟩
                · obtain ⟨g, g', fa, fb, fc, hgg, h20, hG, hA, hfa, hB, hfb, hCC, hfc, hst, hbo, har, hT, hV, h40⟩ := cl_open hc hc1 hc2 hC
                  obtain ⟨A, h39⟩ := cl_open39 hC
                  have hE : la_t (la_P tu (fun q => s (7 * j + q)) (sp_need (bw (2 * b)) (bw (2 * b + 1))) lo hi) 2 ((-9 : Int32), A.2) = la_t (mt_P tu (fun q => s (7 * j + q)) (bw (2 * b)) (bw (2 * b + 1)) lo hi) 2 ((-9 : Int32), A.2) := la_t_cg 2 (fun t ht c hc s hs l hl => la_mt hsk ht hc hs hl)
                  have hV2 : la_w (la_t (mt_P tu (fun q => s (7 * j + q)) (bw (2 * b)) (bw (2 * b + 1)) lo hi) 2 ((-9 : Int32), 0, 0, 0, 0)) 2 = la_w (la_t (mt_P tu (fun q => s (7 * j + q)) (bw (2 * b)) (bw (2 * b + 1)) lo hi) 2 ((-9 : Int32), A.2)) 2 := la_w_rel (la_rel_t (Or.inr ⟨rfl, rfl⟩) 2)
                  by_cases h9 : (la_t (mt_P tu (fun q => s (7 * j + q)) (bw (2 * b)) (bw (2 * b + 1)) lo hi) 2 ((-9 : Int32), A.2)).1 = -9
                  · have h := c12_least_none (G := G) (n := n) (s := fun q => s (7 * j + q)) h20 hG hA hfa hB hfb hj hc hb hc1 (hst j hj) (hbo b hb) hT hV h39 (by omega) h1 h2 h3 (w := 2) (by decide) (by rw [hE]; exact h9)
                    rw [show ((-9 : Int32)) = la_w (la_t (mt_P tu (fun q => s (7 * j + q)) (bw (2 * b)) (bw (2 * b + 1)) lo hi) 2 ((-9 : Int32), 0, 0, 0, 0)) 2 by rw [hV2, la_w, if_pos h9]] at h
                    exact cl_us h (cl_S_39 hC) (fun k hk => ev_set_ne (by omega))
                  · have h := c12_least_2 (G := G) (n := n) (s := fun q => s (7 * j + q)) h20 hG hA hfa hB hfb hj hc hb hc1 (hst j hj) (hbo b hb) hT hV h39 (by omega) h1 h2 h3 (by rw [hE]; exact h9)
                    rw [hE] at h
                    rw [hV2, la_w, if_neg h9]
                    exact cl_us h (cl_S_39 hC) (fun k hk => ev_set_ne (by omega))
                · obtain ⟨a1, a2, a3, a4, hr, hS, hf⟩ := h
                  refine ⟨?_, hS, hf⟩
                  rw [hr]
                  exact congrArg (fun z => some (Value.int z)) (la_w_rel (la_rel_t (Or.inr ⟨rfl, rfl⟩) 2))
              · refine ⟨la_w (la_t (mt_P tu (fun q => s (7 * j + q)) (bw (2 * b)) (bw (2 * b + 1)) lo hi) 2 ((-9 : Int32), 0, 0, 0, 0)) 3, tn, c0, c1, c2, sh, tx, s, kp, bw, ar, tu, k0, k1, tr, hR0, fun G n M hsio hC => ?_, fun G n M hM => (m_least (w := 3) hM hj hc hb hc1 hsk (bw_of (hw b hb)) (tu_of ht) hhi hlo (by decide)).post (fun r M1 h => ?_)⟩
                · obtain ⟨g, g', fa, fb, fc, hgg, h20, hG, hA, hfa, hB, hfb, hCC, hfc, hst, hbo, har, hT, hV, h40⟩ := cl_open hc hc1 hc2 hC
                  obtain ⟨A, h39⟩ := cl_open39 hC
                  have hE : la_t (la_P tu (fun q => s (7 * j + q)) (sp_need (bw (2 * b)) (bw (2 * b + 1))) lo hi) 2 ((-9 : Int32), A.2) = la_t (mt_P tu (fun q => s (7 * j + q)) (bw (2 * b)) (bw (2 * b + 1)) lo hi) 2 ((-9 : Int32), A.2) := la_t_cg 2 (fun t ht c hc s hs l hl => la_mt hsk ht hc hs hl)
                  have hV2 : la_w (la_t (mt_P tu (fun q => s (7 * j + q)) (bw (2 * b)) (bw (2 * b + 1)) lo hi) 2 ((-9 : Int32), 0, 0, 0, 0)) 3 = la_w (la_t (mt_P tu (fun q => s (7 * j + q)) (bw (2 * b)) (bw (2 * b + 1)) lo hi) 2 ((-9 : Int32), A.2)) 3 := la_w_rel (la_rel_t (Or.inr ⟨rfl, rfl⟩) 2)
                  by_cases h9 : (la_t (mt_P tu (fun q => s (7 * j + q)) (bw (2 * b)) (bw (2 * b + 1)) lo hi) 2 ((-9 : Int32), A.2)).1 = -9
                  · have h := c12_least_none (G := G) (n := n) (s := fun q => s (7 * j + q)) h20 hG hA hfa hB hfb hj hc hb hc1 (hst j hj) (hbo b hb) hT hV h39 (by omega) h1 h2 h3 (w := 3) (by decide) (by rw [hE]; exact h9)
                    rw [show ((-9 : Int32)) = la_w (la_t (mt_P tu (fun q => s (7 * j + q)) (bw (2 * b)) (bw (2 * b + 1)) lo hi) 2 ((-9 : Int32), 0, 0, 0, 0)) 3 by rw [hV2, la_w, if_pos h9]] at h
                    exact cl_us h (cl_S_39 hC) (fun k hk => ev_set_ne (by omega))
                  · have h := c12_least_3 (G := G) (n := n) (s := fun q => s (7 * j + q)) h20 hG hA hfa hB hfb hj hc hb hc1 (hst j hj) (hbo b hb) hT hV h39 (by omega) h1 h2 h3 (by rw [hE]; exact h9)
                    rw [hE] at h
                    rw [hV2, la_w, if_neg h9]
                    exact cl_us h (cl_S_39 hC) (fun k hk => ev_set_ne (by omega))
                · obtain ⟨a1, a2, a3, a4, hr, hS, hf⟩ := h
                  refine ⟨?_, hS, hf⟩
                  rw [hr]
                  exact congrArg (fun z => some (Value.int z)) (la_w_rel (la_rel_t (Or.inr ⟨rfl, rfl⟩) 2))
              · refine ⟨la_w (la_t (mt_P tu (fun q => s (7 * j + q)) (bw (2 * b)) (bw (2 * b + 1)) lo hi) 2 ((-9 : Int32), 0, 0, 0, 0)) 4, tn, c0, c1, c2, sh, tx, s, kp, bw, ar, tu, k0, k1, tr, hR0, fun G n M hsio hC => ?_, fun G n M hM => (m_least (w := 4) hM hj hc hb hc1 hsk (bw_of (hw b hb)) (tu_of ht) hhi hlo (by decide)).post (fun r M1 h => ?_)⟩
                · obtain ⟨g, g', fa, fb, fc, hgg, h20, hG, hA, hfa, hB, hfb, hCC, hfc, hst, hbo, har, hT, hV, h40⟩ := cl_open hc hc1 hc2 hC
                  obtain ⟨A, h39⟩ := cl_open39 hC
                  have hE : la_t (la_P tu (fun q => s (7 * j + q)) (sp_need (bw (2 * b)) (bw (2 * b + 1))) lo hi) 2 ((-9 : Int32), A.2) = la_t (mt_P tu (fun q => s (7 * j + q)) (bw (2 * b)) (bw (2 * b + 1)) lo hi) 2 ((-9 : Int32), A.2) := la_t_cg 2 (fun t ht c hc s hs l hl => la_mt hsk ht hc hs hl)
                  have hV2 : la_w (la_t (mt_P tu (fun q => s (7 * j + q)) (bw (2 * b)) (bw (2 * b + 1)) lo hi) 2 ((-9 : Int32), 0, 0, 0, 0)) 4 = la_w (la_t (mt_P tu (fun q => s (7 * j + q)) (bw (2 * b)) (bw (2 * b + 1)) lo hi) 2 ((-9 : Int32), A.2)) 4 := la_w_rel (la_rel_t (Or.inr ⟨rfl, rfl⟩) 2)
                  by_cases h9 : (la_t (mt_P tu (fun q => s (7 * j + q)) (bw (2 * b)) (bw (2 * b + 1)) lo hi) 2 ((-9 : Int32), A.2)).1 = -9
                  · have h := c12_least_none (G := G) (n := n) (s := fun q => s (7 * j + q)) h20 hG hA hfa hB hfb hj hc hb hc1 (hst j hj) (hbo b hb) hT hV h39 (by omega) h1 h2 h3 (w := 4) (by decide) (by rw [hE]; exact h9)
                    rw [show ((-9 : Int32)) = la_w (la_t (mt_P tu (fun q => s (7 * j + q)) (bw (2 * b)) (bw (2 * b + 1)) lo hi) 2 ((-9 : Int32), 0, 0, 0, 0)) 4 by rw [hV2, la_w, if_pos h9]] at h
                    exact cl_us h (cl_S_39 hC) (fun k hk => ev_set_ne (by omega))
                  · have h := c12_least_4 (G := G) (n := n) (s := fun q => s (7 * j + q)) h20 hG hA hfa hB hfb hj hc hb hc1 (hst j hj) (hbo b hb) hT hV h39 (by omega) h1 h2 h3 (by rw [hE]; exact h9)
                    rw [hE] at h
                    rw [hV2, la_w, if_neg h9]
                    exact cl_us h (cl_S_39 hC) (fun k hk => ev_set_ne (by omega))
                · obtain ⟨a1, a2, a3, a4, hr, hS, hf⟩ := h
                  refine ⟨?_, hS, hf⟩
                  rw [hr]
                  exact congrArg (fun z => some (Value.int z)) (la_w_rel (la_rel_t (Or.inr ⟨rfl, rfl⟩) 2))
              · omega
            · have hw4 : sp_in w 0 4 = false := sp_in_no.mpr (x_hI (k := 4) (by decide) hw')
              refine ⟨-1, tn, c0, c1, c2, sh, tx, s, kp, bw, ar, tu, k0, k1, tr, hR0, fun G n M hsio hC => ?_, fun G n M hM => ?_⟩
              · obtain ⟨g, g', fa, fb, fc, hgg, h20, hG, hA, hfa, hB, hfb, hCC, hfc, hst, hbo, har, hT, hV, h40⟩ := cl_open hc hc1 hc2 hC
                exact cl_qs hC (c12_least_no h20 hG hA hfa hB hfb hj hc hb hc1 (Or.inr (Or.inr (Or.inr hw4))))
              · exact m_least_no hM (by simp only [hw4, Bool.and_false, Bool.false_and])
          · have hz : sp_in hi 200 800 = false := sp_in_2 (Int32.not_le.mp h3)
            refine ⟨-1, tn, c0, c1, c2, sh, tx, s, kp, bw, ar, tu, k0, k1, tr, hR0, fun G n M hsio hC => ?_, fun G n M hM => ?_⟩
            · obtain ⟨g, g', fa, fb, fc, hgg, h20, hG, hA, hfa, hB, hfb, hCC, hfc, hst, hbo, har, hT, hV, h40⟩ := cl_open hc hc1 hc2 hC
              exact cl_qs hC (c12_least_no h20 hG hA hfa hB hfb hj hc hb hc1 (Or.inr (Or.inr (Or.inl (Int32.not_le.mp h3)))))
            · exact m_least_no hM (by simp only [hz, Bool.and_false, Bool.false_and])
        · have hz : sp_in lo 200 hi = false := sp_in_2 (Int32.not_le.mp h2)
          refine ⟨-1, tn, c0, c1, c2, sh, tx, s, kp, bw, ar, tu, k0, k1, tr, hR0, fun G n M hsio hC => ?_, fun G n M hM => ?_⟩
          · obtain ⟨g, g', fa, fb, fc, hgg, h20, hG, hA, hfa, hB, hfb, hCC, hfc, hst, hbo, har, hT, hV, h40⟩ := cl_open hc hc1 hc2 hC
            exact cl_qs hC (c12_least_no h20 hG hA hfa hB hfb hj hc hb hc1 (Or.inr (Or.inl (Int32.not_le.mp h2))))
          · exact m_least_no hM (by simp only [hz, Bool.and_false, Bool.false_and])
      · have hz : sp_in lo 200 hi = false := sp_in_1 (Int32.not_le.mp h1)
        refine ⟨-1, tn, c0, c1, c2, sh, tx, s, kp, bw, ar, tu, k0, k1, tr, hR0, fun G n M hsio hC => ?_, fun G n M hM => ?_⟩
        · obtain ⟨g, g', fa, fb, fc, hgg, h20, hG, hA, hfa, hB, hfb, hCC, hfc, hst, hbo, har, hT, hV, h40⟩ := cl_open hc hc1 hc2 hC
          exact cl_qs hC (c12_least_no h20 hG hA hfa hB hfb hj hc hb hc1 (Or.inl (Int32.not_le.mp h1)))
        · exact m_least_no hM (by simp only [hz, Bool.and_false, Bool.false_and])
    · refine ⟨-1, tn, c0, c1, c2, sh, tx, s, kp, bw, ar, tu, k0, k1, tr, hR0, fun G n M hsio hC => ?_, fun G n M hM => ?_⟩
      · obtain ⟨g, g', fa, fb, fc, hgg, h20, hG, hA, hfa, hB, hfb, hCC, hfc, hst, hbo, har, hT, hV, h40⟩ := cl_open hc hc1 hc2 hC
        exact cl_qs hC (c12_least_b h20 hG hA hfa hj hc hb')
      · exact m_least_no hM (by simp only [sp_in_out (show c1 < 2 ^ 31 by omega) hb', Bool.and_false, Bool.false_and])
  · refine ⟨-1, tn, c0, c1, c2, sh, tx, s, kp, bw, ar, tu, k0, k1, tr, hR0, fun G n M hsio hC => ?_, fun G n M hM => ?_⟩
    · obtain ⟨g, g', fa, fb, fc, hgg, h20, hG, hA, hfa, hB, hfb, hCC, hfc, hst, hbo, har, hT, hV, h40⟩ := cl_open hc hc1 hc2 hC
      exact cl_qs hC (c12_least_i h20 hG hA hfa hB hfb hc hc1 hi')
    · exact m_least_no hM (by simp only [sp_in_out (show c0 < 2 ^ 31 by omega) hi', Bool.and_false, Bool.false_and])
