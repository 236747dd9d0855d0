/-! ===== numbers that stay small; contracts weakened ===== -/
theorem ev_Cal.post {G : ev_G} {y : ev_MI} {f rc ru n : Nat} {as : List Value} {M : ev_M} {Post Post2 : Option Value → ev_M → Prop} (hc : ev_Cal G y f rc ru as n M Post) (h : ∀ r M1, Post r M1 → Post2 r M1) : ev_Cal G y f rc ru as n M Post2 := by
  intro l
  refine MetFree.mono (hc l) (fun _ _ q => q) (fun _ _ _ _ _ q => q) (fun a st o t _ q => ?_)
  obtain ⟨⟨r, M', h1, h2, h3, h4⟩, h5⟩ := q
  exact ⟨⟨r, M', h1, h2, h r M' h3, h4⟩, h5⟩
def rb (x : Int32) (A : Nat) : Prop := x.toInt.natAbs ≤ A
theorem rb_iff {x : Int32} {A : Nat} : rb x A ↔ -(A : Int) ≤ x.toInt ∧ x.toInt ≤ A := by unfold rb; omega
theorem rb_w {x : Int32} {A B : Nat} (h : rb x A) (hb : A ≤ B) : rb x B := Nat.le_trans h hb
theorem ti_lo {x a : Int32} {z : Int} (h : a ≤ x) (e : a.toInt = z) : z ≤ x.toInt := e ▸ Int32.le_iff_toInt_le.mp h
theorem ti_hi {x b : Int32} {z : Int} (h : x ≤ b) (e : b.toInt = z) : x.toInt ≤ z := e ▸ Int32.le_iff_toInt_le.mp h
theorem ti_add {x y : Int32} {A B : Nat} (hx : rb x A) (hy : rb y B) (h : A + B < 2147483648) : (x + y).toInt = x.toInt + y.toInt := by
  have h1 := rb_iff.mp hx; have h2 := rb_iff.mp hy
  rw [Int32.toInt_add]; exact Int.bmod_eq_of_le (by omega) (by omega)
theorem ti_sub {x y : Int32} {A B : Nat} (hx : rb x A) (hy : rb y B) (h : A + B < 2147483648) : (x - y).toInt = x.toInt - y.toInt := by
  have h1 := rb_iff.mp hx; have h2 := rb_iff.mp hy
  rw [Int32.toInt_sub]; exact Int.bmod_eq_of_le (by omega) (by omega)
theorem ti_neg {x : Int32} {A : Nat} (hx : rb x A) (h : A < 2147483648) : (-x).toInt = -x.toInt := by
  have h1 := rb_iff.mp hx
  rw [Int32.toInt_neg]; exact Int.bmod_eq_of_le (by omega) (by omega)
theorem ti_mul {x y : Int32} {A B : Nat} (hx : rb x A) (hy : rb y B) (h : A * B < 2147483648) : (x * y).toInt = x.toInt * y.toInt := by
  have q : (x.toInt * y.toInt).natAbs ≤ A * B := by rw [Int.natAbs_mul]; exact Nat.mul_le_mul hx hy
  rw [Int32.toInt_mul]
  generalize x.toInt * y.toInt = z at q ⊢
  generalize A * B = c at q h
  exact Int.bmod_eq_of_le (by omega) (by omega)
theorem ti_div {x y : Int32} (h : 0 < y.toInt) : (x / y).toInt = x.toInt.tdiv y.toInt := Int32.toInt_div_of_ne_right _ _ (fun e => by rw [e] at h; exact absurd h (by decide +kernel))
theorem rb_add {x y : Int32} {A B C : Nat} (hx : rb x A) (hy : rb y B) (hc : A + B ≤ C) (h : C < 2147483648) : rb (x + y) C := by
  have h1 := rb_iff.mp hx; have h2 := rb_iff.mp hy
  rw [rb_iff, ti_add hx hy (by omega)]; omega
theorem rb_sub {x y : Int32} {A B C : Nat} (hx : rb x A) (hy : rb y B) (hc : A + B ≤ C) (h : C < 2147483648) : rb (x - y) C := by
  have h1 := rb_iff.mp hx; have h2 := rb_iff.mp hy
  rw [rb_iff, ti_sub hx hy (by omega)]; omega
theorem rb_neg {x : Int32} {A : Nat} (hx : rb x A) (h : A < 2147483648) : rb (-x) A := by
  have h1 := rb_iff.mp hx
  rw [rb_iff, ti_neg hx h]; omega
theorem rb_mul {x y : Int32} {A B C : Nat} (hx : rb x A) (hy : rb y B) (hc : A * B ≤ C) (h : C < 2147483648) : rb (x * y) C := by
  rw [rb, ti_mul hx hy (Nat.lt_of_le_of_lt hc h), Int.natAbs_mul]
  exact Nat.le_trans (Nat.mul_le_mul hx hy) hc
theorem rb_div {x y : Int32} {A c B : Nat} (hx : rb x A) (hy : (c : Int) ≤ y.toInt) (hc : 0 < c) (hB : A / c ≤ B) : rb (x / y) B := by
  rw [rb, ti_div (by omega), Int.natAbs_tdiv]
  exact Nat.le_trans (Nat.div_le_div hx (by omega) (by omega)) hB
theorem rb_nI {n A : Nat} (h : n ≤ A) (hA : A < 2147483648) : rb (nI n) A := by rw [rb, nI_toInt (by omega)]; omega
theorem rb_of {x : Int32} {a b : Int} {A : Nat} (h1 : a ≤ x.toInt) (h2 : x.toInt ≤ b) (ha : -(A : Int) ≤ a) (hb : b ≤ A) : rb x A := rb_iff.mpr ⟨by omega, by omega⟩
theorem rb_l {z : Int32} {A : Nat} (h : z.toInt.natAbs ≤ A) : rb z A := h
theorem sp_hn {x sd : Int32} {A : Nat} (h1 : rb x A) (h2 : rb sd 30) (hA : A * 30 < 2147483648) : -x * sd / 10 = -(x * sd / 10) := by
  have hz : rb (x * sd) (A * 30) := rb_mul h1 h2 (Nat.le_refl _) hA
  rw [Int32.neg_mul]
  generalize x * sd = z at hz ⊢
  have h10 : (10 : Int32).toInt = 10 := by decide +kernel
  have hq : rb (z / 10) (A * 30) := rb_div (c := 10) hz (by rw [h10]; omega) (by omega) (Nat.div_le_self _ _)
  apply Int32.toInt_inj.mp
  rw [ti_div (by rw [h10]; omega), ti_neg hz hA, ti_neg hq hA, ti_div (by rw [h10]; omega), h10, Int.neg_tdiv]
/-! a stick, a bow, the tunes, as whole numbers -/
def sk_ok (o : Nat → Int32) : Prop := (80 ≤ (o 0).toInt ∧ (o 0).toInt ≤ 130) ∧ (200 ≤ (o 1).toInt ∧ (o 1).toInt ≤ 600) ∧ (20 ≤ (o 2).toInt ∧ (o 2).toInt ≤ 99) ∧ (20 ≤ (o 3).toInt ∧ (o 3).toInt ≤ 99) ∧ (0 ≤ (o 4).toInt ∧ (o 4).toInt ≤ 200) ∧ (0 ≤ (o 5).toInt ∧ (o 5).toInt ≤ 9) ∧ (o 6 = 0 ∨ o 6 = 1)
def bw_ok (dr wi : Int32) : Prop := (1 ≤ dr.toInt ∧ dr.toInt ≤ 70) ∧ (0 ≤ wi.toInt ∧ wi.toInt ≤ 9)
def tu_ok (tu : Nat → Int32) : Prop := (0 ≤ (tu 0).toInt ∧ (tu 0).toInt ≤ 20) ∧ (0 ≤ (tu 1).toInt ∧ (tu 1).toInt ≤ 60) ∧ (0 ≤ (tu 2).toInt ∧ (tu 2).toInt ≤ 30) ∧ (-9 ≤ (tu 3).toInt ∧ (tu 3).toInt ≤ 9)
theorem ti_rg {x a b : Int32} {y z : Int} (h : a ≤ x ∧ x ≤ b) (e1 : a.toInt = y) (e2 : b.toInt = z) : y ≤ x.toInt ∧ x.toInt ≤ z := ⟨ti_lo h.1 e1, ti_hi h.2 e2⟩
theorem ti_gr {x a b : Int32} {y z : Int} (h : y ≤ x.toInt ∧ x.toInt ≤ z) (e1 : a.toInt = y) (e2 : b.toInt = z) : a ≤ x ∧ x ≤ b := ⟨Int32.le_iff_toInt_le.mpr (e1 ▸ h.1), Int32.le_iff_toInt_le.mpr (e2 ▸ h.2)⟩
theorem sk_of {o : Nat → Int32} (h : st_stk o) : sk_ok o :=
  ⟨ti_rg h.1 (by decide +kernel) (by decide +kernel), ti_rg h.2.1 (by decide +kernel) (by decide +kernel), ti_rg h.2.2.1 (by decide +kernel) (by decide +kernel), ti_rg h.2.2.2.1 (by decide +kernel) (by decide +kernel), ti_rg h.2.2.2.2.1 (by decide +kernel) (by decide +kernel), ti_rg h.2.2.2.2.2.1 (by decide +kernel) (by decide +kernel), h.2.2.2.2.2.2⟩
theorem sk_to {o : Nat → Int32} (h : sk_ok o) : st_stk o :=
  ⟨ti_gr h.1 (by decide +kernel) (by decide +kernel), ti_gr h.2.1 (by decide +kernel) (by decide +kernel), ti_gr h.2.2.1 (by decide +kernel) (by decide +kernel), ti_gr h.2.2.2.1 (by decide +kernel) (by decide +kernel), ti_gr h.2.2.2.2.1 (by decide +kernel) (by decide +kernel), ti_gr h.2.2.2.2.2.1 (by decide +kernel) (by decide +kernel), h.2.2.2.2.2.2⟩
theorem bw_of {dr wi : Int32} (h : (20 ≤ dr ∧ dr ≤ 70) ∧ (0 ≤ wi ∧ wi ≤ 9)) : bw_ok dr wi :=
  ⟨⟨by have := (ti_rg (y := 20) (z := 70) h.1 (by decide +kernel) (by decide +kernel)).1; omega, (ti_rg (y := 20) (z := 70) h.1 (by decide +kernel) (by decide +kernel)).2⟩, ti_rg h.2 (by decide +kernel) (by decide +kernel)⟩
theorem tu_of {tu : Nat → Int32} (h : (0 ≤ tu 0 ∧ tu 0 ≤ 20) ∧ (0 ≤ tu 1 ∧ tu 1 ≤ 60) ∧ (0 ≤ tu 2 ∧ tu 2 ≤ 30) ∧ (-9 ≤ tu 3 ∧ tu 3 ≤ 9)) : tu_ok tu :=
  ⟨ti_rg h.1 (by decide +kernel) (by decide +kernel), ti_rg h.2.1 (by decide +kernel) (by decide +kernel), ti_rg h.2.2.1 (by decide +kernel) (by decide +kernel), ti_rg h.2.2.2 (by decide +kernel) (by decide +kernel)⟩
/-! what a stick that is laid does with a bow -/
def fx_sp (o : Nat → Int32) : Int32 := sp_spine (sp_stiff (o 2) (o 3) (o 6)) (o 0) (o 4)
def fx_of (o : Nat → Int32) (dr wi : Int32) : Int32 := fx_sp o - sp_need dr wi
def fx_ki (tu o : Nat → Int32) (dr wi : Int32) : Int32 := sp_kind (tu 0) (tu 1) (fx_of o dr wi)
def fx_ba (tu o : Nat → Int32) (dr wi : Int32) : Int32 := sp_bare (tu 0) (tu 1) (tu 2) (fx_of o dr wi)
def fx_go (tu o : Nat → Int32) (dr wi : Int32) : Int32 := sp_goes (tu 0) (tu 1) (tu 2) (tu 3) (fx_of o dr wi) (o 5) (o 1 + o 4)
def fx_dr (o : Nat → Int32) (dr : Int32) : Int32 := sp_drop (o 1 + o 4) dr (o 5)
theorem ti_112 : (112 : Int32).toInt = 112 := by decide +kernel
theorem ti_10 : (10 : Int32).toInt = 10 := by decide +kernel
theorem ti_0 : (0 : Int32).toInt = 0 := by decide +kernel
theorem ti_2 : (2 : Int32).toInt = 2 := by decide +kernel
theorem ne_ti {x : Int32} (h : 0 < x.toInt) : ¬ x = 0 := fun e => by rw [e, ti_0] at h; omega
theorem sp_spine_b {st l t : Int32} (h1 : 0 ≤ st.toInt ∧ st.toInt ≤ 99) (h2 : 80 ≤ l.toInt) (h3 : 0 ≤ t.toInt ∧ t.toInt ≤ 200) : (sp_spine st l t).toInt = (st.toInt * 112) / l.toInt - t.toInt / 10 ∧ -20 ≤ (sp_spine st l t).toInt ∧ (sp_spine st l t).toInt ≤ 138 := by
  have r1 : rb st 99 := rb_of h1.1 h1.2 (by omega) (by omega)
  have r2 : rb t 200 := rb_of h3.1 h3.2 (by omega) (by omega)
  have r3 : rb (st * 112) 11088 := rb_mul r1 (rb_l (A := 112) (by decide +kernel)) (by omega) (by omega)
  have r4 : rb (st * 112 / l) 11088 := rb_div (c := 80) r3 h2 (by omega) (by omega)
  have r5 : rb (t / 10) 20 := rb_div (c := 10) r2 (by rw [ti_10]; omega) (by omega) (by omega)
  have e : (sp_spine st l t).toInt = (st.toInt * 112) / l.toInt - t.toInt / 10 := by
    rw [sp_spine, sp_div, if_neg (ne_ti (by omega)), ti_sub r4 r5 (by omega), ti_div (by omega), ti_div (by rw [ti_10]; omega), ti_mul r1 (rb_l (A := 112) (by decide +kernel)) (by omega), ti_112, ti_10, Int.tdiv_eq_ediv_of_nonneg (by omega), Int.tdiv_eq_ediv_of_nonneg (by omega)]
  refine ⟨e, ?_⟩
  rw [e]
  have q1 : 0 ≤ st.toInt * 112 / l.toInt := Int.ediv_nonneg (by omega) (by omega)
  have q2 : st.toInt * 112 / l.toInt < 139 := Int.ediv_lt_of_lt_mul (by omega) (by omega)
  omega
theorem sp_need_b {dr wi : Int32} {D : Int} (h1 : D ≤ dr.toInt ∧ dr.toInt ≤ 70) (hD : 0 ≤ D) (h2 : 0 ≤ wi.toInt ∧ wi.toInt ≤ 9) : (sp_need dr wi).toInt = dr.toInt + 2 * wi.toInt ∧ D ≤ (sp_need dr wi).toInt ∧ (sp_need dr wi).toInt ≤ 88 := by
  have r1 : rb dr 70 := rb_of h1.1 h1.2 (by omega) (by omega)
  have r2 : rb wi 9 := rb_of h2.1 h2.2 (by omega) (by omega)
  have r3 : rb (2 * wi) 18 := rb_mul (rb_l (A := 2) (by decide +kernel)) r2 (by omega) (by omega)
  have e : (sp_need dr wi).toInt = dr.toInt + 2 * wi.toInt := by rw [sp_need, ti_add r1 r3 (by omega), ti_mul (rb_l (A := 2) (by decide +kernel)) r2 (by omega), ti_2]
  refine ⟨e, ?_⟩
  rw [e]; omega
theorem sp_stiff_b {a b z : Int32} {P : Int32 → Prop} (h1 : P a) (h2 : P b) : P (sp_stiff a b z) := by
  unfold sp_stiff; split
  · exact h1
  · exact h2
theorem fx_sp_b {o : Nat → Int32} (h : sk_ok o) : -20 ≤ (fx_sp o).toInt ∧ (fx_sp o).toInt ≤ 138 := by
  obtain ⟨h0, h1, h2, h3, h4, -⟩ := h
  have hs : 0 ≤ (sp_stiff (o 2) (o 3) (o 6)).toInt ∧ (sp_stiff (o 2) (o 3) (o 6)).toInt ≤ 99 := sp_stiff_b (P := fun z => 0 ≤ z.toInt ∧ z.toInt ≤ 99) (by omega) (by omega)
  exact (sp_spine_b hs h0.1 h4).2
theorem fx_of_b {o : Nat → Int32} {dr wi : Int32} {D : Int} (h : sk_ok o) (h1 : D ≤ dr.toInt ∧ dr.toInt ≤ 70) (hD : 0 ≤ D) (h2 : 0 ≤ wi.toInt ∧ wi.toInt ≤ 9) : -108 ≤ (fx_of o dr wi).toInt ∧ (fx_of o dr wi).toInt ≤ 138 - D := by
  have a := fx_sp_b h
  have b := (sp_need_b h1 hD h2).2
  have e : (fx_of o dr wi).toInt = (fx_sp o).toInt - (sp_need dr wi).toInt := ti_sub (A := 138) (B := 88) (rb_of a.1 a.2 (by omega) (by omega)) (rb_of b.1 b.2 (by omega) (by omega)) (by omega)
  omega
theorem fx_hn {o tu : Nat → Int32} {dr wi : Int32} (h : sk_ok o) (hb : bw_ok dr wi) (ht : tu_ok tu) : -(fx_of o dr wi) * tu 2 / 10 = -(fx_of o dr wi * tu 2 / 10) := by
  have a := fx_of_b h hb.1 (by omega) hb.2
  exact sp_hn (A := 138) (rb_of a.1 a.2 (by omega) (by omega)) (rb_of ht.2.2.1.1 ht.2.2.1.2 (by omega) (by omega)) (by omega)
theorem sk_n0 {o : Nat → Int32} (h : sk_ok o) : ¬ o 0 = 0 := ne_ti (by have := h.1; omega)
theorem sk_mass {o : Nat → Int32} (h : sk_ok o) : (o 1 + o 4).toInt = (o 1).toInt + (o 4).toInt ∧ 200 ≤ (o 1 + o 4).toInt ∧ (o 1 + o 4).toInt ≤ 800 := by
  obtain ⟨h0, h1, h2, h3, h4, -⟩ := h
  have e := ti_add (A := 600) (B := 200) (rb_of h1.1 h1.2 (by omega) (by omega)) (rb_of h4.1 h4.2 (by omega) (by omega)) (by omega)
  omega
theorem sk_n1 {o : Nat → Int32} (h : sk_ok o) : ¬ o 1 + o 4 = 0 := ne_ti (by have := (sk_mass h).2; omega)
theorem bw_n0 {dr wi : Int32} (h : bw_ok dr wi) : ¬ dr = 0 := ne_ti (by have := h.1; omega)
theorem sk_congr {o o2 : Nat → Int32} (h : ∀ q, q < 7 → o q = o2 q) (hs : sk_ok o2) : sk_ok o := by
  unfold sk_ok; rw [h 0 (by omega), h 1 (by omega), h 2 (by omega), h 3 (by omega), h 4 (by omega), h 5 (by omega), h 6 (by omega)]; exact hs
theorem fx_sp_c {o o2 : Nat → Int32} (h : ∀ q, q < 7 → o q = o2 q) : fx_sp o = fx_sp o2 := by
  unfold fx_sp; rw [h 0 (by omega), h 2 (by omega), h 3 (by omega), h 4 (by omega), h 6 (by omega)]
theorem fx_of_c {o o2 : Nat → Int32} (h : ∀ q, q < 7 → o q = o2 q) {dr wi : Int32} : fx_of o dr wi = fx_of o2 dr wi := by unfold fx_of; rw [fx_sp_c h]
theorem fx_ki_c {o o2 tu : Nat → Int32} (h : ∀ q, q < 7 → o q = o2 q) {dr wi : Int32} : fx_ki tu o dr wi = fx_ki tu o2 dr wi := by unfold fx_ki; rw [fx_of_c h]
theorem fx_ba_c {o o2 tu : Nat → Int32} (h : ∀ q, q < 7 → o q = o2 q) {dr wi : Int32} : fx_ba tu o dr wi = fx_ba tu o2 dr wi := by unfold fx_ba; rw [fx_of_c h]
theorem fx_go_c {o o2 tu : Nat → Int32} (h : ∀ q, q < 7 → o q = o2 q) {dr wi : Int32} : fx_go tu o dr wi = fx_go tu o2 dr wi := by unfold fx_go; rw [fx_of_c h, h 1 (by omega), h 4 (by omega), h 5 (by omega)]
theorem fx_dr_c {o o2 : Nat → Int32} (h : ∀ q, q < 7 → o q = o2 q) {dr : Int32} : fx_dr o dr = fx_dr o2 dr := by unfold fx_dr; rw [h 1 (by omega), h 4 (by omega), h 5 (by omega)]
theorem sp_kind_1 {c sl x : Int32} : sp_clean c x = decide (sp_kind c sl x = 1) := by
  unfold sp_clean sp_kind
  by_cases h : sp_abs x ≤ c
  · rw [if_pos h, decide_eq_true h]; rfl
  · rw [if_neg h, decide_eq_false h]
    symm; apply decide_eq_false
    split
    · decide
    · split <;> decide
theorem sp_clean_t {c sl x : Int32} (h : sp_kind c sl x = 1) : sp_clean c x = true := by rw [sp_kind_1 (sl := sl), decide_eq_true h]
theorem sp_clean_f {c sl x : Int32} (h : ¬ sp_kind c sl x = 1) : sp_clean c x = false := by rw [sp_kind_1 (sl := sl), decide_eq_false h]
theorem sp_in_to {v lo hi : Int32} {a b : Int} (h : sp_in v lo hi = true) (e1 : lo.toInt = a) (e2 : hi.toInt = b) : a ≤ v.toInt ∧ v.toInt ≤ b := ti_rg (sp_in_iff.mp h) e1 e2
