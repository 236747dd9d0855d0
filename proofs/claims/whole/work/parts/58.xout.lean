/-! ===== both sides: out ===== -/
theorem tl_b {z : Int} (h : -4611686018427387904 ≤ z ∧ z ≤ 4611686018427387904) : Int.bmod z (2 ^ 64) = z := Int.bmod_eq_of_le (by omega) (by omega)
theorem tl_add {x y : Int64} {a b : Int} (hx : x.toInt = a) (hy : y.toInt = b) (h : -4611686018427387904 ≤ a + b ∧ a + b ≤ 4611686018427387904) : (x + y).toInt = a + b := by rw [Int64.toInt_add, hx, hy]; exact tl_b h
theorem tl_sub {x y : Int64} {a b : Int} (hx : x.toInt = a) (hy : y.toInt = b) (h : -4611686018427387904 ≤ a - b ∧ a - b ≤ 4611686018427387904) : (x - y).toInt = a - b := by rw [Int64.toInt_sub, hx, hy]; exact tl_b h
theorem tl_mul {x y : Int64} {a b : Int} (hx : x.toInt = a) (hy : y.toInt = b) (h : -4611686018427387904 ≤ a * b ∧ a * b ≤ 4611686018427387904) : (x * y).toInt = a * b := by rw [Int64.toInt_mul, hx, hy]; exact tl_b h
theorem ts_add {x y : Int32} {a b : Int} (hx : x.toInt = a) (hy : y.toInt = b) (h : -1073741824 ≤ a + b ∧ a + b ≤ 1073741824) : (x + y).toInt = a + b := by rw [Int32.toInt_add, hx, hy]; exact Int.bmod_eq_of_le (by omega) (by omega)
theorem ts_sub {x y : Int32} {a b : Int} (hx : x.toInt = a) (hy : y.toInt = b) (h : -1073741824 ≤ a - b ∧ a - b ≤ 1073741824) : (x - y).toInt = a - b := by rw [Int32.toInt_sub, hx, hy]; exact Int.bmod_eq_of_le (by omega) (by omega)
theorem ts_mul {x y : Int32} {a b : Int} (hx : x.toInt = a) (hy : y.toInt = b) (h : -1073741824 ≤ a * b ∧ a * b ≤ 1073741824) : (x * y).toInt = a * b := by rw [Int32.toInt_mul, hx, hy]; exact Int.bmod_eq_of_le (by omega) (by omega)
theorem sh_lv_c {st st' xs xs' : Nat → Int32} {i : Int32} : ∀ n : Nat, (∀ k, k < n → st' k = st k) → (∀ k, k < n → xs' k = xs k) → sh_lv st' xs' i n = sh_lv st xs i n
  | 0, _, _ => rfl
  | n + 1, h1, h2 => by rw [sh_lv, sh_lv, h1 n (by omega), h2 n (by omega), sh_lv_c n (fun k hk => h1 k (by omega)) (fun k hk => h2 k (by omega))]
/-- both keep the same four whole numbers -/
theorem lv_ints {kf xs : Nat → Int32} {i : Int32} : ∀ n : Nat, n ≤ 60 → (∀ k, k < n → -1000 ≤ (xs k).toInt ∧ (xs k).toInt ≤ 1000) → ∃ S C T D : Int, ((sh_lv kf xs i n).1.toInt = S ∧ (mo_lv kf xs i n).1.toInt = S) ∧ ((sh_lv kf xs i n).2.1.toInt = C ∧ (mo_lv kf xs i n).2.1.toInt = C) ∧ ((sh_lv kf xs i n).2.2.1.toInt = T ∧ (mo_lv kf xs i n).2.2.1.toInt = T) ∧ ((sh_lv kf xs i n).2.2.2.toInt = D ∧ (mo_lv kf xs i n).2.2.2.toInt = D) ∧ (-(1000 * n : Int) ≤ S ∧ S ≤ 1000 * n) ∧ (0 ≤ C ∧ C ≤ n) ∧ (-(1000 * n : Int) ≤ T ∧ T ≤ 1000 * n) ∧ (0 ≤ D ∧ D ≤ n)
  | 0, _, _ => ⟨0, 0, 0, 0, ⟨rfl, rfl⟩, ⟨rfl, rfl⟩, ⟨rfl, rfl⟩, ⟨rfl, rfl⟩, by omega, by omega, by omega, by omega⟩
  | n + 1, hn, hx => by
    obtain ⟨S, C, T, D, ⟨a1, a2⟩, ⟨b1, b2⟩, ⟨d1, d2⟩, ⟨e1, e2⟩, r1, r2, r3, r4⟩ := lv_ints n (by omega) (fun k hk => hx k (by omega))
    have hxn := hx n (by omega)
    have x64 : (xs n).toInt64.toInt = (xs n).toInt := Int32.toInt_toInt64 _
    by_cases h : kf n = i
    · rw [sh_lv_1 h, mo_lv_1 h]
      exact ⟨S + (xs n).toInt, C + 1, T, D, ⟨tl_add a1 x64 (by omega), ts_add a2 rfl (by omega)⟩, ⟨tl_add b1 rfl (by omega), ts_add b2 rfl (by omega)⟩, ⟨d1, by rw [show T = T + 0 by omega]; exact ts_add d2 rfl (by omega)⟩, ⟨e1, by rw [show D = D + 0 by omega]; exact ts_add e2 rfl (by omega)⟩, by omega, by omega, by omega, by omega⟩
    · rw [sh_lv_0 h, mo_lv_0 h]
      exact ⟨S, C, T + (xs n).toInt, D + 1, ⟨a1, by rw [show S = S + 0 by omega]; exact ts_add a2 rfl (by omega)⟩, ⟨b1, by rw [show C = C + 0 by omega]; exact ts_add b2 rfl (by omega)⟩, ⟨tl_add d1 x64 (by omega), ts_add d2 rfl (by omega)⟩, ⟨tl_add e1 rfl (by omega), ts_add e2 rfl (by omega)⟩, by omega, by omega, by omega, by omega⟩
theorem x_prod {a b : Int} {A B : Nat} (ha : -(A : Int) ≤ a ∧ a ≤ A) (hb : -(B : Int) ≤ b ∧ b ≤ B) : -((A * B : Nat) : Int) ≤ a * b ∧ a * b ≤ ((A * B : Nat) : Int) := by
  have h1 : a.natAbs ≤ A := by omega
  have h2 : b.natAbs ≤ B := by omega
  have h3 : (a * b).natAbs ≤ A * B := by rw [Int.natAbs_mul]; exact Nat.mul_le_mul h1 h2
  generalize a * b = z at h3 ⊢
  generalize A * B = q at h3 ⊢
  omega
theorem tl_labs {x : Int64} {a : Int} (hx : x.toInt = a) (h : -4611686018427387904 ≤ a ∧ a ≤ 4611686018427387904) : (sh_labs x).toInt = a.natAbs := by
  unfold sh_labs
  by_cases h0 : 0 < x
  · rw [if_pos h0, hx]
    have := Int64.lt_iff_toInt_lt.mp h0
    rw [hx, show (0 : Int64).toInt = 0 from rfl] at this
    omega
  · rw [if_neg h0, Int64.toInt_neg, hx]
    have := Int64.le_iff_toInt_le.mp (Int64.not_lt.mp h0)
    rw [hx, show (0 : Int64).toInt = 0 from rfl] at this
    rw [tl_b (by omega)]
    omega
theorem ts_abs {x : Int32} {a : Int} (hx : x.toInt = a) (h : -1073741824 ≤ a ∧ a ≤ 1073741824) : (sp_abs x).toInt = a.natAbs := by
  unfold sp_abs
  by_cases h0 : 0 ≤ x
  · rw [if_pos h0, hx]
    have := Int32.le_iff_toInt_le.mp h0
    rw [hx, show (0 : Int32).toInt = 0 from rfl] at this
    omega
  · rw [if_neg h0]
    have := Int32.lt_iff_toInt_lt.mp (Int32.not_le.mp h0)
    rw [hx, show (0 : Int32).toInt = 0 from rfl] at this
    rw [ts_sub (a := 0) rfl hx (by omega)]
    omega
theorem sh_mo {kf xs : Nat → Int32} {i t : Int32} {n : Nat} (hn : n ≤ 60) (hx : ∀ k, k < n → -1000 ≤ (xs k).toInt ∧ (xs k).toInt ≤ 1000) (ht : 0 ≤ t.toInt ∧ t.toInt ≤ 99) : sh_may (sh_lv kf xs i n) t = mo_may (mo_lv kf xs i n) t := by
  obtain ⟨S, C, T, D, ⟨a1, a2⟩, ⟨b1, b2⟩, ⟨d1, d2⟩, ⟨e1, e2⟩, r1, r2, r3, r4⟩ := lv_ints (kf := kf) (i := i) n hn hx
  generalize sh_lv kf xs i n = A at a1 b1 d1 e1 ⊢
  generalize mo_lv kf xs i n = B at a2 b2 d2 e2 ⊢
  have hC0 : A.2.1 = 0 ↔ B.2.1 = 0 := by
    rw [← Int64.toInt_inj, ← Int32.toInt_inj, b1, b2]; rfl
  have hD0 : A.2.2.2 = 0 ↔ B.2.2.2 = 0 := by
    rw [← Int64.toInt_inj, ← Int32.toInt_inj, e1, e2]; rfl
  have pSD := x_prod (a := S) (b := D) (A := 60000) (B := 60) (by omega) (by omega)
  have pTC := x_prod (a := T) (b := C) (A := 60000) (B := 60) (by omega) (by omega)
  have ptC := x_prod (a := t.toInt) (b := C) (A := 99) (B := 60) (by omega) (by omega)
  have ptCD := x_prod (a := t.toInt * C) (b := D) (A := 99 * 60) (B := 60) ptC (by omega)
  have hl : (sh_labs (A.1 * A.2.2.2 - A.2.2.1 * A.2.1)).toInt = (S * D - T * C).natAbs := tl_labs (tl_sub (tl_mul a1 e1 (by omega)) (tl_mul d1 b1 (by omega)) (by omega)) (by omega)
  have hs : (sp_abs (B.1 * B.2.2.2 - B.2.2.1 * B.2.1)).toInt = (S * D - T * C).natAbs := ts_abs (ts_sub (ts_mul a2 e2 (by omega)) (ts_mul d2 b2 (by omega)) (by omega)) (by omega)
  have hl2 : (t.toInt64 * A.2.1 * A.2.2.2).toInt = t.toInt * C * D := tl_mul (tl_mul (Int32.toInt_toInt64 t) b1 (by omega)) e1 (by omega)
  have hs2 : (t * B.2.1 * B.2.2.2).toInt = t.toInt * C * D := ts_mul (ts_mul rfl b2 (by omega)) e2 (by omega)
  have hq : (t.toInt64 * A.2.1 * A.2.2.2 < sh_labs (A.1 * A.2.2.2 - A.2.2.1 * A.2.1) ∧ 3 ≤ A.2.1) ↔ (2 < B.2.1 ∧ t * B.2.1 * B.2.2.2 < sp_abs (B.1 * B.2.2.2 - B.2.2.1 * B.2.1)) := by
    rw [Int64.lt_iff_toInt_lt, Int64.le_iff_toInt_le, Int32.lt_iff_toInt_lt, Int32.lt_iff_toInt_lt, hl, hs, hl2, hs2, b1, b2, show (3 : Int64).toInt = 3 from rfl, show (2 : Int32).toInt = 2 from rfl]
    omega
  unfold sh_may mo_may
  by_cases h0 : B.2.1 = 0 ∨ B.2.2.2 = 0
  · rw [if_pos h0, if_pos (h0.imp hC0.mpr hD0.mpr)]
  · rw [if_neg h0, if_neg (fun h => h0 (h.imp hC0.mp hD0.mp))]
    by_cases h1 : 2 < B.2.1 ∧ t * B.2.1 * B.2.2.2 < sp_abs (B.1 * B.2.2.2 - B.2.2.1 * B.2.1)
    · rw [if_pos h1, if_pos (hq.mpr h1)]
    · rw [if_neg h1, if_neg (fun h => h1 (hq.mp h))]
theorem x_out (i t : Int32) : x_ok mX11_out mX12_out 2 3 [.int i, .int t] := by
  refine x_ok_q (fun tn c0 c1 c2 sh tx s kp bw ar tu k0 k1 tr hR => ?_)
  obtain ⟨⟨htn, htx⟩, ⟨hc, hs⟩, ⟨hc1, hw⟩, ⟨hc2, ha⟩, ht, hsh, hk0, hk1⟩ := hR
  rcases sp_pos (i := i) (c := c0) (by omega) with ⟨j, hj, rfl⟩ | hi
  · by_cases htt : sp_in t 0 99 = true
    · refine ⟨mo_may (mo_lv (fun k => s (86 + 5 * k)) (fun k => s (86 + 5 * k + 3)) (nI j) sh) t, fun G n M hsio hC => ?_, fun G n M hM => m_out hM hsh.1 (sp_in_ix hj (by omega)) htt⟩
      obtain ⟨g, g', fa, fb, fc, hgg, h20, hG, hA, hfa, hB, hfb, hCC, hfc, hst, hbo, har, hT, hV, h40⟩ := cl_open hc hc1 hc2 hC
      obtain ⟨f0, f1, f2, f3, f4, f5, f6, up, dn, hz, z0, z1, z2, z3, z4, z5, z6, hff⟩ := cl_open27 hC
      have h := c12_out_ok (G := G) (n := n) h20 hG hA hfa hj hc hz z0 z1 z2 z3 z4 z5 z6 hsh.1 htt
      rw [sh_lv_c (st := (fun k => s (86 + 5 * k))) (xs := (fun k => s (86 + 5 * k + 3))) sh (fun k hk => (hff k hk).1) (fun k hk => (hff k hk).2.2.2.1), sh_mo (xs := (fun k => s (86 + 5 * k + 3))) hsh.1 (fun k hk => ti_rg (hsh.2 k hk).2.2.2 (y := -1000) (z := 1000) rfl rfl) (sp_in_to (a := 0) (b := 99) htt rfl rfl)] at h
      exact h
    · have htf : sp_in t 0 99 = false := Bool.not_eq_true _ ▸ htt
      refine ⟨-1, fun G n M hsio hC => ?_, fun G n M hM => ?_⟩
      · obtain ⟨g, g', fa, fb, fc, hgg, h20, hG, hA, hfa, hB, hfb, hCC, hfc, hst, hbo, har, hT, hV, h40⟩ := cl_open hc hc1 hc2 hC
        exact c12_out_t h20 hG hA hfa hj hc htf
      · exact m_out_no hM (by rw [htf, Bool.and_false])
  · refine ⟨-1, fun G n M hsio hC => ?_, fun G n M hM => ?_⟩
    · obtain ⟨g, g', fa, fb, fc, hgg, h20, hG, hA, hfa, hB, hfb, hCC, hfc, hst, hbo, har, hT, hV, h40⟩ := cl_open hc hc1 hc2 hC
      exact c12_out_i h20 hG hi
    · exact m_out_no hM (by rw [sp_in_out (show c0 < 2 ^ 31 by omega) hi, Bool.false_and])
