/-! ===== contracts: the class: sums of the sheet ===== -/
def sh_gcd : Nat → Int64 → Int64 → Int64
  | 0, a, _ => a
  | k + 1, a, b => if b = 0 then a else sh_gcd k b (a - a / b * b)
theorem sh_gcd_0 {k : Nat} {a b : Int64} (h : b = 0) : sh_gcd k a b = a := by cases k with
  | zero => rfl
  | succ k => rw [sh_gcd, if_pos h]
theorem sh_gcd_1 {k : Nat} {a b : Int64} (h : ¬ b = 0) : sh_gcd (k + 1) a b = sh_gcd k b (a - a / b * b) := by rw [sh_gcd, if_neg h]
def sh_sum (kf xs : Nat → Int32) (i : Nat) : Nat → Int32
  | 0 => 0
  | k + 1 => if kf k = nI i then sh_sum kf xs i k + xs k else sh_sum kf xs i k
def sh_cnt (kf : Nat → Int32) (i : Nat) : Nat → Int32
  | 0 => 0
  | k + 1 => if kf k = nI i then sh_cnt kf i k + 1 else sh_cnt kf i k
def sh_F (S : Nat → Nat → Int32) (old : Nat → Int32) (k : Nat) : Nat → Int32 := fun i => if i < 12 then S i k else old i
theorem sh_F_z {S : Nat → Nat → Int32} {old : Nat → Int32} (h : ∀ i, S i 0 = 0) : fl_mix 12 (fun _ => 0) old = sh_F S old 0 := by
  funext i; simp only [fl_mix, sh_F, h]
theorem sh_F_same {S : Nat → Nat → Int32} {old : Nat → Int32} {k : Nat} (h : ∀ i, i < 12 → S i (k + 1) = S i k) : sh_F S old k = sh_F S old (k + 1) := by
  funext i; simp only [sh_F]
  by_cases q : i < 12
  · rw [if_pos q, if_pos q, h i q]
  · rw [if_neg q, if_neg q]
theorem sh_F_upd {S : Nat → Nat → Int32} {old : Nat → Int32} {k j : Nat} {x : Int32} (hj : j < 12) (h : ∀ i, i < 12 → ¬ i = j → S i (k + 1) = S i k) (hx : S j (k + 1) = x) : upd (sh_F S old k) j x = sh_F S old (k + 1) := by
  funext i; simp only [upd, sh_F]
  by_cases e : i = j
  · rw [if_pos e, if_pos (by omega), e, hx]
  · rw [if_neg e]
    by_cases q : i < 12
    · rw [if_pos q, if_pos q, h i q e]
    · rw [if_neg q, if_neg q]
theorem sh_F_in {S : Nat → Nat → Int32} {old : Nat → Int32} {k i : Nat} (h : i < 12) : sh_F S old k i = S i k := if_pos h
theorem sh_sum_no {kf xs : Nat → Int32} {i k : Nat} (h : ¬ kf k = nI i) : sh_sum kf xs i (k + 1) = sh_sum kf xs i k := by rw [sh_sum, if_neg h]
theorem sh_cnt_no {kf : Nat → Int32} {i k : Nat} (h : ¬ kf k = nI i) : sh_cnt kf i (k + 1) = sh_cnt kf i k := by rw [sh_cnt, if_neg h]
theorem sh_sum_is {kf xs : Nat → Int32} {i k : Nat} (h : kf k = nI i) : sh_sum kf xs i (k + 1) = sh_sum kf xs i k + xs k := by rw [sh_sum, if_pos h]
theorem sh_cnt_is {kf : Nat → Int32} {i k : Nat} (h : kf k = nI i) : sh_cnt kf i (k + 1) = sh_cnt kf i k + 1 := by rw [sh_cnt, if_pos h]
theorem sh_nI_inj {i j : Nat} (hi : i < 2 ^ 31) (hj : j < 2 ^ 31) (h : nI i = nI j) : i = j := by
  have e := congrArg Int32.toInt h
  rw [nI_toInt hi, nI_toInt hj] at e
  omega
theorem sh_lt_no {x : Int32} (h : x < 0) (i : Nat) (hi : i < 12) : ¬ x = nI i := fun e => nI_pos (n := i) (by omega) (e ▸ h)
theorem sh_ge_no {x : Int32} (h : 12 ≤ x) (i : Nat) (hi : i < 12) : ¬ x = nI i := fun e => nI_ge (a := i) (b := 12) hi (by decide) (e ▸ h)
theorem sh_is_no {x : Int32} {j : Nat} (h : x = nI j) (hj : j < 12) (i : Nat) (hi : i < 12) (e : ¬ i = j) : ¬ x = nI i := fun q => e (sh_nI_inj (by omega) (by omega) (q.symm.trans h))
theorem sh_out {M : ev_M} {a : Nat} {x0 x1 : ev_MC} (h : ¬ a = 33 ∧ ¬ a = 34) : ev_ml M [(27 + 6, x0), (27 + 7, x1)] a = M a := ev_ml_out _ (by simp only [List.map_cons, List.map_nil, List.mem_cons, List.not_mem_nil, or_false, not_or]; omega)
theorem sh_out3 {M : ev_M} {a : Nat} {x x0 x1 : ev_MC} (h : ¬ a = 27 ∧ ¬ a = 33 ∧ ¬ a = 34) : ev_ml M [(27, x), (27 + 6, x0), (27 + 7, x1)] a = M a := ev_ml_out _ (by simp only [List.map_cons, List.map_nil, List.mem_cons, List.not_mem_nil, or_false, not_or]; omega)
def sh_add (A : Int64 × Int64) (u b : Int64) : Int64 × Int64 := if sh_gcd 100 A.2 b = 0 then A else (A.1 * (b / sh_gcd 100 A.2 b) + u * (A.2 / sh_gcd 100 A.2 b), A.2 * (b / sh_gcd 100 A.2 b))
def sh_w (S C : Nat → Int32) : Nat → Int64 × Int64
  | 0 => (0, 1)
  | k + 1 => if 0 < C k then sh_add (sh_w S C k) ((S k).toInt64 * (S k).toInt64) (C k).toInt64 else sh_w S C k
theorem sh_w_1 {S C : Nat → Int32} {k : Nat} (h : 0 < C k) : sh_w S C (k + 1) = sh_add (sh_w S C k) ((S k).toInt64 * (S k).toInt64) (C k).toInt64 := by rw [sh_w, if_pos h]
theorem sh_w_0 {S C : Nat → Int32} {k : Nat} (h : C k ≤ 0) : sh_w S C (k + 1) = sh_w S C k := by rw [sh_w, if_neg (Int32.not_lt.mpr h)]
theorem sh_w_congr {S C S' C' : Nat → Int32} : ∀ (n : Nat), (∀ i, i < n → S i = S' i ∧ C i = C' i) → sh_w S C n = sh_w S' C' n
  | 0, _ => rfl
  | n + 1, h => by
    have h1 := h n (by omega)
    rw [sh_w, sh_w, h1.1, h1.2, sh_w_congr n (fun i hi => h i (by omega))]
def sh_W (kf xs : Nat → Int32) (sz : Nat) : Int64 × Int64 := sh_w (fun i => sh_sum kf xs i sz) (fun i => sh_cnt kf i sz) 12
theorem sh_W_eq {kf xs f5 f6 : Nat → Int32} {sz : Nat} : sh_w (sh_F (sh_sum kf xs) f5 sz) (sh_F (sh_cnt kf) f6 sz) 12 = sh_W kf xs sz := sh_w_congr 12 (fun i hi => ⟨sh_F_in hi, sh_F_in hi⟩)
def sh_kf (f0 f1 f2 : Nat → Int32) (k : Nat) : Nat → Int32 := if k = 0 then f0 else if k = 1 then f2 else f1
def sh_best (W : Nat → Int64 × Int64) : Nat → Int32 × Int64 × Int64
  | 0 => (0, 0, 1)
  | k + 1 => if (sh_best W k).2.1 * (W k).2 < (W k).1 * (sh_best W k).2.2 then (nI k, (W k).1, (W k).2) else sh_best W k
theorem sh_best_1 {W : Nat → Int64 × Int64} {k : Nat} (h : (sh_best W k).2.1 * (W k).2 < (W k).1 * (sh_best W k).2.2) : sh_best W (k + 1) = (nI k, (W k).1, (W k).2) := by rw [sh_best, if_pos h]
theorem sh_best_0 {W : Nat → Int64 × Int64} {k : Nat} (h : ¬ (sh_best W k).2.1 * (W k).2 < (W k).1 * (sh_best W k).2.2) : sh_best W (k + 1) = sh_best W k := by rw [sh_best, if_neg h]
abbrev sh_Q : Type := Int64 × Int64 × Int64 × Int64
def sh_lv (kf xs : Nat → Int32) (i : Int32) : Nat → sh_Q
  | 0 => (0, 0, 0, 0)
  | k + 1 => if kf k = i then ((sh_lv kf xs i k).1 + (xs k).toInt64, (sh_lv kf xs i k).2.1 + 1, (sh_lv kf xs i k).2.2.1, (sh_lv kf xs i k).2.2.2) else ((sh_lv kf xs i k).1, (sh_lv kf xs i k).2.1, (sh_lv kf xs i k).2.2.1 + (xs k).toInt64, (sh_lv kf xs i k).2.2.2 + 1)
theorem sh_lv_1 {kf xs : Nat → Int32} {i : Int32} {k : Nat} (h : kf k = i) : sh_lv kf xs i (k + 1) = ((sh_lv kf xs i k).1 + (xs k).toInt64, (sh_lv kf xs i k).2.1 + 1, (sh_lv kf xs i k).2.2.1, (sh_lv kf xs i k).2.2.2) := by rw [sh_lv, if_pos h]
theorem sh_lv_0 {kf xs : Nat → Int32} {i : Int32} {k : Nat} (h : ¬ kf k = i) : sh_lv kf xs i (k + 1) = ((sh_lv kf xs i k).1, (sh_lv kf xs i k).2.1, (sh_lv kf xs i k).2.2.1 + (xs k).toInt64, (sh_lv kf xs i k).2.2.2 + 1) := by rw [sh_lv, if_neg h]
def sh_labs (a : Int64) : Int64 := if 0 < a then a else -a
def sh_may (A : sh_Q) (t : Int32) : Int32 := if A.2.1 = 0 ∨ A.2.2.2 = 0 then -2 else if t.toInt64 * A.2.1 * A.2.2.2 < sh_labs (A.1 * A.2.2.2 - A.2.2.1 * A.2.1) ∧ 3 ≤ A.2.1 then 1 else 0
theorem sh_may_z {A : sh_Q} {t : Int32} (h : A.2.1 = 0 ∨ A.2.2.2 = 0) : sh_may A t = -2 := if_pos h
theorem sh_may_1 {A : sh_Q} {t : Int32} (h1 : ¬ A.2.1 = 0) (h2 : ¬ A.2.2.2 = 0) (h3 : t.toInt64 * A.2.1 * A.2.2.2 < sh_labs (A.1 * A.2.2.2 - A.2.2.1 * A.2.1)) (h4 : 3 ≤ A.2.1) : sh_may A t = 1 := by rw [sh_may, if_neg (fun q => q.elim h1 h2), if_pos ⟨h3, h4⟩]
theorem sh_may_0 {A : sh_Q} {t : Int32} (h1 : ¬ A.2.1 = 0) (h2 : ¬ A.2.2.2 = 0) (h3 : ¬ (t.toInt64 * A.2.1 * A.2.2.2 < sh_labs (A.1 * A.2.2.2 - A.2.2.1 * A.2.1) ∧ 3 ≤ A.2.1)) : sh_may A t = 0 := by rw [sh_may, if_neg (fun q => q.elim h1 h2), if_neg h3]
theorem l8_gcd {G : ev_G} {n : Nat} {M : ev_M} : ∀ (m k : Nat) (a b : Int64) (z5 : Option Value), k + m = 100 → ev_E G mX8_commonDivisor 1 0 0 n M 3 [some (.long a), none, some (.long b), none, some (.int (nI k)), z5, none] [] (ev_is (some (.long (sh_gcd m a b))) M) := by
  intro m
  induction m with
  | zero =>
    intro k a b z5 hk
    refine ev_iload dX8_commonDivisor_3 rfl ?_
    refine ev_bipush (v := 100) dX8_commonDivisor_5 cnb_100 ?_
    refine ev_icmp_ge (tgt := 32) dX8_commonDivisor_7 (by decide) (fun h7 => ?_) (fun h7 => False.elim (nI_nlt (a := k) (b := 100) (by omega) (by omega) h7))
    refine ev_lload_n (i := 0) dX8_commonDivisor_32 rfl rfl ?_
    exact ev_retl dX8_commonDivisor_33 rfl (⟨rfl, rfl⟩)
  | succ m ih =>
    intro k a b z5 hk
    refine ev_iload dX8_commonDivisor_3 rfl ?_
    refine ev_bipush (v := 100) dX8_commonDivisor_5 cnb_100 ?_
    refine ev_icmp_ge (tgt := 32) dX8_commonDivisor_7 (by decide) (fun h7 => False.elim (nI_ge (a := k) (b := 100) (by omega) (by decide) h7)) (fun h7 => ?_)
    refine ev_lload_n (i := 2) dX8_commonDivisor_10 rfl rfl ?_
    refine ev_lconst (v := 0) dX8_commonDivisor_11 rfl ?_
    refine ev_lcmp dX8_commonDivisor_12 ?_
    refine ev_if_eq (tgt := 32) dX8_commonDivisor_13 (by decide) (fun h13 => ?_) (fun h13 => ?_)
    · skip
      refine ev_lload_n (i := 0) dX8_commonDivisor_32 rfl rfl ?_
      exact ev_retl dX8_commonDivisor_33 rfl (⟨by rw [sh_gcd_0 ((lg_cmp_eq _ _).mp h13)], rfl⟩)
    · skip
      refine ev_lload_n (i := 0) dX8_commonDivisor_16 rfl rfl ?_
      refine ev_lload_n (i := 2) dX8_commonDivisor_17 rfl rfl ?_
      refine ev_lrem dX8_commonDivisor_18 (fun q => h13 ((lg_cmp_eq _ _).mpr q)) ?_
      refine ev_lstore dX8_commonDivisor_19 (Nat.le_of_ble_eq_true rfl) rfl ?_
      refine ev_lload_n (i := 2) dX8_commonDivisor_21 rfl rfl ?_
      refine ev_lstore_n (i := 0) dX8_commonDivisor_22 rfl (Nat.le_of_ble_eq_true rfl) rfl ?_
      refine ev_lload dX8_commonDivisor_23 rfl ?_
      refine ev_lstore_n (i := 2) dX8_commonDivisor_25 rfl (Nat.le_of_ble_eq_true rfl) rfl ?_
      refine ev_iinc (v := nI (k + 1)) dX8_commonDivisor_26 rfl (nI_1 k) (Nat.le_of_ble_eq_true rfl) rfl ?_
      refine ev_goto (tgt := 3) dX8_commonDivisor_29 (by decide) ?_
      rw [sh_gcd_1 (k := m) (fun q => h13 ((lg_cmp_eq _ _).mpr q))]
      exact ih (k + 1) _ _ _ (by omega)
theorem c8_gcd {G : ev_G} {n : Nat} {M : ev_M} {a b : Int64} : ev_Cal G mX8_commonDivisor 1 0 0 [.long a, .long b] n M (ev_is (some (.long (sh_gcd 100 a b))) M) := by
  refine ev_Cal_of (L := [some (.long a), none, some (.long b), none, none, none, none]) (by decide +kernel) (Nat.le_of_ble_eq_true rfl) rfl ?_
  refine ev_iconst (v := 0) dX8_commonDivisor_0 cni_0 ?_
  refine ev_istore dX8_commonDivisor_1 (Nat.le_of_ble_eq_true rfl) rfl ?_
  exact l8_gcd 100 0 a b none (Nat.zero_add _)
theorem c8_addFraction_0 {G : ev_G} {n : Nat} {M : ev_M} {up dn : Int64} {sz : Nat} (hz : M 27 = .inr (8, [.ref (27 + 1), .ref (27 + 2), .ref (27 + 3), .ref (27 + 4), .ref (27 + 5), .ref (27 + 6), .ref (27 + 7), .long up, .long dn, .int (nI sz)])) {u b : Int64} (hg : sh_gcd 100 dn b = 0) : ev_Cal G mX8_addFraction 2 0 0 [.ref 27, .long u, .long b] n M (ev_is none (M)) := by
  refine ev_Cal_of (L := [some (.ref 27), some (.long u), none, some (.long b), none, none, none]) (by decide +kernel) (Nat.le_of_ble_eq_true rfl) rfl ?_
  refine ev_aload_n (i := 0) dX8_addFraction_0 rfl rfl ?_
  refine ev_getf dX8_addFraction_1 flX8_46 (by first | assumption | exact ev_set_eq) (by rfl) ?_
  refine ev_lload_n (i := 3) dX8_addFraction_4 rfl rfl ?_
  refine ev_c2 kX8_addFraction_5 (c8_gcd) trivial (by decide) (by decide) (Nat.le_of_ble_eq_true rfl) ?_
  refine ev_lstore dX8_addFraction_8 (Nat.le_of_ble_eq_true rfl) rfl ?_
  refine ev_lload dX8_addFraction_10 rfl ?_
  refine ev_lconst (v := 0) dX8_addFraction_12 rfl ?_
  refine ev_lcmp dX8_addFraction_13 ?_
  refine ev_if_ne (tgt := 18) dX8_addFraction_14 (by decide) (fun h14 => False.elim (h14 ((lg_cmp_eq _ _).mpr hg))) (fun h14 => ?_)
  exact ev_retv dX8_addFraction_17 rfl (⟨rfl, rfl⟩)
theorem c8_addFraction_1 {G : ev_G} {n : Nat} {M : ev_M} {up dn : Int64} {sz : Nat} (hz : M 27 = .inr (8, [.ref (27 + 1), .ref (27 + 2), .ref (27 + 3), .ref (27 + 4), .ref (27 + 5), .ref (27 + 6), .ref (27 + 7), .long up, .long dn, .int (nI sz)])) {u b : Int64} (hg : ¬ sh_gcd 100 dn b = 0) : ev_Cal G mX8_addFraction 2 0 0 [.ref 27, .long u, .long b] n M (ev_is none (ev_set M 27 (.inr (8, [.ref (27 + 1), .ref (27 + 2), .ref (27 + 3), .ref (27 + 4), .ref (27 + 5), .ref (27 + 6), .ref (27 + 7), .long (sh_add (up, dn) u b).1, .long (sh_add (up, dn) u b).2, .int (nI sz)])))) := by
  refine ev_Cal_of (L := [some (.ref 27), some (.long u), none, some (.long b), none, none, none]) (by decide +kernel) (Nat.le_of_ble_eq_true rfl) rfl ?_
  refine ev_pre1 hz ?_
  refine ev_aload_n (i := 0) dX8_addFraction_0 rfl rfl ?_
  refine ev_getf dX8_addFraction_1 flX8_46 (by first | assumption | exact ev_set_eq) (by rfl) ?_
  refine ev_lload_n (i := 3) dX8_addFraction_4 rfl rfl ?_
  refine ev_c2 kX8_addFraction_5 (c8_gcd) trivial (by decide) (by decide) (Nat.le_of_ble_eq_true rfl) ?_
  refine ev_lstore dX8_addFraction_8 (Nat.le_of_ble_eq_true rfl) rfl ?_
  refine ev_lload dX8_addFraction_10 rfl ?_
  refine ev_lconst (v := 0) dX8_addFraction_12 rfl ?_
  refine ev_lcmp dX8_addFraction_13 ?_
  refine ev_if_ne (tgt := 18) dX8_addFraction_14 (by decide) (fun h14 => ?_) (fun h14 => False.elim (hg ((lg_cmp_eq _ _).mp h14)))
  refine ev_aload_n (i := 0) dX8_addFraction_18 rfl rfl ?_
  refine ev_aload_n (i := 0) dX8_addFraction_19 rfl rfl ?_
  refine ev_getf dX8_addFraction_20 flX8_42 (by first | assumption | exact ev_set_eq) (by rfl) ?_
  refine ev_lload_n (i := 3) dX8_addFraction_23 rfl rfl ?_
  refine ev_lload dX8_addFraction_24 rfl ?_
  refine ev_ldiv dX8_addFraction_26 (hg) ?_
  refine ev_lmul dX8_addFraction_27 ?_
  refine ev_lload_n (i := 1) dX8_addFraction_28 rfl rfl ?_
  refine ev_aload_n (i := 0) dX8_addFraction_29 rfl rfl ?_
  refine ev_getf dX8_addFraction_30 flX8_46 (by first | assumption | exact ev_set_eq) (by rfl) ?_
  refine ev_lload dX8_addFraction_33 rfl ?_
  refine ev_ldiv dX8_addFraction_35 (hg) ?_
  refine ev_lmul dX8_addFraction_36 ?_
  refine ev_ladd dX8_addFraction_37 ?_
  refine ev_putlU dX8_addFraction_38 fpX8_42 (Nat.le_of_ble_eq_true rfl) ?_
  refine ev_aload_n (i := 0) dX8_addFraction_41 rfl rfl ?_
  refine ev_aload_n (i := 0) dX8_addFraction_42 rfl rfl ?_
  refine ev_getf dX8_addFraction_43 flX8_46 (by first | assumption | exact ev_set_eq) (by rfl) ?_
  refine ev_lload_n (i := 3) dX8_addFraction_46 rfl rfl ?_
  refine ev_lload dX8_addFraction_47 rfl ?_
  refine ev_ldiv dX8_addFraction_49 (hg) ?_
  refine ev_lmul dX8_addFraction_50 ?_
  refine ev_putlU dX8_addFraction_51 fpX8_46 (Nat.le_of_ble_eq_true rfl) ?_
  exact ev_retv dX8_addFraction_54 rfl (⟨rfl, by rw [sh_add, if_neg hg]; rfl⟩)
theorem c8_addFraction {G : ev_G} {n : Nat} {M : ev_M} {up dn : Int64} {sz : Nat} (hz : M 27 = .inr (8, [.ref (27 + 1), .ref (27 + 2), .ref (27 + 3), .ref (27 + 4), .ref (27 + 5), .ref (27 + 6), .ref (27 + 7), .long up, .long dn, .int (nI sz)])) {u b : Int64} : ev_Cal G mX8_addFraction 2 0 0 [.ref 27, .long u, .long b] n M (ev_is none (ev_set M 27 (.inr (8, [.ref (27 + 1), .ref (27 + 2), .ref (27 + 3), .ref (27 + 4), .ref (27 + 5), .ref (27 + 6), .ref (27 + 7), .long (sh_add (up, dn) u b).1, .long (sh_add (up, dn) u b).2, .int (nI sz)])))) := by
  by_cases hg : sh_gcd 100 dn b = 0
  · have h := c8_addFraction_0 (G := G) (n := n) (u := u) hz hg
    rw [sh_add, if_pos hg, ev_set_self hz]
    exact h
  · exact c8_addFraction_1 hz hg
theorem sh_lt12 {j : Nat} (h : nI j < 12) (hj : j < 2 ^ 31) : j < 12 := by
  by_cases q : j < 12
  · exact q
  · exact absurd h (Int32.not_lt.mpr (nI_le (a := 12) (b := j) (by omega) hj))
theorem l8_addUp2 {G : ev_G} {n : Nat} {M : ev_M} {up dn : Int64} {f0 f1 f2 f3 f4 f5 f6 : Nat → Int32} {sz : Nat} (hz : M (27) = .inr (8, [.ref (27 + 1), .ref (27 + 2), .ref (27 + 3), .ref (27 + 4), .ref (27 + 5), .ref (27 + 6), .ref (27 + 7), .long up, .long dn, .int (nI sz)])) (z0 : M (27 + 1) = .inl (0, 60, .inl f0)) (z1 : M (27 + 2) = .inl (0, 60, .inl f1)) (z2 : M (27 + 3) = .inl (0, 60, .inl f2)) (z3 : M (27 + 4) = .inl (0, 60, .inl f3)) (z4 : M (27 + 5) = .inl (0, 60, .inl f4)) (z5 : M (27 + 6) = .inl (0, 12, .inl f5)) (z6 : M (27 + 7) = .inl (0, 12, .inl f6)) {bA : Nat} {kf : Nat → Int32} (hb : M bA = .inl (0, 60, .inl kf)) (hb6 : ¬ bA = 33 ∧ ¬ bA = 34) (hsz : sz ≤ 60) : ∀ (m k : Nat) (z : Option Value), k + m = sz → ev_E G mX8_addUp 1 0 0 n (ev_ml M [(27 + 6, .inl (0, 12, .inl (sh_F (sh_sum kf f3) f5 (k)))), (27 + 7, .inl (0, 12, .inl (sh_F (sh_cnt kf) f6 (k))))]) 33 [some (.ref 27), some (.ref bA), some (.int (nI k)), z] [] (ev_is none (ev_ml M [(27 + 6, .inl (0, 12, .inl (sh_F (sh_sum kf f3) f5 (sz)))), (27 + 7, .inl (0, 12, .inl (sh_F (sh_cnt kf) f6 (sz))))])) := by
  intro m
  induction m with
  | zero =>
    intro k z hk
    refine ev_iload_n (i := 2) dX8_addUp_33 rfl rfl ?_
    refine ev_aload_n (i := 0) dX8_addUp_34 rfl rfl ?_
    refine ev_getf dX8_addUp_35 flX8_33 (by first | rfl | exact (sh_out (by decide)).trans hz | exact (sh_out hb6).trans hb | exact (sh_out (by decide)).trans z3) (by rfl) ?_
    refine ev_icmp_ge (tgt := 92) dX8_addUp_38 (by decide) (fun h38 => ?_) (fun h38 => False.elim (nI_nlt (a := k) (b := sz) (by omega) (by omega) h38))
    obtain rfl : k = sz := by omega
    exact ev_retv dX8_addUp_92 rfl (⟨rfl, rfl⟩)
  | succ m ih =>
    intro k z hk
    refine ev_iload_n (i := 2) dX8_addUp_33 rfl rfl ?_
    refine ev_aload_n (i := 0) dX8_addUp_34 rfl rfl ?_
    refine ev_getf dX8_addUp_35 flX8_33 (by first | rfl | exact (sh_out (by decide)).trans hz | exact (sh_out hb6).trans hb | exact (sh_out (by decide)).trans z3) (by rfl) ?_
    refine ev_icmp_ge (tgt := 92) dX8_addUp_38 (by decide) (fun h38 => False.elim (nI_ge (a := k) (b := sz) (by omega) (by omega) h38)) (fun h38 => ?_)
    refine ev_aload_n (i := 1) dX8_addUp_41 rfl rfl ?_
    refine ev_iload_n (i := 2) dX8_addUp_42 rfl rfl ?_
    refine ev_iald (j := k) dX8_addUp_43 (by first | rfl | exact (sh_out (by decide)).trans hz | exact (sh_out hb6).trans hb | exact (sh_out (by decide)).trans z3) (ev_ix_nI (by omega)) (by omega) ?_
    refine ev_istore_n (i := 3) dX8_addUp_44 rfl (Nat.le_of_ble_eq_true rfl) rfl ?_
    refine ev_iload_n (i := 3) dX8_addUp_45 rfl rfl ?_
    refine ev_if_lt (tgt := 86) dX8_addUp_46 (by decide) (fun h46 => ?_) (fun h46 => ?_)
    · skip
      have hq : ∀ i, i < 12 → ¬ kf k = nI i := sh_lt_no h46
      refine ev_mem (by rw [sh_F_same (S := sh_sum kf f3) (old := f5) (k := k) (fun i hi => sh_sum_no (hq i hi)), sh_F_same (S := sh_cnt kf) (old := f6) (k := k) (fun i hi => sh_cnt_no (hq i hi))]) ?_
      refine ev_iinc (v := nI (k + 1)) dX8_addUp_86 rfl (nI_1 k) (Nat.le_of_ble_eq_true rfl) rfl ?_
      refine ev_goto (tgt := 33) dX8_addUp_89 (by decide) ?_
      exact ih (k + 1) _ (by omega)
    · skip
      refine ev_iload_n (i := 3) dX8_addUp_49 rfl rfl ?_
      refine ev_aload_n (i := 0) dX8_addUp_50 rfl rfl ?_
      refine ev_getf dX8_addUp_51 flX8_30 (by first | rfl | exact (sh_out (by decide)).trans hz | exact (sh_out hb6).trans hb | exact (sh_out (by decide)).trans z3) (by rfl) ?_
      refine ev_alen (v := 12) dX8_addUp_54 (fun _ => rfl) (by first | rfl | exact (sh_out (by decide)).trans hz | exact (sh_out hb6).trans hb | exact (sh_out (by decide)).trans z3) (by rfl) ?_
      refine ev_icmp_lt (tgt := 61) dX8_addUp_55 (by decide) (fun h55 => ?_) (fun h55 => ?_)
      · skip
        obtain ⟨j, hjb, hj⟩ := nI_of (Int32.not_lt.mpr h46)
        have hj2 : j < 12 := sh_lt12 (hj ▸ h55) hjb
        have hj1 : ev_ix (kf k) j := by rw [hj]; exact ev_ix_nI (by omega)
        refine ev_aload_n (i := 0) dX8_addUp_61 rfl rfl ?_
        refine ev_getf dX8_addUp_62 flX8_27 (by first | rfl | exact (sh_out (by decide)).trans hz | exact (sh_out hb6).trans hb | exact (sh_out (by decide)).trans z3) (by rfl) ?_
        refine ev_iload_n (i := 3) dX8_addUp_65 rfl rfl ?_
        refine ev_dup2 dX8_addUp_66 rfl rfl ?_
        refine ev_iald (j := j) dX8_addUp_67 (by first | rfl | exact (sh_out (by decide)).trans hz | exact (sh_out hb6).trans hb | exact (sh_out (by decide)).trans z3) (hj1) (hj2) ?_
        refine ev_aload_n (i := 0) dX8_addUp_68 rfl rfl ?_
        refine ev_getf dX8_addUp_69 flX8_21 (by first | rfl | exact (sh_out (by decide)).trans hz | exact (sh_out hb6).trans hb | exact (sh_out (by decide)).trans z3) (by rfl) ?_
        refine ev_iload_n (i := 2) dX8_addUp_72 rfl rfl ?_
        refine ev_iald (j := k) dX8_addUp_73 (by first | rfl | exact (sh_out (by decide)).trans hz | exact (sh_out hb6).trans hb | exact (sh_out (by decide)).trans z3) (ev_ix_nI (by omega)) (by omega) ?_
        refine ev_iadd dX8_addUp_74 ?_
        refine ev_iastP 0 (j := j) dX8_addUp_75 (by rfl) (by rfl) (hj1) (hj2) (by rfl) (by rfl) ?_
        refine ev_aload_n (i := 0) dX8_addUp_76 rfl rfl ?_
        refine ev_getf dX8_addUp_77 flX8_30 (by first | rfl | exact (sh_out (by decide)).trans hz | exact (sh_out hb6).trans hb | exact (sh_out (by decide)).trans z3) (by rfl) ?_
        refine ev_iload_n (i := 3) dX8_addUp_80 rfl rfl ?_
        refine ev_dup2 dX8_addUp_81 rfl rfl ?_
        refine ev_iald (j := j) dX8_addUp_82 (by first | rfl | exact (sh_out (by decide)).trans hz | exact (sh_out hb6).trans hb | exact (sh_out (by decide)).trans z3) (hj1) (hj2) ?_
        refine ev_iconst (v := 1) dX8_addUp_83 cni_1 ?_
        refine ev_iadd dX8_addUp_84 ?_
        refine ev_iastP 1 (j := j) dX8_addUp_85 (by rfl) (by rfl) (hj1) (hj2) (by rfl) (by rfl) ?_
        refine ev_iinc (v := nI (k + 1)) dX8_addUp_86 rfl (nI_1 k) (Nat.le_of_ble_eq_true rfl) rfl ?_
        refine ev_goto (tgt := 33) dX8_addUp_89 (by decide) ?_
        refine ev_mem ?_ (ih (k + 1) _ (by omega))
        rw [← sh_F_upd (S := sh_sum kf f3) (old := f5) (k := k) (x := sh_F (sh_sum kf f3) f5 k j + f3 k) hj2 (fun i hi e => sh_sum_no (sh_is_no hj hj2 i hi e)) ((sh_sum_is hj).trans (by rw [sh_F_in hj2])), ← sh_F_upd (S := sh_cnt kf) (old := f6) (k := k) (x := sh_F (sh_cnt kf) f6 k j + 1) hj2 (fun i hi e => sh_cnt_no (sh_is_no hj hj2 i hi e)) ((sh_cnt_is hj).trans (by rw [sh_F_in hj2]))]
        rfl
      · skip
        refine ev_goto (tgt := 86) dX8_addUp_58 (by decide) ?_
        have hq : ∀ i, i < 12 → ¬ kf k = nI i := sh_ge_no h55
        refine ev_mem (by rw [sh_F_same (S := sh_sum kf f3) (old := f5) (k := k) (fun i hi => sh_sum_no (hq i hi)), sh_F_same (S := sh_cnt kf) (old := f6) (k := k) (fun i hi => sh_cnt_no (hq i hi))]) ?_
        refine ev_iinc (v := nI (k + 1)) dX8_addUp_86 rfl (nI_1 k) (Nat.le_of_ble_eq_true rfl) rfl ?_
        refine ev_goto (tgt := 33) dX8_addUp_89 (by decide) ?_
        exact ih (k + 1) _ (by omega)
theorem l8_addUp1 {G : ev_G} {n : Nat} {M : ev_M} {up dn : Int64} {f0 f1 f2 f3 f4 f5 f6 : Nat → Int32} {sz : Nat} (hz : M (27) = .inr (8, [.ref (27 + 1), .ref (27 + 2), .ref (27 + 3), .ref (27 + 4), .ref (27 + 5), .ref (27 + 6), .ref (27 + 7), .long up, .long dn, .int (nI sz)])) (z0 : M (27 + 1) = .inl (0, 60, .inl f0)) (z1 : M (27 + 2) = .inl (0, 60, .inl f1)) (z2 : M (27 + 3) = .inl (0, 60, .inl f2)) (z3 : M (27 + 4) = .inl (0, 60, .inl f3)) (z4 : M (27 + 5) = .inl (0, 60, .inl f4)) (z5 : M (27 + 6) = .inl (0, 12, .inl f5)) (z6 : M (27 + 7) = .inl (0, 12, .inl f6)) {bA : Nat} {kf : Nat → Int32} (hb : M bA = .inl (0, 60, .inl kf)) (hb6 : ¬ bA = 33 ∧ ¬ bA = 34) (hsz : sz ≤ 60) : ∀ (m k : Nat) (z : Option Value), k + m = 12 → ev_E G mX8_addUp 1 0 0 n (ev_ml M [(27 + 6, .inl (0, 12, .inl (fl_mix (k) (fun _ => 0) f5))), (27 + 7, .inl (0, 12, .inl (fl_mix (k) (fun _ => 0) f6)))]) 2 [some (.ref 27), some (.ref bA), some (.int (nI k)), z] [] (ev_is none (ev_ml M [(27 + 6, .inl (0, 12, .inl (sh_F (sh_sum kf f3) f5 (sz)))), (27 + 7, .inl (0, 12, .inl (sh_F (sh_cnt kf) f6 (sz))))])) := by
  intro m
  induction m with
  | zero =>
    intro k z hk
    refine ev_iload_n (i := 2) dX8_addUp_2 rfl rfl ?_
    refine ev_aload_n (i := 0) dX8_addUp_3 rfl rfl ?_
    refine ev_getf dX8_addUp_4 flX8_30 (by first | rfl | exact (sh_out (by decide)).trans hz | exact (sh_out hb6).trans hb | exact (sh_out (by decide)).trans z3) (by rfl) ?_
    refine ev_alen (v := 12) dX8_addUp_7 (fun _ => rfl) (by first | rfl | exact (sh_out (by decide)).trans hz | exact (sh_out hb6).trans hb | exact (sh_out (by decide)).trans z3) (by rfl) ?_
    refine ev_icmp_ge (tgt := 31) dX8_addUp_8 (by decide) (fun h8 => ?_) (fun h8 => False.elim (nI_nlt (a := k) (b := 12) (by omega) (by omega) h8))
    refine ev_iconst (v := 0) dX8_addUp_31 cni_0 ?_
    refine ev_istore_n (i := 2) dX8_addUp_32 rfl (Nat.le_of_ble_eq_true rfl) rfl ?_
    obtain rfl : k = 12 := by omega
    refine ev_mem ?_ (l8_addUp2 hz z0 z1 z2 z3 z4 z5 z6 hb hb6 hsz sz 0 z (Nat.zero_add _))
    rw [sh_F_z (S := sh_sum kf f3) (old := f5) (fun _ => rfl), sh_F_z (S := sh_cnt kf) (old := f6) (fun _ => rfl)]
  | succ m ih =>
    intro k z hk
    refine ev_iload_n (i := 2) dX8_addUp_2 rfl rfl ?_
    refine ev_aload_n (i := 0) dX8_addUp_3 rfl rfl ?_
    refine ev_getf dX8_addUp_4 flX8_30 (by first | rfl | exact (sh_out (by decide)).trans hz | exact (sh_out hb6).trans hb | exact (sh_out (by decide)).trans z3) (by rfl) ?_
    refine ev_alen (v := 12) dX8_addUp_7 (fun _ => rfl) (by first | rfl | exact (sh_out (by decide)).trans hz | exact (sh_out hb6).trans hb | exact (sh_out (by decide)).trans z3) (by rfl) ?_
    refine ev_icmp_ge (tgt := 31) dX8_addUp_8 (by decide) (fun h8 => False.elim (nI_ge (a := k) (b := 12) (by omega) (by decide) h8)) (fun h8 => ?_)
    refine ev_aload_n (i := 0) dX8_addUp_11 rfl rfl ?_
    refine ev_getf dX8_addUp_12 flX8_27 (by first | rfl | exact (sh_out (by decide)).trans hz | exact (sh_out hb6).trans hb | exact (sh_out (by decide)).trans z3) (by rfl) ?_
    refine ev_iload_n (i := 2) dX8_addUp_15 rfl rfl ?_
    refine ev_iconst (v := 0) dX8_addUp_16 cni_0 ?_
    refine ev_iastP 0 (j := k) dX8_addUp_17 (by rfl) (by rfl) (ev_ix_nI (by omega)) (by omega) (by rfl) (by rfl) ?_
    refine ev_aload_n (i := 0) dX8_addUp_18 rfl rfl ?_
    refine ev_getf dX8_addUp_19 flX8_30 (by first | rfl | exact (sh_out (by decide)).trans hz | exact (sh_out hb6).trans hb | exact (sh_out (by decide)).trans z3) (by rfl) ?_
    refine ev_iload_n (i := 2) dX8_addUp_22 rfl rfl ?_
    refine ev_iconst (v := 0) dX8_addUp_23 cni_0 ?_
    refine ev_iastP 1 (j := k) dX8_addUp_24 (by rfl) (by rfl) (ev_ix_nI (by omega)) (by omega) (by rfl) (by rfl) ?_
    refine ev_iinc (v := nI (k + 1)) dX8_addUp_25 rfl (nI_1 k) (Nat.le_of_ble_eq_true rfl) rfl ?_
    refine ev_goto (tgt := 2) dX8_addUp_28 (by decide) ?_
    refine ev_mem ?_ (ih (k + 1) _ (by omega))
    rw [← fl_mix_S (k := k) (V := fun _ => 0) (q := f5), ← fl_mix_S (k := k) (V := fun _ => 0) (q := f6)]
    rfl
theorem c8_addUp {G : ev_G} {n : Nat} {M : ev_M} {up dn : Int64} {f0 f1 f2 f3 f4 f5 f6 : Nat → Int32} {sz : Nat} (hz : M (27) = .inr (8, [.ref (27 + 1), .ref (27 + 2), .ref (27 + 3), .ref (27 + 4), .ref (27 + 5), .ref (27 + 6), .ref (27 + 7), .long up, .long dn, .int (nI sz)])) (z0 : M (27 + 1) = .inl (0, 60, .inl f0)) (z1 : M (27 + 2) = .inl (0, 60, .inl f1)) (z2 : M (27 + 3) = .inl (0, 60, .inl f2)) (z3 : M (27 + 4) = .inl (0, 60, .inl f3)) (z4 : M (27 + 5) = .inl (0, 60, .inl f4)) (z5 : M (27 + 6) = .inl (0, 12, .inl f5)) (z6 : M (27 + 7) = .inl (0, 12, .inl f6)) {bA : Nat} {kf : Nat → Int32} (hb : M bA = .inl (0, 60, .inl kf)) (hb6 : ¬ bA = 33 ∧ ¬ bA = 34) (hsz : sz ≤ 60)  : ev_Cal G mX8_addUp 1 0 0 [.ref 27, .ref bA] n M (ev_is none (ev_ml M [(27 + 6, .inl (0, 12, .inl (sh_F (sh_sum kf f3) f5 (sz)))), (27 + 7, .inl (0, 12, .inl (sh_F (sh_cnt kf) f6 (sz))))])) := by
  refine ev_Cal_of (L := [some (.ref 27), some (.ref bA), none, none]) (by decide +kernel) (Nat.le_of_ble_eq_true rfl) rfl ?_
  refine ev_track (l := [(27 + 6, .inl (0, 12, .inl f5)), (27 + 7, .inl (0, 12, .inl f6))]) (ev_fa1 z5 (ev_fa1 z6 ev_fa0)) ?_
  refine ev_iconst (v := 0) dX8_addUp_0 cni_0 ?_
  refine ev_istore_n (i := 2) dX8_addUp_1 rfl (Nat.le_of_ble_eq_true rfl) rfl ?_
  refine ev_mem ?_ (l8_addUp1 hz z0 z1 z2 z3 z4 z5 z6 hb hb6 hsz 12 0 none (Nat.zero_add _))
  rw [fl_mix_0, fl_mix_0]
