/-! ===== contracts: the class: LEAST ACTS ===== -/
abbrev la_A : Type := Int32 × Int32 × Int32 × Int32 × Int32
abbrev la_o (A : la_A) : ev_MC := .inr (6, [.int A.1, .int A.2.1, .int A.2.2.1, .int A.2.2.2.1, .int A.2.2.2.2])
def la_step (P : Nat → Nat → Nat → Nat → Bool) (t c s l : Nat) (A : la_A) : la_A := if P t c s l = true ∧ (A.1 = -9 ∨ nI (t + c + s + l) < A.1) then (nI (t + c + s + l), nI c, nI s, nI l, nI t) else A
def la_l (P : Nat → Nat → Nat → Nat → Bool) (t c s : Nat) : Nat → la_A → la_A
  | 0, A => A
  | k + 1, A => la_step P t c s k (la_l P t c s k A)
def la_s (P : Nat → Nat → Nat → Nat → Bool) (t c : Nat) : Nat → la_A → la_A
  | 0, A => A
  | k + 1, A => la_l P t c k 16 (la_s P t c k A)
def la_c (P : Nat → Nat → Nat → Nat → Bool) (t : Nat) : Nat → la_A → la_A
  | 0, A => A
  | k + 1, A => la_s P t k 16 (la_c P t k A)
def la_t (P : Nat → Nat → Nat → Nat → Bool) : Nat → la_A → la_A
  | 0, A => A
  | k + 1, A => la_c P k 16 (la_t P k A)
theorem la_step_no {P : Nat → Nat → Nat → Nat → Bool} {t c s l : Nat} {A : la_A} (h : P t c s l = false) : la_step P t c s l A = A := if_neg (fun q => by rw [h] at q; exact absurd q.1 (by decide))
theorem la_step_nf {P : Nat → Nat → Nat → Nat → Bool} {t c s l : Nat} {A : la_A} (h1 : ¬ A.1 = -9) (h2 : A.1 ≤ nI (t + c + s + l)) : la_step P t c s l A = A := if_neg (fun q => q.2.elim h1 (fun z => Int32.not_le.mpr z h2))
theorem la_step_yes {P : Nat → Nat → Nat → Nat → Bool} {t c s l : Nat} {A : la_A} (h : P t c s l = true) (h2 : A.1 = -9 ∨ nI (t + c + s + l) < A.1) : la_step P t c s l A = (nI (t + c + s + l), nI c, nI s, nI l, nI t) := if_pos ⟨h, h2⟩
theorem la_l_out {P : Nat → Nat → Nat → Nat → Bool} {t c s : Nat} {A : la_A} : ∀ (m l : Nat), (∀ q, l ≤ q → q < l + m → P t c s q = false) → la_l P t c s (l + m) A = la_l P t c s l A
  | 0, l, _ => rfl
  | m + 1, l, h => by
    rw [show l + (m + 1) = (l + m) + 1 by omega, la_l, la_step_no (h _ (by omega) (by omega))]
    exact la_l_out m l (fun q h1 h2 => h q h1 (by omega))
theorem la_l_nf {P : Nat → Nat → Nat → Nat → Bool} {t c s : Nat} {A : la_A} : ∀ (m l : Nat), t + c + s + l + m < 1000 → ¬ (la_l P t c s l A).1 = -9 → (la_l P t c s l A).1 ≤ nI (t + c + s + l) → la_l P t c s (l + m) A = la_l P t c s l A
  | 0, l, _, _, _ => rfl
  | m + 1, l, hb, h1, h2 => by
    have ih := la_l_nf (P := P) (t := t) (c := c) (s := s) (A := A) m l (by omega) h1 h2
    rw [show l + (m + 1) = (l + m) + 1 by omega, la_l, ih]
    exact la_step_nf h1 (Int32.le_trans h2 (nI_le (by omega) (by omega)))
theorem la_s_out {P : Nat → Nat → Nat → Nat → Bool} {t c : Nat} {A : la_A} : ∀ (m k : Nat), (∀ q l, k ≤ q → q < k + m → P t c q l = false) → la_s P t c (k + m) A = la_s P t c k A
  | 0, k, _ => rfl
  | m + 1, k, h => by
    rw [show k + (m + 1) = (k + m) + 1 by omega, la_s]
    have e := la_l_out (P := P) (t := t) (c := c) (s := k + m) (A := la_s P t c (k + m) A) 16 0 (fun q _ _ => h _ q (by omega) (by omega))
    rw [Nat.zero_add] at e
    rw [e]
    exact la_s_out m k (fun q l h1 h2 => h q l h1 (by omega))
theorem la_c_out {P : Nat → Nat → Nat → Nat → Bool} {t : Nat} {A : la_A} : ∀ (m k : Nat), (∀ q s l, k ≤ q → q < k + m → P t q s l = false) → la_c P t (k + m) A = la_c P t k A
  | 0, k, _ => rfl
  | m + 1, k, h => by
    rw [show k + (m + 1) = (k + m) + 1 by omega, la_c]
    have e := la_s_out (P := P) (t := t) (c := k + m) (A := la_c P t (k + m) A) 16 0 (fun q l _ _ => h _ q l (by omega) (by omega))
    rw [Nat.zero_add] at e
    rw [e]
    exact la_c_out m k (fun q s l h1 h2 => h q s l h1 (by omega))
def la_MC (s : Nat → Int32) : Int32 := sp_min 15 (s 0 - 80)
def la_MS (s : Nat → Int32) : Int32 := sp_min 15 (sp_scr (s 2) (s 3) (s 1))
def la_ML (s : Nat → Int32) : Int32 := sp_min 15 ((200 - s 4) / 5)
theorem sp_min_le {a b : Int32} : sp_min a b ≤ a := by
  unfold sp_min; split
  · rename_i h; exact Int32.le_of_lt h
  · exact Int32.le_refl _
def la_st (s : Nat → Int32) (t : Nat) : Int32 := sp_stiff (s 2) (s 3) (if t = 0 then s 6 else 1 - s 6)
def la_off (s : Nat → Int32) (need : Int32) (t c q l : Nat) : Int32 := sp_spine (la_st s t - nI q) (s 0 - nI c) (s 4 + 5 * nI l) - need
def la_mass (s : Nat → Int32) (q l : Nat) : Int32 := s 1 + s 4 - 2 * nI q + 5 * nI l
def la_P (tu s : Nat → Int32) (need a b : Int32) (t c q l : Nat) : Bool := decide (nI c ≤ la_MC s) && (decide (nI q ≤ la_MS s) && (decide (nI l ≤ la_ML s) && (sp_clean (tu 0) (la_off s need t c q l) && sp_in (la_mass s q l) a b)))
theorem la_P_c {tu s : Nat → Int32} {need a b : Int32} {t c q l : Nat} (h : la_MC s < nI c) : la_P tu s need a b t c q l = false := by rw [la_P, decide_eq_false (Int32.not_le.mpr h)]; rfl
theorem la_P_s {tu s : Nat → Int32} {need a b : Int32} {t c q l : Nat} (h : la_MS s < nI q) : la_P tu s need a b t c q l = false := by rw [la_P, decide_eq_false (Int32.not_le.mpr h), Bool.false_and, Bool.and_false]
theorem la_P_l {tu s : Nat → Int32} {need a b : Int32} {t c q l : Nat} (h : la_ML s < nI l) : la_P tu s need a b t c q l = false := by rw [la_P, decide_eq_false (Int32.not_le.mpr h), Bool.false_and, Bool.and_false, Bool.and_false]
theorem la_P_1 {tu s : Nat → Int32} {need a b : Int32} {t c q l : Nat} (h : sp_clean (tu 0) (la_off s need t c q l) = false) : la_P tu s need a b t c q l = false := by rw [la_P, h, Bool.false_and, Bool.and_false, Bool.and_false, Bool.and_false]
theorem la_P_2 {tu s : Nat → Int32} {need a b : Int32} {t c q l : Nat} (h : sp_in (la_mass s q l) a b = false) : la_P tu s need a b t c q l = false := by rw [la_P, h, Bool.and_false, Bool.and_false, Bool.and_false, Bool.and_false]
theorem la_P_y {tu s : Nat → Int32} {need a b : Int32} {t c q l : Nat} (h1 : nI c ≤ la_MC s) (h2 : nI q ≤ la_MS s) (h3 : nI l ≤ la_ML s) (h4 : sp_clean (tu 0) (la_off s need t c q l) = true) (h5 : sp_in (la_mass s q l) a b = true) : la_P tu s need a b t c q l = true := by rw [la_P, decide_eq_true h1, decide_eq_true h2, decide_eq_true h3, h4, h5]; rfl
theorem c6_isFewer {G : ev_G} {n : Nat} {M : ev_M} {A : la_A} (h39 : M 39 = la_o A) {x : Int32} : ev_Cal G mX6_isFewer 1 0 0 [.ref 39, .int x] n M (ev_is (some (.int (ev_b (decide (A.1 = -9) || decide (x < A.1))))) M) := by
  refine ev_Cal_of (L := [some (.ref 39), some (.int x)]) (by decide +kernel) (Nat.le_of_ble_eq_true rfl) rfl ?_
  refine ev_aload_n (i := 0) dX6_isFewer_0 rfl rfl ?_
  refine ev_getf dX6_isFewer_1 flX6_9 (by first | assumption | rfl) (by rfl) ?_
  refine ev_bipush (v := (-9)) dX6_isFewer_4 cnb_m9 ?_
  refine ev_icmp_eq (tgt := 17) dX6_isFewer_6 (by decide) (fun h1 => ?_) (fun h1 => ?_)
  · skip
    refine ev_iconst (v := 1) dX6_isFewer_17 cni_1 ?_
    refine ev_goto (tgt := 22) dX6_isFewer_18 (by decide) ?_
    exact ev_reti dX6_isFewer_22 rfl rfl (⟨by first | (rw [decide_eq_true h1]; rfl) | (rw [decide_eq_false h1, decide_eq_true h2]; rfl) | (rw [decide_eq_false h1, decide_eq_false (Int32.not_lt.mpr h2)]; rfl), rfl⟩)
  · skip
    refine ev_iload_n (i := 1) dX6_isFewer_9 rfl rfl ?_
    refine ev_aload_n (i := 0) dX6_isFewer_10 rfl rfl ?_
    refine ev_getf dX6_isFewer_11 flX6_9 (by first | assumption | rfl) (by rfl) ?_
    refine ev_icmp_ge (tgt := 21) dX6_isFewer_14 (by decide) (fun h2 => ?_) (fun h2 => ?_)
    · skip
      refine ev_iconst (v := 0) dX6_isFewer_21 cni_0 ?_
      exact ev_reti dX6_isFewer_22 rfl rfl (⟨by first | (rw [decide_eq_true h1]; rfl) | (rw [decide_eq_false h1, decide_eq_true h2]; rfl) | (rw [decide_eq_false h1, decide_eq_false (Int32.not_lt.mpr h2)]; rfl), rfl⟩)
    · skip
      refine ev_iconst (v := 1) dX6_isFewer_17 cni_1 ?_
      refine ev_goto (tgt := 22) dX6_isFewer_18 (by decide) ?_
      exact ev_reti dX6_isFewer_22 rfl rfl (⟨by first | (rw [decide_eq_true h1]; rfl) | (rw [decide_eq_false h1, decide_eq_true h2]; rfl) | (rw [decide_eq_false h1, decide_eq_false (Int32.not_lt.mpr h2)]; rfl), rfl⟩)
theorem c6_note {G : ev_G} {n : Nat} {M : ev_M} {A : la_A} (h39 : M 39 = la_o A) {t c q l : Int32} : ev_Cal G mX6_note 1 0 0 [.ref 39, .int t, .int c, .int q, .int l] n M (ev_is none (ev_set M 39 (la_o (t + c + q + l, c, q, l, t)))) := by
  refine ev_Cal_of (L := [some (.ref 39), some (.int t), some (.int c), some (.int q), some (.int l)]) (by decide +kernel) (Nat.le_of_ble_eq_true rfl) rfl ?_
  refine ev_pre1 h39 ?_
  refine ev_aload_n (i := 0) dX6_note_0 rfl rfl ?_
  refine ev_iload_n (i := 1) dX6_note_1 rfl rfl ?_
  refine ev_iload_n (i := 2) dX6_note_2 rfl rfl ?_
  refine ev_iadd dX6_note_3 ?_
  refine ev_iload_n (i := 3) dX6_note_4 rfl rfl ?_
  refine ev_iadd dX6_note_5 ?_
  refine ev_iload dX6_note_6 rfl ?_
  refine ev_iadd dX6_note_8 ?_
  refine ev_putiU dX6_note_9 fpX6_9 (Nat.le_of_ble_eq_true rfl) ?_
  refine ev_aload_n (i := 0) dX6_note_12 rfl rfl ?_
  refine ev_iload_n (i := 1) dX6_note_13 rfl rfl ?_
  refine ev_putiU dX6_note_14 fpX6_24 (Nat.le_of_ble_eq_true rfl) ?_
  refine ev_aload_n (i := 0) dX6_note_17 rfl rfl ?_
  refine ev_iload_n (i := 2) dX6_note_18 rfl rfl ?_
  refine ev_putiU dX6_note_19 fpX6_15 (Nat.le_of_ble_eq_true rfl) ?_
  refine ev_aload_n (i := 0) dX6_note_22 rfl rfl ?_
  refine ev_iload_n (i := 3) dX6_note_23 rfl rfl ?_
  refine ev_putiU dX6_note_24 fpX6_18 (Nat.le_of_ble_eq_true rfl) ?_
  refine ev_aload_n (i := 0) dX6_note_27 rfl rfl ?_
  refine ev_iload dX6_note_28 rfl ?_
  refine ev_putiU dX6_note_30 fpX6_21 (Nat.le_of_ble_eq_true rfl) ?_
  exact ev_retv dX6_note_33 rfl (⟨rfl, rfl⟩)
theorem c6_tell_0 {G : ev_G} {n : Nat} {M : ev_M} {A : la_A} (h39 : M 39 = la_o A) (h9 : ¬ A.1 = -9) : ev_Cal G mX6_tell 1 0 0 [.ref 39, .int 0] n M (ev_is (some (.int A.1)) M) := by
  refine ev_Cal_of (L := [some (.ref 39), some (.int 0)]) (by decide +kernel) (Nat.le_of_ble_eq_true rfl) rfl ?_
  refine ev_aload_n (i := 0) dX6_tell_0 rfl rfl ?_
  refine ev_getf dX6_tell_1 flX6_9 (by first | assumption | rfl) (by rfl) ?_
  refine ev_bipush (v := (-9)) dX6_tell_4 cnb_m9 ?_
  refine ev_icmp_ne (tgt := 12) dX6_tell_6 (by decide) (fun h6 => ?_) (fun h6 => False.elim (h9 h6))
  refine ev_iload_n (i := 1) dX6_tell_12 rfl rfl ?_
  refine ev_tsin (off := 35) (tgt := 48) dX6_tell_13 (by decide) (by decide) (by rfl) (by decide) ?_
  refine ev_aload_n (i := 0) dX6_tell_48 rfl rfl ?_
  refine ev_getf dX6_tell_49 flX6_9 (by first | assumption | rfl) (by rfl) ?_
  exact ev_reti dX6_tell_52 rfl rfl (⟨by first | rfl | simp [*], rfl⟩)
theorem c6_tell_1 {G : ev_G} {n : Nat} {M : ev_M} {A : la_A} (h39 : M 39 = la_o A) (h9 : ¬ A.1 = -9) : ev_Cal G mX6_tell 1 0 0 [.ref 39, .int 1] n M (ev_is (some (.int A.2.1)) M) := by
  refine ev_Cal_of (L := [some (.ref 39), some (.int 1)]) (by decide +kernel) (Nat.le_of_ble_eq_true rfl) rfl ?_
  refine ev_aload_n (i := 0) dX6_tell_0 rfl rfl ?_
  refine ev_getf dX6_tell_1 flX6_9 (by first | assumption | rfl) (by rfl) ?_
  refine ev_bipush (v := (-9)) dX6_tell_4 cnb_m9 ?_
  refine ev_icmp_ne (tgt := 12) dX6_tell_6 (by decide) (fun h6 => ?_) (fun h6 => False.elim (h9 h6))
  refine ev_iload_n (i := 1) dX6_tell_12 rfl rfl ?_
  refine ev_tsin (off := 40) (tgt := 53) dX6_tell_13 (by decide) (by decide) (by rfl) (by decide) ?_
  refine ev_aload_n (i := 0) dX6_tell_53 rfl rfl ?_
  refine ev_getf dX6_tell_54 flX6_15 (by first | assumption | rfl) (by rfl) ?_
  exact ev_reti dX6_tell_57 rfl rfl (⟨by first | rfl | simp [*], rfl⟩)
theorem c6_tell_2 {G : ev_G} {n : Nat} {M : ev_M} {A : la_A} (h39 : M 39 = la_o A) (h9 : ¬ A.1 = -9) : ev_Cal G mX6_tell 1 0 0 [.ref 39, .int 2] n M (ev_is (some (.int A.2.2.1)) M) := by
  refine ev_Cal_of (L := [some (.ref 39), some (.int 2)]) (by decide +kernel) (Nat.le_of_ble_eq_true rfl) rfl ?_
  refine ev_aload_n (i := 0) dX6_tell_0 rfl rfl ?_
  refine ev_getf dX6_tell_1 flX6_9 (by first | assumption | rfl) (by rfl) ?_
  refine ev_bipush (v := (-9)) dX6_tell_4 cnb_m9 ?_
  refine ev_icmp_ne (tgt := 12) dX6_tell_6 (by decide) (fun h6 => ?_) (fun h6 => False.elim (h9 h6))
  refine ev_iload_n (i := 1) dX6_tell_12 rfl rfl ?_
  refine ev_tsin (off := 45) (tgt := 58) dX6_tell_13 (by decide) (by decide) (by rfl) (by decide) ?_
  refine ev_aload_n (i := 0) dX6_tell_58 rfl rfl ?_
  refine ev_getf dX6_tell_59 flX6_18 (by first | assumption | rfl) (by rfl) ?_
  exact ev_reti dX6_tell_62 rfl rfl (⟨by first | rfl | simp [*], rfl⟩)
theorem c6_tell_3 {G : ev_G} {n : Nat} {M : ev_M} {A : la_A} (h39 : M 39 = la_o A) (h9 : ¬ A.1 = -9) : ev_Cal G mX6_tell 1 0 0 [.ref 39, .int 3] n M (ev_is (some (.int A.2.2.2.1)) M) := by
  refine ev_Cal_of (L := [some (.ref 39), some (.int 3)]) (by decide +kernel) (Nat.le_of_ble_eq_true rfl) rfl ?_
  refine ev_aload_n (i := 0) dX6_tell_0 rfl rfl ?_
  refine ev_getf dX6_tell_1 flX6_9 (by first | assumption | rfl) (by rfl) ?_
  refine ev_bipush (v := (-9)) dX6_tell_4 cnb_m9 ?_
  refine ev_icmp_ne (tgt := 12) dX6_tell_6 (by decide) (fun h6 => ?_) (fun h6 => False.elim (h9 h6))
  refine ev_iload_n (i := 1) dX6_tell_12 rfl rfl ?_
  refine ev_tsin (off := 50) (tgt := 63) dX6_tell_13 (by decide) (by decide) (by rfl) (by decide) ?_
  refine ev_aload_n (i := 0) dX6_tell_63 rfl rfl ?_
  refine ev_getf dX6_tell_64 flX6_21 (by first | assumption | rfl) (by rfl) ?_
  exact ev_reti dX6_tell_67 rfl rfl (⟨by first | rfl | simp [*], rfl⟩)
theorem c6_tell_4 {G : ev_G} {n : Nat} {M : ev_M} {A : la_A} (h39 : M 39 = la_o A) (h9 : ¬ A.1 = -9) : ev_Cal G mX6_tell 1 0 0 [.ref 39, .int 4] n M (ev_is (some (.int A.2.2.2.2)) M) := by
  refine ev_Cal_of (L := [some (.ref 39), some (.int 4)]) (by decide +kernel) (Nat.le_of_ble_eq_true rfl) rfl ?_
  refine ev_aload_n (i := 0) dX6_tell_0 rfl rfl ?_
  refine ev_getf dX6_tell_1 flX6_9 (by first | assumption | rfl) (by rfl) ?_
  refine ev_bipush (v := (-9)) dX6_tell_4 cnb_m9 ?_
  refine ev_icmp_ne (tgt := 12) dX6_tell_6 (by decide) (fun h6 => ?_) (fun h6 => False.elim (h9 h6))
  refine ev_iload_n (i := 1) dX6_tell_12 rfl rfl ?_
  refine ev_tsin (off := 55) (tgt := 68) dX6_tell_13 (by decide) (by decide) (by rfl) (by decide) ?_
  refine ev_aload_n (i := 0) dX6_tell_68 rfl rfl ?_
  refine ev_getf dX6_tell_69 flX6_24 (by first | assumption | rfl) (by rfl) ?_
  exact ev_reti dX6_tell_72 rfl rfl (⟨by first | rfl | simp [*], rfl⟩)
theorem c6_tell_none {G : ev_G} {n : Nat} {M : ev_M} {A : la_A} (h39 : M 39 = la_o A) {w : Int32} (h9 : A.1 = -9) : ev_Cal G mX6_tell 1 0 0 [.ref 39, .int w] n M (ev_is (some (.int (-9))) M) := by
  refine ev_Cal_of (L := [some (.ref 39), some (.int w)]) (by decide +kernel) (Nat.le_of_ble_eq_true rfl) rfl ?_
  refine ev_aload_n (i := 0) dX6_tell_0 rfl rfl ?_
  refine ev_getf dX6_tell_1 flX6_9 (by first | assumption | rfl) (by rfl) ?_
  refine ev_bipush (v := (-9)) dX6_tell_4 cnb_m9 ?_
  refine ev_icmp_ne (tgt := 12) dX6_tell_6 (by decide) (fun h6 => False.elim (h6 h9)) (fun h6 => ?_)
  refine ev_bipush (v := (-9)) dX6_tell_9 cnb_m9 ?_
  exact ev_reti dX6_tell_11 rfl rfl (⟨by first | rfl | simp [*], rfl⟩)
theorem sp_nf1 {x A : Int32} (h : (decide (A = -9) || decide (x < A)) = false) : ¬ A = -9 := by simp only [Bool.or_eq_false_iff, decide_eq_false_iff_not] at h; exact h.1
theorem sp_nf2 {x A : Int32} (h : (decide (A = -9) || decide (x < A)) = false) : A ≤ x := by simp only [Bool.or_eq_false_iff, decide_eq_false_iff_not] at h; exact Int32.not_lt.mp h.2
theorem sp_nf3 {x A : Int32} (h : (decide (A = -9) || decide (x < A)) = true) : A = -9 ∨ x < A := by simp only [Bool.or_eq_true, decide_eq_true_eq] at h; exact h
theorem l6_l {G : ev_G} {n : Nat} {M : ev_M} {a : Nat} {s : Nat → Int32} (hS : M a = .inr (9, [.int (s 0), .int (s 1), .int (s 2), .int (s 3), .int (s 4), .int (s 5), .int (s 6)])) (ha : a ≠ 39) {tu : Nat → Int32} (hT : M 25 = .inr (10, [.ref 26])) (hV : M 26 = .inl (0, 4, .inl tu)) {need lo hi : Int32} {Post : Option Value → ev_M → Prop} {t c q : Nat} {B : la_A} (hb : t + c + q < 100) : ∀ (m l : Nat) (z14 z15 : Option Value), l + m = 16 → nI q ≤ la_MS s → nI c ≤ la_MC s → (K : ∀ z13 z14 z15 : Option Value, ev_E G mX6_find 3 0 0 n (ev_set M 39 (la_o (la_l (la_P tu s need lo hi) t c q (16) B))) 203 [some (.ref 39), some (.ref a), some (.int need), some (.ref 25), some (.int lo), some (.int hi), some (.int (la_MC s)), some (.int (la_MS s)), some (.int (la_ML s)), some (.int (nI t)), some (.int (la_st s t)), some (.int (nI c)), some (.int (nI q)), z13, z14, z15] [] Post) → ev_E G mX6_find 3 0 0 n (ev_set M 39 (la_o (la_l (la_P tu s need lo hi) t c q (l) B))) 95 [some (.ref 39), some (.ref a), some (.int need), some (.ref 25), some (.int lo), some (.int hi), some (.int (la_MC s)), some (.int (la_MS s)), some (.int (la_ML s)), some (.int (nI t)), some (.int (la_st s t)), some (.int (nI c)), some (.int (nI q)), some (.int (nI l)), z14, z15] [] Post := by
  intro m
  induction m with
  | zero =>
    intro l z14 z15 hk hq hc K
    refine ev_iload dX6_find_95 rfl ?_
    refine ev_iload dX6_find_97 rfl ?_
    refine ev_icmp_gt (tgt := 203) dX6_find_99 (by decide) (fun h99 => ?_) (fun h99 => False.elim (Int32.not_lt.mpr (Int32.le_trans h99 sp_min_le) (nI_lt (a := 15) (b := l) (by omega) (by omega))))
    obtain rfl : l = 16 := by omega
    exact K _ _ _
  | succ m ih =>
    intro l z14 z15 hk hq hc K
    refine ev_iload dX6_find_95 rfl ?_
    refine ev_iload dX6_find_97 rfl ?_
    refine ev_icmp_gt (tgt := 203) dX6_find_99 (by decide) (fun h99 => ?_) (fun h99 => ?_)
    · skip
      exact ev_mem (by rw [← la_l_out (P := (la_P tu s need lo hi)) (t := t) (c := c) (s := q) (A := B) (16 - l) l (fun x h1 h2 => la_P_l (Int32.lt_of_lt_of_le h99 (nI_le h1 (by omega)))), show l + (16 - l) = 16 by omega]) (K _ _ _)
    · skip
      refine ev_aload_n (i := 0) dX6_find_102 rfl rfl ?_
      refine ev_iload dX6_find_103 rfl ?_
      refine ev_iload dX6_find_105 rfl ?_
      refine ev_iadd dX6_find_107 ?_
      refine ev_iload dX6_find_108 rfl ?_
      refine ev_iadd dX6_find_110 ?_
      refine ev_iload dX6_find_111 rfl ?_
      refine ev_iadd dX6_find_113 ?_
      refine ev_topi (show nI t + nI c + nI q + nI l = nI (t + c + q + l) by rw [nI_add, nI_add, nI_add]) ?_
      refine ev_c2 kX6_find_114 (c6_isFewer ev_set_eq) (ev_rv_of (by first | exact ev_set_eq | exact (ev_set_ne ha).trans hS | exact (ev_set_ne (by decide)).trans hT) rfl rfl) (by decide) (by decide) (Nat.le_of_ble_eq_true rfl) ?_
      refine ev_if_eqb (tgt := 203) dX6_find_117 (by decide) (fun h117 => ?_) (fun h117 => ?_)
      · skip
        exact ev_mem (by rw [← la_l_nf (P := (la_P tu s need lo hi)) (t := t) (c := c) (s := q) (A := B) (16 - l) l (by omega) (sp_nf1 h117) (sp_nf2 h117), show l + (16 - l) = 16 by omega]) (K _ _ _)
      · skip
        refine ev_iload dX6_find_120 rfl ?_
        refine ev_iload dX6_find_122 rfl ?_
        refine ev_isub dX6_find_124 ?_
        refine ev_aload_n (i := 1) dX6_find_125 rfl rfl ?_
        refine ev_getf dX6_find_126 flX6_56 (by first | exact ev_set_eq | exact (ev_set_ne ha).trans hS | exact (ev_set_ne (by decide)).trans hT) (by rfl) ?_
        refine ev_iload dX6_find_129 rfl ?_
        refine ev_isub dX6_find_131 ?_
        refine ev_aload_n (i := 1) dX6_find_132 rfl rfl ?_
        refine ev_getf dX6_find_133 flX6_59 (by first | exact ev_set_eq | exact (ev_set_ne ha).trans hS | exact (ev_set_ne (by decide)).trans hT) (by rfl) ?_
        refine ev_iconst (v := 5) dX6_find_136 cni_5 ?_
        refine ev_iload dX6_find_137 rfl ?_
        refine ev_imul dX6_find_139 ?_
        refine ev_iadd dX6_find_140 ?_
        refine ev_c3 kX6_find_141 (c12_spineOf) trivial (by decide) (by decide) (Nat.le_of_ble_eq_true rfl) ?_
        refine ev_iload_n (i := 2) dX6_find_144 rfl rfl ?_
        refine ev_isub dX6_find_145 ?_
        refine ev_istore dX6_find_146 (Nat.le_of_ble_eq_true rfl) rfl ?_
        refine ev_aload_n (i := 1) dX6_find_148 rfl rfl ?_
        refine ev_c1 kX6_find_149 (c9_mass ((ev_set_ne ha).trans hS)) (ev_rv_of (by first | exact ev_set_eq | exact (ev_set_ne ha).trans hS | exact (ev_set_ne (by decide)).trans hT) rfl rfl) (by decide) (by decide) (Nat.le_of_ble_eq_true rfl) ?_
        refine ev_iconst (v := 2) dX6_find_152 cni_2 ?_
        refine ev_iload dX6_find_153 rfl ?_
        refine ev_imul dX6_find_155 ?_
        refine ev_isub dX6_find_156 ?_
        refine ev_iconst (v := 5) dX6_find_157 cni_5 ?_
        refine ev_iload dX6_find_158 rfl ?_
        refine ev_imul dX6_find_160 ?_
        refine ev_iadd dX6_find_161 ?_
        refine ev_istore dX6_find_162 (Nat.le_of_ble_eq_true rfl) rfl ?_
        refine ev_aload_n (i := 3) dX6_find_164 rfl rfl ?_
        refine ev_iload dX6_find_165 rfl ?_
        refine ev_c2 kX6_find_167 (c11_isClean ((ev_set_ne (by decide)).trans hT) ((ev_set_ne (by decide)).trans hV)) (ev_rv_of (by first | exact ev_set_eq | exact (ev_set_ne ha).trans hS | exact (ev_set_ne (by decide)).trans hT) rfl rfl) (by decide) (by decide) (Nat.le_of_ble_eq_true rfl) ?_
        refine ev_if_eqb (tgt := 197) dX6_find_170 (by decide) (fun h170 => ?_) (fun h170 => ?_)
        · skip
          refine ev_iinc (v := nI (l + 1)) dX6_find_197 rfl (nI_1 l) (Nat.le_of_ble_eq_true rfl) rfl ?_
          refine ev_goto (tgt := 95) dX6_find_200 (by decide) ?_
          exact ev_mem (by rw [la_l, la_step_no (la_P_1 h170)]) (ih (l + 1) _ _ (by omega) hq hc K)
        · skip
          refine ev_iload dX6_find_173 rfl ?_
          refine ev_iload dX6_find_175 rfl ?_
          refine ev_iload dX6_find_177 rfl ?_
          refine ev_c3 kX6_find_179 (c12_within) trivial (by decide) (by decide) (Nat.le_of_ble_eq_true rfl) ?_
          refine ev_if_eqb (tgt := 197) dX6_find_182 (by decide) (fun h182 => ?_) (fun h182 => ?_)
          · skip
            refine ev_iinc (v := nI (l + 1)) dX6_find_197 rfl (nI_1 l) (Nat.le_of_ble_eq_true rfl) rfl ?_
            refine ev_goto (tgt := 95) dX6_find_200 (by decide) ?_
            exact ev_mem (by rw [la_l, la_step_no (la_P_2 h182)]) (ih (l + 1) _ _ (by omega) hq hc K)
          · skip
            refine ev_aload_n (i := 0) dX6_find_185 rfl rfl ?_
            refine ev_iload dX6_find_186 rfl ?_
            refine ev_iload dX6_find_188 rfl ?_
            refine ev_iload dX6_find_190 rfl ?_
            refine ev_iload dX6_find_192 rfl ?_
            refine ev_w5 kX6_find_194 (c6_note ev_set_eq) (ev_rv_of (by first | exact ev_set_eq | exact (ev_set_ne ha).trans hS | exact (ev_set_ne (by decide)).trans hT) rfl rfl) (by decide) (by decide) (Nat.le_of_ble_eq_true rfl) ?_
            refine ev_mem (ev_set_set.trans (show ev_set M 39 _ = ev_set M 39 (la_o (nI (t + c + q + l), nI c, nI q, nI l, nI t)) by rw [show nI t + nI c + nI q + nI l = nI (t + c + q + l) by rw [nI_add, nI_add, nI_add]])) ?_
            refine ev_iinc (v := nI (l + 1)) dX6_find_197 rfl (nI_1 l) (Nat.le_of_ble_eq_true rfl) rfl ?_
            refine ev_goto (tgt := 95) dX6_find_200 (by decide) ?_
            exact ev_mem (by rw [la_l, la_step_yes (la_P_y hc hq h99 h170 h182) (sp_nf3 h117)]) (ih (l + 1) _ _ (by omega) hq hc K)
theorem l6_s {G : ev_G} {n : Nat} {M : ev_M} {a : Nat} {s : Nat → Int32} (hS : M a = .inr (9, [.int (s 0), .int (s 1), .int (s 2), .int (s 3), .int (s 4), .int (s 5), .int (s 6)])) (ha : a ≠ 39) {tu : Nat → Int32} (hT : M 25 = .inr (10, [.ref 26])) (hV : M 26 = .inl (0, 4, .inl tu)) {need lo hi : Int32} {Post : Option Value → ev_M → Prop} {t c : Nat} {B : la_A} (hb : t + c < 50) : ∀ (m q : Nat) (z13 z14 z15 : Option Value), q + m = 16 → nI c ≤ la_MC s → (K : ∀ z12 z13 z14 z15 : Option Value, ev_E G mX6_find 3 0 0 n (ev_set M 39 (la_o (la_s (la_P tu s need lo hi) t c (16) B))) 209 [some (.ref 39), some (.ref a), some (.int need), some (.ref 25), some (.int lo), some (.int hi), some (.int (la_MC s)), some (.int (la_MS s)), some (.int (la_ML s)), some (.int (nI t)), some (.int (la_st s t)), some (.int (nI c)), z12, z13, z14, z15] [] Post) → ev_E G mX6_find 3 0 0 n (ev_set M 39 (la_o (la_s (la_P tu s need lo hi) t c (q) B))) 85 [some (.ref 39), some (.ref a), some (.int need), some (.ref 25), some (.int lo), some (.int hi), some (.int (la_MC s)), some (.int (la_MS s)), some (.int (la_ML s)), some (.int (nI t)), some (.int (la_st s t)), some (.int (nI c)), some (.int (nI q)), z13, z14, z15] [] Post := by
  intro m
  induction m with
  | zero =>
    intro q z13 z14 z15 hk hc K
    refine ev_iload dX6_find_85 rfl ?_
    refine ev_iload dX6_find_87 rfl ?_
    refine ev_icmp_gt (tgt := 209) dX6_find_89 (by decide) (fun h89 => ?_) (fun h89 => False.elim (Int32.not_lt.mpr (Int32.le_trans h89 sp_min_le) (nI_lt (a := 15) (b := q) (by omega) (by omega))))
    obtain rfl : q = 16 := by omega
    exact K _ _ _ _
  | succ m ih =>
    intro q z13 z14 z15 hk hc K
    refine ev_iload dX6_find_85 rfl ?_
    refine ev_iload dX6_find_87 rfl ?_
    refine ev_icmp_gt (tgt := 209) dX6_find_89 (by decide) (fun h89 => ?_) (fun h89 => ?_)
    · skip
      exact ev_mem (by rw [← la_s_out (P := (la_P tu s need lo hi)) (t := t) (c := c) (A := B) (16 - q) q (fun x l h1 h2 => la_P_s (Int32.lt_of_lt_of_le h89 (nI_le h1 (by omega)))), show q + (16 - q) = 16 by omega]) (K _ _ _ _)
    · skip
      refine ev_iconst (v := 0) dX6_find_92 cni_0 ?_
      refine ev_istore dX6_find_93 (Nat.le_of_ble_eq_true rfl) rfl ?_
      refine l6_l hS ha hT hV (by omega) 16 0 z14 z15 rfl h89 hc (fun z13 z14 z15 => ?_)
      refine ev_iinc (v := nI (q + 1)) dX6_find_203 rfl (nI_1 q) (Nat.le_of_ble_eq_true rfl) rfl ?_
      refine ev_goto (tgt := 85) dX6_find_206 (by decide) ?_
      exact ih (q + 1) _ _ _ (by omega) hc K
theorem l6_c {G : ev_G} {n : Nat} {M : ev_M} {a : Nat} {s : Nat → Int32} (hS : M a = .inr (9, [.int (s 0), .int (s 1), .int (s 2), .int (s 3), .int (s 4), .int (s 5), .int (s 6)])) (ha : a ≠ 39) {tu : Nat → Int32} (hT : M 25 = .inr (10, [.ref 26])) (hV : M 26 = .inl (0, 4, .inl tu)) {need lo hi : Int32} {Post : Option Value → ev_M → Prop} {t : Nat} {B : la_A} (hb : t < 10) : ∀ (m c : Nat) (z12 z13 z14 z15 : Option Value), c + m = 16 → (K : ∀ z11 z12 z13 z14 z15 : Option Value, ev_E G mX6_find 3 0 0 n (ev_set M 39 (la_o (la_c (la_P tu s need lo hi) t (16) B))) 215 [some (.ref 39), some (.ref a), some (.int need), some (.ref 25), some (.int lo), some (.int hi), some (.int (la_MC s)), some (.int (la_MS s)), some (.int (la_ML s)), some (.int (nI t)), some (.int (la_st s t)), z11, z12, z13, z14, z15] [] Post) → ev_E G mX6_find 3 0 0 n (ev_set M 39 (la_o (la_c (la_P tu s need lo hi) t (c) B))) 75 [some (.ref 39), some (.ref a), some (.int need), some (.ref 25), some (.int lo), some (.int hi), some (.int (la_MC s)), some (.int (la_MS s)), some (.int (la_ML s)), some (.int (nI t)), some (.int (la_st s t)), some (.int (nI c)), z12, z13, z14, z15] [] Post := by
  intro m
  induction m with
  | zero =>
    intro c z12 z13 z14 z15 hk K
    refine ev_iload dX6_find_75 rfl ?_
    refine ev_iload dX6_find_77 rfl ?_
    refine ev_icmp_gt (tgt := 215) dX6_find_79 (by decide) (fun h79 => ?_) (fun h79 => False.elim (Int32.not_lt.mpr (Int32.le_trans h79 sp_min_le) (nI_lt (a := 15) (b := c) (by omega) (by omega))))
    obtain rfl : c = 16 := by omega
    exact K _ _ _ _ _
  | succ m ih =>
    intro c z12 z13 z14 z15 hk K
    refine ev_iload dX6_find_75 rfl ?_
    refine ev_iload dX6_find_77 rfl ?_
    refine ev_icmp_gt (tgt := 215) dX6_find_79 (by decide) (fun h79 => ?_) (fun h79 => ?_)
    · skip
      exact ev_mem (by rw [← la_c_out (P := (la_P tu s need lo hi)) (t := t) (A := B) (16 - c) c (fun x q l h1 h2 => la_P_c (Int32.lt_of_lt_of_le h79 (nI_le h1 (by omega)))), show c + (16 - c) = 16 by omega]) (K _ _ _ _ _)
    · skip
      refine ev_iconst (v := 0) dX6_find_82 cni_0 ?_
      refine ev_istore dX6_find_83 (Nat.le_of_ble_eq_true rfl) rfl ?_
      refine l6_s hS ha hT hV (by omega) 16 0 z13 z14 z15 rfl h79 (fun z12 z13 z14 z15 => ?_)
      refine ev_iinc (v := nI (c + 1)) dX6_find_209 rfl (nI_1 c) (Nat.le_of_ble_eq_true rfl) rfl ?_
      refine ev_goto (tgt := 75) dX6_find_212 (by decide) ?_
      exact ih (c + 1) _ _ _ _ (by omega) K
theorem l6_t {G : ev_G} {n : Nat} {M : ev_M} {a : Nat} {s : Nat → Int32} (hS : M a = .inr (9, [.int (s 0), .int (s 1), .int (s 2), .int (s 3), .int (s 4), .int (s 5), .int (s 6)])) (ha : a ≠ 39) {tu : Nat → Int32} (hT : M 25 = .inr (10, [.ref 26])) (hV : M 26 = .inl (0, 4, .inl tu)) {need lo hi : Int32} {B : la_A} : ∀ (m t : Nat) (z10 z11 z12 z13 z14 z15 : Option Value), t + m = 2 → ev_E G mX6_find 3 0 0 n (ev_set M 39 (la_o (la_t (la_P tu s need lo hi) (t) B))) 42 [some (.ref 39), some (.ref a), some (.int need), some (.ref 25), some (.int lo), some (.int hi), some (.int (la_MC s)), some (.int (la_MS s)), some (.int (la_ML s)), some (.int (nI t)), z10, z11, z12, z13, z14, z15] [] (ev_is none (ev_set M 39 (la_o (la_t (la_P tu s need lo hi) 2 B)))) := by
  intro m
  induction m with
  | zero =>
    intro t z10 z11 z12 z13 z14 z15 hk
    refine ev_iload dX6_find_42 rfl ?_
    refine ev_iconst (v := 1) dX6_find_44 cni_1 ?_
    refine ev_icmp_gt (tgt := 221) dX6_find_45 (by decide) (fun h45 => ?_) (fun h45 => False.elim (Int32.not_lt.mpr h45 (nI_lt (a := 1) (b := t) (by omega) (by omega))))
    exact ev_retv dX6_find_221 rfl (⟨rfl, by rw [show t = 2 by omega]⟩)
  | succ m ih =>
    intro t z10 z11 z12 z13 z14 z15 hk
    by_cases h0 : t = 0
    · skip
      refine ev_iload dX6_find_42 rfl ?_
      refine ev_iconst (v := 1) dX6_find_44 cni_1 ?_
      refine ev_icmp_gt (tgt := 221) dX6_find_45 (by decide) (fun h45 => False.elim (Int32.not_lt.mpr (nI_le (a := t) (b := 1) (by omega) (by decide)) h45)) (fun h45 => ?_)
      refine ev_aload_n (i := 1) dX6_find_48 rfl rfl ?_
      refine ev_iload dX6_find_49 rfl ?_
      refine ev_if_ne (tgt := 61) dX6_find_51 (by decide) (fun h51 => False.elim (h51 (by rw [h0]; decide))) (fun h51 => ?_)
      refine ev_aload_n (i := 1) dX6_find_54 rfl rfl ?_
      refine ev_getf dX6_find_55 flX6_45 (by first | exact ev_set_eq | exact (ev_set_ne ha).trans hS | exact (ev_set_ne (by decide)).trans hT) (by rfl) ?_
      refine ev_goto (tgt := 67) dX6_find_58 (by decide) ?_
      refine ev_c2 kX6_find_67 (c9_stiffBy ((ev_set_ne ha).trans hS)) (ev_rv_of (by first | exact ev_set_eq | exact (ev_set_ne ha).trans hS | exact (ev_set_ne (by decide)).trans hT) rfl rfl) (by decide) (by decide) (Nat.le_of_ble_eq_true rfl) ?_
      refine ev_topi (show _ = la_st s t by rw [la_st, if_pos h0]) ?_
      refine ev_istore dX6_find_70 (Nat.le_of_ble_eq_true rfl) rfl ?_
      refine ev_iconst (v := 0) dX6_find_72 cni_0 ?_
      refine ev_istore dX6_find_73 (Nat.le_of_ble_eq_true rfl) rfl ?_
      refine l6_c hS ha hT hV (by omega) 16 0 _ z13 z14 z15 rfl (fun z11 z12 z13 z14 z15 => ?_)
      refine ev_iinc (v := nI (t + 1)) dX6_find_215 rfl (nI_1 t) (Nat.le_of_ble_eq_true rfl) rfl ?_
      refine ev_goto (tgt := 42) dX6_find_218 (by decide) ?_
      exact ih (t + 1) _ _ _ _ _ _ (by omega)
    · skip
      refine ev_iload dX6_find_42 rfl ?_
      refine ev_iconst (v := 1) dX6_find_44 cni_1 ?_
      refine ev_icmp_gt (tgt := 221) dX6_find_45 (by decide) (fun h45 => False.elim (Int32.not_lt.mpr (nI_le (a := t) (b := 1) (by omega) (by decide)) h45)) (fun h45 => ?_)
      refine ev_aload_n (i := 1) dX6_find_48 rfl rfl ?_
      refine ev_iload dX6_find_49 rfl ?_
      refine ev_if_ne (tgt := 61) dX6_find_51 (by decide) (fun h51 => ?_) (fun h51 => False.elim (nI_ne0 (n := t) (by omega) (by omega) h51))
      refine ev_iconst (v := 1) dX6_find_61 cni_1 ?_
      refine ev_aload_n (i := 1) dX6_find_62 rfl rfl ?_
      refine ev_getf dX6_find_63 flX6_45 (by first | exact ev_set_eq | exact (ev_set_ne ha).trans hS | exact (ev_set_ne (by decide)).trans hT) (by rfl) ?_
      refine ev_isub dX6_find_66 ?_
      refine ev_c2 kX6_find_67 (c9_stiffBy ((ev_set_ne ha).trans hS)) (ev_rv_of (by first | exact ev_set_eq | exact (ev_set_ne ha).trans hS | exact (ev_set_ne (by decide)).trans hT) rfl rfl) (by decide) (by decide) (Nat.le_of_ble_eq_true rfl) ?_
      refine ev_topi (show _ = la_st s t by rw [la_st, if_neg h0]) ?_
      refine ev_istore dX6_find_70 (Nat.le_of_ble_eq_true rfl) rfl ?_
      refine ev_iconst (v := 0) dX6_find_72 cni_0 ?_
      refine ev_istore dX6_find_73 (Nat.le_of_ble_eq_true rfl) rfl ?_
      refine l6_c hS ha hT hV (by omega) 16 0 _ z13 z14 z15 rfl (fun z11 z12 z13 z14 z15 => ?_)
      refine ev_iinc (v := nI (t + 1)) dX6_find_215 rfl (nI_1 t) (Nat.le_of_ble_eq_true rfl) rfl ?_
      refine ev_goto (tgt := 42) dX6_find_218 (by decide) ?_
      exact ih (t + 1) _ _ _ _ _ _ (by omega)
theorem c6_find {G : ev_G} {n : Nat} {M : ev_M} {A : la_A} (h39 : M 39 = la_o A) {a : Nat} {s : Nat → Int32} (hS : M a = .inr (9, [.int (s 0), .int (s 1), .int (s 2), .int (s 3), .int (s 4), .int (s 5), .int (s 6)])) (ha : a ≠ 39) {tu : Nat → Int32} (hT : M 25 = .inr (10, [.ref 26])) (hV : M 26 = .inl (0, 4, .inl tu)) {need lo hi : Int32}  : ev_Cal G mX6_find 3 0 0 [.ref 39, .ref a, .int need, .ref 25, .int lo, .int hi] n M (ev_is none (ev_set M 39 (la_o (la_t (la_P tu s need lo hi) 2 ((-9 : Int32), A.2))))) := by
  refine ev_Cal_of (L := [some (.ref 39), some (.ref a), some (.int need), some (.ref 25), some (.int lo), some (.int hi), none, none, none, none, none, none, none, none, none, none]) (by decide +kernel) (Nat.le_of_ble_eq_true rfl) rfl ?_
  refine ev_bipush (v := 15) dX6_find_0 cnb_15 ?_
  refine ev_aload_n (i := 1) dX6_find_2 rfl rfl ?_
  refine ev_c1 kX6_find_3 (c9_mostCuts hS) (ev_rv_of (by assumption) rfl rfl) (by decide) (by decide) (Nat.le_of_ble_eq_true rfl) ?_
  refine ev_min2 dX6_find_6 maX6_33 (by decide) (Nat.le_of_ble_eq_true rfl) ?_
  refine ev_istore dX6_find_9 (Nat.le_of_ble_eq_true rfl) rfl ?_
  refine ev_bipush (v := 15) dX6_find_11 cnb_15 ?_
  refine ev_aload_n (i := 1) dX6_find_13 rfl rfl ?_
  refine ev_c1 kX6_find_14 (c9_mostScrapes hS) (ev_rv_of (by assumption) rfl rfl) (by decide) (by decide) (Nat.le_of_ble_eq_true rfl) ?_
  refine ev_min2 dX6_find_17 maX6_33 (by decide) (Nat.le_of_ble_eq_true rfl) ?_
  refine ev_istore dX6_find_20 (Nat.le_of_ble_eq_true rfl) rfl ?_
  refine ev_bipush (v := 15) dX6_find_22 cnb_15 ?_
  refine ev_aload_n (i := 1) dX6_find_24 rfl rfl ?_
  refine ev_c1 kX6_find_25 (c9_mostLoads hS) (ev_rv_of (by assumption) rfl rfl) (by decide) (by decide) (Nat.le_of_ble_eq_true rfl) ?_
  refine ev_min2 dX6_find_28 maX6_33 (by decide) (Nat.le_of_ble_eq_true rfl) ?_
  refine ev_istore dX6_find_31 (Nat.le_of_ble_eq_true rfl) rfl ?_
  refine ev_aload_n (i := 0) dX6_find_33 rfl rfl ?_
  refine ev_bipush (v := (-9)) dX6_find_34 cnb_m9 ?_
  refine ev_puti dX6_find_36 fpX6_9 (by assumption) (by exact Nat.le_of_ble_eq_true rfl) ?_
  refine ev_iconst (v := 0) dX6_find_39 cni_0 ?_
  refine ev_istore dX6_find_40 (Nat.le_of_ble_eq_true rfl) rfl ?_
  exact l6_t hS ha hT hV (B := ((-9 : Int32), A.2)) 2 0 _ _ _ _ _ _ rfl
theorem c12_least_0 {G : ev_G} {n : Nat} {M : ev_M} {g g' c0 c1 c2 : Nat} {lot : Int32} (h20 : M 21 = .inr (11, [.ref 22, .ref 25, .ref 27, .ref 35, .ref 39, .ref 40, .ref 41, .ref 63, .ref g, .ref g', .int lot])) (hG : M g = .inr (3, [.ref (g + 1), .ref (g + 2), .ref (g + 3), .int (nI c0), .int (nI c1), .int (nI c2)])) {fa : Nat → Option Nat} (hA : M (g + 1) = .inl (2, 12, ev_q fa)) (hfa : ∀ i, i < 12 → fa i = some (g + 4 + i)) {fb : Nat → Option Nat} (hB : M (g + 2) = .inl (3, 3, ev_q fb)) (hfb : ∀ i, i < 3 → fb i = some (g + 16 + i)) {j : Nat} (hj : j < c0) (hc : c0 ≤ 12) {b : Nat} (hb : b < c1) (hc1 : c1 ≤ 3) {s : Nat → Int32} (hS : M (g + 4 + j) = .inr (9, [.int (s 0), .int (s 1), .int (s 2), .int (s 3), .int (s 4), .int (s 5), .int (s 6)])) {dr wi : Int32} (hW : M (g + 16 + b) = .inr (1, [.int dr, .int wi])) {tu : Nat → Int32} (hT : M 25 = .inr (10, [.ref 26])) (hV : M 26 = .inl (0, 4, .inl tu)) {A : la_A} (h39 : M 39 = la_o A) (hg : 39 < g) {lo hi : Int32} (h1 : 200 ≤ lo) (h2 : lo ≤ hi) (h3 : hi ≤ 800) (h9 : ¬ (la_t (la_P tu s (sp_need dr wi) lo hi) 2 ((-9 : Int32), A.2)).1 = -9) : ev_Cal G mX11_least 4 0 0 [.ref 21, .int (nI j), .int (nI b), .int lo, .int hi, .int 0] n M (ev_is (some (.int (la_t (la_P tu s (sp_need dr wi) lo hi) 2 ((-9 : Int32), A.2)).1)) (ev_set M 39 (la_o (la_t (la_P tu s (sp_need dr wi) lo hi) 2 ((-9 : Int32), A.2))))) := by
  refine ev_Cal_of (L := [some (.ref 21), some (.int (nI j)), some (.int (nI b)), some (.int lo), some (.int hi), some (.int 0), none, none]) (by decide +kernel) (Nat.le_of_ble_eq_true rfl) rfl ?_
  refine ev_aload_n (i := 0) dX11_least_0 rfl rfl ?_
  refine ev_getf dX11_least_1 flX11_64 (by first | assumption | exact ev_set_eq | exact (ev_set_ne (by omega)).trans h20) (by rfl) ?_
  refine ev_iload_n (i := 1) dX11_least_4 rfl rfl ?_
  refine ev_c2 kX11_least_5 (c3_stickAt_in hG hA hfa hj hc) (ev_rv_of (by first | assumption | exact ev_set_eq | exact (ev_set_ne (by omega)).trans h20) rfl rfl) (by decide) (by decide) (Nat.le_of_ble_eq_true rfl) ?_
  refine ev_astore dX11_least_8 (Nat.le_of_ble_eq_true rfl) rfl ?_
  refine ev_aload_n (i := 0) dX11_least_10 rfl rfl ?_
  refine ev_getf dX11_least_11 flX11_64 (by first | assumption | exact ev_set_eq | exact (ev_set_ne (by omega)).trans h20) (by rfl) ?_
  refine ev_iload_n (i := 2) dX11_least_14 rfl rfl ?_
  refine ev_c2 kX11_least_15 (c3_bowAt_in hG hB hfb hb hc1) (ev_rv_of (by first | assumption | exact ev_set_eq | exact (ev_set_ne (by omega)).trans h20) rfl rfl) (by decide) (by decide) (Nat.le_of_ble_eq_true rfl) ?_
  refine ev_astore dX11_least_18 (Nat.le_of_ble_eq_true rfl) rfl ?_
  refine ev_aload dX11_least_20 rfl ?_
  refine ev_ifnull dX11_least_22 ?_
  refine ev_aload dX11_least_25 rfl ?_
  refine ev_ifnull dX11_least_27 ?_
  refine ev_iload dX11_least_30 rfl ?_
  refine ev_iconst (v := 0) dX11_least_32 cni_0 ?_
  refine ev_iconst (v := 4) dX11_least_33 cni_4 ?_
  refine ev_c3 kX11_least_34 (c12_within) trivial (by decide) (by decide) (Nat.le_of_ble_eq_true rfl) ?_
  refine ev_if_neb (tgt := 42) dX11_least_37 (by decide) (fun q37 => ?_) (fun q37 => False.elim (Bool.false_ne_true (q37.symm.trans (by decide))))
  refine ev_iload_n (i := 3) dX11_least_42 rfl rfl ?_
  refine ev_sipush (v := 200) dX11_least_43 cns_200 ?_
  refine ev_icmp_lt (tgt := 63) dX11_least_46 (by decide) (fun q46 => False.elim (Int32.not_lt.mpr h1 q46)) (fun q46 => ?_)
  refine ev_iload_n (i := 3) dX11_least_49 rfl rfl ?_
  refine ev_iload dX11_least_50 rfl ?_
  refine ev_icmp_gt (tgt := 63) dX11_least_52 (by decide) (fun q52 => False.elim (Int32.not_lt.mpr h2 q52)) (fun q52 => ?_)
  refine ev_iload dX11_least_55 rfl ?_
  refine ev_sipush (v := 800) dX11_least_57 cns_800 ?_
  refine ev_icmp_le (tgt := 65) dX11_least_60 (by decide) (fun q60 => ?_) (fun q60 => False.elim (Int32.not_lt.mpr h3 q60))
  refine ev_aload_n (i := 0) dX11_least_65 rfl rfl ?_
  refine ev_getf dX11_least_66 flX11_40 (by first | assumption | exact ev_set_eq | exact (ev_set_ne (by omega)).trans h20) (by rfl) ?_
  refine ev_aload dX11_least_69 rfl ?_
  refine ev_aload dX11_least_71 rfl ?_
  refine ev_c1 kX11_least_73 (c1_need hW) (ev_rv_of (by first | assumption | exact ev_set_eq | exact (ev_set_ne (by omega)).trans h20) rfl rfl) (by decide) (by decide) (Nat.le_of_ble_eq_true rfl) ?_
  refine ev_aload_n (i := 0) dX11_least_76 rfl rfl ?_
  refine ev_getf dX11_least_77 flX11_19 (by first | assumption | exact ev_set_eq | exact (ev_set_ne (by omega)).trans h20) (by rfl) ?_
  refine ev_iload_n (i := 3) dX11_least_80 rfl rfl ?_
  refine ev_iload dX11_least_81 rfl ?_
  refine ev_w6 kX11_least_83 (c6_find h39 hS (by omega) hT hV) (ev_rv_of (by first | assumption | exact ev_set_eq | exact (ev_set_ne (by omega)).trans h20) rfl rfl) (by decide) (by decide) (Nat.le_of_ble_eq_true rfl) ?_
  refine ev_aload_n (i := 0) dX11_least_86 rfl rfl ?_
  refine ev_getf dX11_least_87 flX11_40 (by first | assumption | exact ev_set_eq | exact (ev_set_ne (by omega)).trans h20) (by rfl) ?_
  refine ev_iload dX11_least_90 rfl ?_
  refine ev_c2 kX11_least_92 (c6_tell_0 ev_set_eq h9) (ev_rv_of (by first | assumption | exact ev_set_eq | exact (ev_set_ne (by omega)).trans h20) rfl rfl) (by decide) (by decide) (Nat.le_of_ble_eq_true rfl) ?_
  exact ev_reti dX11_least_95 rfl rfl (⟨by first | rfl | simp [*], rfl⟩)
theorem c12_least_1 {G : ev_G} {n : Nat} {M : ev_M} {g g' c0 c1 c2 : Nat} {lot : Int32} (h20 : M 21 = .inr (11, [.ref 22, .ref 25, .ref 27, .ref 35, .ref 39, .ref 40, .ref 41, .ref 63, .ref g, .ref g', .int lot])) (hG : M g = .inr (3, [.ref (g + 1), .ref (g + 2), .ref (g + 3), .int (nI c0), .int (nI c1), .int (nI c2)])) {fa : Nat → Option Nat} (hA : M (g + 1) = .inl (2, 12, ev_q fa)) (hfa : ∀ i, i < 12 → fa i = some (g + 4 + i)) {fb : Nat → Option Nat} (hB : M (g + 2) = .inl (3, 3, ev_q fb)) (hfb : ∀ i, i < 3 → fb i = some (g + 16 + i)) {j : Nat} (hj : j < c0) (hc : c0 ≤ 12) {b : Nat} (hb : b < c1) (hc1 : c1 ≤ 3) {s : Nat → Int32} (hS : M (g + 4 + j) = .inr (9, [.int (s 0), .int (s 1), .int (s 2), .int (s 3), .int (s 4), .int (s 5), .int (s 6)])) {dr wi : Int32} (hW : M (g + 16 + b) = .inr (1, [.int dr, .int wi])) {tu : Nat → Int32} (hT : M 25 = .inr (10, [.ref 26])) (hV : M 26 = .inl (0, 4, .inl tu)) {A : la_A} (h39 : M 39 = la_o A) (hg : 39 < g) {lo hi : Int32} (h1 : 200 ≤ lo) (h2 : lo ≤ hi) (h3 : hi ≤ 800) (h9 : ¬ (la_t (la_P tu s (sp_need dr wi) lo hi) 2 ((-9 : Int32), A.2)).1 = -9) : ev_Cal G mX11_least 4 0 0 [.ref 21, .int (nI j), .int (nI b), .int lo, .int hi, .int 1] n M (ev_is (some (.int (la_t (la_P tu s (sp_need dr wi) lo hi) 2 ((-9 : Int32), A.2)).2.1)) (ev_set M 39 (la_o (la_t (la_P tu s (sp_need dr wi) lo hi) 2 ((-9 : Int32), A.2))))) := by
  refine ev_Cal_of (L := [some (.ref 21), some (.int (nI j)), some (.int (nI b)), some (.int lo), some (.int hi), some (.int 1), none, none]) (by decide +kernel) (Nat.le_of_ble_eq_true rfl) rfl ?_
  refine ev_aload_n (i := 0) dX11_least_0 rfl rfl ?_
  refine ev_getf dX11_least_1 flX11_64 (by first | assumption | exact ev_set_eq | exact (ev_set_ne (by omega)).trans h20) (by rfl) ?_
  refine ev_iload_n (i := 1) dX11_least_4 rfl rfl ?_
  refine ev_c2 kX11_least_5 (c3_stickAt_in hG hA hfa hj hc) (ev_rv_of (by first | assumption | exact ev_set_eq | exact (ev_set_ne (by omega)).trans h20) rfl rfl) (by decide) (by decide) (Nat.le_of_ble_eq_true rfl) ?_
  refine ev_astore dX11_least_8 (Nat.le_of_ble_eq_true rfl) rfl ?_
  refine ev_aload_n (i := 0) dX11_least_10 rfl rfl ?_
  refine ev_getf dX11_least_11 flX11_64 (by first | assumption | exact ev_set_eq | exact (ev_set_ne (by omega)).trans h20) (by rfl) ?_
  refine ev_iload_n (i := 2) dX11_least_14 rfl rfl ?_
  refine ev_c2 kX11_least_15 (c3_bowAt_in hG hB hfb hb hc1) (ev_rv_of (by first | assumption | exact ev_set_eq | exact (ev_set_ne (by omega)).trans h20) rfl rfl) (by decide) (by decide) (Nat.le_of_ble_eq_true rfl) ?_
  refine ev_astore dX11_least_18 (Nat.le_of_ble_eq_true rfl) rfl ?_
  refine ev_aload dX11_least_20 rfl ?_
  refine ev_ifnull dX11_least_22 ?_
  refine ev_aload dX11_least_25 rfl ?_
  refine ev_ifnull dX11_least_27 ?_
  refine ev_iload dX11_least_30 rfl ?_
  refine ev_iconst (v := 0) dX11_least_32 cni_0 ?_
  refine ev_iconst (v := 4) dX11_least_33 cni_4 ?_
  refine ev_c3 kX11_least_34 (c12_within) trivial (by decide) (by decide) (Nat.le_of_ble_eq_true rfl) ?_
  refine ev_if_neb (tgt := 42) dX11_least_37 (by decide) (fun q37 => ?_) (fun q37 => False.elim (Bool.false_ne_true (q37.symm.trans (by decide))))
  refine ev_iload_n (i := 3) dX11_least_42 rfl rfl ?_
  refine ev_sipush (v := 200) dX11_least_43 cns_200 ?_
  refine ev_icmp_lt (tgt := 63) dX11_least_46 (by decide) (fun q46 => False.elim (Int32.not_lt.mpr h1 q46)) (fun q46 => ?_)
  refine ev_iload_n (i := 3) dX11_least_49 rfl rfl ?_
  refine ev_iload dX11_least_50 rfl ?_
  refine ev_icmp_gt (tgt := 63) dX11_least_52 (by decide) (fun q52 => False.elim (Int32.not_lt.mpr h2 q52)) (fun q52 => ?_)
  refine ev_iload dX11_least_55 rfl ?_
  refine ev_sipush (v := 800) dX11_least_57 cns_800 ?_
  refine ev_icmp_le (tgt := 65) dX11_least_60 (by decide) (fun q60 => ?_) (fun q60 => False.elim (Int32.not_lt.mpr h3 q60))
  refine ev_aload_n (i := 0) dX11_least_65 rfl rfl ?_
  refine ev_getf dX11_least_66 flX11_40 (by first | assumption | exact ev_set_eq | exact (ev_set_ne (by omega)).trans h20) (by rfl) ?_
  refine ev_aload dX11_least_69 rfl ?_
  refine ev_aload dX11_least_71 rfl ?_
  refine ev_c1 kX11_least_73 (c1_need hW) (ev_rv_of (by first | assumption | exact ev_set_eq | exact (ev_set_ne (by omega)).trans h20) rfl rfl) (by decide) (by decide) (Nat.le_of_ble_eq_true rfl) ?_
  refine ev_aload_n (i := 0) dX11_least_76 rfl rfl ?_
  refine ev_getf dX11_least_77 flX11_19 (by first | assumption | exact ev_set_eq | exact (ev_set_ne (by omega)).trans h20) (by rfl) ?_
  refine ev_iload_n (i := 3) dX11_least_80 rfl rfl ?_
  refine ev_iload dX11_least_81 rfl ?_
  refine ev_w6 kX11_least_83 (c6_find h39 hS (by omega) hT hV) (ev_rv_of (by first | assumption | exact ev_set_eq | exact (ev_set_ne (by omega)).trans h20) rfl rfl) (by decide) (by decide) (Nat.le_of_ble_eq_true rfl) ?_
  refine ev_aload_n (i := 0) dX11_least_86 rfl rfl ?_
  refine ev_getf dX11_least_87 flX11_40 (by first | assumption | exact ev_set_eq | exact (ev_set_ne (by omega)).trans h20) (by rfl) ?_
  refine ev_iload dX11_least_90 rfl ?_
  refine ev_c2 kX11_least_92 (c6_tell_1 ev_set_eq h9) (ev_rv_of (by first | assumption | exact ev_set_eq | exact (ev_set_ne (by omega)).trans h20) rfl rfl) (by decide) (by decide) (Nat.le_of_ble_eq_true rfl) ?_
  exact ev_reti dX11_least_95 rfl rfl (⟨by first | rfl | simp [*], rfl⟩)
theorem c12_least_2 {G : ev_G} {n : Nat} {M : ev_M} {g g' c0 c1 c2 : Nat} {lot : Int32} (h20 : M 21 = .inr (11, [.ref 22, .ref 25, .ref 27, .ref 35, .ref 39, .ref 40, .ref 41, .ref 63, .ref g, .ref g', .int lot])) (hG : M g = .inr (3, [.ref (g + 1), .ref (g + 2), .ref (g + 3), .int (nI c0), .int (nI c1), .int (nI c2)])) {fa : Nat → Option Nat} (hA : M (g + 1) = .inl (2, 12, ev_q fa)) (hfa : ∀ i, i < 12 → fa i = some (g + 4 + i)) {fb : Nat → Option Nat} (hB : M (g + 2) = .inl (3, 3, ev_q fb)) (hfb : ∀ i, i < 3 → fb i = some (g + 16 + i)) {j : Nat} (hj : j < c0) (hc : c0 ≤ 12) {b : Nat} (hb : b < c1) (hc1 : c1 ≤ 3) {s : Nat → Int32} (hS : M (g + 4 + j) = .inr (9, [.int (s 0), .int (s 1), .int (s 2), .int (s 3), .int (s 4), .int (s 5), .int (s 6)])) {dr wi : Int32} (hW : M (g + 16 + b) = .inr (1, [.int dr, .int wi])) {tu : Nat → Int32} (hT : M 25 = .inr (10, [.ref 26])) (hV : M 26 = .inl (0, 4, .inl tu)) {A : la_A} (h39 : M 39 = la_o A) (hg : 39 < g) {lo hi : Int32} (h1 : 200 ≤ lo) (h2 : lo ≤ hi) (h3 : hi ≤ 800) (h9 : ¬ (la_t (la_P tu s (sp_need dr wi) lo hi) 2 ((-9 : Int32), A.2)).1 = -9) : ev_Cal G mX11_least 4 0 0 [.ref 21, .int (nI j), .int (nI b), .int lo, .int hi, .int 2] n M (ev_is (some (.int (la_t (la_P tu s (sp_need dr wi) lo hi) 2 ((-9 : Int32), A.2)).2.2.1)) (ev_set M 39 (la_o (la_t (la_P tu s (sp_need dr wi) lo hi) 2 ((-9 : Int32), A.2))))) := by
  refine ev_Cal_of (L := [some (.ref 21), some (.int (nI j)), some (.int (nI b)), some (.int lo), some (.int hi), some (.int 2), none, none]) (by decide +kernel) (Nat.le_of_ble_eq_true rfl) rfl ?_
  refine ev_aload_n (i := 0) dX11_least_0 rfl rfl ?_
  refine ev_getf dX11_least_1 flX11_64 (by first | assumption | exact ev_set_eq | exact (ev_set_ne (by omega)).trans h20) (by rfl) ?_
  refine ev_iload_n (i := 1) dX11_least_4 rfl rfl ?_
  refine ev_c2 kX11_least_5 (c3_stickAt_in hG hA hfa hj hc) (ev_rv_of (by first | assumption | exact ev_set_eq | exact (ev_set_ne (by omega)).trans h20) rfl rfl) (by decide) (by decide) (Nat.le_of_ble_eq_true rfl) ?_
  refine ev_astore dX11_least_8 (Nat.le_of_ble_eq_true rfl) rfl ?_
  refine ev_aload_n (i := 0) dX11_least_10 rfl rfl ?_
  refine ev_getf dX11_least_11 flX11_64 (by first | assumption | exact ev_set_eq | exact (ev_set_ne (by omega)).trans h20) (by rfl) ?_
  refine ev_iload_n (i := 2) dX11_least_14 rfl rfl ?_
  refine ev_c2 kX11_least_15 (c3_bowAt_in hG hB hfb hb hc1) (ev_rv_of (by first | assumption | exact ev_set_eq | exact (ev_set_ne (by omega)).trans h20) rfl rfl) (by decide) (by decide) (Nat.le_of_ble_eq_true rfl) ?_
  refine ev_astore dX11_least_18 (Nat.le_of_ble_eq_true rfl) rfl ?_
  refine ev_aload dX11_least_20 rfl ?_
  refine ev_ifnull dX11_least_22 ?_
  refine ev_aload dX11_least_25 rfl ?_
  refine ev_ifnull dX11_least_27 ?_
  refine ev_iload dX11_least_30 rfl ?_
  refine ev_iconst (v := 0) dX11_least_32 cni_0 ?_
  refine ev_iconst (v := 4) dX11_least_33 cni_4 ?_
  refine ev_c3 kX11_least_34 (c12_within) trivial (by decide) (by decide) (Nat.le_of_ble_eq_true rfl) ?_
  refine ev_if_neb (tgt := 42) dX11_least_37 (by decide) (fun q37 => ?_) (fun q37 => False.elim (Bool.false_ne_true (q37.symm.trans (by decide))))
  refine ev_iload_n (i := 3) dX11_least_42 rfl rfl ?_
  refine ev_sipush (v := 200) dX11_least_43 cns_200 ?_
  refine ev_icmp_lt (tgt := 63) dX11_least_46 (by decide) (fun q46 => False.elim (Int32.not_lt.mpr h1 q46)) (fun q46 => ?_)
  refine ev_iload_n (i := 3) dX11_least_49 rfl rfl ?_
  refine ev_iload dX11_least_50 rfl ?_
  refine ev_icmp_gt (tgt := 63) dX11_least_52 (by decide) (fun q52 => False.elim (Int32.not_lt.mpr h2 q52)) (fun q52 => ?_)
  refine ev_iload dX11_least_55 rfl ?_
  refine ev_sipush (v := 800) dX11_least_57 cns_800 ?_
  refine ev_icmp_le (tgt := 65) dX11_least_60 (by decide) (fun q60 => ?_) (fun q60 => False.elim (Int32.not_lt.mpr h3 q60))
  refine ev_aload_n (i := 0) dX11_least_65 rfl rfl ?_
  refine ev_getf dX11_least_66 flX11_40 (by first | assumption | exact ev_set_eq | exact (ev_set_ne (by omega)).trans h20) (by rfl) ?_
  refine ev_aload dX11_least_69 rfl ?_
  refine ev_aload dX11_least_71 rfl ?_
  refine ev_c1 kX11_least_73 (c1_need hW) (ev_rv_of (by first | assumption | exact ev_set_eq | exact (ev_set_ne (by omega)).trans h20) rfl rfl) (by decide) (by decide) (Nat.le_of_ble_eq_true rfl) ?_
  refine ev_aload_n (i := 0) dX11_least_76 rfl rfl ?_
  refine ev_getf dX11_least_77 flX11_19 (by first | assumption | exact ev_set_eq | exact (ev_set_ne (by omega)).trans h20) (by rfl) ?_
  refine ev_iload_n (i := 3) dX11_least_80 rfl rfl ?_
  refine ev_iload dX11_least_81 rfl ?_
  refine ev_w6 kX11_least_83 (c6_find h39 hS (by omega) hT hV) (ev_rv_of (by first | assumption | exact ev_set_eq | exact (ev_set_ne (by omega)).trans h20) rfl rfl) (by decide) (by decide) (Nat.le_of_ble_eq_true rfl) ?_
  refine ev_aload_n (i := 0) dX11_least_86 rfl rfl ?_
  refine ev_getf dX11_least_87 flX11_40 (by first | assumption | exact ev_set_eq | exact (ev_set_ne (by omega)).trans h20) (by rfl) ?_
  refine ev_iload dX11_least_90 rfl ?_
  refine ev_c2 kX11_least_92 (c6_tell_2 ev_set_eq h9) (ev_rv_of (by first | assumption | exact ev_set_eq | exact (ev_set_ne (by omega)).trans h20) rfl rfl) (by decide) (by decide) (Nat.le_of_ble_eq_true rfl) ?_
  exact ev_reti dX11_least_95 rfl rfl (⟨by first | rfl | simp [*], rfl⟩)
theorem c12_least_3 {G : ev_G} {n : Nat} {M : ev_M} {g g' c0 c1 c2 : Nat} {lot : Int32} (h20 : M 21 = .inr (11, [.ref 22, .ref 25, .ref 27, .ref 35, .ref 39, .ref 40, .ref 41, .ref 63, .ref g, .ref g', .int lot])) (hG : M g = .inr (3, [.ref (g + 1), .ref (g + 2), .ref (g + 3), .int (nI c0), .int (nI c1), .int (nI c2)])) {fa : Nat → Option Nat} (hA : M (g + 1) = .inl (2, 12, ev_q fa)) (hfa : ∀ i, i < 12 → fa i = some (g + 4 + i)) {fb : Nat → Option Nat} (hB : M (g + 2) = .inl (3, 3, ev_q fb)) (hfb : ∀ i, i < 3 → fb i = some (g + 16 + i)) {j : Nat} (hj : j < c0) (hc : c0 ≤ 12) {b : Nat} (hb : b < c1) (hc1 : c1 ≤ 3) {s : Nat → Int32} (hS : M (g + 4 + j) = .inr (9, [.int (s 0), .int (s 1), .int (s 2), .int (s 3), .int (s 4), .int (s 5), .int (s 6)])) {dr wi : Int32} (hW : M (g + 16 + b) = .inr (1, [.int dr, .int wi])) {tu : Nat → Int32} (hT : M 25 = .inr (10, [.ref 26])) (hV : M 26 = .inl (0, 4, .inl tu)) {A : la_A} (h39 : M 39 = la_o A) (hg : 39 < g) {lo hi : Int32} (h1 : 200 ≤ lo) (h2 : lo ≤ hi) (h3 : hi ≤ 800) (h9 : ¬ (la_t (la_P tu s (sp_need dr wi) lo hi) 2 ((-9 : Int32), A.2)).1 = -9) : ev_Cal G mX11_least 4 0 0 [.ref 21, .int (nI j), .int (nI b), .int lo, .int hi, .int 3] n M (ev_is (some (.int (la_t (la_P tu s (sp_need dr wi) lo hi) 2 ((-9 : Int32), A.2)).2.2.2.1)) (ev_set M 39 (la_o (la_t (la_P tu s (sp_need dr wi) lo hi) 2 ((-9 : Int32), A.2))))) := by
  refine ev_Cal_of (L := [some (.ref 21), some (.int (nI j)), some (.int (nI b)), some (.int lo), some (.int hi), some (.int 3), none, none]) (by decide +kernel) (Nat.le_of_ble_eq_true rfl) rfl ?_
  refine ev_aload_n (i := 0) dX11_least_0 rfl rfl ?_
  refine ev_getf dX11_least_1 flX11_64 (by first | assumption | exact ev_set_eq | exact (ev_set_ne (by omega)).trans h20) (by rfl) ?_
  refine ev_iload_n (i := 1) dX11_least_4 rfl rfl ?_
  refine ev_c2 kX11_least_5 (c3_stickAt_in hG hA hfa hj hc) (ev_rv_of (by first | assumption | exact ev_set_eq | exact (ev_set_ne (by omega)).trans h20) rfl rfl) (by decide) (by decide) (Nat.le_of_ble_eq_true rfl) ?_
  refine ev_astore dX11_least_8 (Nat.le_of_ble_eq_true rfl) rfl ?_
  refine ev_aload_n (i := 0) dX11_least_10 rfl rfl ?_
  refine ev_getf dX11_least_11 flX11_64 (by first | assumption | exact ev_set_eq | exact (ev_set_ne (by omega)).trans h20) (by rfl) ?_
  refine ev_iload_n (i := 2) dX11_least_14 rfl rfl ?_
  refine ev_c2 kX11_least_15 (c3_bowAt_in hG hB hfb hb hc1) (ev_rv_of (by first | assumption | exact ev_set_eq | exact (ev_set_ne (by omega)).trans h20) rfl rfl) (by decide) (by decide) (Nat.le_of_ble_eq_true rfl) ?_
  refine ev_astore dX11_least_18 (Nat.le_of_ble_eq_true rfl) rfl ?_
  refine ev_aload dX11_least_20 rfl ?_
  refine ev_ifnull dX11_least_22 ?_
  refine ev_aload dX11_least_25 rfl ?_
  refine ev_ifnull dX11_least_27 ?_
  refine ev_iload dX11_least_30 rfl ?_
  refine ev_iconst (v := 0) dX11_least_32 cni_0 ?_
  refine ev_iconst (v := 4) dX11_least_33 cni_4 ?_
  refine ev_c3 kX11_least_34 (c12_within) trivial (by decide) (by decide) (Nat.le_of_ble_eq_true rfl) ?_
  refine ev_if_neb (tgt := 42) dX11_least_37 (by decide) (fun q37 => ?_) (fun q37 => False.elim (Bool.false_ne_true (q37.symm.trans (by decide))))
  refine ev_iload_n (i := 3) dX11_least_42 rfl rfl ?_
  refine ev_sipush (v := 200) dX11_least_43 cns_200 ?_
  refine ev_icmp_lt (tgt := 63) dX11_least_46 (by decide) (fun q46 => False.elim (Int32.not_lt.mpr h1 q46)) (fun q46 => ?_)
  refine ev_iload_n (i := 3) dX11_least_49 rfl rfl ?_
  refine ev_iload dX11_least_50 rfl ?_
  refine ev_icmp_gt (tgt := 63) dX11_least_52 (by decide) (fun q52 => False.elim (Int32.not_lt.mpr h2 q52)) (fun q52 => ?_)
  refine ev_iload dX11_least_55 rfl ?_
  refine ev_sipush (v := 800) dX11_least_57 cns_800 ?_
  refine ev_icmp_le (tgt := 65) dX11_least_60 (by decide) (fun q60 => ?_) (fun q60 => False.elim (Int32.not_lt.mpr h3 q60))
  refine ev_aload_n (i := 0) dX11_least_65 rfl rfl ?_
  refine ev_getf dX11_least_66 flX11_40 (by first | assumption | exact ev_set_eq | exact (ev_set_ne (by omega)).trans h20) (by rfl) ?_
  refine ev_aload dX11_least_69 rfl ?_
  refine ev_aload dX11_least_71 rfl ?_
  refine ev_c1 kX11_least_73 (c1_need hW) (ev_rv_of (by first | assumption | exact ev_set_eq | exact (ev_set_ne (by omega)).trans h20) rfl rfl) (by decide) (by decide) (Nat.le_of_ble_eq_true rfl) ?_
  refine ev_aload_n (i := 0) dX11_least_76 rfl rfl ?_
  refine ev_getf dX11_least_77 flX11_19 (by first | assumption | exact ev_set_eq | exact (ev_set_ne (by omega)).trans h20) (by rfl) ?_
  refine ev_iload_n (i := 3) dX11_least_80 rfl rfl ?_
  refine ev_iload dX11_least_81 rfl ?_
  refine ev_w6 kX11_least_83 (c6_find h39 hS (by omega) hT hV) (ev_rv_of (by first | assumption | exact ev_set_eq | exact (ev_set_ne (by omega)).trans h20) rfl rfl) (by decide) (by decide) (Nat.le_of_ble_eq_true rfl) ?_
  refine ev_aload_n (i := 0) dX11_least_86 rfl rfl ?_
  refine ev_getf dX11_least_87 flX11_40 (by first | assumption | exact ev_set_eq | exact (ev_set_ne (by omega)).trans h20) (by rfl) ?_
  refine ev_iload dX11_least_90 rfl ?_
  refine ev_c2 kX11_least_92 (c6_tell_3 ev_set_eq h9) (ev_rv_of (by first | assumption | exact ev_set_eq | exact (ev_set_ne (by omega)).trans h20) rfl rfl) (by decide) (by decide) (Nat.le_of_ble_eq_true rfl) ?_
  exact ev_reti dX11_least_95 rfl rfl (⟨by first | rfl | simp [*], rfl⟩)
theorem c12_least_4 {G : ev_G} {n : Nat} {M : ev_M} {g g' c0 c1 c2 : Nat} {lot : Int32} (h20 : M 21 = .inr (11, [.ref 22, .ref 25, .ref 27, .ref 35, .ref 39, .ref 40, .ref 41, .ref 63, .ref g, .ref g', .int lot])) (hG : M g = .inr (3, [.ref (g + 1), .ref (g + 2), .ref (g + 3), .int (nI c0), .int (nI c1), .int (nI c2)])) {fa : Nat → Option Nat} (hA : M (g + 1) = .inl (2, 12, ev_q fa)) (hfa : ∀ i, i < 12 → fa i = some (g + 4 + i)) {fb : Nat → Option Nat} (hB : M (g + 2) = .inl (3, 3, ev_q fb)) (hfb : ∀ i, i < 3 → fb i = some (g + 16 + i)) {j : Nat} (hj : j < c0) (hc : c0 ≤ 12) {b : Nat} (hb : b < c1) (hc1 : c1 ≤ 3) {s : Nat → Int32} (hS : M (g + 4 + j) = .inr (9, [.int (s 0), .int (s 1), .int (s 2), .int (s 3), .int (s 4), .int (s 5), .int (s 6)])) {dr wi : Int32} (hW : M (g + 16 + b) = .inr (1, [.int dr, .int wi])) {tu : Nat → Int32} (hT : M 25 = .inr (10, [.ref 26])) (hV : M 26 = .inl (0, 4, .inl tu)) {A : la_A} (h39 : M 39 = la_o A) (hg : 39 < g) {lo hi : Int32} (h1 : 200 ≤ lo) (h2 : lo ≤ hi) (h3 : hi ≤ 800) (h9 : ¬ (la_t (la_P tu s (sp_need dr wi) lo hi) 2 ((-9 : Int32), A.2)).1 = -9) : ev_Cal G mX11_least 4 0 0 [.ref 21, .int (nI j), .int (nI b), .int lo, .int hi, .int 4] n M (ev_is (some (.int (la_t (la_P tu s (sp_need dr wi) lo hi) 2 ((-9 : Int32), A.2)).2.2.2.2)) (ev_set M 39 (la_o (la_t (la_P tu s (sp_need dr wi) lo hi) 2 ((-9 : Int32), A.2))))) := by
  refine ev_Cal_of (L := [some (.ref 21), some (.int (nI j)), some (.int (nI b)), some (.int lo), some (.int hi), some (.int 4), none, none]) (by decide +kernel) (Nat.le_of_ble_eq_true rfl) rfl ?_
  refine ev_aload_n (i := 0) dX11_least_0 rfl rfl ?_
  refine ev_getf dX11_least_1 flX11_64 (by first | assumption | exact ev_set_eq | exact (ev_set_ne (by omega)).trans h20) (by rfl) ?_
  refine ev_iload_n (i := 1) dX11_least_4 rfl rfl ?_
  refine ev_c2 kX11_least_5 (c3_stickAt_in hG hA hfa hj hc) (ev_rv_of (by first | assumption | exact ev_set_eq | exact (ev_set_ne (by omega)).trans h20) rfl rfl) (by decide) (by decide) (Nat.le_of_ble_eq_true rfl) ?_
  refine ev_astore dX11_least_8 (Nat.le_of_ble_eq_true rfl) rfl ?_
  refine ev_aload_n (i := 0) dX11_least_10 rfl rfl ?_
  refine ev_getf dX11_least_11 flX11_64 (by first | assumption | exact ev_set_eq | exact (ev_set_ne (by omega)).trans h20) (by rfl) ?_
  refine ev_iload_n (i := 2) dX11_least_14 rfl rfl ?_
  refine ev_c2 kX11_least_15 (c3_bowAt_in hG hB hfb hb hc1) (ev_rv_of (by first | assumption | exact ev_set_eq | exact (ev_set_ne (by omega)).trans h20) rfl rfl) (by decide) (by decide) (Nat.le_of_ble_eq_true rfl) ?_
  refine ev_astore dX11_least_18 (Nat.le_of_ble_eq_true rfl) rfl ?_
  refine ev_aload dX11_least_20 rfl ?_
  refine ev_ifnull dX11_least_22 ?_
  refine ev_aload dX11_least_25 rfl ?_
  refine ev_ifnull dX11_least_27 ?_
  refine ev_iload dX11_least_30 rfl ?_
  refine ev_iconst (v := 0) dX11_least_32 cni_0 ?_
  refine ev_iconst (v := 4) dX11_least_33 cni_4 ?_
  refine ev_c3 kX11_least_34 (c12_within) trivial (by decide) (by decide) (Nat.le_of_ble_eq_true rfl) ?_
  refine ev_if_neb (tgt := 42) dX11_least_37 (by decide) (fun q37 => ?_) (fun q37 => False.elim (Bool.false_ne_true (q37.symm.trans (by decide))))
  refine ev_iload_n (i := 3) dX11_least_42 rfl rfl ?_
  refine ev_sipush (v := 200) dX11_least_43 cns_200 ?_
  refine ev_icmp_lt (tgt := 63) dX11_least_46 (by decide) (fun q46 => False.elim (Int32.not_lt.mpr h1 q46)) (fun q46 => ?_)
  refine ev_iload_n (i := 3) dX11_least_49 rfl rfl ?_
  refine ev_iload dX11_least_50 rfl ?_
  refine ev_icmp_gt (tgt := 63) dX11_least_52 (by decide) (fun q52 => False.elim (Int32.not_lt.mpr h2 q52)) (fun q52 => ?_)
  refine ev_iload dX11_least_55 rfl ?_
  refine ev_sipush (v := 800) dX11_least_57 cns_800 ?_
  refine ev_icmp_le (tgt := 65) dX11_least_60 (by decide) (fun q60 => ?_) (fun q60 => False.elim (Int32.not_lt.mpr h3 q60))
  refine ev_aload_n (i := 0) dX11_least_65 rfl rfl ?_
  refine ev_getf dX11_least_66 flX11_40 (by first | assumption | exact ev_set_eq | exact (ev_set_ne (by omega)).trans h20) (by rfl) ?_
  refine ev_aload dX11_least_69 rfl ?_
  refine ev_aload dX11_least_71 rfl ?_
  refine ev_c1 kX11_least_73 (c1_need hW) (ev_rv_of (by first | assumption | exact ev_set_eq | exact (ev_set_ne (by omega)).trans h20) rfl rfl) (by decide) (by decide) (Nat.le_of_ble_eq_true rfl) ?_
  refine ev_aload_n (i := 0) dX11_least_76 rfl rfl ?_
  refine ev_getf dX11_least_77 flX11_19 (by first | assumption | exact ev_set_eq | exact (ev_set_ne (by omega)).trans h20) (by rfl) ?_
  refine ev_iload_n (i := 3) dX11_least_80 rfl rfl ?_
  refine ev_iload dX11_least_81 rfl ?_
  refine ev_w6 kX11_least_83 (c6_find h39 hS (by omega) hT hV) (ev_rv_of (by first | assumption | exact ev_set_eq | exact (ev_set_ne (by omega)).trans h20) rfl rfl) (by decide) (by decide) (Nat.le_of_ble_eq_true rfl) ?_
  refine ev_aload_n (i := 0) dX11_least_86 rfl rfl ?_
  refine ev_getf dX11_least_87 flX11_40 (by first | assumption | exact ev_set_eq | exact (ev_set_ne (by omega)).trans h20) (by rfl) ?_
  refine ev_iload dX11_least_90 rfl ?_
  refine ev_c2 kX11_least_92 (c6_tell_4 ev_set_eq h9) (ev_rv_of (by first | assumption | exact ev_set_eq | exact (ev_set_ne (by omega)).trans h20) rfl rfl) (by decide) (by decide) (Nat.le_of_ble_eq_true rfl) ?_
  exact ev_reti dX11_least_95 rfl rfl (⟨by first | rfl | simp [*], rfl⟩)
theorem c12_least_none {G : ev_G} {n : Nat} {M : ev_M} {g g' c0 c1 c2 : Nat} {lot : Int32} (h20 : M 21 = .inr (11, [.ref 22, .ref 25, .ref 27, .ref 35, .ref 39, .ref 40, .ref 41, .ref 63, .ref g, .ref g', .int lot])) (hG : M g = .inr (3, [.ref (g + 1), .ref (g + 2), .ref (g + 3), .int (nI c0), .int (nI c1), .int (nI c2)])) {fa : Nat → Option Nat} (hA : M (g + 1) = .inl (2, 12, ev_q fa)) (hfa : ∀ i, i < 12 → fa i = some (g + 4 + i)) {fb : Nat → Option Nat} (hB : M (g + 2) = .inl (3, 3, ev_q fb)) (hfb : ∀ i, i < 3 → fb i = some (g + 16 + i)) {j : Nat} (hj : j < c0) (hc : c0 ≤ 12) {b : Nat} (hb : b < c1) (hc1 : c1 ≤ 3) {s : Nat → Int32} (hS : M (g + 4 + j) = .inr (9, [.int (s 0), .int (s 1), .int (s 2), .int (s 3), .int (s 4), .int (s 5), .int (s 6)])) {dr wi : Int32} (hW : M (g + 16 + b) = .inr (1, [.int dr, .int wi])) {tu : Nat → Int32} (hT : M 25 = .inr (10, [.ref 26])) (hV : M 26 = .inl (0, 4, .inl tu)) {A : la_A} (h39 : M 39 = la_o A) (hg : 39 < g) {lo hi : Int32} (h1 : 200 ≤ lo) (h2 : lo ≤ hi) (h3 : hi ≤ 800) {w : Int32} (hw : sp_in w 0 4 = true) (h9 : (la_t (la_P tu s (sp_need dr wi) lo hi) 2 ((-9 : Int32), A.2)).1 = -9) : ev_Cal G mX11_least 4 0 0 [.ref 21, .int (nI j), .int (nI b), .int lo, .int hi, .int w] n M (ev_is (some (.int (-9))) (ev_set M 39 (la_o (la_t (la_P tu s (sp_need dr wi) lo hi) 2 ((-9 : Int32), A.2))))) := by
  refine ev_Cal_of (L := [some (.ref 21), some (.int (nI j)), some (.int (nI b)), some (.int lo), some (.int hi), some (.int w), none, none]) (by decide +kernel) (Nat.le_of_ble_eq_true rfl) rfl ?_
  refine ev_aload_n (i := 0) dX11_least_0 rfl rfl ?_
  refine ev_getf dX11_least_1 flX11_64 (by first | assumption | exact ev_set_eq | exact (ev_set_ne (by omega)).trans h20) (by rfl) ?_
  refine ev_iload_n (i := 1) dX11_least_4 rfl rfl ?_
  refine ev_c2 kX11_least_5 (c3_stickAt_in hG hA hfa hj hc) (ev_rv_of (by first | assumption | exact ev_set_eq | exact (ev_set_ne (by omega)).trans h20) rfl rfl) (by decide) (by decide) (Nat.le_of_ble_eq_true rfl) ?_
  refine ev_astore dX11_least_8 (Nat.le_of_ble_eq_true rfl) rfl ?_
  refine ev_aload_n (i := 0) dX11_least_10 rfl rfl ?_
  refine ev_getf dX11_least_11 flX11_64 (by first | assumption | exact ev_set_eq | exact (ev_set_ne (by omega)).trans h20) (by rfl) ?_
  refine ev_iload_n (i := 2) dX11_least_14 rfl rfl ?_
  refine ev_c2 kX11_least_15 (c3_bowAt_in hG hB hfb hb hc1) (ev_rv_of (by first | assumption | exact ev_set_eq | exact (ev_set_ne (by omega)).trans h20) rfl rfl) (by decide) (by decide) (Nat.le_of_ble_eq_true rfl) ?_
  refine ev_astore dX11_least_18 (Nat.le_of_ble_eq_true rfl) rfl ?_
  refine ev_aload dX11_least_20 rfl ?_
  refine ev_ifnull dX11_least_22 ?_
  refine ev_aload dX11_least_25 rfl ?_
  refine ev_ifnull dX11_least_27 ?_
  refine ev_iload dX11_least_30 rfl ?_
  refine ev_iconst (v := 0) dX11_least_32 cni_0 ?_
  refine ev_iconst (v := 4) dX11_least_33 cni_4 ?_
  refine ev_c3 kX11_least_34 (c12_within) trivial (by decide) (by decide) (Nat.le_of_ble_eq_true rfl) ?_
  refine ev_if_neb (tgt := 42) dX11_least_37 (by decide) (fun q37 => ?_) (fun q37 => False.elim (Bool.false_ne_true (q37.symm.trans (hw))))
  refine ev_iload_n (i := 3) dX11_least_42 rfl rfl ?_
  refine ev_sipush (v := 200) dX11_least_43 cns_200 ?_
  refine ev_icmp_lt (tgt := 63) dX11_least_46 (by decide) (fun q46 => False.elim (Int32.not_lt.mpr h1 q46)) (fun q46 => ?_)
  refine ev_iload_n (i := 3) dX11_least_49 rfl rfl ?_
  refine ev_iload dX11_least_50 rfl ?_
  refine ev_icmp_gt (tgt := 63) dX11_least_52 (by decide) (fun q52 => False.elim (Int32.not_lt.mpr h2 q52)) (fun q52 => ?_)
  refine ev_iload dX11_least_55 rfl ?_
  refine ev_sipush (v := 800) dX11_least_57 cns_800 ?_
  refine ev_icmp_le (tgt := 65) dX11_least_60 (by decide) (fun q60 => ?_) (fun q60 => False.elim (Int32.not_lt.mpr h3 q60))
  refine ev_aload_n (i := 0) dX11_least_65 rfl rfl ?_
  refine ev_getf dX11_least_66 flX11_40 (by first | assumption | exact ev_set_eq | exact (ev_set_ne (by omega)).trans h20) (by rfl) ?_
  refine ev_aload dX11_least_69 rfl ?_
  refine ev_aload dX11_least_71 rfl ?_
  refine ev_c1 kX11_least_73 (c1_need hW) (ev_rv_of (by first | assumption | exact ev_set_eq | exact (ev_set_ne (by omega)).trans h20) rfl rfl) (by decide) (by decide) (Nat.le_of_ble_eq_true rfl) ?_
  refine ev_aload_n (i := 0) dX11_least_76 rfl rfl ?_
  refine ev_getf dX11_least_77 flX11_19 (by first | assumption | exact ev_set_eq | exact (ev_set_ne (by omega)).trans h20) (by rfl) ?_
  refine ev_iload_n (i := 3) dX11_least_80 rfl rfl ?_
  refine ev_iload dX11_least_81 rfl ?_
  refine ev_w6 kX11_least_83 (c6_find h39 hS (by omega) hT hV) (ev_rv_of (by first | assumption | exact ev_set_eq | exact (ev_set_ne (by omega)).trans h20) rfl rfl) (by decide) (by decide) (Nat.le_of_ble_eq_true rfl) ?_
  refine ev_aload_n (i := 0) dX11_least_86 rfl rfl ?_
  refine ev_getf dX11_least_87 flX11_40 (by first | assumption | exact ev_set_eq | exact (ev_set_ne (by omega)).trans h20) (by rfl) ?_
  refine ev_iload dX11_least_90 rfl ?_
  refine ev_c2 kX11_least_92 (c6_tell_none ev_set_eq h9) (ev_rv_of (by first | assumption | exact ev_set_eq | exact (ev_set_ne (by omega)).trans h20) rfl rfl) (by decide) (by decide) (Nat.le_of_ble_eq_true rfl) ?_
  exact ev_reti dX11_least_95 rfl rfl (⟨by first | rfl | simp [*], rfl⟩)
theorem c12_least_no {G : ev_G} {n : Nat} {M : ev_M} {g g' c0 c1 c2 : Nat} {lot : Int32} (h20 : M 21 = .inr (11, [.ref 22, .ref 25, .ref 27, .ref 35, .ref 39, .ref 40, .ref 41, .ref 63, .ref g, .ref g', .int lot])) (hG : M g = .inr (3, [.ref (g + 1), .ref (g + 2), .ref (g + 3), .int (nI c0), .int (nI c1), .int (nI c2)])) {fa : Nat → Option Nat} (hA : M (g + 1) = .inl (2, 12, ev_q fa)) (hfa : ∀ i, i < 12 → fa i = some (g + 4 + i)) {fb : Nat → Option Nat} (hB : M (g + 2) = .inl (3, 3, ev_q fb)) (hfb : ∀ i, i < 3 → fb i = some (g + 16 + i)) {j : Nat} (hj : j < c0) (hc : c0 ≤ 12) {b : Nat} (hb : b < c1) (hc1 : c1 ≤ 3) {lo hi w : Int32} (hn : lo < 200 ∨ hi < lo ∨ 800 < hi ∨ sp_in w 0 4 = false) : ev_Cal G mX11_least 4 0 0 [.ref 21, .int (nI j), .int (nI b), .int lo, .int hi, .int w] n M (ev_is (some (.int (-1))) M) := by
  refine ev_Cal_of (L := [some (.ref 21), some (.int (nI j)), some (.int (nI b)), some (.int lo), some (.int hi), some (.int w), none, none]) (by decide +kernel) (Nat.le_of_ble_eq_true rfl) rfl ?_
  refine ev_aload_n (i := 0) dX11_least_0 rfl rfl ?_
  refine ev_getf dX11_least_1 flX11_64 (by first | assumption | rfl) (by rfl) ?_
  refine ev_iload_n (i := 1) dX11_least_4 rfl rfl ?_
  refine ev_c2 kX11_least_5 (c3_stickAt_in hG hA hfa hj hc) (ev_rv_of (by first | assumption | rfl) rfl rfl) (by decide) (by decide) (Nat.le_of_ble_eq_true rfl) ?_
  refine ev_astore dX11_least_8 (Nat.le_of_ble_eq_true rfl) rfl ?_
  refine ev_aload_n (i := 0) dX11_least_10 rfl rfl ?_
  refine ev_getf dX11_least_11 flX11_64 (by first | assumption | rfl) (by rfl) ?_
  refine ev_iload_n (i := 2) dX11_least_14 rfl rfl ?_
  refine ev_c2 kX11_least_15 (c3_bowAt_in hG hB hfb hb hc1) (ev_rv_of (by first | assumption | rfl) rfl rfl) (by decide) (by decide) (Nat.le_of_ble_eq_true rfl) ?_
  refine ev_astore dX11_least_18 (Nat.le_of_ble_eq_true rfl) rfl ?_
  refine ev_aload dX11_least_20 rfl ?_
  refine ev_ifnull dX11_least_22 ?_
  refine ev_aload dX11_least_25 rfl ?_
  refine ev_ifnull dX11_least_27 ?_
  refine ev_iload dX11_least_30 rfl ?_
  refine ev_iconst (v := 0) dX11_least_32 cni_0 ?_
  refine ev_iconst (v := 4) dX11_least_33 cni_4 ?_
  refine ev_c3 kX11_least_34 (c12_within) trivial (by decide) (by decide) (Nat.le_of_ble_eq_true rfl) ?_
  refine ev_if_neb (tgt := 42) dX11_least_37 (by decide) (fun q37 => ?_) (fun q37 => ?_)
  · skip
    refine ev_iload_n (i := 3) dX11_least_42 rfl rfl ?_
    refine ev_sipush (v := 200) dX11_least_43 cns_200 ?_
    refine ev_icmp_lt (tgt := 63) dX11_least_46 (by decide) (fun q46 => ?_) (fun q46 => ?_)
    · skip
      refine ev_iconst (v := (-1)) dX11_least_63 cni_m1 ?_
      exact ev_reti dX11_least_64 rfl rfl (⟨by first | rfl | simp [*], rfl⟩)
    · skip
      refine ev_iload_n (i := 3) dX11_least_49 rfl rfl ?_
      refine ev_iload dX11_least_50 rfl ?_
      refine ev_icmp_gt (tgt := 63) dX11_least_52 (by decide) (fun q52 => ?_) (fun q52 => ?_)
      · skip
        refine ev_iconst (v := (-1)) dX11_least_63 cni_m1 ?_
        exact ev_reti dX11_least_64 rfl rfl (⟨by first | rfl | simp [*], rfl⟩)
      · skip
        refine ev_iload dX11_least_55 rfl ?_
        refine ev_sipush (v := 800) dX11_least_57 cns_800 ?_
        refine ev_icmp_le (tgt := 65) dX11_least_60 (by decide) (fun q60 => False.elim (hn.elim (fun q => Int32.not_lt.mpr q46 q) (fun q => q.elim (fun q => Int32.not_lt.mpr q52 q) (fun q => q.elim (fun q => Int32.not_lt.mpr q60 q) (fun q => Bool.false_ne_true (q.symm.trans (q37))))))) (fun q60 => ?_)
        refine ev_iconst (v := (-1)) dX11_least_63 cni_m1 ?_
        exact ev_reti dX11_least_64 rfl rfl (⟨by first | rfl | simp [*], rfl⟩)
  · skip
    refine ev_iconst (v := (-1)) dX11_least_40 cni_m1 ?_
    exact ev_reti dX11_least_41 rfl rfl (⟨by first | rfl | simp [*], rfl⟩)
