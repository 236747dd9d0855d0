/-! ===== contracts: the class, more ===== -/
def sp_bf (V : Nat → Int32) : Nat → Int32 × Int32
  | 0 => (0, 0)
  | k + 1 => if 0 < k ∧ (sp_bf V k).2 ≤ V k then sp_bf V k else (nI k, V k)
theorem sp_bf_0 {V : Nat → Int32} {k : Nat} (h : 0 < k) (h2 : (sp_bf V k).2 ≤ V k) : sp_bf V (k + 1) = sp_bf V k := by rw [sp_bf, if_pos ⟨h, h2⟩]
theorem sp_bf_1 {V : Nat → Int32} {k : Nat} (h : ¬ 0 < k) : sp_bf V (k + 1) = (nI k, V k) := by rw [sp_bf, if_neg (fun q => h q.1)]
theorem sp_bf_2 {V : Nat → Int32} {k : Nat} (h : V k < (sp_bf V k).2) : sp_bf V (k + 1) = (nI k, V k) := by rw [sp_bf, if_neg (fun q => Int32.not_le.mpr h q.2)]
def sp_cnt (P : Nat → Bool) : Nat → Int32
  | 0 => 0
  | k + 1 => if P k = true then sp_cnt P k + 1 else sp_cnt P k
theorem sp_cnt_1 {P : Nat → Bool} {k : Nat} (h : P k = true) : sp_cnt P (k + 1) = sp_cnt P k + 1 := by rw [sp_cnt, if_pos h]
theorem sp_cnt_0 {P : Nat → Bool} {k : Nat} (h : P k = false) : sp_cnt P (k + 1) = sp_cnt P k := by rw [sp_cnt, if_neg (by rw [h]; decide)]
def sb_fe (tu s : Nat → Int32) (dr wi far : Int32) (k : Nat) : Int32 := sp_abs (sp_goes (tu 0) (tu 1) (tu 2) (tu 3) (sp_spine (sp_stiff (s 2) (s 3) (s 6)) (s 0) (s 4) - sp_need dr wi) (nI k) (s 1 + s 4)) + sp_drop (s 1 + s 4) dr (nI k) * far / 100
def sb_wm (tu s : Nat → Int32) (dr wi kk w : Int32) (i : Nat) : Bool :=
  (if w = 0 then sp_clean (tu 0) (sp_spine (sp_stiff (s (7 * i + 2)) (s (7 * i + 3)) (s (7 * i + 6))) (s (7 * i + 0)) (s (7 * i + 4)) - sp_need dr wi) && !sp_clean (tu 0) (sp_spine (sp_stiff (s (7 * i + 2)) (s (7 * i + 3)) (s (7 * i + 6))) (s (7 * i + 0)) (s (7 * i + 4)) - sp_need (sp_max 1 (dr - kk)) wi)
   else !sp_clean (tu 0) (sp_spine (sp_stiff (s (7 * i + 2)) (s (7 * i + 3)) (s (7 * i + 6))) (s (7 * i + 0)) (s (7 * i + 4)) - sp_need dr wi) && sp_clean (tu 0) (sp_spine (sp_stiff (s (7 * i + 2)) (s (7 * i + 3)) (s (7 * i + 6))) (s (7 * i + 0)) (s (7 * i + 4)) - sp_need (sp_max 1 (dr - kk)) wi))
theorem l12_feather {G : ev_G} {n : Nat} {M : ev_M} {g g' c0 c1 c2 : Nat} {lot : Int32} (h20 : M 21 = .inr (11, [.ref 22, .ref 25, .ref 27, .ref 35, .ref 39, .ref 40, .ref 41, .ref 63, .ref g, .ref g', .int lot])) (hG : M g = .inr (3, [.ref (g + 1), .ref (g + 2), .ref (g + 3), .int (nI c0), .int (nI c1), .int (nI c2)])) {fa : Nat → Option Nat} (hA : M (g + 1) = .inl (2, 12, ev_q fa)) (hfa : ∀ i, i < 12 → fa i = some (g + 4 + i)) {fb : Nat → Option Nat} (hB : M (g + 2) = .inl (3, 3, ev_q fb)) (hfb : ∀ i, i < 3 → fb i = some (g + 16 + i)) {j : Nat} (hj : j < c0) (hc : c0 ≤ 12) {b : Nat} (hb : b < c1) (hc1 : c1 ≤ 3) {s : Nat → Int32} (hS : M (g + 4 + j) = .inr (9, [.int (s 0), .int (s 1), .int (s 2), .int (s 3), .int (s 4), .int (s 5), .int (s 6)])) {dr wi : Int32} (hW : M (g + 16 + b) = .inr (1, [.int dr, .int wi])) {tu : Nat → Int32} (hT : M 25 = .inr (10, [.ref 26])) (hV : M 26 = .inl (0, 4, .inl tu)) {far : Int32} : ∀ (m k : Nat) (z : Option Value), k + m = 10 → ev_E G mX11_feather 6 0 0 n M 64 [some (.ref 21), some (.int (nI j)), some (.int (nI b)), some (.int far), some (.ref (g + 4 + j)), some (.ref (g + 16 + b)), some (.int (sp_spine (sp_stiff (s 2) (s 3) (s 6)) (s 0) (s 4) - sp_need dr wi)), some (.int (sp_bf (sb_fe tu s dr wi far) (k)).1), some (.int (sp_bf (sb_fe tu s dr wi far) (k)).2), some (.int (nI (k))), z] [] (ev_is (some (.int (sp_bf (sb_fe tu s dr wi far) 10).1)) M) := by
  intro m
  induction m with
  | zero =>
    intro k z hk
    refine ev_iload dX11_feather_64 rfl ?_
    refine ev_bipush (v := 9) dX11_feather_66 cnb_9 ?_
    refine ev_icmp_gt (tgt := 133) dX11_feather_68 (by decide) (fun h68 => ?_) (fun h68 => False.elim (Int32.not_lt.mpr h68 (nI_lt (a := 9) (b := k) (by omega) (by omega))))
    refine ev_iload dX11_feather_133 rfl ?_
    exact ev_reti dX11_feather_135 rfl rfl (⟨by rw [show k = 10 by omega], rfl⟩)
  | succ m ih =>
    intro k z hk
    refine ev_iload dX11_feather_64 rfl ?_
    refine ev_bipush (v := 9) dX11_feather_66 cnb_9 ?_
    refine ev_icmp_gt (tgt := 133) dX11_feather_68 (by decide) (fun h68 => False.elim (Int32.not_lt.mpr (nI_le (a := k) (b := 9) (by omega) (by decide)) h68)) (fun h68 => ?_)
    refine ev_aload_n (i := 0) dX11_feather_71 rfl rfl ?_
    refine ev_getf dX11_feather_72 flX11_19 (by first | assumption | rfl) (by rfl) ?_
    refine ev_aload dX11_feather_75 rfl ?_
    refine ev_iload dX11_feather_77 rfl ?_
    refine ev_iload dX11_feather_79 rfl ?_
    refine ev_c4 kX11_feather_81 (c11_goesOf hT hV hS) (ev_rv_of (by first | assumption | rfl) rfl rfl) (by decide) (by decide) (Nat.le_of_ble_eq_true rfl) ?_
    refine ev_abs2 dX11_feather_84 maX11_219 (by decide) (Nat.le_of_ble_eq_true rfl) ?_
    refine ev_aload dX11_feather_87 rfl ?_
    refine ev_aload dX11_feather_89 rfl ?_
    refine ev_iload dX11_feather_91 rfl ?_
    refine ev_c3 kX11_feather_93 (c1_dropOf hW hS) (ev_rv_of (by first | assumption | rfl) rfl rfl) (by decide) (by decide) (Nat.le_of_ble_eq_true rfl) ?_
    refine ev_iload_n (i := 3) dX11_feather_96 rfl rfl ?_
    refine ev_imul dX11_feather_97 ?_
    refine ev_bipush (v := 100) dX11_feather_98 cnb_100 ?_
    refine ev_idiv dX11_feather_100 (by decide) ?_
    refine ev_iadd dX11_feather_101 ?_
    refine ev_istore dX11_feather_102 (Nat.le_of_ble_eq_true rfl) rfl ?_
    refine ev_iload dX11_feather_104 rfl ?_
    refine ev_if_le (tgt := 119) dX11_feather_106 (by decide) (fun h106 => ?_) (fun h106 => ?_)
    · skip
      refine ev_iload dX11_feather_119 rfl ?_
      refine ev_istore dX11_feather_121 (Nat.le_of_ble_eq_true rfl) rfl ?_
      refine ev_iload dX11_feather_123 rfl ?_
      refine ev_istore dX11_feather_125 (Nat.le_of_ble_eq_true rfl) rfl ?_
      refine ev_iinc (v := nI (k + 1)) dX11_feather_127 rfl (nI_1 k) (Nat.le_of_ble_eq_true rfl) rfl ?_
      refine ev_goto (tgt := 64) dX11_feather_130 (by decide) ?_
      exact ev_loc (L2 := [some (.ref 21), some (.int (nI j)), some (.int (nI b)), some (.int far), some (.ref (g + 4 + j)), some (.ref (g + 16 + b)), some (.int (sp_spine (sp_stiff (s 2) (s 3) (s 6)) (s 0) (s 4) - sp_need dr wi)), some (.int (sp_bf (sb_fe tu s dr wi far) (k + 1)).1), some (.int (sp_bf (sb_fe tu s dr wi far) (k + 1)).2), some (.int (nI (k + 1))), some (.int (sb_fe tu s dr wi far k))]) (by first | (rw [sp_bf_1 (V := (sb_fe tu s dr wi far)) (k := k) (fun q => nI_nle q (by omega) h106)]; rfl) | (rw [sp_bf_2 (V := (sb_fe tu s dr wi far)) (k := k) h113]; rfl) | (rw [sp_bf_0 (V := (sb_fe tu s dr wi far)) (k := k) (by rcases Nat.eq_zero_or_pos k with q | q; exact absurd h106 (by rw [q]; decide); exact q) h113]; rfl)) (ih (k + 1) _ (by omega))
    · skip
      refine ev_iload dX11_feather_109 rfl ?_
      refine ev_iload dX11_feather_111 rfl ?_
      refine ev_icmp_lt (tgt := 119) dX11_feather_113 (by decide) (fun h113 => ?_) (fun h113 => ?_)
      · skip
        refine ev_iload dX11_feather_119 rfl ?_
        refine ev_istore dX11_feather_121 (Nat.le_of_ble_eq_true rfl) rfl ?_
        refine ev_iload dX11_feather_123 rfl ?_
        refine ev_istore dX11_feather_125 (Nat.le_of_ble_eq_true rfl) rfl ?_
        refine ev_iinc (v := nI (k + 1)) dX11_feather_127 rfl (nI_1 k) (Nat.le_of_ble_eq_true rfl) rfl ?_
        refine ev_goto (tgt := 64) dX11_feather_130 (by decide) ?_
        exact ev_loc (L2 := [some (.ref 21), some (.int (nI j)), some (.int (nI b)), some (.int far), some (.ref (g + 4 + j)), some (.ref (g + 16 + b)), some (.int (sp_spine (sp_stiff (s 2) (s 3) (s 6)) (s 0) (s 4) - sp_need dr wi)), some (.int (sp_bf (sb_fe tu s dr wi far) (k + 1)).1), some (.int (sp_bf (sb_fe tu s dr wi far) (k + 1)).2), some (.int (nI (k + 1))), some (.int (sb_fe tu s dr wi far k))]) (by first | (rw [sp_bf_1 (V := (sb_fe tu s dr wi far)) (k := k) (fun q => nI_nle q (by omega) h106)]; rfl) | (rw [sp_bf_2 (V := (sb_fe tu s dr wi far)) (k := k) h113]; rfl) | (rw [sp_bf_0 (V := (sb_fe tu s dr wi far)) (k := k) (by rcases Nat.eq_zero_or_pos k with q | q; exact absurd h106 (by rw [q]; decide); exact q) h113]; rfl)) (ih (k + 1) _ (by omega))
      · skip
        refine ev_goto (tgt := 127) dX11_feather_116 (by decide) ?_
        refine ev_iinc (v := nI (k + 1)) dX11_feather_127 rfl (nI_1 k) (Nat.le_of_ble_eq_true rfl) rfl ?_
        refine ev_goto (tgt := 64) dX11_feather_130 (by decide) ?_
        exact ev_loc (L2 := [some (.ref 21), some (.int (nI j)), some (.int (nI b)), some (.int far), some (.ref (g + 4 + j)), some (.ref (g + 16 + b)), some (.int (sp_spine (sp_stiff (s 2) (s 3) (s 6)) (s 0) (s 4) - sp_need dr wi)), some (.int (sp_bf (sb_fe tu s dr wi far) (k + 1)).1), some (.int (sp_bf (sb_fe tu s dr wi far) (k + 1)).2), some (.int (nI (k + 1))), some (.int (sb_fe tu s dr wi far k))]) (by first | (rw [sp_bf_1 (V := (sb_fe tu s dr wi far)) (k := k) (fun q => nI_nle q (by omega) h106)]; rfl) | (rw [sp_bf_2 (V := (sb_fe tu s dr wi far)) (k := k) h113]; rfl) | (rw [sp_bf_0 (V := (sb_fe tu s dr wi far)) (k := k) (by rcases Nat.eq_zero_or_pos k with q | q; exact absurd h106 (by rw [q]; decide); exact q) h113]; rfl)) (ih (k + 1) _ (by omega))
theorem c12_feather_ok {G : ev_G} {n : Nat} {M : ev_M} {g g' c0 c1 c2 : Nat} {lot : Int32} (h20 : M 21 = .inr (11, [.ref 22, .ref 25, .ref 27, .ref 35, .ref 39, .ref 40, .ref 41, .ref 63, .ref g, .ref g', .int lot])) (hG : M g = .inr (3, [.ref (g + 1), .ref (g + 2), .ref (g + 3), .int (nI c0), .int (nI c1), .int (nI c2)])) {fa : Nat → Option Nat} (hA : M (g + 1) = .inl (2, 12, ev_q fa)) (hfa : ∀ i, i < 12 → fa i = some (g + 4 + i)) {fb : Nat → Option Nat} (hB : M (g + 2) = .inl (3, 3, ev_q fb)) (hfb : ∀ i, i < 3 → fb i = some (g + 16 + i)) {j : Nat} (hj : j < c0) (hc : c0 ≤ 12) {b : Nat} (hb : b < c1) (hc1 : c1 ≤ 3) {s : Nat → Int32} (hS : M (g + 4 + j) = .inr (9, [.int (s 0), .int (s 1), .int (s 2), .int (s 3), .int (s 4), .int (s 5), .int (s 6)])) {dr wi : Int32} (hW : M (g + 16 + b) = .inr (1, [.int dr, .int wi])) {tu : Nat → Int32} (hT : M 25 = .inr (10, [.ref 26])) (hV : M 26 = .inl (0, 4, .inl tu)) {far : Int32} (hf : sp_in far 0 99 = true) : ev_Cal G mX11_feather 6 0 0 [.ref 21, .int (nI j), .int (nI b), .int far] n M (ev_is (some (.int (sp_bf (sb_fe tu s dr wi far) 10).1)) M) := by
  refine ev_Cal_of (L := [some (.ref 21), some (.int (nI j)), some (.int (nI b)), some (.int far), none, none, none, none, none, none, none]) (by decide +kernel) (Nat.le_of_ble_eq_true rfl) rfl ?_
  refine ev_aload_n (i := 0) dX11_feather_0 rfl rfl ?_
  refine ev_getf dX11_feather_1 flX11_64 (by first | assumption | rfl) (by rfl) ?_
  refine ev_iload_n (i := 1) dX11_feather_4 rfl rfl ?_
  refine ev_c2 kX11_feather_5 (c3_stickAt_in hG hA hfa hj hc) (ev_rv_of (by first | assumption | rfl) rfl rfl) (by decide) (by decide) (Nat.le_of_ble_eq_true rfl) ?_
  refine ev_astore dX11_feather_8 (Nat.le_of_ble_eq_true rfl) rfl ?_
  refine ev_aload_n (i := 0) dX11_feather_10 rfl rfl ?_
  refine ev_getf dX11_feather_11 flX11_64 (by first | assumption | rfl) (by rfl) ?_
  refine ev_iload_n (i := 2) dX11_feather_14 rfl rfl ?_
  refine ev_c2 kX11_feather_15 (c3_bowAt_in hG hB hfb hb hc1) (ev_rv_of (by first | assumption | rfl) rfl rfl) (by decide) (by decide) (Nat.le_of_ble_eq_true rfl) ?_
  refine ev_astore dX11_feather_18 (Nat.le_of_ble_eq_true rfl) rfl ?_
  refine ev_aload dX11_feather_20 rfl ?_
  refine ev_ifnull dX11_feather_22 ?_
  refine ev_aload dX11_feather_25 rfl ?_
  refine ev_ifnull dX11_feather_27 ?_
  refine ev_iload_n (i := 3) dX11_feather_30 rfl rfl ?_
  refine ev_iconst (v := 0) dX11_feather_31 cni_0 ?_
  refine ev_bipush (v := 99) dX11_feather_32 cnb_99 ?_
  refine ev_c3 kX11_feather_34 (c12_within) trivial (by decide) (by decide) (Nat.le_of_ble_eq_true rfl) ?_
  refine ev_if_neb (tgt := 42) dX11_feather_37 (by decide) (fun h37 => ?_) (fun h37 => False.elim (Bool.false_ne_true (h37.symm.trans (hf))))
  refine ev_aload dX11_feather_42 rfl ?_
  refine ev_c1 kX11_feather_44 (c9_spine hS) (ev_rv_of (by first | assumption | rfl) rfl rfl) (by decide) (by decide) (Nat.le_of_ble_eq_true rfl) ?_
  refine ev_aload dX11_feather_47 rfl ?_
  refine ev_c1 kX11_feather_49 (c1_need hW) (ev_rv_of (by first | assumption | rfl) rfl rfl) (by decide) (by decide) (Nat.le_of_ble_eq_true rfl) ?_
  refine ev_isub dX11_feather_52 ?_
  refine ev_istore dX11_feather_53 (Nat.le_of_ble_eq_true rfl) rfl ?_
  refine ev_iconst (v := 0) dX11_feather_55 cni_0 ?_
  refine ev_istore dX11_feather_56 (Nat.le_of_ble_eq_true rfl) rfl ?_
  refine ev_iconst (v := 0) dX11_feather_58 cni_0 ?_
  refine ev_istore dX11_feather_59 (Nat.le_of_ble_eq_true rfl) rfl ?_
  refine ev_iconst (v := 0) dX11_feather_61 cni_0 ?_
  refine ev_istore dX11_feather_62 (Nat.le_of_ble_eq_true rfl) rfl ?_
  exact l12_feather h20 hG hA hfa hB hfb hj hc hb hc1 hS hW hT hV 10 0 none rfl
theorem c12_feather_f {G : ev_G} {n : Nat} {M : ev_M} {g g' c0 c1 c2 : Nat} {lot : Int32} (h20 : M 21 = .inr (11, [.ref 22, .ref 25, .ref 27, .ref 35, .ref 39, .ref 40, .ref 41, .ref 63, .ref g, .ref g', .int lot])) (hG : M g = .inr (3, [.ref (g + 1), .ref (g + 2), .ref (g + 3), .int (nI c0), .int (nI c1), .int (nI c2)])) {fa : Nat → Option Nat} (hA : M (g + 1) = .inl (2, 12, ev_q fa)) (hfa : ∀ i, i < 12 → fa i = some (g + 4 + i)) {fb : Nat → Option Nat} (hB : M (g + 2) = .inl (3, 3, ev_q fb)) (hfb : ∀ i, i < 3 → fb i = some (g + 16 + i)) {j : Nat} (hj : j < c0) (hc : c0 ≤ 12) {b : Nat} (hb : b < c1) (hc1 : c1 ≤ 3) {s : Nat → Int32} (hS : M (g + 4 + j) = .inr (9, [.int (s 0), .int (s 1), .int (s 2), .int (s 3), .int (s 4), .int (s 5), .int (s 6)])) {dr wi : Int32} (hW : M (g + 16 + b) = .inr (1, [.int dr, .int wi])) {tu : Nat → Int32} (hT : M 25 = .inr (10, [.ref 26])) (hV : M 26 = .inl (0, 4, .inl tu)) {far : Int32} (hf : sp_in far 0 99 = false) : ev_Cal G mX11_feather 6 0 0 [.ref 21, .int (nI j), .int (nI b), .int far] n M (ev_is (some (.int (-1))) M) := by
  refine ev_Cal_of (L := [some (.ref 21), some (.int (nI j)), some (.int (nI b)), some (.int far), none, none, none, none, none, none, none]) (by decide +kernel) (Nat.le_of_ble_eq_true rfl) rfl ?_
  refine ev_aload_n (i := 0) dX11_feather_0 rfl rfl ?_
  refine ev_getf dX11_feather_1 flX11_64 (by first | assumption | rfl) (by rfl) ?_
  refine ev_iload_n (i := 1) dX11_feather_4 rfl rfl ?_
  refine ev_c2 kX11_feather_5 (c3_stickAt_in hG hA hfa hj hc) (ev_rv_of (by first | assumption | rfl) rfl rfl) (by decide) (by decide) (Nat.le_of_ble_eq_true rfl) ?_
  refine ev_astore dX11_feather_8 (Nat.le_of_ble_eq_true rfl) rfl ?_
  refine ev_aload_n (i := 0) dX11_feather_10 rfl rfl ?_
  refine ev_getf dX11_feather_11 flX11_64 (by first | assumption | rfl) (by rfl) ?_
  refine ev_iload_n (i := 2) dX11_feather_14 rfl rfl ?_
  refine ev_c2 kX11_feather_15 (c3_bowAt_in hG hB hfb hb hc1) (ev_rv_of (by first | assumption | rfl) rfl rfl) (by decide) (by decide) (Nat.le_of_ble_eq_true rfl) ?_
  refine ev_astore dX11_feather_18 (Nat.le_of_ble_eq_true rfl) rfl ?_
  refine ev_aload dX11_feather_20 rfl ?_
  refine ev_ifnull dX11_feather_22 ?_
  refine ev_aload dX11_feather_25 rfl ?_
  refine ev_ifnull dX11_feather_27 ?_
  refine ev_iload_n (i := 3) dX11_feather_30 rfl rfl ?_
  refine ev_iconst (v := 0) dX11_feather_31 cni_0 ?_
  refine ev_bipush (v := 99) dX11_feather_32 cnb_99 ?_
  refine ev_c3 kX11_feather_34 (c12_within) trivial (by decide) (by decide) (Nat.le_of_ble_eq_true rfl) ?_
  refine ev_if_neb (tgt := 42) dX11_feather_37 (by decide) (fun h37 => False.elim (Bool.false_ne_true ((hf).symm.trans h37))) (fun h37 => ?_)
  refine ev_iconst (v := (-1)) dX11_feather_40 cni_m1 ?_
  exact ev_reti dX11_feather_41 rfl rfl (⟨by first | rfl | simp [*], rfl⟩)
theorem l12_warm_0 {G : ev_G} {n : Nat} {M : ev_M} {g g' c0 c1 c2 : Nat} {lot : Int32} (h20 : M 21 = .inr (11, [.ref 22, .ref 25, .ref 27, .ref 35, .ref 39, .ref 40, .ref 41, .ref 63, .ref g, .ref g', .int lot])) (hG : M g = .inr (3, [.ref (g + 1), .ref (g + 2), .ref (g + 3), .int (nI c0), .int (nI c1), .int (nI c2)])) {fa : Nat → Option Nat} (hA : M (g + 1) = .inl (2, 12, ev_q fa)) (hfa : ∀ i, i < 12 → fa i = some (g + 4 + i)) {fb : Nat → Option Nat} (hB : M (g + 2) = .inl (3, 3, ev_q fb)) (hfb : ∀ i, i < 3 → fb i = some (g + 16 + i)) (hc : c0 ≤ 12) {b : Nat} (hb : b < c1) (hc1 : c1 ≤ 3) {s : Nat → Int32} (hSS : ∀ i, i < 12 → M (g + 4 + i) = .inr (9, [.int (s (7 * i + 0)), .int (s (7 * i + 1)), .int (s (7 * i + 2)), .int (s (7 * i + 3)), .int (s (7 * i + 4)), .int (s (7 * i + 5)), .int (s (7 * i + 6))])) {dr wi : Int32} (hW : M (g + 16 + b) = .inr (1, [.int dr, .int wi])) {tu : Nat → Int32} (hT : M 25 = .inr (10, [.ref 26])) (hV : M 26 = .inl (0, 4, .inl tu)) {kk : Int32} : ∀ (m k : Nat) (z8 z9 z10 : Option Value), k + m = c0 → ev_E G mX11_warm 5 0 0 n M 63 [some (.ref 21), some (.int (nI b)), some (.int kk), some (.int 0), some (.ref (g + 16 + b)), some (.int (sp_need (sp_max 1 (dr - kk)) wi)), some (.int (sp_cnt (sb_wm tu s dr wi kk 0) (k))), some (.int (nI (k))), z8, z9, z10] [] (ev_is (some (.int (sp_cnt (sb_wm tu s dr wi kk 0) c0))) M) := by
  intro m
  induction m with
  | zero =>
    intro k z8 z9 z10 hk
    refine ev_iload dX11_warm_63 rfl ?_
    refine ev_aload_n (i := 0) dX11_warm_65 rfl rfl ?_
    refine ev_getf dX11_warm_66 flX11_64 (by first | assumption | rfl) (by rfl) ?_
    refine ev_getf dX11_warm_69 flX11_227 (by first | assumption | rfl) (by rfl) ?_
    refine ev_icmp_ge (tgt := 151) dX11_warm_72 (by decide) (fun h72 => ?_) (fun h72 => False.elim (nI_nlt (a := k) (b := c0) (by omega) (by omega) h72))
    refine ev_iload dX11_warm_151 rfl ?_
    exact ev_reti dX11_warm_153 rfl rfl (⟨by rw [show k = c0 by omega], rfl⟩)
  | succ m ih =>
    intro k z8 z9 z10 hk
    refine ev_iload dX11_warm_63 rfl ?_
    refine ev_aload_n (i := 0) dX11_warm_65 rfl rfl ?_
    refine ev_getf dX11_warm_66 flX11_64 (by first | assumption | rfl) (by rfl) ?_
    refine ev_getf dX11_warm_69 flX11_227 (by first | assumption | rfl) (by rfl) ?_
    refine ev_icmp_ge (tgt := 151) dX11_warm_72 (by decide) (fun h72 => False.elim (nI_ge (a := k) (b := c0) (by omega) (by omega) h72)) (fun h72 => ?_)
    refine ev_aload_n (i := 0) dX11_warm_75 rfl rfl ?_
    refine ev_getf dX11_warm_76 flX11_64 (by first | assumption | rfl) (by rfl) ?_
    refine ev_getf dX11_warm_79 flX11_230 (by first | assumption | rfl) (by rfl) ?_
    refine ev_iload dX11_warm_82 rfl ?_
    refine ev_aald (j := k) dX11_warm_84 (fun _ => rfl) (by first | assumption | rfl) (ev_ix_nI (by omega)) (by omega) (hfa k (by omega)) ?_
    refine ev_c1 kX11_warm_85 (c9_spine (hSS k (by omega))) (ev_rv_of (by exact hSS k (by omega)) rfl rfl) (by decide) (by decide) (Nat.le_of_ble_eq_true rfl) ?_
    refine ev_istore dX11_warm_88 (Nat.le_of_ble_eq_true rfl) rfl ?_
    refine ev_aload_n (i := 0) dX11_warm_90 rfl rfl ?_
    refine ev_getf dX11_warm_91 flX11_19 (by first | assumption | rfl) (by rfl) ?_
    refine ev_iload dX11_warm_94 rfl ?_
    refine ev_aload dX11_warm_96 rfl ?_
    refine ev_c1 kX11_warm_98 (c1_need hW) (ev_rv_of (by first | assumption | rfl) rfl rfl) (by decide) (by decide) (Nat.le_of_ble_eq_true rfl) ?_
    refine ev_isub dX11_warm_101 ?_
    refine ev_c2 kX11_warm_102 (c11_isClean hT hV) (ev_rv_of (by first | assumption | rfl) rfl rfl) (by decide) (by decide) (Nat.le_of_ble_eq_true rfl) ?_
    refine ev_istore dX11_warm_105 (Nat.le_of_ble_eq_true rfl) rfl ?_
    refine ev_aload_n (i := 0) dX11_warm_107 rfl rfl ?_
    refine ev_getf dX11_warm_108 flX11_19 (by first | assumption | rfl) (by rfl) ?_
    refine ev_iload dX11_warm_111 rfl ?_
    refine ev_iload dX11_warm_113 rfl ?_
    refine ev_isub dX11_warm_115 ?_
    refine ev_c2 kX11_warm_116 (c11_isClean hT hV) (ev_rv_of (by first | assumption | rfl) rfl rfl) (by decide) (by decide) (Nat.le_of_ble_eq_true rfl) ?_
    refine ev_istore dX11_warm_119 (Nat.le_of_ble_eq_true rfl) rfl ?_
    cases e1 : sp_clean (tu 0) (sp_spine (sp_stiff (s (7 * k + 2)) (s (7 * k + 3)) (s (7 * k + 6))) (s (7 * k + 0)) (s (7 * k + 4)) - sp_need dr wi) <;> cases e2 : sp_clean (tu 0) (sp_spine (sp_stiff (s (7 * k + 2)) (s (7 * k + 3)) (s (7 * k + 6))) (s (7 * k + 0)) (s (7 * k + 4)) - sp_need (sp_max 1 (dr - kk)) wi)
    · skip
      refine ev_iload dX11_warm_121 rfl ?_
      refine ev_iload dX11_warm_123 rfl ?_
      refine ev_icmp_eq (tgt := 145) dX11_warm_125 (by decide) (fun h125 => ?_) (fun h125 => False.elim (absurd rfl h125))
      refine ev_iinc (v := nI (k + 1)) dX11_warm_145 rfl (nI_1 k) (Nat.le_of_ble_eq_true rfl) rfl ?_
      refine ev_goto (tgt := 63) dX11_warm_148 (by decide) ?_
      exact ev_loc (L2 := [some (.ref 21), some (.int (nI b)), some (.int kk), some (.int 0), some (.ref (g + 16 + b)), some (.int (sp_need (sp_max 1 (dr - kk)) wi)), some (.int (sp_cnt (sb_wm tu s dr wi kk 0) (k + 1))), some (.int (nI (k + 1))), some (.int (sp_spine (sp_stiff (s (7 * k + 2)) (s (7 * k + 3)) (s (7 * k + 6))) (s (7 * k + 0)) (s (7 * k + 4)))), some (.int (ev_b false)), some (.int (ev_b false))]) (by rw [sp_cnt_0 (P := (sb_wm tu s dr wi kk 0)) (k := k) (by simp only [sb_wm]; rw [e1, e2]; rfl)]; rfl) (ih (k + 1) _ _ _ (by omega))
    · skip
      refine ev_iload dX11_warm_121 rfl ?_
      refine ev_iload dX11_warm_123 rfl ?_
      refine ev_icmp_eq (tgt := 145) dX11_warm_125 (by decide) (fun h125 => False.elim (absurd h125 (by decide))) (fun h125 => ?_)
      refine ev_iload dX11_warm_128 rfl ?_
      refine ev_iload_n (i := 3) dX11_warm_130 rfl rfl ?_
      refine ev_if_ne (tgt := 138) dX11_warm_131 (by decide) (fun h131 => False.elim (absurd rfl h131)) (fun h131 => ?_)
      refine ev_iconst (v := 1) dX11_warm_134 cni_1 ?_
      refine ev_goto (tgt := 139) dX11_warm_135 (by decide) ?_
      refine ev_icmp_ne (tgt := 145) dX11_warm_139 (by decide) (fun h139 => ?_) (fun h139 => False.elim (absurd h139 (by decide)))
      refine ev_iinc (v := nI (k + 1)) dX11_warm_145 rfl (nI_1 k) (Nat.le_of_ble_eq_true rfl) rfl ?_
      refine ev_goto (tgt := 63) dX11_warm_148 (by decide) ?_
      exact ev_loc (L2 := [some (.ref 21), some (.int (nI b)), some (.int kk), some (.int 0), some (.ref (g + 16 + b)), some (.int (sp_need (sp_max 1 (dr - kk)) wi)), some (.int (sp_cnt (sb_wm tu s dr wi kk 0) (k + 1))), some (.int (nI (k + 1))), some (.int (sp_spine (sp_stiff (s (7 * k + 2)) (s (7 * k + 3)) (s (7 * k + 6))) (s (7 * k + 0)) (s (7 * k + 4)))), some (.int (ev_b false)), some (.int (ev_b true))]) (by rw [sp_cnt_0 (P := (sb_wm tu s dr wi kk 0)) (k := k) (by simp only [sb_wm]; rw [e1, e2]; rfl)]; rfl) (ih (k + 1) _ _ _ (by omega))
    · skip
      refine ev_iload dX11_warm_121 rfl ?_
      refine ev_iload dX11_warm_123 rfl ?_
      refine ev_icmp_eq (tgt := 145) dX11_warm_125 (by decide) (fun h125 => False.elim (absurd h125 (by decide))) (fun h125 => ?_)
      refine ev_iload dX11_warm_128 rfl ?_
      refine ev_iload_n (i := 3) dX11_warm_130 rfl rfl ?_
      refine ev_if_ne (tgt := 138) dX11_warm_131 (by decide) (fun h131 => False.elim (absurd rfl h131)) (fun h131 => ?_)
      refine ev_iconst (v := 1) dX11_warm_134 cni_1 ?_
      refine ev_goto (tgt := 139) dX11_warm_135 (by decide) ?_
      refine ev_icmp_ne (tgt := 145) dX11_warm_139 (by decide) (fun h139 => False.elim (absurd rfl h139)) (fun h139 => ?_)
      refine ev_iinc (v := sp_cnt (sb_wm tu s dr wi kk 0) k + 1) dX11_warm_142 rfl rfl (Nat.le_of_ble_eq_true rfl) rfl ?_
      refine ev_iinc (v := nI (k + 1)) dX11_warm_145 rfl (nI_1 k) (Nat.le_of_ble_eq_true rfl) rfl ?_
      refine ev_goto (tgt := 63) dX11_warm_148 (by decide) ?_
      exact ev_loc (L2 := [some (.ref 21), some (.int (nI b)), some (.int kk), some (.int 0), some (.ref (g + 16 + b)), some (.int (sp_need (sp_max 1 (dr - kk)) wi)), some (.int (sp_cnt (sb_wm tu s dr wi kk 0) (k + 1))), some (.int (nI (k + 1))), some (.int (sp_spine (sp_stiff (s (7 * k + 2)) (s (7 * k + 3)) (s (7 * k + 6))) (s (7 * k + 0)) (s (7 * k + 4)))), some (.int (ev_b true)), some (.int (ev_b false))]) (by rw [sp_cnt_1 (P := (sb_wm tu s dr wi kk 0)) (k := k) (by simp only [sb_wm]; rw [e1, e2]; rfl)]; rfl) (ih (k + 1) _ _ _ (by omega))
    · skip
      refine ev_iload dX11_warm_121 rfl ?_
      refine ev_iload dX11_warm_123 rfl ?_
      refine ev_icmp_eq (tgt := 145) dX11_warm_125 (by decide) (fun h125 => ?_) (fun h125 => False.elim (absurd rfl h125))
      refine ev_iinc (v := nI (k + 1)) dX11_warm_145 rfl (nI_1 k) (Nat.le_of_ble_eq_true rfl) rfl ?_
      refine ev_goto (tgt := 63) dX11_warm_148 (by decide) ?_
      exact ev_loc (L2 := [some (.ref 21), some (.int (nI b)), some (.int kk), some (.int 0), some (.ref (g + 16 + b)), some (.int (sp_need (sp_max 1 (dr - kk)) wi)), some (.int (sp_cnt (sb_wm tu s dr wi kk 0) (k + 1))), some (.int (nI (k + 1))), some (.int (sp_spine (sp_stiff (s (7 * k + 2)) (s (7 * k + 3)) (s (7 * k + 6))) (s (7 * k + 0)) (s (7 * k + 4)))), some (.int (ev_b true)), some (.int (ev_b true))]) (by rw [sp_cnt_0 (P := (sb_wm tu s dr wi kk 0)) (k := k) (by simp only [sb_wm]; rw [e1, e2]; rfl)]; rfl) (ih (k + 1) _ _ _ (by omega))
theorem c12_warm_0 {G : ev_G} {n : Nat} {M : ev_M} {g g' c0 c1 c2 : Nat} {lot : Int32} (h20 : M 21 = .inr (11, [.ref 22, .ref 25, .ref 27, .ref 35, .ref 39, .ref 40, .ref 41, .ref 63, .ref g, .ref g', .int lot])) (hG : M g = .inr (3, [.ref (g + 1), .ref (g + 2), .ref (g + 3), .int (nI c0), .int (nI c1), .int (nI c2)])) {fa : Nat → Option Nat} (hA : M (g + 1) = .inl (2, 12, ev_q fa)) (hfa : ∀ i, i < 12 → fa i = some (g + 4 + i)) {fb : Nat → Option Nat} (hB : M (g + 2) = .inl (3, 3, ev_q fb)) (hfb : ∀ i, i < 3 → fb i = some (g + 16 + i)) (hc : c0 ≤ 12) {b : Nat} (hb : b < c1) (hc1 : c1 ≤ 3) {s : Nat → Int32} (hSS : ∀ i, i < 12 → M (g + 4 + i) = .inr (9, [.int (s (7 * i + 0)), .int (s (7 * i + 1)), .int (s (7 * i + 2)), .int (s (7 * i + 3)), .int (s (7 * i + 4)), .int (s (7 * i + 5)), .int (s (7 * i + 6))])) {dr wi : Int32} (hW : M (g + 16 + b) = .inr (1, [.int dr, .int wi])) {tu : Nat → Int32} (hT : M 25 = .inr (10, [.ref 26])) (hV : M 26 = .inl (0, 4, .inl tu)) {kk : Int32} (hk : sp_in kk 0 20 = true) : ev_Cal G mX11_warm 5 0 0 [.ref 21, .int (nI b), .int kk, .int 0] n M (ev_is (some (.int (sp_cnt (sb_wm tu s dr wi kk 0) c0))) M) := by
  refine ev_Cal_of (L := [some (.ref 21), some (.int (nI b)), some (.int kk), some (.int 0), none, none, none, none, none, none, none]) (by decide +kernel) (Nat.le_of_ble_eq_true rfl) rfl ?_
  refine ev_aload_n (i := 0) dX11_warm_0 rfl rfl ?_
  refine ev_getf dX11_warm_1 flX11_64 (by first | assumption | rfl) (by rfl) ?_
  refine ev_iload_n (i := 1) dX11_warm_4 rfl rfl ?_
  refine ev_c2 kX11_warm_5 (c3_bowAt_in hG hB hfb hb hc1) (ev_rv_of (by first | assumption | rfl) rfl rfl) (by decide) (by decide) (Nat.le_of_ble_eq_true rfl) ?_
  refine ev_astore dX11_warm_8 (Nat.le_of_ble_eq_true rfl) rfl ?_
  refine ev_aload dX11_warm_10 rfl ?_
  refine ev_ifnull dX11_warm_12 ?_
  refine ev_iload_n (i := 2) dX11_warm_15 rfl rfl ?_
  refine ev_iconst (v := 0) dX11_warm_16 cni_0 ?_
  refine ev_bipush (v := 20) dX11_warm_17 cnb_20 ?_
  refine ev_c3 kX11_warm_19 (c12_within) trivial (by decide) (by decide) (Nat.le_of_ble_eq_true rfl) ?_
  refine ev_if_eqb (tgt := 34) dX11_warm_22 (by decide) (fun h22 => False.elim (Bool.false_ne_true (h22.symm.trans (hk)))) (fun h22 => ?_)
  refine ev_iload_n (i := 3) dX11_warm_25 rfl rfl ?_
  refine ev_iconst (v := 0) dX11_warm_26 cni_0 ?_
  refine ev_iconst (v := 1) dX11_warm_27 cni_1 ?_
  refine ev_c3 kX11_warm_28 (c12_within) trivial (by decide) (by decide) (Nat.le_of_ble_eq_true rfl) ?_
  refine ev_if_neb (tgt := 36) dX11_warm_31 (by decide) (fun h31 => ?_) (fun h31 => False.elim (Bool.false_ne_true (h31.symm.trans (by decide))))
  refine ev_iconst (v := 1) dX11_warm_36 cni_1 ?_
  refine ev_aload dX11_warm_37 rfl ?_
  refine ev_getf dX11_warm_39 flX11_130 (by first | assumption | rfl) (by rfl) ?_
  refine ev_iload_n (i := 2) dX11_warm_42 rfl rfl ?_
  refine ev_isub dX11_warm_43 ?_
  refine ev_max2 dX11_warm_44 maX11_224 (by decide) (Nat.le_of_ble_eq_true rfl) ?_
  refine ev_aload dX11_warm_47 rfl ?_
  refine ev_getf dX11_warm_49 flX11_135 (by first | assumption | rfl) (by rfl) ?_
  refine ev_c2 kX11_warm_52 (c12_needOf) trivial (by decide) (by decide) (Nat.le_of_ble_eq_true rfl) ?_
  refine ev_istore dX11_warm_55 (Nat.le_of_ble_eq_true rfl) rfl ?_
  refine ev_iconst (v := 0) dX11_warm_57 cni_0 ?_
  refine ev_istore dX11_warm_58 (Nat.le_of_ble_eq_true rfl) rfl ?_
  refine ev_iconst (v := 0) dX11_warm_60 cni_0 ?_
  refine ev_istore dX11_warm_61 (Nat.le_of_ble_eq_true rfl) rfl ?_
  exact l12_warm_0 h20 hG hA hfa hB hfb hc hb hc1 hSS hW hT hV c0 0 none none none (Nat.zero_add _)
theorem l12_warm_1 {G : ev_G} {n : Nat} {M : ev_M} {g g' c0 c1 c2 : Nat} {lot : Int32} (h20 : M 21 = .inr (11, [.ref 22, .ref 25, .ref 27, .ref 35, .ref 39, .ref 40, .ref 41, .ref 63, .ref g, .ref g', .int lot])) (hG : M g = .inr (3, [.ref (g + 1), .ref (g + 2), .ref (g + 3), .int (nI c0), .int (nI c1), .int (nI c2)])) {fa : Nat → Option Nat} (hA : M (g + 1) = .inl (2, 12, ev_q fa)) (hfa : ∀ i, i < 12 → fa i = some (g + 4 + i)) {fb : Nat → Option Nat} (hB : M (g + 2) = .inl (3, 3, ev_q fb)) (hfb : ∀ i, i < 3 → fb i = some (g + 16 + i)) (hc : c0 ≤ 12) {b : Nat} (hb : b < c1) (hc1 : c1 ≤ 3) {s : Nat → Int32} (hSS : ∀ i, i < 12 → M (g + 4 + i) = .inr (9, [.int (s (7 * i + 0)), .int (s (7 * i + 1)), .int (s (7 * i + 2)), .int (s (7 * i + 3)), .int (s (7 * i + 4)), .int (s (7 * i + 5)), .int (s (7 * i + 6))])) {dr wi : Int32} (hW : M (g + 16 + b) = .inr (1, [.int dr, .int wi])) {tu : Nat → Int32} (hT : M 25 = .inr (10, [.ref 26])) (hV : M 26 = .inl (0, 4, .inl tu)) {kk : Int32} : ∀ (m k : Nat) (z8 z9 z10 : Option Value), k + m = c0 → ev_E G mX11_warm 5 0 0 n M 63 [some (.ref 21), some (.int (nI b)), some (.int kk), some (.int 1), some (.ref (g + 16 + b)), some (.int (sp_need (sp_max 1 (dr - kk)) wi)), some (.int (sp_cnt (sb_wm tu s dr wi kk 1) (k))), some (.int (nI (k))), z8, z9, z10] [] (ev_is (some (.int (sp_cnt (sb_wm tu s dr wi kk 1) c0))) M) := by
  intro m
  induction m with
  | zero =>
    intro k z8 z9 z10 hk
    refine ev_iload dX11_warm_63 rfl ?_
    refine ev_aload_n (i := 0) dX11_warm_65 rfl rfl ?_
    refine ev_getf dX11_warm_66 flX11_64 (by first | assumption | rfl) (by rfl) ?_
    refine ev_getf dX11_warm_69 flX11_227 (by first | assumption | rfl) (by rfl) ?_
    refine ev_icmp_ge (tgt := 151) dX11_warm_72 (by decide) (fun h72 => ?_) (fun h72 => False.elim (nI_nlt (a := k) (b := c0) (by omega) (by omega) h72))
    refine ev_iload dX11_warm_151 rfl ?_
    exact ev_reti dX11_warm_153 rfl rfl (⟨by rw [show k = c0 by omega], rfl⟩)
  | succ m ih =>
    intro k z8 z9 z10 hk
    refine ev_iload dX11_warm_63 rfl ?_
    refine ev_aload_n (i := 0) dX11_warm_65 rfl rfl ?_
    refine ev_getf dX11_warm_66 flX11_64 (by first | assumption | rfl) (by rfl) ?_
    refine ev_getf dX11_warm_69 flX11_227 (by first | assumption | rfl) (by rfl) ?_
    refine ev_icmp_ge (tgt := 151) dX11_warm_72 (by decide) (fun h72 => False.elim (nI_ge (a := k) (b := c0) (by omega) (by omega) h72)) (fun h72 => ?_)
    refine ev_aload_n (i := 0) dX11_warm_75 rfl rfl ?_
    refine ev_getf dX11_warm_76 flX11_64 (by first | assumption | rfl) (by rfl) ?_
    refine ev_getf dX11_warm_79 flX11_230 (by first | assumption | rfl) (by rfl) ?_
    refine ev_iload dX11_warm_82 rfl ?_
    refine ev_aald (j := k) dX11_warm_84 (fun _ => rfl) (by first | assumption | rfl) (ev_ix_nI (by omega)) (by omega) (hfa k (by omega)) ?_
    refine ev_c1 kX11_warm_85 (c9_spine (hSS k (by omega))) (ev_rv_of (by exact hSS k (by omega)) rfl rfl) (by decide) (by decide) (Nat.le_of_ble_eq_true rfl) ?_
    refine ev_istore dX11_warm_88 (Nat.le_of_ble_eq_true rfl) rfl ?_
    refine ev_aload_n (i := 0) dX11_warm_90 rfl rfl ?_
    refine ev_getf dX11_warm_91 flX11_19 (by first | assumption | rfl) (by rfl) ?_
    refine ev_iload dX11_warm_94 rfl ?_
    refine ev_aload dX11_warm_96 rfl ?_
    refine ev_c1 kX11_warm_98 (c1_need hW) (ev_rv_of (by first | assumption | rfl) rfl rfl) (by decide) (by decide) (Nat.le_of_ble_eq_true rfl) ?_
    refine ev_isub dX11_warm_101 ?_
    refine ev_c2 kX11_warm_102 (c11_isClean hT hV) (ev_rv_of (by first | assumption | rfl) rfl rfl) (by decide) (by decide) (Nat.le_of_ble_eq_true rfl) ?_
    refine ev_istore dX11_warm_105 (Nat.le_of_ble_eq_true rfl) rfl ?_
    refine ev_aload_n (i := 0) dX11_warm_107 rfl rfl ?_
    refine ev_getf dX11_warm_108 flX11_19 (by first | assumption | rfl) (by rfl) ?_
    refine ev_iload dX11_warm_111 rfl ?_
    refine ev_iload dX11_warm_113 rfl ?_
    refine ev_isub dX11_warm_115 ?_
    refine ev_c2 kX11_warm_116 (c11_isClean hT hV) (ev_rv_of (by first | assumption | rfl) rfl rfl) (by decide) (by decide) (Nat.le_of_ble_eq_true rfl) ?_
    refine ev_istore dX11_warm_119 (Nat.le_of_ble_eq_true rfl) rfl ?_
    cases e1 : sp_clean (tu 0) (sp_spine (sp_stiff (s (7 * k + 2)) (s (7 * k + 3)) (s (7 * k + 6))) (s (7 * k + 0)) (s (7 * k + 4)) - sp_need dr wi) <;> cases e2 : sp_clean (tu 0) (sp_spine (sp_stiff (s (7 * k + 2)) (s (7 * k + 3)) (s (7 * k + 6))) (s (7 * k + 0)) (s (7 * k + 4)) - sp_need (sp_max 1 (dr - kk)) wi)
    · skip
      refine ev_iload dX11_warm_121 rfl ?_
      refine ev_iload dX11_warm_123 rfl ?_
      refine ev_icmp_eq (tgt := 145) dX11_warm_125 (by decide) (fun h125 => ?_) (fun h125 => False.elim (absurd rfl h125))
      refine ev_iinc (v := nI (k + 1)) dX11_warm_145 rfl (nI_1 k) (Nat.le_of_ble_eq_true rfl) rfl ?_
      refine ev_goto (tgt := 63) dX11_warm_148 (by decide) ?_
      exact ev_loc (L2 := [some (.ref 21), some (.int (nI b)), some (.int kk), some (.int 1), some (.ref (g + 16 + b)), some (.int (sp_need (sp_max 1 (dr - kk)) wi)), some (.int (sp_cnt (sb_wm tu s dr wi kk 1) (k + 1))), some (.int (nI (k + 1))), some (.int (sp_spine (sp_stiff (s (7 * k + 2)) (s (7 * k + 3)) (s (7 * k + 6))) (s (7 * k + 0)) (s (7 * k + 4)))), some (.int (ev_b false)), some (.int (ev_b false))]) (by rw [sp_cnt_0 (P := (sb_wm tu s dr wi kk 1)) (k := k) (by simp only [sb_wm]; rw [e1, e2]; rfl)]; rfl) (ih (k + 1) _ _ _ (by omega))
    · skip
      refine ev_iload dX11_warm_121 rfl ?_
      refine ev_iload dX11_warm_123 rfl ?_
      refine ev_icmp_eq (tgt := 145) dX11_warm_125 (by decide) (fun h125 => False.elim (absurd h125 (by decide))) (fun h125 => ?_)
      refine ev_iload dX11_warm_128 rfl ?_
      refine ev_iload_n (i := 3) dX11_warm_130 rfl rfl ?_
      refine ev_if_ne (tgt := 138) dX11_warm_131 (by decide) (fun h131 => ?_) (fun h131 => False.elim (absurd h131 (by decide)))
      refine ev_iconst (v := 0) dX11_warm_138 cni_0 ?_
      refine ev_icmp_ne (tgt := 145) dX11_warm_139 (by decide) (fun h139 => False.elim (absurd rfl h139)) (fun h139 => ?_)
      refine ev_iinc (v := sp_cnt (sb_wm tu s dr wi kk 1) k + 1) dX11_warm_142 rfl rfl (Nat.le_of_ble_eq_true rfl) rfl ?_
      refine ev_iinc (v := nI (k + 1)) dX11_warm_145 rfl (nI_1 k) (Nat.le_of_ble_eq_true rfl) rfl ?_
      refine ev_goto (tgt := 63) dX11_warm_148 (by decide) ?_
      exact ev_loc (L2 := [some (.ref 21), some (.int (nI b)), some (.int kk), some (.int 1), some (.ref (g + 16 + b)), some (.int (sp_need (sp_max 1 (dr - kk)) wi)), some (.int (sp_cnt (sb_wm tu s dr wi kk 1) (k + 1))), some (.int (nI (k + 1))), some (.int (sp_spine (sp_stiff (s (7 * k + 2)) (s (7 * k + 3)) (s (7 * k + 6))) (s (7 * k + 0)) (s (7 * k + 4)))), some (.int (ev_b false)), some (.int (ev_b true))]) (by rw [sp_cnt_1 (P := (sb_wm tu s dr wi kk 1)) (k := k) (by simp only [sb_wm]; rw [e1, e2]; rfl)]; rfl) (ih (k + 1) _ _ _ (by omega))
    · skip
      refine ev_iload dX11_warm_121 rfl ?_
      refine ev_iload dX11_warm_123 rfl ?_
      refine ev_icmp_eq (tgt := 145) dX11_warm_125 (by decide) (fun h125 => False.elim (absurd h125 (by decide))) (fun h125 => ?_)
      refine ev_iload dX11_warm_128 rfl ?_
      refine ev_iload_n (i := 3) dX11_warm_130 rfl rfl ?_
      refine ev_if_ne (tgt := 138) dX11_warm_131 (by decide) (fun h131 => ?_) (fun h131 => False.elim (absurd h131 (by decide)))
      refine ev_iconst (v := 0) dX11_warm_138 cni_0 ?_
      refine ev_icmp_ne (tgt := 145) dX11_warm_139 (by decide) (fun h139 => ?_) (fun h139 => False.elim (absurd h139 (by decide)))
      refine ev_iinc (v := nI (k + 1)) dX11_warm_145 rfl (nI_1 k) (Nat.le_of_ble_eq_true rfl) rfl ?_
      refine ev_goto (tgt := 63) dX11_warm_148 (by decide) ?_
      exact ev_loc (L2 := [some (.ref 21), some (.int (nI b)), some (.int kk), some (.int 1), some (.ref (g + 16 + b)), some (.int (sp_need (sp_max 1 (dr - kk)) wi)), some (.int (sp_cnt (sb_wm tu s dr wi kk 1) (k + 1))), some (.int (nI (k + 1))), some (.int (sp_spine (sp_stiff (s (7 * k + 2)) (s (7 * k + 3)) (s (7 * k + 6))) (s (7 * k + 0)) (s (7 * k + 4)))), some (.int (ev_b true)), some (.int (ev_b false))]) (by rw [sp_cnt_0 (P := (sb_wm tu s dr wi kk 1)) (k := k) (by simp only [sb_wm]; rw [e1, e2]; rfl)]; rfl) (ih (k + 1) _ _ _ (by omega))
    · skip
      refine ev_iload dX11_warm_121 rfl ?_
      refine ev_iload dX11_warm_123 rfl ?_
      refine ev_icmp_eq (tgt := 145) dX11_warm_125 (by decide) (fun h125 => ?_) (fun h125 => False.elim (absurd rfl h125))
      refine ev_iinc (v := nI (k + 1)) dX11_warm_145 rfl (nI_1 k) (Nat.le_of_ble_eq_true rfl) rfl ?_
      refine ev_goto (tgt := 63) dX11_warm_148 (by decide) ?_
      exact ev_loc (L2 := [some (.ref 21), some (.int (nI b)), some (.int kk), some (.int 1), some (.ref (g + 16 + b)), some (.int (sp_need (sp_max 1 (dr - kk)) wi)), some (.int (sp_cnt (sb_wm tu s dr wi kk 1) (k + 1))), some (.int (nI (k + 1))), some (.int (sp_spine (sp_stiff (s (7 * k + 2)) (s (7 * k + 3)) (s (7 * k + 6))) (s (7 * k + 0)) (s (7 * k + 4)))), some (.int (ev_b true)), some (.int (ev_b true))]) (by rw [sp_cnt_0 (P := (sb_wm tu s dr wi kk 1)) (k := k) (by simp only [sb_wm]; rw [e1, e2]; rfl)]; rfl) (ih (k + 1) _ _ _ (by omega))
theorem c12_warm_1 {G : ev_G} {n : Nat} {M : ev_M} {g g' c0 c1 c2 : Nat} {lot : Int32} (h20 : M 21 = .inr (11, [.ref 22, .ref 25, .ref 27, .ref 35, .ref 39, .ref 40, .ref 41, .ref 63, .ref g, .ref g', .int lot])) (hG : M g = .inr (3, [.ref (g + 1), .ref (g + 2), .ref (g + 3), .int (nI c0), .int (nI c1), .int (nI c2)])) {fa : Nat → Option Nat} (hA : M (g + 1) = .inl (2, 12, ev_q fa)) (hfa : ∀ i, i < 12 → fa i = some (g + 4 + i)) {fb : Nat → Option Nat} (hB : M (g + 2) = .inl (3, 3, ev_q fb)) (hfb : ∀ i, i < 3 → fb i = some (g + 16 + i)) (hc : c0 ≤ 12) {b : Nat} (hb : b < c1) (hc1 : c1 ≤ 3) {s : Nat → Int32} (hSS : ∀ i, i < 12 → M (g + 4 + i) = .inr (9, [.int (s (7 * i + 0)), .int (s (7 * i + 1)), .int (s (7 * i + 2)), .int (s (7 * i + 3)), .int (s (7 * i + 4)), .int (s (7 * i + 5)), .int (s (7 * i + 6))])) {dr wi : Int32} (hW : M (g + 16 + b) = .inr (1, [.int dr, .int wi])) {tu : Nat → Int32} (hT : M 25 = .inr (10, [.ref 26])) (hV : M 26 = .inl (0, 4, .inl tu)) {kk : Int32} (hk : sp_in kk 0 20 = true) : ev_Cal G mX11_warm 5 0 0 [.ref 21, .int (nI b), .int kk, .int 1] n M (ev_is (some (.int (sp_cnt (sb_wm tu s dr wi kk 1) c0))) M) := by
  refine ev_Cal_of (L := [some (.ref 21), some (.int (nI b)), some (.int kk), some (.int 1), none, none, none, none, none, none, none]) (by decide +kernel) (Nat.le_of_ble_eq_true rfl) rfl ?_
  refine ev_aload_n (i := 0) dX11_warm_0 rfl rfl ?_
  refine ev_getf dX11_warm_1 flX11_64 (by first | assumption | rfl) (by rfl) ?_
  refine ev_iload_n (i := 1) dX11_warm_4 rfl rfl ?_
  refine ev_c2 kX11_warm_5 (c3_bowAt_in hG hB hfb hb hc1) (ev_rv_of (by first | assumption | rfl) rfl rfl) (by decide) (by decide) (Nat.le_of_ble_eq_true rfl) ?_
  refine ev_astore dX11_warm_8 (Nat.le_of_ble_eq_true rfl) rfl ?_
  refine ev_aload dX11_warm_10 rfl ?_
  refine ev_ifnull dX11_warm_12 ?_
  refine ev_iload_n (i := 2) dX11_warm_15 rfl rfl ?_
  refine ev_iconst (v := 0) dX11_warm_16 cni_0 ?_
  refine ev_bipush (v := 20) dX11_warm_17 cnb_20 ?_
  refine ev_c3 kX11_warm_19 (c12_within) trivial (by decide) (by decide) (Nat.le_of_ble_eq_true rfl) ?_
  refine ev_if_eqb (tgt := 34) dX11_warm_22 (by decide) (fun h22 => False.elim (Bool.false_ne_true (h22.symm.trans (hk)))) (fun h22 => ?_)
  refine ev_iload_n (i := 3) dX11_warm_25 rfl rfl ?_
  refine ev_iconst (v := 0) dX11_warm_26 cni_0 ?_
  refine ev_iconst (v := 1) dX11_warm_27 cni_1 ?_
  refine ev_c3 kX11_warm_28 (c12_within) trivial (by decide) (by decide) (Nat.le_of_ble_eq_true rfl) ?_
  refine ev_if_neb (tgt := 36) dX11_warm_31 (by decide) (fun h31 => ?_) (fun h31 => False.elim (Bool.false_ne_true (h31.symm.trans (by decide))))
  refine ev_iconst (v := 1) dX11_warm_36 cni_1 ?_
  refine ev_aload dX11_warm_37 rfl ?_
  refine ev_getf dX11_warm_39 flX11_130 (by first | assumption | rfl) (by rfl) ?_
  refine ev_iload_n (i := 2) dX11_warm_42 rfl rfl ?_
  refine ev_isub dX11_warm_43 ?_
  refine ev_max2 dX11_warm_44 maX11_224 (by decide) (Nat.le_of_ble_eq_true rfl) ?_
  refine ev_aload dX11_warm_47 rfl ?_
  refine ev_getf dX11_warm_49 flX11_135 (by first | assumption | rfl) (by rfl) ?_
  refine ev_c2 kX11_warm_52 (c12_needOf) trivial (by decide) (by decide) (Nat.le_of_ble_eq_true rfl) ?_
  refine ev_istore dX11_warm_55 (Nat.le_of_ble_eq_true rfl) rfl ?_
  refine ev_iconst (v := 0) dX11_warm_57 cni_0 ?_
  refine ev_istore dX11_warm_58 (Nat.le_of_ble_eq_true rfl) rfl ?_
  refine ev_iconst (v := 0) dX11_warm_60 cni_0 ?_
  refine ev_istore dX11_warm_61 (Nat.le_of_ble_eq_true rfl) rfl ?_
  exact l12_warm_1 h20 hG hA hfa hB hfb hc hb hc1 hSS hW hT hV c0 0 none none none (Nat.zero_add _)
theorem c12_warm_b {G : ev_G} {n : Nat} {M : ev_M} {g g' c0 c1 c2 : Nat} {lot : Int32} (h20 : M 21 = .inr (11, [.ref 22, .ref 25, .ref 27, .ref 35, .ref 39, .ref 40, .ref 41, .ref 63, .ref g, .ref g', .int lot])) (hG : M g = .inr (3, [.ref (g + 1), .ref (g + 2), .ref (g + 3), .int (nI c0), .int (nI c1), .int (nI c2)])) {xb kk w : Int32} (hxb : xb < 0 ∨ nI c1 ≤ xb)  : ev_Cal G mX11_warm 5 0 0 [.ref 21, .int xb, .int kk, .int w] n M (ev_is (some (.int (-1))) M) := by
  refine ev_Cal_of (L := [some (.ref 21), some (.int xb), some (.int kk), some (.int w), none, none, none, none, none, none, none]) (by decide +kernel) (Nat.le_of_ble_eq_true rfl) rfl ?_
  refine ev_aload_n (i := 0) dX11_warm_0 rfl rfl ?_
  refine ev_getf dX11_warm_1 flX11_64 (by first | assumption | rfl) (by rfl) ?_
  refine ev_iload_n (i := 1) dX11_warm_4 rfl rfl ?_
  refine ev_c2 kX11_warm_5 (c3_bowAt_out hG hxb) (ev_rv_of (by first | assumption | rfl) rfl rfl) (by decide) (by decide) (Nat.le_of_ble_eq_true rfl) ?_
  refine ev_astoreN dX11_warm_8 (Nat.le_of_ble_eq_true rfl) rfl ?_
  refine ev_aloadN dX11_warm_10 rfl ?_
  refine ev_ifnullN (tgt := 34) dX11_warm_12 (by decide) ?_
  refine ev_iconst (v := (-1)) dX11_warm_34 cni_m1 ?_
  exact ev_reti dX11_warm_35 rfl rfl (⟨by first | rfl | simp [*], rfl⟩)
theorem c12_warm_no {G : ev_G} {n : Nat} {M : ev_M} {g g' c0 c1 c2 : Nat} {lot : Int32} (h20 : M 21 = .inr (11, [.ref 22, .ref 25, .ref 27, .ref 35, .ref 39, .ref 40, .ref 41, .ref 63, .ref g, .ref g', .int lot])) (hG : M g = .inr (3, [.ref (g + 1), .ref (g + 2), .ref (g + 3), .int (nI c0), .int (nI c1), .int (nI c2)])) {fb : Nat → Option Nat} (hB : M (g + 2) = .inl (3, 3, ev_q fb)) (hfb : ∀ i, i < 3 → fb i = some (g + 16 + i)) {b : Nat} (hb : b < c1) (hc1 : c1 ≤ 3) {kk w : Int32} (hn : sp_in kk 0 20 = false ∨ sp_in w 0 1 = false) : ev_Cal G mX11_warm 5 0 0 [.ref 21, .int (nI b), .int kk, .int w] n M (ev_is (some (.int (-1))) M) := by
  refine ev_Cal_of (L := [some (.ref 21), some (.int (nI b)), some (.int kk), some (.int w), none, none, none, none, none, none, none]) (by decide +kernel) (Nat.le_of_ble_eq_true rfl) rfl ?_
  refine ev_aload_n (i := 0) dX11_warm_0 rfl rfl ?_
  refine ev_getf dX11_warm_1 flX11_64 (by first | assumption | rfl) (by rfl) ?_
  refine ev_iload_n (i := 1) dX11_warm_4 rfl rfl ?_
  refine ev_c2 kX11_warm_5 (c3_bowAt_in hG hB hfb hb hc1) (ev_rv_of (by first | assumption | rfl) rfl rfl) (by decide) (by decide) (Nat.le_of_ble_eq_true rfl) ?_
  refine ev_astore dX11_warm_8 (Nat.le_of_ble_eq_true rfl) rfl ?_
  refine ev_aload dX11_warm_10 rfl ?_
  refine ev_ifnull dX11_warm_12 ?_
  refine ev_iload_n (i := 2) dX11_warm_15 rfl rfl ?_
  refine ev_iconst (v := 0) dX11_warm_16 cni_0 ?_
  refine ev_bipush (v := 20) dX11_warm_17 cnb_20 ?_
  refine ev_c3 kX11_warm_19 (c12_within) trivial (by decide) (by decide) (Nat.le_of_ble_eq_true rfl) ?_
  refine ev_if_eqb (tgt := 34) dX11_warm_22 (by decide) (fun h22 => ?_) (fun h22 => ?_)
  · skip
    refine ev_iconst (v := (-1)) dX11_warm_34 cni_m1 ?_
    exact ev_reti dX11_warm_35 rfl rfl (⟨by first | rfl | simp [*], rfl⟩)
  · skip
    refine ev_iload_n (i := 3) dX11_warm_25 rfl rfl ?_
    refine ev_iconst (v := 0) dX11_warm_26 cni_0 ?_
    refine ev_iconst (v := 1) dX11_warm_27 cni_1 ?_
    refine ev_c3 kX11_warm_28 (c12_within) trivial (by decide) (by decide) (Nat.le_of_ble_eq_true rfl) ?_
    refine ev_if_neb (tgt := 36) dX11_warm_31 (by decide) (fun h31 => False.elim (hn.elim (fun q => Bool.false_ne_true (q.symm.trans (h22))) (fun q => Bool.false_ne_true (q.symm.trans (h31))))) (fun h31 => ?_)
    refine ev_iconst (v := (-1)) dX11_warm_34 cni_m1 ?_
    exact ev_reti dX11_warm_35 rfl rfl (⟨by first | rfl | simp [*], rfl⟩)
theorem c12_band_b {G : ev_G} {n : Nat} {M : ev_M} {g g' c0 c1 c2 : Nat} {lot : Int32} (h20 : M 21 = .inr (11, [.ref 22, .ref 25, .ref 27, .ref 35, .ref 39, .ref 40, .ref 41, .ref 63, .ref g, .ref g', .int lot])) (hG : M g = .inr (3, [.ref (g + 1), .ref (g + 2), .ref (g + 3), .int (nI c0), .int (nI c1), .int (nI c2)])) {xb len tip w : Int32} (hxb : xb < 0 ∨ nI c1 ≤ xb)  : ev_Cal G mX11_band 3 0 0 [.ref 21, .int xb, .int len, .int tip, .int w] n M (ev_is (some (.int (-1))) M) := by
  refine ev_Cal_of (L := [some (.ref 21), some (.int xb), some (.int len), some (.int tip), some (.int w), none, none, none]) (by decide +kernel) (Nat.le_of_ble_eq_true rfl) rfl ?_
  refine ev_aload_n (i := 0) dX11_band_0 rfl rfl ?_
  refine ev_getf dX11_band_1 flX11_64 (by first | assumption | rfl) (by rfl) ?_
  refine ev_iload_n (i := 1) dX11_band_4 rfl rfl ?_
  refine ev_c2 kX11_band_5 (c3_bowAt_out hG hxb) (ev_rv_of (by first | assumption | rfl) rfl rfl) (by decide) (by decide) (Nat.le_of_ble_eq_true rfl) ?_
  refine ev_astoreN dX11_band_8 (Nat.le_of_ble_eq_true rfl) rfl ?_
  refine ev_aloadN dX11_band_10 rfl ?_
  refine ev_ifnullN (tgt := 27) dX11_band_12 (by decide) ?_
  refine ev_iconst (v := (-1)) dX11_band_27 cni_m1 ?_
  exact ev_reti dX11_band_28 rfl rfl (⟨by first | rfl | simp [*], rfl⟩)
theorem c12_band_no {G : ev_G} {n : Nat} {M : ev_M} {g g' c0 c1 c2 : Nat} {lot : Int32} (h20 : M 21 = .inr (11, [.ref 22, .ref 25, .ref 27, .ref 35, .ref 39, .ref 40, .ref 41, .ref 63, .ref g, .ref g', .int lot])) (hG : M g = .inr (3, [.ref (g + 1), .ref (g + 2), .ref (g + 3), .int (nI c0), .int (nI c1), .int (nI c2)])) {fb : Nat → Option Nat} (hB : M (g + 2) = .inl (3, 3, ev_q fb)) (hfb : ∀ i, i < 3 → fb i = some (g + 16 + i)) {b : Nat} (hb : b < c1) (hc1 : c1 ≤ 3) {len tip w : Int32} (hn : sp_in len 80 130 = false ∨ sp_in tip 0 200 = false ∨ sp_in w 0 1 = false) : ev_Cal G mX11_band 3 0 0 [.ref 21, .int (nI b), .int len, .int tip, .int w] n M (ev_is (some (.int (-1))) M) := by
  refine ev_Cal_of (L := [some (.ref 21), some (.int (nI b)), some (.int len), some (.int tip), some (.int w), none, none, none]) (by decide +kernel) (Nat.le_of_ble_eq_true rfl) rfl ?_
  refine ev_aload_n (i := 0) dX11_band_0 rfl rfl ?_
  refine ev_getf dX11_band_1 flX11_64 (by first | assumption | rfl) (by rfl) ?_
  refine ev_iload_n (i := 1) dX11_band_4 rfl rfl ?_
  refine ev_c2 kX11_band_5 (c3_bowAt_in hG hB hfb hb hc1) (ev_rv_of (by first | assumption | rfl) rfl rfl) (by decide) (by decide) (Nat.le_of_ble_eq_true rfl) ?_
  refine ev_astore dX11_band_8 (Nat.le_of_ble_eq_true rfl) rfl ?_
  refine ev_aload dX11_band_10 rfl ?_
  refine ev_ifnull dX11_band_12 ?_
  refine ev_iload_n (i := 2) dX11_band_15 rfl rfl ?_
  refine ev_bipush (v := 80) dX11_band_16 cnb_80 ?_
  refine ev_sipush (v := 130) dX11_band_18 cns_130 ?_
  refine ev_c3 kX11_band_21 (c12_within) trivial (by decide) (by decide) (Nat.le_of_ble_eq_true rfl) ?_
  refine ev_if_neb (tgt := 29) dX11_band_24 (by decide) (fun h24 => ?_) (fun h24 => ?_)
  · skip
    refine ev_iload_n (i := 3) dX11_band_29 rfl rfl ?_
    refine ev_iconst (v := 0) dX11_band_30 cni_0 ?_
    refine ev_sipush (v := 200) dX11_band_31 cns_200 ?_
    refine ev_c3 kX11_band_34 (c12_within) trivial (by decide) (by decide) (Nat.le_of_ble_eq_true rfl) ?_
    refine ev_if_eqb (tgt := 50) dX11_band_37 (by decide) (fun h37 => ?_) (fun h37 => ?_)
    · skip
      refine ev_iconst (v := (-1)) dX11_band_50 cni_m1 ?_
      exact ev_reti dX11_band_51 rfl rfl (⟨by first | rfl | simp [*], rfl⟩)
    · skip
      refine ev_iload dX11_band_40 rfl ?_
      refine ev_iconst (v := 0) dX11_band_42 cni_0 ?_
      refine ev_iconst (v := 1) dX11_band_43 cni_1 ?_
      refine ev_c3 kX11_band_44 (c12_within) trivial (by decide) (by decide) (Nat.le_of_ble_eq_true rfl) ?_
      refine ev_if_neb (tgt := 52) dX11_band_47 (by decide) (fun h47 => False.elim (hn.elim (fun q => Bool.false_ne_true (q.symm.trans (h24))) (fun q => q.elim (fun q => Bool.false_ne_true (q.symm.trans (h37))) (fun q => Bool.false_ne_true (q.symm.trans (h47)))))) (fun h47 => ?_)
      refine ev_iconst (v := (-1)) dX11_band_50 cni_m1 ?_
      exact ev_reti dX11_band_51 rfl rfl (⟨by first | rfl | simp [*], rfl⟩)
  · skip
    refine ev_iconst (v := (-1)) dX11_band_27 cni_m1 ?_
    exact ev_reti dX11_band_28 rfl rfl (⟨by first | rfl | simp [*], rfl⟩)
theorem c12_wreck_i {G : ev_G} {n : Nat} {M : ev_M} {g g' c0 c1 c2 : Nat} {lot : Int32} (h20 : M 21 = .inr (11, [.ref 22, .ref 25, .ref 27, .ref 35, .ref 39, .ref 40, .ref 41, .ref 63, .ref g, .ref g', .int lot])) (hG : M g = .inr (3, [.ref (g + 1), .ref (g + 2), .ref (g + 3), .int (nI c0), .int (nI c1), .int (nI c2)])) {x : Int32} (hx : x < 0 ∨ nI c0 ≤ x) {wide w : Int32} : ev_Cal G mX11_wreck 5 0 0 [.ref 21, .int x, .int wide, .int w] n M (ev_is (some (.int (-1))) M) := by
  refine ev_Cal_of (L := [some (.ref 21), some (.int x), some (.int wide), some (.int w), none, none, none]) (by decide +kernel) (Nat.le_of_ble_eq_true rfl) rfl ?_
  refine ev_aload_n (i := 0) dX11_wreck_0 rfl rfl ?_
  refine ev_getf dX11_wreck_1 flX11_64 (by first | assumption | rfl) (by rfl) ?_
  refine ev_iload_n (i := 1) dX11_wreck_4 rfl rfl ?_
  refine ev_c2 kX11_wreck_5 (c3_stickAt_out hG hx) (ev_rv_of (by first | assumption | rfl) rfl rfl) (by decide) (by decide) (Nat.le_of_ble_eq_true rfl) ?_
  refine ev_astoreN dX11_wreck_8 (Nat.le_of_ble_eq_true rfl) rfl ?_
  refine ev_aloadN dX11_wreck_10 rfl ?_
  refine ev_ifnullN (tgt := 34) dX11_wreck_12 (by decide) ?_
  refine ev_iconst (v := (-1)) dX11_wreck_34 cni_m1 ?_
  exact ev_reti dX11_wreck_35 rfl rfl (⟨by first | rfl | simp [*], rfl⟩)
theorem c12_wreck_no {G : ev_G} {n : Nat} {M : ev_M} {g g' c0 c1 c2 : Nat} {lot : Int32} (h20 : M 21 = .inr (11, [.ref 22, .ref 25, .ref 27, .ref 35, .ref 39, .ref 40, .ref 41, .ref 63, .ref g, .ref g', .int lot])) (hG : M g = .inr (3, [.ref (g + 1), .ref (g + 2), .ref (g + 3), .int (nI c0), .int (nI c1), .int (nI c2)])) {fa : Nat → Option Nat} (hA : M (g + 1) = .inl (2, 12, ev_q fa)) (hfa : ∀ i, i < 12 → fa i = some (g + 4 + i)) {j : Nat} (hj : j < c0) (hc : c0 ≤ 12) {wide w : Int32} (hn : sp_in wide 0 9 = false ∨ sp_in w 0 1 = false) : ev_Cal G mX11_wreck 5 0 0 [.ref 21, .int (nI j), .int wide, .int w] n M (ev_is (some (.int (-1))) M) := by
  refine ev_Cal_of (L := [some (.ref 21), some (.int (nI j)), some (.int wide), some (.int w), none, none, none]) (by decide +kernel) (Nat.le_of_ble_eq_true rfl) rfl ?_
  refine ev_aload_n (i := 0) dX11_wreck_0 rfl rfl ?_
  refine ev_getf dX11_wreck_1 flX11_64 (by first | assumption | rfl) (by rfl) ?_
  refine ev_iload_n (i := 1) dX11_wreck_4 rfl rfl ?_
  refine ev_c2 kX11_wreck_5 (c3_stickAt_in hG hA hfa hj hc) (ev_rv_of (by first | assumption | rfl) rfl rfl) (by decide) (by decide) (Nat.le_of_ble_eq_true rfl) ?_
  refine ev_astore dX11_wreck_8 (Nat.le_of_ble_eq_true rfl) rfl ?_
  refine ev_aload dX11_wreck_10 rfl ?_
  refine ev_ifnull dX11_wreck_12 ?_
  refine ev_iload_n (i := 2) dX11_wreck_15 rfl rfl ?_
  refine ev_iconst (v := 0) dX11_wreck_16 cni_0 ?_
  refine ev_bipush (v := 9) dX11_wreck_17 cnb_9 ?_
  refine ev_c3 kX11_wreck_19 (c12_within) trivial (by decide) (by decide) (Nat.le_of_ble_eq_true rfl) ?_
  refine ev_if_eqb (tgt := 34) dX11_wreck_22 (by decide) (fun h22 => ?_) (fun h22 => ?_)
  · skip
    refine ev_iconst (v := (-1)) dX11_wreck_34 cni_m1 ?_
    exact ev_reti dX11_wreck_35 rfl rfl (⟨by first | rfl | simp [*], rfl⟩)
  · skip
    refine ev_iload_n (i := 3) dX11_wreck_25 rfl rfl ?_
    refine ev_iconst (v := 0) dX11_wreck_26 cni_0 ?_
    refine ev_iconst (v := 1) dX11_wreck_27 cni_1 ?_
    refine ev_c3 kX11_wreck_28 (c12_within) trivial (by decide) (by decide) (Nat.le_of_ble_eq_true rfl) ?_
    refine ev_if_neb (tgt := 36) dX11_wreck_31 (by decide) (fun h31 => False.elim (hn.elim (fun q => Bool.false_ne_true (q.symm.trans (h22))) (fun q => Bool.false_ne_true (q.symm.trans (h31))))) (fun h31 => ?_)
    refine ev_iconst (v := (-1)) dX11_wreck_34 cni_m1 ?_
    exact ev_reti dX11_wreck_35 rfl rfl (⟨by first | rfl | simp [*], rfl⟩)
theorem c12_says_no {G : ev_G} {n : Nat} {M : ev_M} {x fe w : Int32} (hn : sp_in x (-999) 999 = false ∨ sp_in fe 0 9 = false ∨ sp_in w 0 1 = false) : ev_Cal G mX11_says 5 0 0 [.ref 21, .int x, .int fe, .int w] n M (ev_is (some (.int (-1000000))) M) := by
  refine ev_Cal_of (L := [some (.ref 21), some (.int x), some (.int fe), some (.int w), none, none]) (by decide +kernel) (Nat.le_of_ble_eq_true rfl) rfl ?_
  refine ev_iload_n (i := 1) dX11_says_0 rfl rfl ?_
  refine ev_sipush (v := (-999)) dX11_says_1 cns_m999 ?_
  refine ev_sipush (v := 999) dX11_says_4 cns_999 ?_
  refine ev_c3 kX11_says_7 (c12_within) trivial (by decide) (by decide) (Nat.le_of_ble_eq_true rfl) ?_
  refine ev_if_eqb (tgt := 32) dX11_says_10 (by decide) (fun h10 => ?_) (fun h10 => ?_)
  · skip
    refine ev_ldc dX11_says_32 coX11_145 ?_
    exact ev_reti dX11_says_34 rfl rfl (⟨by first | rfl | simp [*], rfl⟩)
  · skip
    refine ev_iload_n (i := 2) dX11_says_13 rfl rfl ?_
    refine ev_iconst (v := 0) dX11_says_14 cni_0 ?_
    refine ev_bipush (v := 9) dX11_says_15 cnb_9 ?_
    refine ev_c3 kX11_says_17 (c12_within) trivial (by decide) (by decide) (Nat.le_of_ble_eq_true rfl) ?_
    refine ev_if_eqb (tgt := 32) dX11_says_20 (by decide) (fun h20 => ?_) (fun h20 => ?_)
    · skip
      refine ev_ldc dX11_says_32 coX11_145 ?_
      exact ev_reti dX11_says_34 rfl rfl (⟨by first | rfl | simp [*], rfl⟩)
    · skip
      refine ev_iload_n (i := 3) dX11_says_23 rfl rfl ?_
      refine ev_iconst (v := 0) dX11_says_24 cni_0 ?_
      refine ev_iconst (v := 1) dX11_says_25 cni_1 ?_
      refine ev_c3 kX11_says_26 (c12_within) trivial (by decide) (by decide) (Nat.le_of_ble_eq_true rfl) ?_
      refine ev_if_neb (tgt := 35) dX11_says_29 (by decide) (fun h29 => False.elim (hn.elim (fun q => Bool.false_ne_true (q.symm.trans (h10))) (fun q => q.elim (fun q => Bool.false_ne_true (q.symm.trans (h20))) (fun q => Bool.false_ne_true (q.symm.trans (h29)))))) (fun h29 => ?_)
      refine ev_ldc dX11_says_32 coX11_145 ?_
      exact ev_reti dX11_says_34 rfl rfl (⟨by first | rfl | simp [*], rfl⟩)
theorem c5_ofFlight {G : ev_G} {n : Nat} {M : ev_M} {tr : Int64} (h40 : M 40 = .inr (5, [.long (tr)])) {a : Nat} {s : Nat → Int32} (hS : M a = .inr (9, [.int (s 0), .int (s 1), .int (s 2), .int (s 3), .int (s 4), .int (s 5), .int (s 6)])) (ha : a ≠ 40)  : ev_Cal G mX5_ofFlight 5 0 0 [.ref 40, .ref a] n M (ev_is (some (.int (sp_spine (sp_stiff (s 2) (s 3) (s 6)) (s 0) (s 4)))) (ev_set M 40 (.inr (5, [.long (tr + 1)])))) := by
  refine ev_Cal_of (L := [some (.ref 40), some (.ref a)]) (by decide +kernel) (Nat.le_of_ble_eq_true rfl) rfl ?_
  refine ev_pre1 h40 ?_
  refine ev_aload_n (i := 0) dX5_ofFlight_0 rfl rfl ?_
  refine ev_dup dX5_ofFlight_1 rfl ?_
  refine ev_getf dX5_ofFlight_2 flX5_33 (by first | exact ev_set_eq | exact (ev_set_ne ha).trans hS | exact (ev_set_ne ha).trans ((ev_set_ne ha).trans hS) | exact (ev_set_ne hb4).trans ((ev_set_ne hb4).trans hW) | exact (ev_set_ne (by decide)).trans ((ev_set_ne (by decide)).trans hT)) (by rfl) ?_
  refine ev_lconst (v := 1) dX5_ofFlight_5 rfl ?_
  refine ev_ladd dX5_ofFlight_6 ?_
  refine ev_putlU dX5_ofFlight_7 fpX5_33 (Nat.le_of_ble_eq_true rfl) ?_
  refine ev_aload_n (i := 1) dX5_ofFlight_10 rfl rfl ?_
  refine ev_c1 kX5_ofFlight_11 (c9_spine ((ev_set_ne ha).trans hS)) (ev_rv_of (by first | exact ev_set_eq | exact (ev_set_ne ha).trans hS | exact (ev_set_ne ha).trans ((ev_set_ne ha).trans hS) | exact (ev_set_ne hb4).trans ((ev_set_ne hb4).trans hW) | exact (ev_set_ne (by decide)).trans ((ev_set_ne (by decide)).trans hT)) rfl rfl) (by decide) (by decide) (Nat.le_of_ble_eq_true rfl) ?_
  exact ev_reti dX5_ofFlight_14 rfl rfl (⟨rfl, by first | rfl | simp only [ev_set_set]⟩)
theorem c5_ofClean {G : ev_G} {n : Nat} {M : ev_M} {tr : Int64} (h40 : M 40 = .inr (5, [.long (tr)])) {a : Nat} {s : Nat → Int32} (hS : M a = .inr (9, [.int (s 0), .int (s 1), .int (s 2), .int (s 3), .int (s 4), .int (s 5), .int (s 6)])) (ha : a ≠ 40)  : ev_Cal G mX5_ofClean 6 0 0 [.ref 40, .ref a] n M (ev_is (some (.int (sp_spine (sp_stiff (s 2) (s 3) (s 6)) (s 0) (s 4) + s 1))) (ev_set M 40 (.inr (5, [.long (tr + 10 + 1)])))) := by
  refine ev_Cal_of (L := [some (.ref 40), some (.ref a)]) (by decide +kernel) (Nat.le_of_ble_eq_true rfl) rfl ?_
  refine ev_pre1 h40 ?_
  refine ev_aload_n (i := 0) dX5_ofClean_0 rfl rfl ?_
  refine ev_dup dX5_ofClean_1 rfl ?_
  refine ev_getf dX5_ofClean_2 flX5_33 (by first | exact ev_set_eq | exact (ev_set_ne ha).trans hS | exact (ev_set_ne ha).trans ((ev_set_ne ha).trans hS) | exact (ev_set_ne hb4).trans ((ev_set_ne hb4).trans hW) | exact (ev_set_ne (by decide)).trans ((ev_set_ne (by decide)).trans hT)) (by rfl) ?_
  refine ev_ldc2 dX5_ofClean_5 coX5_43 ?_
  refine ev_ladd dX5_ofClean_8 ?_
  refine ev_putlU dX5_ofClean_9 fpX5_33 (Nat.le_of_ble_eq_true rfl) ?_
  refine ev_aload_n (i := 0) dX5_ofClean_12 rfl rfl ?_
  refine ev_aload_n (i := 1) dX5_ofClean_13 rfl rfl ?_
  refine ev_c2 kX5_ofClean_14 (c5_ofFlight ev_set_eq ((ev_set_ne ha).trans hS) ha) (ev_rv_of (by first | exact ev_set_eq | exact (ev_set_ne ha).trans hS | exact (ev_set_ne ha).trans ((ev_set_ne ha).trans hS) | exact (ev_set_ne hb4).trans ((ev_set_ne hb4).trans hW) | exact (ev_set_ne (by decide)).trans ((ev_set_ne (by decide)).trans hT)) rfl rfl) (by decide) (by decide) (Nat.le_of_ble_eq_true rfl) ?_
  refine ev_aload_n (i := 1) dX5_ofClean_17 rfl rfl ?_
  refine ev_getf dX5_ofClean_18 flX5_45 (by first | exact ev_set_eq | exact (ev_set_ne ha).trans hS | exact (ev_set_ne ha).trans ((ev_set_ne ha).trans hS) | exact (ev_set_ne hb4).trans ((ev_set_ne hb4).trans hW) | exact (ev_set_ne (by decide)).trans ((ev_set_ne (by decide)).trans hT)) (by rfl) ?_
  refine ev_iadd dX5_ofClean_21 ?_
  exact ev_reti dX5_ofClean_22 rfl rfl (⟨rfl, by first | rfl | simp only [ev_set_set]⟩)
theorem c5_ofStiff {G : ev_G} {n : Nat} {M : ev_M} {tr : Int64} (h40 : M 40 = .inr (5, [.long (tr)])) {a : Nat} {s : Nat → Int32} (hS : M a = .inr (9, [.int (s 0), .int (s 1), .int (s 2), .int (s 3), .int (s 4), .int (s 5), .int (s 6)])) (ha : a ≠ 40) {b : Nat} {dr wi : Int32} (hW : M b = .inr (1, [.int dr, .int wi])) (hb4 : b ≠ 40)  : ev_Cal G mX5_ofStiff 6 0 0 [.ref 40, .ref a, .ref b] n M (ev_is (some (.int (sp_spine (sp_stiff (s 2) (s 3) (s 6)) (s 0) (s 4) - sp_drop (s 1 + s 4) dr (s 5)))) (ev_set M 40 (.inr (5, [.long (tr + 100 + 1)])))) := by
  refine ev_Cal_of (L := [some (.ref 40), some (.ref a), some (.ref b)]) (by decide +kernel) (Nat.le_of_ble_eq_true rfl) rfl ?_
  refine ev_pre1 h40 ?_
  refine ev_aload_n (i := 0) dX5_ofStiff_0 rfl rfl ?_
  refine ev_dup dX5_ofStiff_1 rfl ?_
  refine ev_getf dX5_ofStiff_2 flX5_33 (by first | exact ev_set_eq | exact (ev_set_ne ha).trans hS | exact (ev_set_ne ha).trans ((ev_set_ne ha).trans hS) | exact (ev_set_ne hb4).trans ((ev_set_ne hb4).trans hW) | exact (ev_set_ne (by decide)).trans ((ev_set_ne (by decide)).trans hT)) (by rfl) ?_
  refine ev_ldc2 dX5_ofStiff_5 coX5_49 ?_
  refine ev_ladd dX5_ofStiff_8 ?_
  refine ev_putlU dX5_ofStiff_9 fpX5_33 (Nat.le_of_ble_eq_true rfl) ?_
  refine ev_aload_n (i := 0) dX5_ofStiff_12 rfl rfl ?_
  refine ev_aload_n (i := 1) dX5_ofStiff_13 rfl rfl ?_
  refine ev_c2 kX5_ofStiff_14 (c5_ofFlight ev_set_eq ((ev_set_ne ha).trans hS) ha) (ev_rv_of (by first | exact ev_set_eq | exact (ev_set_ne ha).trans hS | exact (ev_set_ne ha).trans ((ev_set_ne ha).trans hS) | exact (ev_set_ne hb4).trans ((ev_set_ne hb4).trans hW) | exact (ev_set_ne (by decide)).trans ((ev_set_ne (by decide)).trans hT)) rfl rfl) (by decide) (by decide) (Nat.le_of_ble_eq_true rfl) ?_
  refine ev_aload_n (i := 2) dX5_ofStiff_17 rfl rfl ?_
  refine ev_aload_n (i := 1) dX5_ofStiff_18 rfl rfl ?_
  refine ev_aload_n (i := 1) dX5_ofStiff_19 rfl rfl ?_
  refine ev_getf dX5_ofStiff_20 flX5_51 (by first | exact ev_set_eq | exact (ev_set_ne ha).trans hS | exact (ev_set_ne ha).trans ((ev_set_ne ha).trans hS) | exact (ev_set_ne hb4).trans ((ev_set_ne hb4).trans hW) | exact (ev_set_ne (by decide)).trans ((ev_set_ne (by decide)).trans hT)) (by rfl) ?_
  refine ev_c3 kX5_ofStiff_23 (c1_dropOf ((ev_set_ne hb4).trans ((ev_set_ne hb4).trans hW)) ((ev_set_ne ha).trans ((ev_set_ne ha).trans hS))) (ev_rv_of (by first | exact ev_set_eq | exact (ev_set_ne ha).trans hS | exact (ev_set_ne ha).trans ((ev_set_ne ha).trans hS) | exact (ev_set_ne hb4).trans ((ev_set_ne hb4).trans hW) | exact (ev_set_ne (by decide)).trans ((ev_set_ne (by decide)).trans hT)) rfl rfl) (by decide) (by decide) (Nat.le_of_ble_eq_true rfl) ?_
  refine ev_isub dX5_ofStiff_26 ?_
  exact ev_reti dX5_ofStiff_27 rfl rfl (⟨rfl, by first | rfl | simp only [ev_set_set]⟩)
theorem c5_ofWindy {G : ev_G} {n : Nat} {M : ev_M} {tr : Int64} (h40 : M 40 = .inr (5, [.long (tr)])) {a : Nat} {s : Nat → Int32} (hS : M a = .inr (9, [.int (s 0), .int (s 1), .int (s 2), .int (s 3), .int (s 4), .int (s 5), .int (s 6)])) (ha : a ≠ 40) {wd : Int32}  : ev_Cal G mX5_ofWindy 7 0 0 [.ref 40, .ref a, .int wd] n M (ev_is (some (.int (sp_spine (sp_stiff (s 2) (s 3) (s 6)) (s 0) (s 4) + s 1 + wd))) (ev_set M 40 (.inr (5, [.long (tr + 1000 + 10 + 1)])))) := by
  refine ev_Cal_of (L := [some (.ref 40), some (.ref a), some (.int wd)]) (by decide +kernel) (Nat.le_of_ble_eq_true rfl) rfl ?_
  refine ev_pre1 h40 ?_
  refine ev_aload_n (i := 0) dX5_ofWindy_0 rfl rfl ?_
  refine ev_dup dX5_ofWindy_1 rfl ?_
  refine ev_getf dX5_ofWindy_2 flX5_33 (by first | exact ev_set_eq | exact (ev_set_ne ha).trans hS | exact (ev_set_ne ha).trans ((ev_set_ne ha).trans hS) | exact (ev_set_ne hb4).trans ((ev_set_ne hb4).trans hW) | exact (ev_set_ne (by decide)).trans ((ev_set_ne (by decide)).trans hT)) (by rfl) ?_
  refine ev_ldc2 dX5_ofWindy_5 coX5_59 ?_
  refine ev_ladd dX5_ofWindy_8 ?_
  refine ev_putlU dX5_ofWindy_9 fpX5_33 (Nat.le_of_ble_eq_true rfl) ?_
  refine ev_aload_n (i := 0) dX5_ofWindy_12 rfl rfl ?_
  refine ev_aload_n (i := 1) dX5_ofWindy_13 rfl rfl ?_
  refine ev_c2 kX5_ofWindy_14 (c5_ofClean ev_set_eq ((ev_set_ne ha).trans hS) ha) (ev_rv_of (by first | exact ev_set_eq | exact (ev_set_ne ha).trans hS | exact (ev_set_ne ha).trans ((ev_set_ne ha).trans hS) | exact (ev_set_ne hb4).trans ((ev_set_ne hb4).trans hW) | exact (ev_set_ne (by decide)).trans ((ev_set_ne (by decide)).trans hT)) rfl rfl) (by decide) (by decide) (Nat.le_of_ble_eq_true rfl) ?_
  refine ev_iload_n (i := 2) dX5_ofWindy_17 rfl rfl ?_
  refine ev_iadd dX5_ofWindy_18 ?_
  exact ev_reti dX5_ofWindy_19 rfl rfl (⟨rfl, by first | rfl | simp only [ev_set_set]⟩)
theorem c5_ofSlapped {G : ev_G} {n : Nat} {M : ev_M} {tr : Int64} (h40 : M 40 = .inr (5, [.long (tr)])) {a : Nat} {s : Nat → Int32} (hS : M a = .inr (9, [.int (s 0), .int (s 1), .int (s 2), .int (s 3), .int (s 4), .int (s 5), .int (s 6)])) (ha : a ≠ 40) {b : Nat} {dr wi : Int32} (hW : M b = .inr (1, [.int dr, .int wi])) (hb4 : b ≠ 40)  : ev_Cal G mX5_ofSlapped 7 0 0 [.ref 40, .ref a, .ref b] n M (ev_is (some (.int (2 * (sp_spine (sp_stiff (s 2) (s 3) (s 6)) (s 0) (s 4) - sp_drop (s 1 + s 4) dr (s 5))))) (ev_set M 40 (.inr (5, [.long (tr + 10000 + 100 + 1)])))) := by
  refine ev_Cal_of (L := [some (.ref 40), some (.ref a), some (.ref b)]) (by decide +kernel) (Nat.le_of_ble_eq_true rfl) rfl ?_
  refine ev_pre1 h40 ?_
  refine ev_aload_n (i := 0) dX5_ofSlapped_0 rfl rfl ?_
  refine ev_dup dX5_ofSlapped_1 rfl ?_
  refine ev_getf dX5_ofSlapped_2 flX5_33 (by first | exact ev_set_eq | exact (ev_set_ne ha).trans hS | exact (ev_set_ne ha).trans ((ev_set_ne ha).trans hS) | exact (ev_set_ne hb4).trans ((ev_set_ne hb4).trans hW) | exact (ev_set_ne (by decide)).trans ((ev_set_ne (by decide)).trans hT)) (by rfl) ?_
  refine ev_ldc2 dX5_ofSlapped_5 coX5_61 ?_
  refine ev_ladd dX5_ofSlapped_8 ?_
  refine ev_putlU dX5_ofSlapped_9 fpX5_33 (Nat.le_of_ble_eq_true rfl) ?_
  refine ev_iconst (v := 2) dX5_ofSlapped_12 cni_2 ?_
  refine ev_aload_n (i := 0) dX5_ofSlapped_13 rfl rfl ?_
  refine ev_aload_n (i := 1) dX5_ofSlapped_14 rfl rfl ?_
  refine ev_aload_n (i := 2) dX5_ofSlapped_15 rfl rfl ?_
  refine ev_c3 kX5_ofSlapped_16 (c5_ofStiff ev_set_eq ((ev_set_ne ha).trans hS) ha ((ev_set_ne hb4).trans hW) hb4) (ev_rv_of (by first | exact ev_set_eq | exact (ev_set_ne ha).trans hS | exact (ev_set_ne ha).trans ((ev_set_ne ha).trans hS) | exact (ev_set_ne hb4).trans ((ev_set_ne hb4).trans hW) | exact (ev_set_ne (by decide)).trans ((ev_set_ne (by decide)).trans hT)) rfl rfl) (by decide) (by decide) (Nat.le_of_ble_eq_true rfl) ?_
  refine ev_imul dX5_ofSlapped_19 ?_
  exact ev_reti dX5_ofSlapped_20 rfl rfl (⟨rfl, by first | rfl | simp only [ev_set_set]⟩)
theorem c5_ofSoft {G : ev_G} {n : Nat} {M : ev_M} {tr : Int64} (h40 : M 40 = .inr (5, [.long (tr)])) {a : Nat} {s : Nat → Int32} (hS : M a = .inr (9, [.int (s 0), .int (s 1), .int (s 2), .int (s 3), .int (s 4), .int (s 5), .int (s 6)])) (ha : a ≠ 40)  : ev_Cal G mX5_ofSoft 6 0 0 [.ref 40, .ref a] n M (ev_is (some (.int (sp_spine (sp_stiff (s 2) (s 3) (s 6)) (s 0) (s 4) + s 4))) (ev_set M 40 (.inr (5, [.long (tr + 100000 + 1)])))) := by
  refine ev_Cal_of (L := [some (.ref 40), some (.ref a)]) (by decide +kernel) (Nat.le_of_ble_eq_true rfl) rfl ?_
  refine ev_pre1 h40 ?_
  refine ev_aload_n (i := 0) dX5_ofSoft_0 rfl rfl ?_
  refine ev_dup dX5_ofSoft_1 rfl ?_
  refine ev_getf dX5_ofSoft_2 flX5_33 (by first | exact ev_set_eq | exact (ev_set_ne ha).trans hS | exact (ev_set_ne ha).trans ((ev_set_ne ha).trans hS) | exact (ev_set_ne hb4).trans ((ev_set_ne hb4).trans hW) | exact (ev_set_ne (by decide)).trans ((ev_set_ne (by decide)).trans hT)) (by rfl) ?_
  refine ev_ldc2 dX5_ofSoft_5 coX5_63 ?_
  refine ev_ladd dX5_ofSoft_8 ?_
  refine ev_putlU dX5_ofSoft_9 fpX5_33 (Nat.le_of_ble_eq_true rfl) ?_
  refine ev_aload_n (i := 0) dX5_ofSoft_12 rfl rfl ?_
  refine ev_aload_n (i := 1) dX5_ofSoft_13 rfl rfl ?_
  refine ev_c2 kX5_ofSoft_14 (c5_ofFlight ev_set_eq ((ev_set_ne ha).trans hS) ha) (ev_rv_of (by first | exact ev_set_eq | exact (ev_set_ne ha).trans hS | exact (ev_set_ne ha).trans ((ev_set_ne ha).trans hS) | exact (ev_set_ne hb4).trans ((ev_set_ne hb4).trans hW) | exact (ev_set_ne (by decide)).trans ((ev_set_ne (by decide)).trans hT)) rfl rfl) (by decide) (by decide) (Nat.le_of_ble_eq_true rfl) ?_
  refine ev_aload_n (i := 1) dX5_ofSoft_17 rfl rfl ?_
  refine ev_getf dX5_ofSoft_18 flX5_65 (by first | exact ev_set_eq | exact (ev_set_ne ha).trans hS | exact (ev_set_ne ha).trans ((ev_set_ne ha).trans hS) | exact (ev_set_ne hb4).trans ((ev_set_ne hb4).trans hW) | exact (ev_set_ne (by decide)).trans ((ev_set_ne (by decide)).trans hT)) (by rfl) ?_
  refine ev_iadd dX5_ofSoft_21 ?_
  exact ev_reti dX5_ofSoft_22 rfl rfl (⟨rfl, by first | rfl | simp only [ev_set_set]⟩)
