/-! ===== contracts: the class, flights ===== -/
/-- of k places the first, the last that P names; z if none -/
def sp_first (P : Nat → Bool) (v : Nat → Int32) (z : Int32) : Nat → Int32
  | 0 => z
  | k + 1 => if P k = true then (if sp_first P v z k = z then v k else sp_first P v z k) else sp_first P v z k
def sp_last (P : Nat → Bool) (v : Nat → Int32) (z : Int32) : Nat → Int32
  | 0 => z
  | k + 1 => if P k = true then v k else sp_last P v z k
theorem sp_first_0 {P : Nat → Bool} {v : Nat → Int32} {z : Int32} {k : Nat} (h : P k = false) : sp_first P v z (k + 1) = sp_first P v z k := by rw [sp_first, if_neg (by rw [h]; decide)]
theorem sp_first_1 {P : Nat → Bool} {v : Nat → Int32} {z : Int32} {k : Nat} (h : P k = true) (hz : sp_first P v z k = z) : sp_first P v z (k + 1) = v k := by rw [sp_first, if_pos h, if_pos hz]
theorem sp_first_2 {P : Nat → Bool} {v : Nat → Int32} {z : Int32} {k : Nat} (h : P k = true) (hz : ¬ sp_first P v z k = z) : sp_first P v z (k + 1) = sp_first P v z k := by rw [sp_first, if_pos h, if_neg hz]
theorem sp_last_0 {P : Nat → Bool} {v : Nat → Int32} {z : Int32} {k : Nat} (h : P k = false) : sp_last P v z (k + 1) = sp_last P v z k := by rw [sp_last, if_neg (by rw [h]; decide)]
def sb_v20 (k : Nat) : Int32 := nI (20 + k)
def sb_v60 (k : Nat) : Int32 := nI k - 60
def sb_band (tu : Nat → Int32) (len tip dr wi : Int32) (k : Nat) : Bool := sp_clean (tu 0) (sp_spine (nI (20 + k)) len tip - sp_need dr wi)
def sb_wreck (tu s : Nat → Int32) (wide : Int32) (k : Nat) : Bool := sp_clean (tu 0) (sp_spine (sp_stiff (s 2) (s 3) (s 6)) (s 0) (s 4) - sp_need (nI (20 + k)) wide)
def sb_says (tu : Nat → Int32) (fe x : Int32) (k : Nat) : Bool := decide (sp_fth (tu 0) (tu 1) (tu 2) (nI k - 60) fe - sp_bare (tu 0) (tu 1) (tu 2) (nI k - 60) = x)
theorem sp_last_1 {P : Nat → Bool} {v : Nat → Int32} {z : Int32} {k : Nat} (h : P k = true) : sp_last P v z (k + 1) = v k := by rw [sp_last, if_pos h]
theorem c12_flight_0 {G : ev_G} {n : Nat} {M : ev_M} {g g' c0 c1 c2 : Nat} {lot : Int32} (h20 : M 21 = .inr (11, [.ref 22, .ref 25, .ref 27, .ref 35, .ref 39, .ref 40, .ref 41, .ref 63, .ref g, .ref g', .int lot])) (hG : M g = .inr (3, [.ref (g + 1), .ref (g + 2), .ref (g + 3), .int (nI c0), .int (nI c1), .int (nI c2)])) {fa : Nat → Option Nat} (hA : M (g + 1) = .inl (2, 12, ev_q fa)) (hfa : ∀ i, i < 12 → fa i = some (g + 4 + i)) {fb : Nat → Option Nat} (hB : M (g + 2) = .inl (3, 3, ev_q fb)) (hfb : ∀ i, i < 3 → fb i = some (g + 16 + i)) {j : Nat} (hj : j < c0) (hc : c0 ≤ 12) {b : Nat} (hb : b < c1) (hc1 : c1 ≤ 3) {s : Nat → Int32} (hS : M (g + 4 + j) = .inr (9, [.int (s 0), .int (s 1), .int (s 2), .int (s 3), .int (s 4), .int (s 5), .int (s 6)])) {dr wi : Int32} (hW : M (g + 16 + b) = .inr (1, [.int dr, .int wi])) {tu : Nat → Int32} (hT : M 25 = .inr (10, [.ref 26])) (hV : M 26 = .inl (0, 4, .inl tu))  : ev_Cal G mX11_flight 6 0 0 [.ref 21, .int (nI j), .int (nI b), .int 0] n M (ev_is (some (.int (sp_spine (sp_stiff (s 2) (s 3) (s 6)) (s 0) (s 4)))) M) := by
  refine ev_Cal_of (L := [some (.ref 21), some (.int (nI j)), some (.int (nI b)), some (.int 0), none, none, none]) (by decide +kernel) (Nat.le_of_ble_eq_true rfl) rfl ?_
  refine ev_aload_n (i := 0) dX11_flight_0 rfl rfl ?_
  refine ev_getf dX11_flight_1 flX11_64 (by first | assumption | rfl) (by rfl) ?_
  refine ev_iload_n (i := 1) dX11_flight_4 rfl rfl ?_
  refine ev_c2 kX11_flight_5 (c3_stickAt_in hG hA hfa hj hc) (ev_rv_of (by first | assumption | rfl) rfl rfl) (by decide) (by decide) (Nat.le_of_ble_eq_true rfl) ?_
  refine ev_astore dX11_flight_8 (Nat.le_of_ble_eq_true rfl) rfl ?_
  refine ev_aload_n (i := 0) dX11_flight_10 rfl rfl ?_
  refine ev_getf dX11_flight_11 flX11_64 (by first | assumption | rfl) (by rfl) ?_
  refine ev_iload_n (i := 2) dX11_flight_14 rfl rfl ?_
  refine ev_c2 kX11_flight_15 (c3_bowAt_in hG hB hfb hb hc1) (ev_rv_of (by first | assumption | rfl) rfl rfl) (by decide) (by decide) (Nat.le_of_ble_eq_true rfl) ?_
  refine ev_astore dX11_flight_18 (Nat.le_of_ble_eq_true rfl) rfl ?_
  refine ev_aload dX11_flight_20 rfl ?_
  refine ev_ifnull dX11_flight_22 ?_
  refine ev_aload dX11_flight_25 rfl ?_
  refine ev_ifnonnull (tgt := 33) dX11_flight_27 (by decide) ?_
  refine ev_aload dX11_flight_33 rfl ?_
  refine ev_c1 kX11_flight_35 (c9_spine hS) (ev_rv_of (by first | assumption | rfl) rfl rfl) (by decide) (by decide) (Nat.le_of_ble_eq_true rfl) ?_
  refine ev_aload dX11_flight_38 rfl ?_
  refine ev_c1 kX11_flight_40 (c1_need hW) (ev_rv_of (by first | assumption | rfl) rfl rfl) (by decide) (by decide) (Nat.le_of_ble_eq_true rfl) ?_
  refine ev_isub dX11_flight_43 ?_
  refine ev_istore dX11_flight_44 (Nat.le_of_ble_eq_true rfl) rfl ?_
  refine ev_iload_n (i := 3) dX11_flight_46 rfl rfl ?_
  refine ev_tsin (off := 37) (tgt := 84) dX11_flight_47 (by decide) (by decide) (by rfl) (by decide) ?_
  refine ev_aload dX11_flight_84 rfl ?_
  refine ev_c1 kX11_flight_86 (c9_spine hS) (ev_rv_of (by first | assumption | rfl) rfl rfl) (by decide) (by decide) (Nat.le_of_ble_eq_true rfl) ?_
  exact ev_reti dX11_flight_89 rfl rfl (⟨by first | rfl | simp [*], rfl⟩)
theorem c12_flight_1 {G : ev_G} {n : Nat} {M : ev_M} {g g' c0 c1 c2 : Nat} {lot : Int32} (h20 : M 21 = .inr (11, [.ref 22, .ref 25, .ref 27, .ref 35, .ref 39, .ref 40, .ref 41, .ref 63, .ref g, .ref g', .int lot])) (hG : M g = .inr (3, [.ref (g + 1), .ref (g + 2), .ref (g + 3), .int (nI c0), .int (nI c1), .int (nI c2)])) {fa : Nat → Option Nat} (hA : M (g + 1) = .inl (2, 12, ev_q fa)) (hfa : ∀ i, i < 12 → fa i = some (g + 4 + i)) {fb : Nat → Option Nat} (hB : M (g + 2) = .inl (3, 3, ev_q fb)) (hfb : ∀ i, i < 3 → fb i = some (g + 16 + i)) {j : Nat} (hj : j < c0) (hc : c0 ≤ 12) {b : Nat} (hb : b < c1) (hc1 : c1 ≤ 3) {s : Nat → Int32} (hS : M (g + 4 + j) = .inr (9, [.int (s 0), .int (s 1), .int (s 2), .int (s 3), .int (s 4), .int (s 5), .int (s 6)])) {dr wi : Int32} (hW : M (g + 16 + b) = .inr (1, [.int dr, .int wi])) {tu : Nat → Int32} (hT : M 25 = .inr (10, [.ref 26])) (hV : M 26 = .inl (0, 4, .inl tu))  : ev_Cal G mX11_flight 6 0 0 [.ref 21, .int (nI j), .int (nI b), .int 1] n M (ev_is (some (.int ((sp_spine (sp_stiff (s 2) (s 3) (s 6)) (s 0) (s 4) - sp_need dr wi)))) M) := by
  refine ev_Cal_of (L := [some (.ref 21), some (.int (nI j)), some (.int (nI b)), some (.int 1), none, none, none]) (by decide +kernel) (Nat.le_of_ble_eq_true rfl) rfl ?_
  refine ev_aload_n (i := 0) dX11_flight_0 rfl rfl ?_
  refine ev_getf dX11_flight_1 flX11_64 (by first | assumption | rfl) (by rfl) ?_
  refine ev_iload_n (i := 1) dX11_flight_4 rfl rfl ?_
  refine ev_c2 kX11_flight_5 (c3_stickAt_in hG hA hfa hj hc) (ev_rv_of (by first | assumption | rfl) rfl rfl) (by decide) (by decide) (Nat.le_of_ble_eq_true rfl) ?_
  refine ev_astore dX11_flight_8 (Nat.le_of_ble_eq_true rfl) rfl ?_
  refine ev_aload_n (i := 0) dX11_flight_10 rfl rfl ?_
  refine ev_getf dX11_flight_11 flX11_64 (by first | assumption | rfl) (by rfl) ?_
  refine ev_iload_n (i := 2) dX11_flight_14 rfl rfl ?_
  refine ev_c2 kX11_flight_15 (c3_bowAt_in hG hB hfb hb hc1) (ev_rv_of (by first | assumption | rfl) rfl rfl) (by decide) (by decide) (Nat.le_of_ble_eq_true rfl) ?_
  refine ev_astore dX11_flight_18 (Nat.le_of_ble_eq_true rfl) rfl ?_
  refine ev_aload dX11_flight_20 rfl ?_
  refine ev_ifnull dX11_flight_22 ?_
  refine ev_aload dX11_flight_25 rfl ?_
  refine ev_ifnonnull (tgt := 33) dX11_flight_27 (by decide) ?_
  refine ev_aload dX11_flight_33 rfl ?_
  refine ev_c1 kX11_flight_35 (c9_spine hS) (ev_rv_of (by first | assumption | rfl) rfl rfl) (by decide) (by decide) (Nat.le_of_ble_eq_true rfl) ?_
  refine ev_aload dX11_flight_38 rfl ?_
  refine ev_c1 kX11_flight_40 (c1_need hW) (ev_rv_of (by first | assumption | rfl) rfl rfl) (by decide) (by decide) (Nat.le_of_ble_eq_true rfl) ?_
  refine ev_isub dX11_flight_43 ?_
  refine ev_istore dX11_flight_44 (Nat.le_of_ble_eq_true rfl) rfl ?_
  refine ev_iload_n (i := 3) dX11_flight_46 rfl rfl ?_
  refine ev_tsin (off := 43) (tgt := 90) dX11_flight_47 (by decide) (by decide) (by rfl) (by decide) ?_
  refine ev_iload dX11_flight_90 rfl ?_
  exact ev_reti dX11_flight_92 rfl rfl (⟨by first | rfl | simp [*], rfl⟩)
theorem c12_flight_2 {G : ev_G} {n : Nat} {M : ev_M} {g g' c0 c1 c2 : Nat} {lot : Int32} (h20 : M 21 = .inr (11, [.ref 22, .ref 25, .ref 27, .ref 35, .ref 39, .ref 40, .ref 41, .ref 63, .ref g, .ref g', .int lot])) (hG : M g = .inr (3, [.ref (g + 1), .ref (g + 2), .ref (g + 3), .int (nI c0), .int (nI c1), .int (nI c2)])) {fa : Nat → Option Nat} (hA : M (g + 1) = .inl (2, 12, ev_q fa)) (hfa : ∀ i, i < 12 → fa i = some (g + 4 + i)) {fb : Nat → Option Nat} (hB : M (g + 2) = .inl (3, 3, ev_q fb)) (hfb : ∀ i, i < 3 → fb i = some (g + 16 + i)) {j : Nat} (hj : j < c0) (hc : c0 ≤ 12) {b : Nat} (hb : b < c1) (hc1 : c1 ≤ 3) {s : Nat → Int32} (hS : M (g + 4 + j) = .inr (9, [.int (s 0), .int (s 1), .int (s 2), .int (s 3), .int (s 4), .int (s 5), .int (s 6)])) {dr wi : Int32} (hW : M (g + 16 + b) = .inr (1, [.int dr, .int wi])) {tu : Nat → Int32} (hT : M 25 = .inr (10, [.ref 26])) (hV : M 26 = .inl (0, 4, .inl tu))  : ev_Cal G mX11_flight 6 0 0 [.ref 21, .int (nI j), .int (nI b), .int 2] n M (ev_is (some (.int (sp_bare (tu 0) (tu 1) (tu 2) (sp_spine (sp_stiff (s 2) (s 3) (s 6)) (s 0) (s 4) - sp_need dr wi)))) M) := by
  refine ev_Cal_of (L := [some (.ref 21), some (.int (nI j)), some (.int (nI b)), some (.int 2), none, none, none]) (by decide +kernel) (Nat.le_of_ble_eq_true rfl) rfl ?_
  refine ev_aload_n (i := 0) dX11_flight_0 rfl rfl ?_
  refine ev_getf dX11_flight_1 flX11_64 (by first | assumption | rfl) (by rfl) ?_
  refine ev_iload_n (i := 1) dX11_flight_4 rfl rfl ?_
  refine ev_c2 kX11_flight_5 (c3_stickAt_in hG hA hfa hj hc) (ev_rv_of (by first | assumption | rfl) rfl rfl) (by decide) (by decide) (Nat.le_of_ble_eq_true rfl) ?_
  refine ev_astore dX11_flight_8 (Nat.le_of_ble_eq_true rfl) rfl ?_
  refine ev_aload_n (i := 0) dX11_flight_10 rfl rfl ?_
  refine ev_getf dX11_flight_11 flX11_64 (by first | assumption | rfl) (by rfl) ?_
  refine ev_iload_n (i := 2) dX11_flight_14 rfl rfl ?_
  refine ev_c2 kX11_flight_15 (c3_bowAt_in hG hB hfb hb hc1) (ev_rv_of (by first | assumption | rfl) rfl rfl) (by decide) (by decide) (Nat.le_of_ble_eq_true rfl) ?_
  refine ev_astore dX11_flight_18 (Nat.le_of_ble_eq_true rfl) rfl ?_
  refine ev_aload dX11_flight_20 rfl ?_
  refine ev_ifnull dX11_flight_22 ?_
  refine ev_aload dX11_flight_25 rfl ?_
  refine ev_ifnonnull (tgt := 33) dX11_flight_27 (by decide) ?_
  refine ev_aload dX11_flight_33 rfl ?_
  refine ev_c1 kX11_flight_35 (c9_spine hS) (ev_rv_of (by first | assumption | rfl) rfl rfl) (by decide) (by decide) (Nat.le_of_ble_eq_true rfl) ?_
  refine ev_aload dX11_flight_38 rfl ?_
  refine ev_c1 kX11_flight_40 (c1_need hW) (ev_rv_of (by first | assumption | rfl) rfl rfl) (by decide) (by decide) (Nat.le_of_ble_eq_true rfl) ?_
  refine ev_isub dX11_flight_43 ?_
  refine ev_istore dX11_flight_44 (Nat.le_of_ble_eq_true rfl) rfl ?_
  refine ev_iload_n (i := 3) dX11_flight_46 rfl rfl ?_
  refine ev_tsin (off := 46) (tgt := 93) dX11_flight_47 (by decide) (by decide) (by rfl) (by decide) ?_
  refine ev_aload_n (i := 0) dX11_flight_93 rfl rfl ?_
  refine ev_getf dX11_flight_94 flX11_19 (by first | assumption | rfl) (by rfl) ?_
  refine ev_iload dX11_flight_97 rfl ?_
  refine ev_c2 kX11_flight_99 (c11_bareOf hT hV) (ev_rv_of (by first | assumption | rfl) rfl rfl) (by decide) (by decide) (Nat.le_of_ble_eq_true rfl) ?_
  exact ev_reti dX11_flight_102 rfl rfl (⟨by first | rfl | simp [*], rfl⟩)
theorem c12_flight_3 {G : ev_G} {n : Nat} {M : ev_M} {g g' c0 c1 c2 : Nat} {lot : Int32} (h20 : M 21 = .inr (11, [.ref 22, .ref 25, .ref 27, .ref 35, .ref 39, .ref 40, .ref 41, .ref 63, .ref g, .ref g', .int lot])) (hG : M g = .inr (3, [.ref (g + 1), .ref (g + 2), .ref (g + 3), .int (nI c0), .int (nI c1), .int (nI c2)])) {fa : Nat → Option Nat} (hA : M (g + 1) = .inl (2, 12, ev_q fa)) (hfa : ∀ i, i < 12 → fa i = some (g + 4 + i)) {fb : Nat → Option Nat} (hB : M (g + 2) = .inl (3, 3, ev_q fb)) (hfb : ∀ i, i < 3 → fb i = some (g + 16 + i)) {j : Nat} (hj : j < c0) (hc : c0 ≤ 12) {b : Nat} (hb : b < c1) (hc1 : c1 ≤ 3) {s : Nat → Int32} (hS : M (g + 4 + j) = .inr (9, [.int (s 0), .int (s 1), .int (s 2), .int (s 3), .int (s 4), .int (s 5), .int (s 6)])) {dr wi : Int32} (hW : M (g + 16 + b) = .inr (1, [.int dr, .int wi])) {tu : Nat → Int32} (hT : M 25 = .inr (10, [.ref 26])) (hV : M 26 = .inl (0, 4, .inl tu))  : ev_Cal G mX11_flight 6 0 0 [.ref 21, .int (nI j), .int (nI b), .int 3] n M (ev_is (some (.int (sp_goes (tu 0) (tu 1) (tu 2) (tu 3) (sp_spine (sp_stiff (s 2) (s 3) (s 6)) (s 0) (s 4) - sp_need dr wi) (s 5) (s 1 + s 4)))) M) := by
  refine ev_Cal_of (L := [some (.ref 21), some (.int (nI j)), some (.int (nI b)), some (.int 3), none, none, none]) (by decide +kernel) (Nat.le_of_ble_eq_true rfl) rfl ?_
  refine ev_aload_n (i := 0) dX11_flight_0 rfl rfl ?_
  refine ev_getf dX11_flight_1 flX11_64 (by first | assumption | rfl) (by rfl) ?_
  refine ev_iload_n (i := 1) dX11_flight_4 rfl rfl ?_
  refine ev_c2 kX11_flight_5 (c3_stickAt_in hG hA hfa hj hc) (ev_rv_of (by first | assumption | rfl) rfl rfl) (by decide) (by decide) (Nat.le_of_ble_eq_true rfl) ?_
  refine ev_astore dX11_flight_8 (Nat.le_of_ble_eq_true rfl) rfl ?_
  refine ev_aload_n (i := 0) dX11_flight_10 rfl rfl ?_
  refine ev_getf dX11_flight_11 flX11_64 (by first | assumption | rfl) (by rfl) ?_
  refine ev_iload_n (i := 2) dX11_flight_14 rfl rfl ?_
  refine ev_c2 kX11_flight_15 (c3_bowAt_in hG hB hfb hb hc1) (ev_rv_of (by first | assumption | rfl) rfl rfl) (by decide) (by decide) (Nat.le_of_ble_eq_true rfl) ?_
  refine ev_astore dX11_flight_18 (Nat.le_of_ble_eq_true rfl) rfl ?_
  refine ev_aload dX11_flight_20 rfl ?_
  refine ev_ifnull dX11_flight_22 ?_
  refine ev_aload dX11_flight_25 rfl ?_
  refine ev_ifnonnull (tgt := 33) dX11_flight_27 (by decide) ?_
  refine ev_aload dX11_flight_33 rfl ?_
  refine ev_c1 kX11_flight_35 (c9_spine hS) (ev_rv_of (by first | assumption | rfl) rfl rfl) (by decide) (by decide) (Nat.le_of_ble_eq_true rfl) ?_
  refine ev_aload dX11_flight_38 rfl ?_
  refine ev_c1 kX11_flight_40 (c1_need hW) (ev_rv_of (by first | assumption | rfl) rfl rfl) (by decide) (by decide) (Nat.le_of_ble_eq_true rfl) ?_
  refine ev_isub dX11_flight_43 ?_
  refine ev_istore dX11_flight_44 (Nat.le_of_ble_eq_true rfl) rfl ?_
  refine ev_iload_n (i := 3) dX11_flight_46 rfl rfl ?_
  refine ev_tsin (off := 56) (tgt := 103) dX11_flight_47 (by decide) (by decide) (by rfl) (by decide) ?_
  refine ev_aload_n (i := 0) dX11_flight_103 rfl rfl ?_
  refine ev_getf dX11_flight_104 flX11_19 (by first | assumption | rfl) (by rfl) ?_
  refine ev_aload dX11_flight_107 rfl ?_
  refine ev_iload dX11_flight_109 rfl ?_
  refine ev_aload dX11_flight_111 rfl ?_
  refine ev_getf dX11_flight_113 flX11_120 (by first | assumption | rfl) (by rfl) ?_
  refine ev_c4 kX11_flight_116 (c11_goesOf hT hV hS) (ev_rv_of (by first | assumption | rfl) rfl rfl) (by decide) (by decide) (Nat.le_of_ble_eq_true rfl) ?_
  exact ev_reti dX11_flight_119 rfl rfl (⟨by first | rfl | simp [*], rfl⟩)
theorem c12_flight_4 {G : ev_G} {n : Nat} {M : ev_M} {g g' c0 c1 c2 : Nat} {lot : Int32} (h20 : M 21 = .inr (11, [.ref 22, .ref 25, .ref 27, .ref 35, .ref 39, .ref 40, .ref 41, .ref 63, .ref g, .ref g', .int lot])) (hG : M g = .inr (3, [.ref (g + 1), .ref (g + 2), .ref (g + 3), .int (nI c0), .int (nI c1), .int (nI c2)])) {fa : Nat → Option Nat} (hA : M (g + 1) = .inl (2, 12, ev_q fa)) (hfa : ∀ i, i < 12 → fa i = some (g + 4 + i)) {fb : Nat → Option Nat} (hB : M (g + 2) = .inl (3, 3, ev_q fb)) (hfb : ∀ i, i < 3 → fb i = some (g + 16 + i)) {j : Nat} (hj : j < c0) (hc : c0 ≤ 12) {b : Nat} (hb : b < c1) (hc1 : c1 ≤ 3) {s : Nat → Int32} (hS : M (g + 4 + j) = .inr (9, [.int (s 0), .int (s 1), .int (s 2), .int (s 3), .int (s 4), .int (s 5), .int (s 6)])) {dr wi : Int32} (hW : M (g + 16 + b) = .inr (1, [.int dr, .int wi])) {tu : Nat → Int32} (hT : M 25 = .inr (10, [.ref 26])) (hV : M 26 = .inl (0, 4, .inl tu))  : ev_Cal G mX11_flight 6 0 0 [.ref 21, .int (nI j), .int (nI b), .int 4] n M (ev_is (some (.int (sp_drop (s 1 + s 4) dr (s 5)))) M) := by
  refine ev_Cal_of (L := [some (.ref 21), some (.int (nI j)), some (.int (nI b)), some (.int 4), none, none, none]) (by decide +kernel) (Nat.le_of_ble_eq_true rfl) rfl ?_
  refine ev_aload_n (i := 0) dX11_flight_0 rfl rfl ?_
  refine ev_getf dX11_flight_1 flX11_64 (by first | assumption | rfl) (by rfl) ?_
  refine ev_iload_n (i := 1) dX11_flight_4 rfl rfl ?_
  refine ev_c2 kX11_flight_5 (c3_stickAt_in hG hA hfa hj hc) (ev_rv_of (by first | assumption | rfl) rfl rfl) (by decide) (by decide) (Nat.le_of_ble_eq_true rfl) ?_
  refine ev_astore dX11_flight_8 (Nat.le_of_ble_eq_true rfl) rfl ?_
  refine ev_aload_n (i := 0) dX11_flight_10 rfl rfl ?_
  refine ev_getf dX11_flight_11 flX11_64 (by first | assumption | rfl) (by rfl) ?_
  refine ev_iload_n (i := 2) dX11_flight_14 rfl rfl ?_
  refine ev_c2 kX11_flight_15 (c3_bowAt_in hG hB hfb hb hc1) (ev_rv_of (by first | assumption | rfl) rfl rfl) (by decide) (by decide) (Nat.le_of_ble_eq_true rfl) ?_
  refine ev_astore dX11_flight_18 (Nat.le_of_ble_eq_true rfl) rfl ?_
  refine ev_aload dX11_flight_20 rfl ?_
  refine ev_ifnull dX11_flight_22 ?_
  refine ev_aload dX11_flight_25 rfl ?_
  refine ev_ifnonnull (tgt := 33) dX11_flight_27 (by decide) ?_
  refine ev_aload dX11_flight_33 rfl ?_
  refine ev_c1 kX11_flight_35 (c9_spine hS) (ev_rv_of (by first | assumption | rfl) rfl rfl) (by decide) (by decide) (Nat.le_of_ble_eq_true rfl) ?_
  refine ev_aload dX11_flight_38 rfl ?_
  refine ev_c1 kX11_flight_40 (c1_need hW) (ev_rv_of (by first | assumption | rfl) rfl rfl) (by decide) (by decide) (Nat.le_of_ble_eq_true rfl) ?_
  refine ev_isub dX11_flight_43 ?_
  refine ev_istore dX11_flight_44 (Nat.le_of_ble_eq_true rfl) rfl ?_
  refine ev_iload_n (i := 3) dX11_flight_46 rfl rfl ?_
  refine ev_tsin (off := 73) (tgt := 120) dX11_flight_47 (by decide) (by decide) (by rfl) (by decide) ?_
  refine ev_aload dX11_flight_120 rfl ?_
  refine ev_aload dX11_flight_122 rfl ?_
  refine ev_aload dX11_flight_124 rfl ?_
  refine ev_getf dX11_flight_126 flX11_120 (by first | assumption | rfl) (by rfl) ?_
  refine ev_c3 kX11_flight_129 (c1_dropOf hW hS) (ev_rv_of (by first | assumption | rfl) rfl rfl) (by decide) (by decide) (Nat.le_of_ble_eq_true rfl) ?_
  exact ev_reti dX11_flight_132 rfl rfl (⟨by first | rfl | simp [*], rfl⟩)
theorem c12_flight_5 {G : ev_G} {n : Nat} {M : ev_M} {g g' c0 c1 c2 : Nat} {lot : Int32} (h20 : M 21 = .inr (11, [.ref 22, .ref 25, .ref 27, .ref 35, .ref 39, .ref 40, .ref 41, .ref 63, .ref g, .ref g', .int lot])) (hG : M g = .inr (3, [.ref (g + 1), .ref (g + 2), .ref (g + 3), .int (nI c0), .int (nI c1), .int (nI c2)])) {fa : Nat → Option Nat} (hA : M (g + 1) = .inl (2, 12, ev_q fa)) (hfa : ∀ i, i < 12 → fa i = some (g + 4 + i)) {fb : Nat → Option Nat} (hB : M (g + 2) = .inl (3, 3, ev_q fb)) (hfb : ∀ i, i < 3 → fb i = some (g + 16 + i)) {j : Nat} (hj : j < c0) (hc : c0 ≤ 12) {b : Nat} (hb : b < c1) (hc1 : c1 ≤ 3) {s : Nat → Int32} (hS : M (g + 4 + j) = .inr (9, [.int (s 0), .int (s 1), .int (s 2), .int (s 3), .int (s 4), .int (s 5), .int (s 6)])) {dr wi : Int32} (hW : M (g + 16 + b) = .inr (1, [.int dr, .int wi])) {tu : Nat → Int32} (hT : M 25 = .inr (10, [.ref 26])) (hV : M 26 = .inl (0, 4, .inl tu))  : ev_Cal G mX11_flight 6 0 0 [.ref 21, .int (nI j), .int (nI b), .int 5] n M (ev_is (some (.int (sp_kind (tu 0) (tu 1) (sp_spine (sp_stiff (s 2) (s 3) (s 6)) (s 0) (s 4) - sp_need dr wi)))) M) := by
  refine ev_Cal_of (L := [some (.ref 21), some (.int (nI j)), some (.int (nI b)), some (.int 5), none, none, none]) (by decide +kernel) (Nat.le_of_ble_eq_true rfl) rfl ?_
  refine ev_aload_n (i := 0) dX11_flight_0 rfl rfl ?_
  refine ev_getf dX11_flight_1 flX11_64 (by first | assumption | rfl) (by rfl) ?_
  refine ev_iload_n (i := 1) dX11_flight_4 rfl rfl ?_
  refine ev_c2 kX11_flight_5 (c3_stickAt_in hG hA hfa hj hc) (ev_rv_of (by first | assumption | rfl) rfl rfl) (by decide) (by decide) (Nat.le_of_ble_eq_true rfl) ?_
  refine ev_astore dX11_flight_8 (Nat.le_of_ble_eq_true rfl) rfl ?_
  refine ev_aload_n (i := 0) dX11_flight_10 rfl rfl ?_
  refine ev_getf dX11_flight_11 flX11_64 (by first | assumption | rfl) (by rfl) ?_
  refine ev_iload_n (i := 2) dX11_flight_14 rfl rfl ?_
  refine ev_c2 kX11_flight_15 (c3_bowAt_in hG hB hfb hb hc1) (ev_rv_of (by first | assumption | rfl) rfl rfl) (by decide) (by decide) (Nat.le_of_ble_eq_true rfl) ?_
  refine ev_astore dX11_flight_18 (Nat.le_of_ble_eq_true rfl) rfl ?_
  refine ev_aload dX11_flight_20 rfl ?_
  refine ev_ifnull dX11_flight_22 ?_
  refine ev_aload dX11_flight_25 rfl ?_
  refine ev_ifnonnull (tgt := 33) dX11_flight_27 (by decide) ?_
  refine ev_aload dX11_flight_33 rfl ?_
  refine ev_c1 kX11_flight_35 (c9_spine hS) (ev_rv_of (by first | assumption | rfl) rfl rfl) (by decide) (by decide) (Nat.le_of_ble_eq_true rfl) ?_
  refine ev_aload dX11_flight_38 rfl ?_
  refine ev_c1 kX11_flight_40 (c1_need hW) (ev_rv_of (by first | assumption | rfl) rfl rfl) (by decide) (by decide) (Nat.le_of_ble_eq_true rfl) ?_
  refine ev_isub dX11_flight_43 ?_
  refine ev_istore dX11_flight_44 (Nat.le_of_ble_eq_true rfl) rfl ?_
  refine ev_iload_n (i := 3) dX11_flight_46 rfl rfl ?_
  refine ev_tsin (off := 86) (tgt := 133) dX11_flight_47 (by decide) (by decide) (by rfl) (by decide) ?_
  refine ev_aload_n (i := 0) dX11_flight_133 rfl rfl ?_
  refine ev_getf dX11_flight_134 flX11_19 (by first | assumption | rfl) (by rfl) ?_
  refine ev_iload dX11_flight_137 rfl ?_
  refine ev_c2 kX11_flight_139 (c11_flightOf hT hV) (ev_rv_of (by first | assumption | rfl) rfl rfl) (by decide) (by decide) (Nat.le_of_ble_eq_true rfl) ?_
  exact ev_reti dX11_flight_142 rfl rfl (⟨by first | rfl | simp [*], rfl⟩)
theorem c12_flight_w {G : ev_G} {n : Nat} {M : ev_M} {g g' c0 c1 c2 : Nat} {lot : Int32} (h20 : M 21 = .inr (11, [.ref 22, .ref 25, .ref 27, .ref 35, .ref 39, .ref 40, .ref 41, .ref 63, .ref g, .ref g', .int lot])) (hG : M g = .inr (3, [.ref (g + 1), .ref (g + 2), .ref (g + 3), .int (nI c0), .int (nI c1), .int (nI c2)])) {fa : Nat → Option Nat} (hA : M (g + 1) = .inl (2, 12, ev_q fa)) (hfa : ∀ i, i < 12 → fa i = some (g + 4 + i)) {fb : Nat → Option Nat} (hB : M (g + 2) = .inl (3, 3, ev_q fb)) (hfb : ∀ i, i < 3 → fb i = some (g + 16 + i)) {j : Nat} (hj : j < c0) (hc : c0 ≤ 12) {b : Nat} (hb : b < c1) (hc1 : c1 ≤ 3) {s : Nat → Int32} (hS : M (g + 4 + j) = .inr (9, [.int (s 0), .int (s 1), .int (s 2), .int (s 3), .int (s 4), .int (s 5), .int (s 6)])) {dr wi : Int32} (hW : M (g + 16 + b) = .inr (1, [.int dr, .int wi])) {tu : Nat → Int32} (hT : M 25 = .inr (10, [.ref 26])) (hV : M 26 = .inl (0, 4, .inl tu)) {w : Int32} (hw : w.toInt < 0 ∨ 5 < w.toInt) : ev_Cal G mX11_flight 6 0 0 [.ref 21, .int (nI j), .int (nI b), .int w] n M (ev_is (some (.int (-1000000))) M) := by
  refine ev_Cal_of (L := [some (.ref 21), some (.int (nI j)), some (.int (nI b)), some (.int w), none, none, none]) (by decide +kernel) (Nat.le_of_ble_eq_true rfl) rfl ?_
  refine ev_aload_n (i := 0) dX11_flight_0 rfl rfl ?_
  refine ev_getf dX11_flight_1 flX11_64 (by first | assumption | rfl) (by rfl) ?_
  refine ev_iload_n (i := 1) dX11_flight_4 rfl rfl ?_
  refine ev_c2 kX11_flight_5 (c3_stickAt_in hG hA hfa hj hc) (ev_rv_of (by first | assumption | rfl) rfl rfl) (by decide) (by decide) (Nat.le_of_ble_eq_true rfl) ?_
  refine ev_astore dX11_flight_8 (Nat.le_of_ble_eq_true rfl) rfl ?_
  refine ev_aload_n (i := 0) dX11_flight_10 rfl rfl ?_
  refine ev_getf dX11_flight_11 flX11_64 (by first | assumption | rfl) (by rfl) ?_
  refine ev_iload_n (i := 2) dX11_flight_14 rfl rfl ?_
  refine ev_c2 kX11_flight_15 (c3_bowAt_in hG hB hfb hb hc1) (ev_rv_of (by first | assumption | rfl) rfl rfl) (by decide) (by decide) (Nat.le_of_ble_eq_true rfl) ?_
  refine ev_astore dX11_flight_18 (Nat.le_of_ble_eq_true rfl) rfl ?_
  refine ev_aload dX11_flight_20 rfl ?_
  refine ev_ifnull dX11_flight_22 ?_
  refine ev_aload dX11_flight_25 rfl ?_
  refine ev_ifnonnull (tgt := 33) dX11_flight_27 (by decide) ?_
  refine ev_aload dX11_flight_33 rfl ?_
  refine ev_c1 kX11_flight_35 (c9_spine hS) (ev_rv_of (by first | assumption | rfl) rfl rfl) (by decide) (by decide) (Nat.le_of_ble_eq_true rfl) ?_
  refine ev_aload dX11_flight_38 rfl ?_
  refine ev_c1 kX11_flight_40 (c1_need hW) (ev_rv_of (by first | assumption | rfl) rfl rfl) (by decide) (by decide) (Nat.le_of_ble_eq_true rfl) ?_
  refine ev_isub dX11_flight_43 ?_
  refine ev_istore dX11_flight_44 (Nat.le_of_ble_eq_true rfl) rfl ?_
  refine ev_iload_n (i := 3) dX11_flight_46 rfl rfl ?_
  refine ev_tsout (tgt := 143) dX11_flight_47 hw (by decide) ?_
  refine ev_ldc dX11_flight_143 coX11_145 ?_
  exact ev_reti dX11_flight_145 rfl rfl (⟨by first | rfl | simp [*], rfl⟩)
/-- null, or an object's place -/
def ev_nr (r : Option Value) : Prop := r = some .null ∨ ∃ a, r = some (.ref a)
theorem c3_stickAt_any {G : ev_G} {n : Nat} {M : ev_M} {g c0 c1 c2 : Nat} (hG : M g = .inr (3, [.ref (g + 1), .ref (g + 2), .ref (g + 3), .int (nI c0), .int (nI c1), .int (nI c2)])) {fa : Nat → Option Nat} (hA : M (g + 1) = .inl (2, 12, ev_q fa)) (hfa : ∀ i, i < 12 → fa i = some (g + 4 + i)) (hc : c0 ≤ 12) (x : Int32) : ∃ v : Value, (v = .null ∨ ∃ a, v = .ref a) ∧ ev_Cal G mX3_stickAt 1 0 0 [.ref g, .int x] n M (ev_is (some v) M) := by
  rcases sp_pos (i := x) (c := c0) (by omega) with ⟨j, hj, rfl⟩ | hx
  · exact ⟨_, Or.inr ⟨_, rfl⟩, c3_stickAt_in hG hA hfa hj hc⟩
  · exact ⟨_, Or.inl rfl, c3_stickAt_out hG hx⟩
theorem c3_bowAt_any {G : ev_G} {n : Nat} {M : ev_M} {g c0 c1 c2 : Nat} (hG : M g = .inr (3, [.ref (g + 1), .ref (g + 2), .ref (g + 3), .int (nI c0), .int (nI c1), .int (nI c2)])) {fb : Nat → Option Nat} (hB : M (g + 2) = .inl (3, 3, ev_q fb)) (hfb : ∀ i, i < 3 → fb i = some (g + 16 + i)) (hc : c1 ≤ 3) (x : Int32) : ∃ v : Value, (v = .null ∨ ∃ a, v = .ref a) ∧ ev_Cal G mX3_bowAt 1 0 0 [.ref g, .int x] n M (ev_is (some v) M) := by
  rcases sp_pos (i := x) (c := c1) (by omega) with ⟨j, hj, rfl⟩ | hx
  · exact ⟨_, Or.inr ⟨_, rfl⟩, c3_bowAt_in hG hB hfb hj hc⟩
  · exact ⟨_, Or.inl rfl, c3_bowAt_out hG hx⟩
theorem c3_archerAt_any {G : ev_G} {n : Nat} {M : ev_M} {g c0 c1 c2 : Nat} (hG : M g = .inr (3, [.ref (g + 1), .ref (g + 2), .ref (g + 3), .int (nI c0), .int (nI c1), .int (nI c2)])) {fc : Nat → Option Nat} (hC : M (g + 3) = .inl (4, 3, ev_q fc)) (hfc : ∀ i, i < 3 → fc i = some (g + 19 + i)) (hc : c2 ≤ 3) (x : Int32) : ∃ v : Value, (v = .null ∨ ∃ a, v = .ref a) ∧ ev_Cal G mX3_archerAt 1 0 0 [.ref g, .int x] n M (ev_is (some v) M) := by
  rcases sp_pos (i := x) (c := c2) (by omega) with ⟨j, hj, rfl⟩ | hx
  · exact ⟨_, Or.inr ⟨_, rfl⟩, c3_archerAt_in hG hC hfc hj hc⟩
  · exact ⟨_, Or.inl rfl, c3_archerAt_out hG hx⟩
theorem c12_flight_i {G : ev_G} {n : Nat} {M : ev_M} {g g' c0 c1 c2 : Nat} {lot : Int32} (h20 : M 21 = .inr (11, [.ref 22, .ref 25, .ref 27, .ref 35, .ref 39, .ref 40, .ref 41, .ref 63, .ref g, .ref g', .int lot])) (hG : M g = .inr (3, [.ref (g + 1), .ref (g + 2), .ref (g + 3), .int (nI c0), .int (nI c1), .int (nI c2)])) {fa : Nat → Option Nat} (hA : M (g + 1) = .inl (2, 12, ev_q fa)) (hfa : ∀ i, i < 12 → fa i = some (g + 4 + i)) {fb : Nat → Option Nat} (hB : M (g + 2) = .inl (3, 3, ev_q fb)) (hfb : ∀ i, i < 3 → fb i = some (g + 16 + i)) (hc : c0 ≤ 12) (hc1 : c1 ≤ 3) {x xb w : Int32} (hx : x < 0 ∨ nI c0 ≤ x) : ev_Cal G mX11_flight 6 0 0 [.ref 21, .int x, .int xb, .int w] n M (ev_is (some (.int (-1000000))) M) := by
  refine ev_Cal_of (L := [some (.ref 21), some (.int x), some (.int xb), some (.int w), none, none, none]) (by decide +kernel) (Nat.le_of_ble_eq_true rfl) rfl ?_
  obtain ⟨vb, hvb, hcb⟩ := c3_bowAt_any (G := G) (n := n) hG hB hfb hc1 xb
  rcases hvb with rfl | ⟨ab, rfl⟩
  · skip
    refine ev_aload_n (i := 0) dX11_flight_0 rfl rfl ?_
    refine ev_getf dX11_flight_1 flX11_64 (by first | assumption | rfl) (by rfl) ?_
    refine ev_iload_n (i := 1) dX11_flight_4 rfl rfl ?_
    refine ev_c2 kX11_flight_5 (c3_stickAt_out hG hx) (ev_rv_of (by first | assumption | rfl) rfl rfl) (by decide) (by decide) (Nat.le_of_ble_eq_true rfl) ?_
    refine ev_astoreN dX11_flight_8 (Nat.le_of_ble_eq_true rfl) rfl ?_
    refine ev_aload_n (i := 0) dX11_flight_10 rfl rfl ?_
    refine ev_getf dX11_flight_11 flX11_64 (by first | assumption | rfl) (by rfl) ?_
    refine ev_iload_n (i := 2) dX11_flight_14 rfl rfl ?_
    refine ev_c2 kX11_flight_15 (hcb) (ev_rv_of (by first | assumption | rfl) rfl rfl) (by decide) (by decide) (Nat.le_of_ble_eq_true rfl) ?_
    refine ev_astoreN dX11_flight_18 (Nat.le_of_ble_eq_true rfl) rfl ?_
    refine ev_aloadN dX11_flight_20 rfl ?_
    refine ev_ifnullN (tgt := 30) dX11_flight_22 (by decide) ?_
    refine ev_ldc dX11_flight_30 coX11_145 ?_
    exact ev_reti dX11_flight_32 rfl rfl (⟨by first | rfl | simp [*], rfl⟩)
  · skip
    refine ev_aload_n (i := 0) dX11_flight_0 rfl rfl ?_
    refine ev_getf dX11_flight_1 flX11_64 (by first | assumption | rfl) (by rfl) ?_
    refine ev_iload_n (i := 1) dX11_flight_4 rfl rfl ?_
    refine ev_c2 kX11_flight_5 (c3_stickAt_out hG hx) (ev_rv_of (by first | assumption | rfl) rfl rfl) (by decide) (by decide) (Nat.le_of_ble_eq_true rfl) ?_
    refine ev_astoreN dX11_flight_8 (Nat.le_of_ble_eq_true rfl) rfl ?_
    refine ev_aload_n (i := 0) dX11_flight_10 rfl rfl ?_
    refine ev_getf dX11_flight_11 flX11_64 (by first | assumption | rfl) (by rfl) ?_
    refine ev_iload_n (i := 2) dX11_flight_14 rfl rfl ?_
    refine ev_c2 kX11_flight_15 (hcb) (ev_rv_of (by first | assumption | rfl) rfl rfl) (by decide) (by decide) (Nat.le_of_ble_eq_true rfl) ?_
    refine ev_astore dX11_flight_18 (Nat.le_of_ble_eq_true rfl) rfl ?_
    refine ev_aloadN dX11_flight_20 rfl ?_
    refine ev_ifnullN (tgt := 30) dX11_flight_22 (by decide) ?_
    refine ev_ldc dX11_flight_30 coX11_145 ?_
    exact ev_reti dX11_flight_32 rfl rfl (⟨by first | rfl | simp [*], rfl⟩)
theorem c12_flight_b {G : ev_G} {n : Nat} {M : ev_M} {g g' c0 c1 c2 : Nat} {lot : Int32} (h20 : M 21 = .inr (11, [.ref 22, .ref 25, .ref 27, .ref 35, .ref 39, .ref 40, .ref 41, .ref 63, .ref g, .ref g', .int lot])) (hG : M g = .inr (3, [.ref (g + 1), .ref (g + 2), .ref (g + 3), .int (nI c0), .int (nI c1), .int (nI c2)])) {fa : Nat → Option Nat} (hA : M (g + 1) = .inl (2, 12, ev_q fa)) (hfa : ∀ i, i < 12 → fa i = some (g + 4 + i)) {j : Nat} (hj : j < c0) (hc : c0 ≤ 12) {xb w : Int32} (hxb : xb < 0 ∨ nI c1 ≤ xb) : ev_Cal G mX11_flight 6 0 0 [.ref 21, .int (nI j), .int xb, .int w] n M (ev_is (some (.int (-1000000))) M) := by
  refine ev_Cal_of (L := [some (.ref 21), some (.int (nI j)), some (.int xb), some (.int w), none, none, none]) (by decide +kernel) (Nat.le_of_ble_eq_true rfl) rfl ?_
  refine ev_aload_n (i := 0) dX11_flight_0 rfl rfl ?_
  refine ev_getf dX11_flight_1 flX11_64 (by first | assumption | rfl) (by rfl) ?_
  refine ev_iload_n (i := 1) dX11_flight_4 rfl rfl ?_
  refine ev_c2 kX11_flight_5 (c3_stickAt_in hG hA hfa hj hc) (ev_rv_of (by first | assumption | rfl) rfl rfl) (by decide) (by decide) (Nat.le_of_ble_eq_true rfl) ?_
  refine ev_astore dX11_flight_8 (Nat.le_of_ble_eq_true rfl) rfl ?_
  refine ev_aload_n (i := 0) dX11_flight_10 rfl rfl ?_
  refine ev_getf dX11_flight_11 flX11_64 (by first | assumption | rfl) (by rfl) ?_
  refine ev_iload_n (i := 2) dX11_flight_14 rfl rfl ?_
  refine ev_c2 kX11_flight_15 (c3_bowAt_out hG hxb) (ev_rv_of (by first | assumption | rfl) rfl rfl) (by decide) (by decide) (Nat.le_of_ble_eq_true rfl) ?_
  refine ev_astoreN dX11_flight_18 (Nat.le_of_ble_eq_true rfl) rfl ?_
  refine ev_aload dX11_flight_20 rfl ?_
  refine ev_ifnull dX11_flight_22 ?_
  refine ev_aloadN dX11_flight_25 rfl ?_
  refine ev_ifnonnullN dX11_flight_27 ?_
  refine ev_ldc dX11_flight_30 coX11_145 ?_
  exact ev_reti dX11_flight_32 rfl rfl (⟨by first | rfl | simp [*], rfl⟩)
theorem c12_feather_i {G : ev_G} {n : Nat} {M : ev_M} {g g' c0 c1 c2 : Nat} {lot : Int32} (h20 : M 21 = .inr (11, [.ref 22, .ref 25, .ref 27, .ref 35, .ref 39, .ref 40, .ref 41, .ref 63, .ref g, .ref g', .int lot])) (hG : M g = .inr (3, [.ref (g + 1), .ref (g + 2), .ref (g + 3), .int (nI c0), .int (nI c1), .int (nI c2)])) {fa : Nat → Option Nat} (hA : M (g + 1) = .inl (2, 12, ev_q fa)) (hfa : ∀ i, i < 12 → fa i = some (g + 4 + i)) {fb : Nat → Option Nat} (hB : M (g + 2) = .inl (3, 3, ev_q fb)) (hfb : ∀ i, i < 3 → fb i = some (g + 16 + i)) (hc : c0 ≤ 12) (hc1 : c1 ≤ 3) {x xb fa2 : Int32} (hx : x < 0 ∨ nI c0 ≤ x) : ev_Cal G mX11_feather 6 0 0 [.ref 21, .int x, .int xb, .int fa2] n M (ev_is (some (.int (-1))) M) := by
  refine ev_Cal_of (L := [some (.ref 21), some (.int x), some (.int xb), some (.int fa2), none, none, none, none, none, none, none]) (by decide +kernel) (Nat.le_of_ble_eq_true rfl) rfl ?_
  obtain ⟨vb, hvb, hcb⟩ := c3_bowAt_any (G := G) (n := n) hG hB hfb hc1 xb
  rcases hvb with rfl | ⟨ab, rfl⟩
  · skip
    refine ev_aload_n (i := 0) dX11_feather_0 rfl rfl ?_
    refine ev_getf dX11_feather_1 flX11_64 (by first | assumption | rfl) (by rfl) ?_
    refine ev_iload_n (i := 1) dX11_feather_4 rfl rfl ?_
    refine ev_c2 kX11_feather_5 (c3_stickAt_out hG hx) (ev_rv_of (by first | assumption | rfl) rfl rfl) (by decide) (by decide) (Nat.le_of_ble_eq_true rfl) ?_
    refine ev_astoreN dX11_feather_8 (Nat.le_of_ble_eq_true rfl) rfl ?_
    refine ev_aload_n (i := 0) dX11_feather_10 rfl rfl ?_
    refine ev_getf dX11_feather_11 flX11_64 (by first | assumption | rfl) (by rfl) ?_
    refine ev_iload_n (i := 2) dX11_feather_14 rfl rfl ?_
    refine ev_c2 kX11_feather_15 (hcb) (ev_rv_of (by first | assumption | rfl) rfl rfl) (by decide) (by decide) (Nat.le_of_ble_eq_true rfl) ?_
    refine ev_astoreN dX11_feather_18 (Nat.le_of_ble_eq_true rfl) rfl ?_
    refine ev_aloadN dX11_feather_20 rfl ?_
    refine ev_ifnullN (tgt := 40) dX11_feather_22 (by decide) ?_
    refine ev_iconst (v := (-1)) dX11_feather_40 cni_m1 ?_
    exact ev_reti dX11_feather_41 rfl rfl (⟨by first | rfl | simp [*], rfl⟩)
  · skip
    refine ev_aload_n (i := 0) dX11_feather_0 rfl rfl ?_
    refine ev_getf dX11_feather_1 flX11_64 (by first | assumption | rfl) (by rfl) ?_
    refine ev_iload_n (i := 1) dX11_feather_4 rfl rfl ?_
    refine ev_c2 kX11_feather_5 (c3_stickAt_out hG hx) (ev_rv_of (by first | assumption | rfl) rfl rfl) (by decide) (by decide) (Nat.le_of_ble_eq_true rfl) ?_
    refine ev_astoreN dX11_feather_8 (Nat.le_of_ble_eq_true rfl) rfl ?_
    refine ev_aload_n (i := 0) dX11_feather_10 rfl rfl ?_
    refine ev_getf dX11_feather_11 flX11_64 (by first | assumption | rfl) (by rfl) ?_
    refine ev_iload_n (i := 2) dX11_feather_14 rfl rfl ?_
    refine ev_c2 kX11_feather_15 (hcb) (ev_rv_of (by first | assumption | rfl) rfl rfl) (by decide) (by decide) (Nat.le_of_ble_eq_true rfl) ?_
    refine ev_astore dX11_feather_18 (Nat.le_of_ble_eq_true rfl) rfl ?_
    refine ev_aloadN dX11_feather_20 rfl ?_
    refine ev_ifnullN (tgt := 40) dX11_feather_22 (by decide) ?_
    refine ev_iconst (v := (-1)) dX11_feather_40 cni_m1 ?_
    exact ev_reti dX11_feather_41 rfl rfl (⟨by first | rfl | simp [*], rfl⟩)
theorem c12_feather_b {G : ev_G} {n : Nat} {M : ev_M} {g g' c0 c1 c2 : Nat} {lot : Int32} (h20 : M 21 = .inr (11, [.ref 22, .ref 25, .ref 27, .ref 35, .ref 39, .ref 40, .ref 41, .ref 63, .ref g, .ref g', .int lot])) (hG : M g = .inr (3, [.ref (g + 1), .ref (g + 2), .ref (g + 3), .int (nI c0), .int (nI c1), .int (nI c2)])) {fa : Nat → Option Nat} (hA : M (g + 1) = .inl (2, 12, ev_q fa)) (hfa : ∀ i, i < 12 → fa i = some (g + 4 + i)) {j : Nat} (hj : j < c0) (hc : c0 ≤ 12) {xb fa2 : Int32} (hxb : xb < 0 ∨ nI c1 ≤ xb) : ev_Cal G mX11_feather 6 0 0 [.ref 21, .int (nI j), .int xb, .int fa2] n M (ev_is (some (.int (-1))) M) := by
  refine ev_Cal_of (L := [some (.ref 21), some (.int (nI j)), some (.int xb), some (.int fa2), none, none, none, none, none, none, none]) (by decide +kernel) (Nat.le_of_ble_eq_true rfl) rfl ?_
  refine ev_aload_n (i := 0) dX11_feather_0 rfl rfl ?_
  refine ev_getf dX11_feather_1 flX11_64 (by first | assumption | rfl) (by rfl) ?_
  refine ev_iload_n (i := 1) dX11_feather_4 rfl rfl ?_
  refine ev_c2 kX11_feather_5 (c3_stickAt_in hG hA hfa hj hc) (ev_rv_of (by first | assumption | rfl) rfl rfl) (by decide) (by decide) (Nat.le_of_ble_eq_true rfl) ?_
  refine ev_astore dX11_feather_8 (Nat.le_of_ble_eq_true rfl) rfl ?_
  refine ev_aload_n (i := 0) dX11_feather_10 rfl rfl ?_
  refine ev_getf dX11_feather_11 flX11_64 (by first | assumption | rfl) (by rfl) ?_
  refine ev_iload_n (i := 2) dX11_feather_14 rfl rfl ?_
  refine ev_c2 kX11_feather_15 (c3_bowAt_out hG hxb) (ev_rv_of (by first | assumption | rfl) rfl rfl) (by decide) (by decide) (Nat.le_of_ble_eq_true rfl) ?_
  refine ev_astoreN dX11_feather_18 (Nat.le_of_ble_eq_true rfl) rfl ?_
  refine ev_aload dX11_feather_20 rfl ?_
  refine ev_ifnull dX11_feather_22 ?_
  refine ev_aloadN dX11_feather_25 rfl ?_
  refine ev_ifnullN (tgt := 40) dX11_feather_27 (by decide) ?_
  refine ev_iconst (v := (-1)) dX11_feather_40 cni_m1 ?_
  exact ev_reti dX11_feather_41 rfl rfl (⟨by first | rfl | simp [*], rfl⟩)
theorem c12_least_i {G : ev_G} {n : Nat} {M : ev_M} {g g' c0 c1 c2 : Nat} {lot : Int32} (h20 : M 21 = .inr (11, [.ref 22, .ref 25, .ref 27, .ref 35, .ref 39, .ref 40, .ref 41, .ref 63, .ref g, .ref g', .int lot])) (hG : M g = .inr (3, [.ref (g + 1), .ref (g + 2), .ref (g + 3), .int (nI c0), .int (nI c1), .int (nI c2)])) {fa : Nat → Option Nat} (hA : M (g + 1) = .inl (2, 12, ev_q fa)) (hfa : ∀ i, i < 12 → fa i = some (g + 4 + i)) {fb : Nat → Option Nat} (hB : M (g + 2) = .inl (3, 3, ev_q fb)) (hfb : ∀ i, i < 3 → fb i = some (g + 16 + i)) (hc : c0 ≤ 12) (hc1 : c1 ≤ 3) {x xb aa bb w : Int32} (hx : x < 0 ∨ nI c0 ≤ x) : ev_Cal G mX11_least 4 0 0 [.ref 21, .int x, .int xb, .int aa, .int bb, .int w] n M (ev_is (some (.int (-1))) M) := by
  refine ev_Cal_of (L := [some (.ref 21), some (.int x), some (.int xb), some (.int aa), some (.int bb), some (.int w), none, none]) (by decide +kernel) (Nat.le_of_ble_eq_true rfl) rfl ?_
  obtain ⟨vb, hvb, hcb⟩ := c3_bowAt_any (G := G) (n := n) hG hB hfb hc1 xb
  rcases hvb with rfl | ⟨ab, rfl⟩
  · skip
    refine ev_aload_n (i := 0) dX11_least_0 rfl rfl ?_
    refine ev_getf dX11_least_1 flX11_64 (by first | assumption | rfl) (by rfl) ?_
    refine ev_iload_n (i := 1) dX11_least_4 rfl rfl ?_
    refine ev_c2 kX11_least_5 (c3_stickAt_out hG hx) (ev_rv_of (by first | assumption | rfl) rfl rfl) (by decide) (by decide) (Nat.le_of_ble_eq_true rfl) ?_
    refine ev_astoreN dX11_least_8 (Nat.le_of_ble_eq_true rfl) rfl ?_
    refine ev_aload_n (i := 0) dX11_least_10 rfl rfl ?_
    refine ev_getf dX11_least_11 flX11_64 (by first | assumption | rfl) (by rfl) ?_
    refine ev_iload_n (i := 2) dX11_least_14 rfl rfl ?_
    refine ev_c2 kX11_least_15 (hcb) (ev_rv_of (by first | assumption | rfl) rfl rfl) (by decide) (by decide) (Nat.le_of_ble_eq_true rfl) ?_
    refine ev_astoreN dX11_least_18 (Nat.le_of_ble_eq_true rfl) rfl ?_
    refine ev_aloadN dX11_least_20 rfl ?_
    refine ev_ifnullN (tgt := 40) dX11_least_22 (by decide) ?_
    refine ev_iconst (v := (-1)) dX11_least_40 cni_m1 ?_
    exact ev_reti dX11_least_41 rfl rfl (⟨by first | rfl | simp [*], rfl⟩)
  · skip
    refine ev_aload_n (i := 0) dX11_least_0 rfl rfl ?_
    refine ev_getf dX11_least_1 flX11_64 (by first | assumption | rfl) (by rfl) ?_
    refine ev_iload_n (i := 1) dX11_least_4 rfl rfl ?_
    refine ev_c2 kX11_least_5 (c3_stickAt_out hG hx) (ev_rv_of (by first | assumption | rfl) rfl rfl) (by decide) (by decide) (Nat.le_of_ble_eq_true rfl) ?_
    refine ev_astoreN dX11_least_8 (Nat.le_of_ble_eq_true rfl) rfl ?_
    refine ev_aload_n (i := 0) dX11_least_10 rfl rfl ?_
    refine ev_getf dX11_least_11 flX11_64 (by first | assumption | rfl) (by rfl) ?_
    refine ev_iload_n (i := 2) dX11_least_14 rfl rfl ?_
    refine ev_c2 kX11_least_15 (hcb) (ev_rv_of (by first | assumption | rfl) rfl rfl) (by decide) (by decide) (Nat.le_of_ble_eq_true rfl) ?_
    refine ev_astore dX11_least_18 (Nat.le_of_ble_eq_true rfl) rfl ?_
    refine ev_aloadN dX11_least_20 rfl ?_
    refine ev_ifnullN (tgt := 40) dX11_least_22 (by decide) ?_
    refine ev_iconst (v := (-1)) dX11_least_40 cni_m1 ?_
    exact ev_reti dX11_least_41 rfl rfl (⟨by first | rfl | simp [*], rfl⟩)
theorem c12_least_b {G : ev_G} {n : Nat} {M : ev_M} {g g' c0 c1 c2 : Nat} {lot : Int32} (h20 : M 21 = .inr (11, [.ref 22, .ref 25, .ref 27, .ref 35, .ref 39, .ref 40, .ref 41, .ref 63, .ref g, .ref g', .int lot])) (hG : M g = .inr (3, [.ref (g + 1), .ref (g + 2), .ref (g + 3), .int (nI c0), .int (nI c1), .int (nI c2)])) {fa : Nat → Option Nat} (hA : M (g + 1) = .inl (2, 12, ev_q fa)) (hfa : ∀ i, i < 12 → fa i = some (g + 4 + i)) {j : Nat} (hj : j < c0) (hc : c0 ≤ 12) {xb aa bb w : Int32} (hxb : xb < 0 ∨ nI c1 ≤ xb) : ev_Cal G mX11_least 4 0 0 [.ref 21, .int (nI j), .int xb, .int aa, .int bb, .int w] n M (ev_is (some (.int (-1))) M) := by
  refine ev_Cal_of (L := [some (.ref 21), some (.int (nI j)), some (.int xb), some (.int aa), some (.int bb), some (.int w), none, none]) (by decide +kernel) (Nat.le_of_ble_eq_true rfl) rfl ?_
  refine ev_aload_n (i := 0) dX11_least_0 rfl rfl ?_
  refine ev_getf dX11_least_1 flX11_64 (by first | assumption | rfl) (by rfl) ?_
  refine ev_iload_n (i := 1) dX11_least_4 rfl rfl ?_
  refine ev_c2 kX11_least_5 (c3_stickAt_in hG hA hfa hj hc) (ev_rv_of (by first | assumption | rfl) rfl rfl) (by decide) (by decide) (Nat.le_of_ble_eq_true rfl) ?_
  refine ev_astore dX11_least_8 (Nat.le_of_ble_eq_true rfl) rfl ?_
  refine ev_aload_n (i := 0) dX11_least_10 rfl rfl ?_
  refine ev_getf dX11_least_11 flX11_64 (by first | assumption | rfl) (by rfl) ?_
  refine ev_iload_n (i := 2) dX11_least_14 rfl rfl ?_
  refine ev_c2 kX11_least_15 (c3_bowAt_out hG hxb) (ev_rv_of (by first | assumption | rfl) rfl rfl) (by decide) (by decide) (Nat.le_of_ble_eq_true rfl) ?_
  refine ev_astoreN dX11_least_18 (Nat.le_of_ble_eq_true rfl) rfl ?_
  refine ev_aload dX11_least_20 rfl ?_
  refine ev_ifnull dX11_least_22 ?_
  refine ev_aloadN dX11_least_25 rfl ?_
  refine ev_ifnullN (tgt := 40) dX11_least_27 (by decide) ?_
  refine ev_iconst (v := (-1)) dX11_least_40 cni_m1 ?_
  exact ev_reti dX11_least_41 rfl rfl (⟨by first | rfl | simp [*], rfl⟩)
theorem sp_m60 {k : Nat} (h : k < 2 ^ 30) : (nI k - 60).toInt = (k : Int) - 60 := by
  rw [Int32.toInt_sub, nI_toInt (by omega), show (60 : Int32).toInt = 60 from by decide]
  exact Int.bmod_eq_of_le (by omega) (by omega)
theorem sp_m60_lt {k : Nat} (h : 120 < k) (h2 : k < 2 ^ 30) : (60 : Int32) < nI k - 60 := by rw [Int32.lt_iff_toInt_lt, sp_m60 h2, show (60 : Int32).toInt = 60 from by decide]; omega
theorem sp_m60_le {k : Nat} (h : k ≤ 120) : nI k - 60 ≤ (60 : Int32) := by rw [Int32.le_iff_toInt_le, sp_m60 (by omega), show (60 : Int32).toInt = 60 from by decide]; omega
theorem l12_band_0 {G : ev_G} {n : Nat} {M : ev_M} {g g' c0 c1 c2 : Nat} {lot : Int32} (h20 : M 21 = .inr (11, [.ref 22, .ref 25, .ref 27, .ref 35, .ref 39, .ref 40, .ref 41, .ref 63, .ref g, .ref g', .int lot])) (hG : M g = .inr (3, [.ref (g + 1), .ref (g + 2), .ref (g + 3), .int (nI c0), .int (nI c1), .int (nI c2)])) {fb : Nat → Option Nat} (hB : M (g + 2) = .inl (3, 3, ev_q fb)) (hfb : ∀ i, i < 3 → fb i = some (g + 16 + i)) {b : Nat} (hb : b < c1) (hc1 : c1 ≤ 3) {dr wi : Int32} (hW : M (g + 16 + b) = .inr (1, [.int dr, .int wi])) {tu : Nat → Int32} (hT : M 25 = .inr (10, [.ref 26])) (hV : M 26 = .inl (0, 4, .inl tu)) {len tip : Int32} : ∀ (m k : Nat), k + m = 80 → ev_E G mX11_band 3 0 0 n M 60 [some (.ref 21), some (.int (nI b)), some (.int len), some (.int tip), some (.int 0), some (.ref (g + 16 + b)), some (.int (sp_first (sb_band tu len tip dr wi) sb_v20 (-9) k)), some (.int (nI (20 + k)))] [] (ev_is (some (.int (sp_first (sb_band tu len tip dr wi) sb_v20 (-9) 80))) M) := by
  intro m
  induction m with
  | zero =>
    intro k hk
    refine ev_iload dX11_band_60 rfl ?_
    refine ev_bipush (v := 99) dX11_band_62 cnb_99 ?_
    refine ev_icmp_gt (tgt := 116) dX11_band_64 (by decide) (fun h64 => ?_) (fun h64 => False.elim (Int32.not_lt.mpr h64 (nI_lt (a := 99) (b := 20 + k) (by omega) (by omega))))
    refine ev_iload dX11_band_116 rfl ?_
    exact ev_reti dX11_band_118 rfl rfl (⟨by rw [show k = 80 by omega], rfl⟩)
  | succ m ih =>
    intro k hk
    refine ev_iload dX11_band_60 rfl ?_
    refine ev_bipush (v := 99) dX11_band_62 cnb_99 ?_
    refine ev_icmp_gt (tgt := 116) dX11_band_64 (by decide) (fun h64 => False.elim (Int32.not_lt.mpr (nI_le (a := 20 + k) (b := 99) (by omega) (by decide)) h64)) (fun h64 => ?_)
    refine ev_aload_n (i := 0) dX11_band_67 rfl rfl ?_
    refine ev_getf dX11_band_68 flX11_19 (by first | assumption | rfl) (by rfl) ?_
    refine ev_iload dX11_band_71 rfl ?_
    refine ev_iload_n (i := 2) dX11_band_73 rfl rfl ?_
    refine ev_iload_n (i := 3) dX11_band_74 rfl rfl ?_
    refine ev_c3 kX11_band_75 (c12_spineOf) trivial (by decide) (by decide) (Nat.le_of_ble_eq_true rfl) ?_
    refine ev_aload dX11_band_78 rfl ?_
    refine ev_c1 kX11_band_80 (c1_need hW) (ev_rv_of (by first | assumption | rfl) rfl rfl) (by decide) (by decide) (Nat.le_of_ble_eq_true rfl) ?_
    refine ev_isub dX11_band_83 ?_
    refine ev_c2 kX11_band_84 (c11_isClean hT hV) (ev_rv_of (by first | assumption | rfl) rfl rfl) (by decide) (by decide) (Nat.le_of_ble_eq_true rfl) ?_
    refine ev_if_neb (tgt := 93) dX11_band_87 (by decide) (fun h87 => ?_) (fun h87 => ?_)
    · skip
      refine ev_iload dX11_band_93 rfl ?_
      refine ev_bipush (v := (-9)) dX11_band_95 cnb_m9 ?_
      refine ev_icmp_eq (tgt := 106) dX11_band_97 (by decide) (fun h97 => ?_) (fun h97 => ?_)
      · skip
        refine ev_iload dX11_band_106 rfl ?_
        refine ev_istore dX11_band_108 (Nat.le_of_ble_eq_true rfl) rfl ?_
        refine ev_iinc (v := nI (20 + (k + 1))) dX11_band_110 rfl (by show nI (20 + k) + nI 1 = nI (20 + (k + 1)); rw [nI_add, Nat.add_assoc]) (Nat.le_of_ble_eq_true rfl) rfl ?_
        refine ev_goto (tgt := 60) dX11_band_113 (by decide) ?_
        exact ev_loc (L2 := [some (.ref 21), some (.int (nI b)), some (.int len), some (.int tip), some (.int 0), some (.ref (g + 16 + b)), some (.int (sp_first (sb_band tu len tip dr wi) sb_v20 (-9) (k + 1))), some (.int (nI (20 + (k + 1))))]) (by first | (rw [sp_first_1 (P := (sb_band tu len tip dr wi)) (v := sb_v20) (z := (-9)) (k := k) h87 h97]; rfl) | (rw [sp_first_2 (P := (sb_band tu len tip dr wi)) (v := sb_v20) (z := (-9)) (k := k) h87 h97]; rfl) | (rw [sp_first_0 (P := (sb_band tu len tip dr wi)) (v := sb_v20) (z := (-9)) (k := k) h87]; rfl)) (ih (k + 1) (by omega))
      · skip
        refine ev_iload dX11_band_100 rfl ?_
        refine ev_iconst (v := 1) dX11_band_102 cni_1 ?_
        refine ev_icmp_ne (tgt := 110) dX11_band_103 (by decide) (fun h103 => ?_) (fun h103 => False.elim (absurd h103 (by decide)))
        refine ev_iinc (v := nI (20 + (k + 1))) dX11_band_110 rfl (by show nI (20 + k) + nI 1 = nI (20 + (k + 1)); rw [nI_add, Nat.add_assoc]) (Nat.le_of_ble_eq_true rfl) rfl ?_
        refine ev_goto (tgt := 60) dX11_band_113 (by decide) ?_
        exact ev_loc (L2 := [some (.ref 21), some (.int (nI b)), some (.int len), some (.int tip), some (.int 0), some (.ref (g + 16 + b)), some (.int (sp_first (sb_band tu len tip dr wi) sb_v20 (-9) (k + 1))), some (.int (nI (20 + (k + 1))))]) (by first | (rw [sp_first_1 (P := (sb_band tu len tip dr wi)) (v := sb_v20) (z := (-9)) (k := k) h87 h97]; rfl) | (rw [sp_first_2 (P := (sb_band tu len tip dr wi)) (v := sb_v20) (z := (-9)) (k := k) h87 h97]; rfl) | (rw [sp_first_0 (P := (sb_band tu len tip dr wi)) (v := sb_v20) (z := (-9)) (k := k) h87]; rfl)) (ih (k + 1) (by omega))
    · skip
      refine ev_goto (tgt := 110) dX11_band_90 (by decide) ?_
      refine ev_iinc (v := nI (20 + (k + 1))) dX11_band_110 rfl (by show nI (20 + k) + nI 1 = nI (20 + (k + 1)); rw [nI_add, Nat.add_assoc]) (Nat.le_of_ble_eq_true rfl) rfl ?_
      refine ev_goto (tgt := 60) dX11_band_113 (by decide) ?_
      exact ev_loc (L2 := [some (.ref 21), some (.int (nI b)), some (.int len), some (.int tip), some (.int 0), some (.ref (g + 16 + b)), some (.int (sp_first (sb_band tu len tip dr wi) sb_v20 (-9) (k + 1))), some (.int (nI (20 + (k + 1))))]) (by first | (rw [sp_first_1 (P := (sb_band tu len tip dr wi)) (v := sb_v20) (z := (-9)) (k := k) h87 h97]; rfl) | (rw [sp_first_2 (P := (sb_band tu len tip dr wi)) (v := sb_v20) (z := (-9)) (k := k) h87 h97]; rfl) | (rw [sp_first_0 (P := (sb_band tu len tip dr wi)) (v := sb_v20) (z := (-9)) (k := k) h87]; rfl)) (ih (k + 1) (by omega))
theorem c12_band_0 {G : ev_G} {n : Nat} {M : ev_M} {g g' c0 c1 c2 : Nat} {lot : Int32} (h20 : M 21 = .inr (11, [.ref 22, .ref 25, .ref 27, .ref 35, .ref 39, .ref 40, .ref 41, .ref 63, .ref g, .ref g', .int lot])) (hG : M g = .inr (3, [.ref (g + 1), .ref (g + 2), .ref (g + 3), .int (nI c0), .int (nI c1), .int (nI c2)])) {fb : Nat → Option Nat} (hB : M (g + 2) = .inl (3, 3, ev_q fb)) (hfb : ∀ i, i < 3 → fb i = some (g + 16 + i)) {b : Nat} (hb : b < c1) (hc1 : c1 ≤ 3) {dr wi : Int32} (hW : M (g + 16 + b) = .inr (1, [.int dr, .int wi])) {tu : Nat → Int32} (hT : M 25 = .inr (10, [.ref 26])) (hV : M 26 = .inl (0, 4, .inl tu)) {len tip : Int32} (hl : sp_in len 80 130 = true) (ht : sp_in tip 0 200 = true) : ev_Cal G mX11_band 3 0 0 [.ref 21, .int (nI b), .int len, .int tip, .int 0] n M (ev_is (some (.int (sp_first (sb_band tu len tip dr wi) sb_v20 (-9) 80))) M) := by
  refine ev_Cal_of (L := [some (.ref 21), some (.int (nI b)), some (.int len), some (.int tip), some (.int 0), none, none, none]) (by decide +kernel) (Nat.le_of_ble_eq_true rfl) rfl ?_
  refine ev_aload_n (i := 0) dX11_band_0 rfl rfl ?_
  refine ev_getf dX11_band_1 flX11_64 (by first | assumption | rfl) (by rfl) ?_
  refine ev_iload_n (i := 1) dX11_band_4 rfl rfl ?_
  refine ev_c2 kX11_band_5 (c3_bowAt_in hG hB hfb hb hc1) (ev_rv_of (by first | assumption | rfl) rfl rfl) (by decide) (by decide) (Nat.le_of_ble_eq_true rfl) ?_
  refine ev_astore dX11_band_8 (Nat.le_of_ble_eq_true rfl) rfl ?_
  refine ev_aload dX11_band_10 rfl ?_
  refine ev_ifnull dX11_band_12 ?_
  refine ev_iload_n (i := 2) dX11_band_15 rfl rfl ?_
  refine ev_bipush (v := 80) dX11_band_16 cnb_80 ?_
  refine ev_sipush (v := 130) dX11_band_18 cns_130 ?_
  refine ev_c3 kX11_band_21 (c12_within) trivial (by decide) (by decide) (Nat.le_of_ble_eq_true rfl) ?_
  refine ev_if_neb (tgt := 29) dX11_band_24 (by decide) (fun h24 => ?_) (fun h24 => False.elim (Bool.false_ne_true (h24.symm.trans (hl))))
  refine ev_iload_n (i := 3) dX11_band_29 rfl rfl ?_
  refine ev_iconst (v := 0) dX11_band_30 cni_0 ?_
  refine ev_sipush (v := 200) dX11_band_31 cns_200 ?_
  refine ev_c3 kX11_band_34 (c12_within) trivial (by decide) (by decide) (Nat.le_of_ble_eq_true rfl) ?_
  refine ev_if_eqb (tgt := 50) dX11_band_37 (by decide) (fun h37 => False.elim (Bool.false_ne_true (h37.symm.trans (ht)))) (fun h37 => ?_)
  refine ev_iload dX11_band_40 rfl ?_
  refine ev_iconst (v := 0) dX11_band_42 cni_0 ?_
  refine ev_iconst (v := 1) dX11_band_43 cni_1 ?_
  refine ev_c3 kX11_band_44 (c12_within) trivial (by decide) (by decide) (Nat.le_of_ble_eq_true rfl) ?_
  refine ev_if_neb (tgt := 52) dX11_band_47 (by decide) (fun h47 => ?_) (fun h47 => False.elim (Bool.false_ne_true (h47.symm.trans (by decide))))
  refine ev_bipush (v := (-9)) dX11_band_52 cnb_m9 ?_
  refine ev_istore dX11_band_54 (Nat.le_of_ble_eq_true rfl) rfl ?_
  refine ev_bipush (v := 20) dX11_band_56 cnb_20 ?_
  refine ev_istore dX11_band_58 (Nat.le_of_ble_eq_true rfl) rfl ?_
  exact l12_band_0 h20 hG hB hfb hb hc1 hW hT hV 80 0 rfl
theorem l12_band_1 {G : ev_G} {n : Nat} {M : ev_M} {g g' c0 c1 c2 : Nat} {lot : Int32} (h20 : M 21 = .inr (11, [.ref 22, .ref 25, .ref 27, .ref 35, .ref 39, .ref 40, .ref 41, .ref 63, .ref g, .ref g', .int lot])) (hG : M g = .inr (3, [.ref (g + 1), .ref (g + 2), .ref (g + 3), .int (nI c0), .int (nI c1), .int (nI c2)])) {fb : Nat → Option Nat} (hB : M (g + 2) = .inl (3, 3, ev_q fb)) (hfb : ∀ i, i < 3 → fb i = some (g + 16 + i)) {b : Nat} (hb : b < c1) (hc1 : c1 ≤ 3) {dr wi : Int32} (hW : M (g + 16 + b) = .inr (1, [.int dr, .int wi])) {tu : Nat → Int32} (hT : M 25 = .inr (10, [.ref 26])) (hV : M 26 = .inl (0, 4, .inl tu)) {len tip : Int32} : ∀ (m k : Nat), k + m = 80 → ev_E G mX11_band 3 0 0 n M 60 [some (.ref 21), some (.int (nI b)), some (.int len), some (.int tip), some (.int 1), some (.ref (g + 16 + b)), some (.int (sp_last (sb_band tu len tip dr wi) sb_v20 (-9) k)), some (.int (nI (20 + k)))] [] (ev_is (some (.int (sp_last (sb_band tu len tip dr wi) sb_v20 (-9) 80))) M) := by
  intro m
  induction m with
  | zero =>
    intro k hk
    refine ev_iload dX11_band_60 rfl ?_
    refine ev_bipush (v := 99) dX11_band_62 cnb_99 ?_
    refine ev_icmp_gt (tgt := 116) dX11_band_64 (by decide) (fun h64 => ?_) (fun h64 => False.elim (Int32.not_lt.mpr h64 (nI_lt (a := 99) (b := 20 + k) (by omega) (by omega))))
    refine ev_iload dX11_band_116 rfl ?_
    exact ev_reti dX11_band_118 rfl rfl (⟨by rw [show k = 80 by omega], rfl⟩)
  | succ m ih =>
    intro k hk
    refine ev_iload dX11_band_60 rfl ?_
    refine ev_bipush (v := 99) dX11_band_62 cnb_99 ?_
    refine ev_icmp_gt (tgt := 116) dX11_band_64 (by decide) (fun h64 => False.elim (Int32.not_lt.mpr (nI_le (a := 20 + k) (b := 99) (by omega) (by decide)) h64)) (fun h64 => ?_)
    refine ev_aload_n (i := 0) dX11_band_67 rfl rfl ?_
    refine ev_getf dX11_band_68 flX11_19 (by first | assumption | rfl) (by rfl) ?_
    refine ev_iload dX11_band_71 rfl ?_
    refine ev_iload_n (i := 2) dX11_band_73 rfl rfl ?_
    refine ev_iload_n (i := 3) dX11_band_74 rfl rfl ?_
    refine ev_c3 kX11_band_75 (c12_spineOf) trivial (by decide) (by decide) (Nat.le_of_ble_eq_true rfl) ?_
    refine ev_aload dX11_band_78 rfl ?_
    refine ev_c1 kX11_band_80 (c1_need hW) (ev_rv_of (by first | assumption | rfl) rfl rfl) (by decide) (by decide) (Nat.le_of_ble_eq_true rfl) ?_
    refine ev_isub dX11_band_83 ?_
    refine ev_c2 kX11_band_84 (c11_isClean hT hV) (ev_rv_of (by first | assumption | rfl) rfl rfl) (by decide) (by decide) (Nat.le_of_ble_eq_true rfl) ?_
    refine ev_if_neb (tgt := 93) dX11_band_87 (by decide) (fun h87 => ?_) (fun h87 => ?_)
    · skip
      refine ev_iload dX11_band_93 rfl ?_
      refine ev_bipush (v := (-9)) dX11_band_95 cnb_m9 ?_
      refine ev_icmp_eq (tgt := 106) dX11_band_97 (by decide) (fun h97 => ?_) (fun h97 => ?_)
      · skip
        refine ev_iload dX11_band_106 rfl ?_
        refine ev_istore dX11_band_108 (Nat.le_of_ble_eq_true rfl) rfl ?_
        refine ev_iinc (v := nI (20 + (k + 1))) dX11_band_110 rfl (by show nI (20 + k) + nI 1 = nI (20 + (k + 1)); rw [nI_add, Nat.add_assoc]) (Nat.le_of_ble_eq_true rfl) rfl ?_
        refine ev_goto (tgt := 60) dX11_band_113 (by decide) ?_
        exact ev_loc (L2 := [some (.ref 21), some (.int (nI b)), some (.int len), some (.int tip), some (.int 1), some (.ref (g + 16 + b)), some (.int (sp_last (sb_band tu len tip dr wi) sb_v20 (-9) (k + 1))), some (.int (nI (20 + (k + 1))))]) (by first | (rw [sp_last_1 (P := (sb_band tu len tip dr wi)) (v := sb_v20) (z := (-9)) (k := k) h87]; rfl) | (rw [sp_last_0 (P := (sb_band tu len tip dr wi)) (v := sb_v20) (z := (-9)) (k := k) h87]; rfl)) (ih (k + 1) (by omega))
      · skip
        refine ev_iload dX11_band_100 rfl ?_
        refine ev_iconst (v := 1) dX11_band_102 cni_1 ?_
        refine ev_icmp_ne (tgt := 110) dX11_band_103 (by decide) (fun h103 => False.elim (absurd rfl h103)) (fun h103 => ?_)
        refine ev_iload dX11_band_106 rfl ?_
        refine ev_istore dX11_band_108 (Nat.le_of_ble_eq_true rfl) rfl ?_
        refine ev_iinc (v := nI (20 + (k + 1))) dX11_band_110 rfl (by show nI (20 + k) + nI 1 = nI (20 + (k + 1)); rw [nI_add, Nat.add_assoc]) (Nat.le_of_ble_eq_true rfl) rfl ?_
        refine ev_goto (tgt := 60) dX11_band_113 (by decide) ?_
        exact ev_loc (L2 := [some (.ref 21), some (.int (nI b)), some (.int len), some (.int tip), some (.int 1), some (.ref (g + 16 + b)), some (.int (sp_last (sb_band tu len tip dr wi) sb_v20 (-9) (k + 1))), some (.int (nI (20 + (k + 1))))]) (by first | (rw [sp_last_1 (P := (sb_band tu len tip dr wi)) (v := sb_v20) (z := (-9)) (k := k) h87]; rfl) | (rw [sp_last_0 (P := (sb_band tu len tip dr wi)) (v := sb_v20) (z := (-9)) (k := k) h87]; rfl)) (ih (k + 1) (by omega))
    · skip
      refine ev_goto (tgt := 110) dX11_band_90 (by decide) ?_
      refine ev_iinc (v := nI (20 + (k + 1))) dX11_band_110 rfl (by show nI (20 + k) + nI 1 = nI (20 + (k + 1)); rw [nI_add, Nat.add_assoc]) (Nat.le_of_ble_eq_true rfl) rfl ?_
      refine ev_goto (tgt := 60) dX11_band_113 (by decide) ?_
      exact ev_loc (L2 := [some (.ref 21), some (.int (nI b)), some (.int len), some (.int tip), some (.int 1), some (.ref (g + 16 + b)), some (.int (sp_last (sb_band tu len tip dr wi) sb_v20 (-9) (k + 1))), some (.int (nI (20 + (k + 1))))]) (by first | (rw [sp_last_1 (P := (sb_band tu len tip dr wi)) (v := sb_v20) (z := (-9)) (k := k) h87]; rfl) | (rw [sp_last_0 (P := (sb_band tu len tip dr wi)) (v := sb_v20) (z := (-9)) (k := k) h87]; rfl)) (ih (k + 1) (by omega))
theorem c12_band_1 {G : ev_G} {n : Nat} {M : ev_M} {g g' c0 c1 c2 : Nat} {lot : Int32} (h20 : M 21 = .inr (11, [.ref 22, .ref 25, .ref 27, .ref 35, .ref 39, .ref 40, .ref 41, .ref 63, .ref g, .ref g', .int lot])) (hG : M g = .inr (3, [.ref (g + 1), .ref (g + 2), .ref (g + 3), .int (nI c0), .int (nI c1), .int (nI c2)])) {fb : Nat → Option Nat} (hB : M (g + 2) = .inl (3, 3, ev_q fb)) (hfb : ∀ i, i < 3 → fb i = some (g + 16 + i)) {b : Nat} (hb : b < c1) (hc1 : c1 ≤ 3) {dr wi : Int32} (hW : M (g + 16 + b) = .inr (1, [.int dr, .int wi])) {tu : Nat → Int32} (hT : M 25 = .inr (10, [.ref 26])) (hV : M 26 = .inl (0, 4, .inl tu)) {len tip : Int32} (hl : sp_in len 80 130 = true) (ht : sp_in tip 0 200 = true) : ev_Cal G mX11_band 3 0 0 [.ref 21, .int (nI b), .int len, .int tip, .int 1] n M (ev_is (some (.int (sp_last (sb_band tu len tip dr wi) sb_v20 (-9) 80))) M) := by
  refine ev_Cal_of (L := [some (.ref 21), some (.int (nI b)), some (.int len), some (.int tip), some (.int 1), none, none, none]) (by decide +kernel) (Nat.le_of_ble_eq_true rfl) rfl ?_
  refine ev_aload_n (i := 0) dX11_band_0 rfl rfl ?_
  refine ev_getf dX11_band_1 flX11_64 (by first | assumption | rfl) (by rfl) ?_
  refine ev_iload_n (i := 1) dX11_band_4 rfl rfl ?_
  refine ev_c2 kX11_band_5 (c3_bowAt_in hG hB hfb hb hc1) (ev_rv_of (by first | assumption | rfl) rfl rfl) (by decide) (by decide) (Nat.le_of_ble_eq_true rfl) ?_
  refine ev_astore dX11_band_8 (Nat.le_of_ble_eq_true rfl) rfl ?_
  refine ev_aload dX11_band_10 rfl ?_
  refine ev_ifnull dX11_band_12 ?_
  refine ev_iload_n (i := 2) dX11_band_15 rfl rfl ?_
  refine ev_bipush (v := 80) dX11_band_16 cnb_80 ?_
  refine ev_sipush (v := 130) dX11_band_18 cns_130 ?_
  refine ev_c3 kX11_band_21 (c12_within) trivial (by decide) (by decide) (Nat.le_of_ble_eq_true rfl) ?_
  refine ev_if_neb (tgt := 29) dX11_band_24 (by decide) (fun h24 => ?_) (fun h24 => False.elim (Bool.false_ne_true (h24.symm.trans (hl))))
  refine ev_iload_n (i := 3) dX11_band_29 rfl rfl ?_
  refine ev_iconst (v := 0) dX11_band_30 cni_0 ?_
  refine ev_sipush (v := 200) dX11_band_31 cns_200 ?_
  refine ev_c3 kX11_band_34 (c12_within) trivial (by decide) (by decide) (Nat.le_of_ble_eq_true rfl) ?_
  refine ev_if_eqb (tgt := 50) dX11_band_37 (by decide) (fun h37 => False.elim (Bool.false_ne_true (h37.symm.trans (ht)))) (fun h37 => ?_)
  refine ev_iload dX11_band_40 rfl ?_
  refine ev_iconst (v := 0) dX11_band_42 cni_0 ?_
  refine ev_iconst (v := 1) dX11_band_43 cni_1 ?_
  refine ev_c3 kX11_band_44 (c12_within) trivial (by decide) (by decide) (Nat.le_of_ble_eq_true rfl) ?_
  refine ev_if_neb (tgt := 52) dX11_band_47 (by decide) (fun h47 => ?_) (fun h47 => False.elim (Bool.false_ne_true (h47.symm.trans (by decide))))
  refine ev_bipush (v := (-9)) dX11_band_52 cnb_m9 ?_
  refine ev_istore dX11_band_54 (Nat.le_of_ble_eq_true rfl) rfl ?_
  refine ev_bipush (v := 20) dX11_band_56 cnb_20 ?_
  refine ev_istore dX11_band_58 (Nat.le_of_ble_eq_true rfl) rfl ?_
  exact l12_band_1 h20 hG hB hfb hb hc1 hW hT hV 80 0 rfl
theorem l12_wreck_0 {G : ev_G} {n : Nat} {M : ev_M} {g g' c0 c1 c2 : Nat} {lot : Int32} (h20 : M 21 = .inr (11, [.ref 22, .ref 25, .ref 27, .ref 35, .ref 39, .ref 40, .ref 41, .ref 63, .ref g, .ref g', .int lot])) (hG : M g = .inr (3, [.ref (g + 1), .ref (g + 2), .ref (g + 3), .int (nI c0), .int (nI c1), .int (nI c2)])) {fa : Nat → Option Nat} (hA : M (g + 1) = .inl (2, 12, ev_q fa)) (hfa : ∀ i, i < 12 → fa i = some (g + 4 + i)) {j : Nat} (hj : j < c0) (hc : c0 ≤ 12) {s : Nat → Int32} (hS : M (g + 4 + j) = .inr (9, [.int (s 0), .int (s 1), .int (s 2), .int (s 3), .int (s 4), .int (s 5), .int (s 6)])) {tu : Nat → Int32} (hT : M 25 = .inr (10, [.ref 26])) (hV : M 26 = .inl (0, 4, .inl tu)) {wide : Int32} : ∀ (m k : Nat), k + m = 51 → ev_E G mX11_wreck 5 0 0 n M 44 [some (.ref 21), some (.int (nI j)), some (.int wide), some (.int 0), some (.ref (g + 4 + j)), some (.int (sp_first (sb_wreck tu s wide) sb_v20 (-9) k)), some (.int (nI (20 + k)))] [] (ev_is (some (.int (sp_first (sb_wreck tu s wide) sb_v20 (-9) 51))) M) := by
  intro m
  induction m with
  | zero =>
    intro k hk
    refine ev_iload dX11_wreck_44 rfl ?_
    refine ev_bipush (v := 70) dX11_wreck_46 cnb_70 ?_
    refine ev_icmp_gt (tgt := 98) dX11_wreck_48 (by decide) (fun h48 => ?_) (fun h48 => False.elim (Int32.not_lt.mpr h48 (nI_lt (a := 70) (b := 20 + k) (by omega) (by omega))))
    refine ev_iload dX11_wreck_98 rfl ?_
    exact ev_reti dX11_wreck_100 rfl rfl (⟨by rw [show k = 51 by omega], rfl⟩)
  | succ m ih =>
    intro k hk
    refine ev_iload dX11_wreck_44 rfl ?_
    refine ev_bipush (v := 70) dX11_wreck_46 cnb_70 ?_
    refine ev_icmp_gt (tgt := 98) dX11_wreck_48 (by decide) (fun h48 => False.elim (Int32.not_lt.mpr (nI_le (a := 20 + k) (b := 70) (by omega) (by decide)) h48)) (fun h48 => ?_)
    refine ev_aload_n (i := 0) dX11_wreck_51 rfl rfl ?_
    refine ev_getf dX11_wreck_52 flX11_19 (by first | assumption | rfl) (by rfl) ?_
    refine ev_aload dX11_wreck_55 rfl ?_
    refine ev_c1 kX11_wreck_57 (c9_spine hS) (ev_rv_of (by first | assumption | rfl) rfl rfl) (by decide) (by decide) (Nat.le_of_ble_eq_true rfl) ?_
    refine ev_iload dX11_wreck_60 rfl ?_
    refine ev_iload_n (i := 2) dX11_wreck_62 rfl rfl ?_
    refine ev_c2 kX11_wreck_63 (c12_needOf) trivial (by decide) (by decide) (Nat.le_of_ble_eq_true rfl) ?_
    refine ev_isub dX11_wreck_66 ?_
    refine ev_c2 kX11_wreck_67 (c11_isClean hT hV) (ev_rv_of (by first | assumption | rfl) rfl rfl) (by decide) (by decide) (Nat.le_of_ble_eq_true rfl) ?_
    refine ev_if_neb (tgt := 76) dX11_wreck_70 (by decide) (fun h70 => ?_) (fun h70 => ?_)
    · skip
      refine ev_iload dX11_wreck_76 rfl ?_
      refine ev_bipush (v := (-9)) dX11_wreck_78 cnb_m9 ?_
      refine ev_icmp_eq (tgt := 88) dX11_wreck_80 (by decide) (fun h80 => ?_) (fun h80 => ?_)
      · skip
        refine ev_iload dX11_wreck_88 rfl ?_
        refine ev_istore dX11_wreck_90 (Nat.le_of_ble_eq_true rfl) rfl ?_
        refine ev_iinc (v := nI (20 + (k + 1))) dX11_wreck_92 rfl (by show nI (20 + k) + nI 1 = nI (20 + (k + 1)); rw [nI_add, Nat.add_assoc]) (Nat.le_of_ble_eq_true rfl) rfl ?_
        refine ev_goto (tgt := 44) dX11_wreck_95 (by decide) ?_
        exact ev_loc (L2 := [some (.ref 21), some (.int (nI j)), some (.int wide), some (.int 0), some (.ref (g + 4 + j)), some (.int (sp_first (sb_wreck tu s wide) sb_v20 (-9) (k + 1))), some (.int (nI (20 + (k + 1))))]) (by first | (rw [sp_first_1 (P := (sb_wreck tu s wide)) (v := sb_v20) (z := (-9)) (k := k) h70 h80]; rfl) | (rw [sp_first_2 (P := (sb_wreck tu s wide)) (v := sb_v20) (z := (-9)) (k := k) h70 h80]; rfl) | (rw [sp_first_0 (P := (sb_wreck tu s wide)) (v := sb_v20) (z := (-9)) (k := k) h70]; rfl)) (ih (k + 1) (by omega))
      · skip
        refine ev_iload_n (i := 3) dX11_wreck_83 rfl rfl ?_
        refine ev_iconst (v := 1) dX11_wreck_84 cni_1 ?_
        refine ev_icmp_ne (tgt := 92) dX11_wreck_85 (by decide) (fun h85 => ?_) (fun h85 => False.elim (absurd h85 (by decide)))
        refine ev_iinc (v := nI (20 + (k + 1))) dX11_wreck_92 rfl (by show nI (20 + k) + nI 1 = nI (20 + (k + 1)); rw [nI_add, Nat.add_assoc]) (Nat.le_of_ble_eq_true rfl) rfl ?_
        refine ev_goto (tgt := 44) dX11_wreck_95 (by decide) ?_
        exact ev_loc (L2 := [some (.ref 21), some (.int (nI j)), some (.int wide), some (.int 0), some (.ref (g + 4 + j)), some (.int (sp_first (sb_wreck tu s wide) sb_v20 (-9) (k + 1))), some (.int (nI (20 + (k + 1))))]) (by first | (rw [sp_first_1 (P := (sb_wreck tu s wide)) (v := sb_v20) (z := (-9)) (k := k) h70 h80]; rfl) | (rw [sp_first_2 (P := (sb_wreck tu s wide)) (v := sb_v20) (z := (-9)) (k := k) h70 h80]; rfl) | (rw [sp_first_0 (P := (sb_wreck tu s wide)) (v := sb_v20) (z := (-9)) (k := k) h70]; rfl)) (ih (k + 1) (by omega))
    · skip
      refine ev_goto (tgt := 92) dX11_wreck_73 (by decide) ?_
      refine ev_iinc (v := nI (20 + (k + 1))) dX11_wreck_92 rfl (by show nI (20 + k) + nI 1 = nI (20 + (k + 1)); rw [nI_add, Nat.add_assoc]) (Nat.le_of_ble_eq_true rfl) rfl ?_
      refine ev_goto (tgt := 44) dX11_wreck_95 (by decide) ?_
      exact ev_loc (L2 := [some (.ref 21), some (.int (nI j)), some (.int wide), some (.int 0), some (.ref (g + 4 + j)), some (.int (sp_first (sb_wreck tu s wide) sb_v20 (-9) (k + 1))), some (.int (nI (20 + (k + 1))))]) (by first | (rw [sp_first_1 (P := (sb_wreck tu s wide)) (v := sb_v20) (z := (-9)) (k := k) h70 h80]; rfl) | (rw [sp_first_2 (P := (sb_wreck tu s wide)) (v := sb_v20) (z := (-9)) (k := k) h70 h80]; rfl) | (rw [sp_first_0 (P := (sb_wreck tu s wide)) (v := sb_v20) (z := (-9)) (k := k) h70]; rfl)) (ih (k + 1) (by omega))
theorem c12_wreck_0 {G : ev_G} {n : Nat} {M : ev_M} {g g' c0 c1 c2 : Nat} {lot : Int32} (h20 : M 21 = .inr (11, [.ref 22, .ref 25, .ref 27, .ref 35, .ref 39, .ref 40, .ref 41, .ref 63, .ref g, .ref g', .int lot])) (hG : M g = .inr (3, [.ref (g + 1), .ref (g + 2), .ref (g + 3), .int (nI c0), .int (nI c1), .int (nI c2)])) {fa : Nat → Option Nat} (hA : M (g + 1) = .inl (2, 12, ev_q fa)) (hfa : ∀ i, i < 12 → fa i = some (g + 4 + i)) {j : Nat} (hj : j < c0) (hc : c0 ≤ 12) {s : Nat → Int32} (hS : M (g + 4 + j) = .inr (9, [.int (s 0), .int (s 1), .int (s 2), .int (s 3), .int (s 4), .int (s 5), .int (s 6)])) {tu : Nat → Int32} (hT : M 25 = .inr (10, [.ref 26])) (hV : M 26 = .inl (0, 4, .inl tu)) {wide : Int32} (hw : sp_in wide 0 9 = true) : ev_Cal G mX11_wreck 5 0 0 [.ref 21, .int (nI j), .int wide, .int 0] n M (ev_is (some (.int (sp_first (sb_wreck tu s wide) sb_v20 (-9) 51))) M) := by
  refine ev_Cal_of (L := [some (.ref 21), some (.int (nI j)), some (.int wide), some (.int 0), none, none, none]) (by decide +kernel) (Nat.le_of_ble_eq_true rfl) rfl ?_
  refine ev_aload_n (i := 0) dX11_wreck_0 rfl rfl ?_
  refine ev_getf dX11_wreck_1 flX11_64 (by first | assumption | rfl) (by rfl) ?_
  refine ev_iload_n (i := 1) dX11_wreck_4 rfl rfl ?_
  refine ev_c2 kX11_wreck_5 (c3_stickAt_in hG hA hfa hj hc) (ev_rv_of (by first | assumption | rfl) rfl rfl) (by decide) (by decide) (Nat.le_of_ble_eq_true rfl) ?_
  refine ev_astore dX11_wreck_8 (Nat.le_of_ble_eq_true rfl) rfl ?_
  refine ev_aload dX11_wreck_10 rfl ?_
  refine ev_ifnull dX11_wreck_12 ?_
  refine ev_iload_n (i := 2) dX11_wreck_15 rfl rfl ?_
  refine ev_iconst (v := 0) dX11_wreck_16 cni_0 ?_
  refine ev_bipush (v := 9) dX11_wreck_17 cnb_9 ?_
  refine ev_c3 kX11_wreck_19 (c12_within) trivial (by decide) (by decide) (Nat.le_of_ble_eq_true rfl) ?_
  refine ev_if_eqb (tgt := 34) dX11_wreck_22 (by decide) (fun h22 => False.elim (Bool.false_ne_true (h22.symm.trans (hw)))) (fun h22 => ?_)
  refine ev_iload_n (i := 3) dX11_wreck_25 rfl rfl ?_
  refine ev_iconst (v := 0) dX11_wreck_26 cni_0 ?_
  refine ev_iconst (v := 1) dX11_wreck_27 cni_1 ?_
  refine ev_c3 kX11_wreck_28 (c12_within) trivial (by decide) (by decide) (Nat.le_of_ble_eq_true rfl) ?_
  refine ev_if_neb (tgt := 36) dX11_wreck_31 (by decide) (fun h31 => ?_) (fun h31 => False.elim (Bool.false_ne_true (h31.symm.trans (by decide))))
  refine ev_bipush (v := (-9)) dX11_wreck_36 cnb_m9 ?_
  refine ev_istore dX11_wreck_38 (Nat.le_of_ble_eq_true rfl) rfl ?_
  refine ev_bipush (v := 20) dX11_wreck_40 cnb_20 ?_
  refine ev_istore dX11_wreck_42 (Nat.le_of_ble_eq_true rfl) rfl ?_
  exact l12_wreck_0 h20 hG hA hfa hj hc hS hT hV 51 0 rfl
theorem l12_wreck_1 {G : ev_G} {n : Nat} {M : ev_M} {g g' c0 c1 c2 : Nat} {lot : Int32} (h20 : M 21 = .inr (11, [.ref 22, .ref 25, .ref 27, .ref 35, .ref 39, .ref 40, .ref 41, .ref 63, .ref g, .ref g', .int lot])) (hG : M g = .inr (3, [.ref (g + 1), .ref (g + 2), .ref (g + 3), .int (nI c0), .int (nI c1), .int (nI c2)])) {fa : Nat → Option Nat} (hA : M (g + 1) = .inl (2, 12, ev_q fa)) (hfa : ∀ i, i < 12 → fa i = some (g + 4 + i)) {j : Nat} (hj : j < c0) (hc : c0 ≤ 12) {s : Nat → Int32} (hS : M (g + 4 + j) = .inr (9, [.int (s 0), .int (s 1), .int (s 2), .int (s 3), .int (s 4), .int (s 5), .int (s 6)])) {tu : Nat → Int32} (hT : M 25 = .inr (10, [.ref 26])) (hV : M 26 = .inl (0, 4, .inl tu)) {wide : Int32} : ∀ (m k : Nat), k + m = 51 → ev_E G mX11_wreck 5 0 0 n M 44 [some (.ref 21), some (.int (nI j)), some (.int wide), some (.int 1), some (.ref (g + 4 + j)), some (.int (sp_last (sb_wreck tu s wide) sb_v20 (-9) k)), some (.int (nI (20 + k)))] [] (ev_is (some (.int (sp_last (sb_wreck tu s wide) sb_v20 (-9) 51))) M) := by
  intro m
  induction m with
  | zero =>
    intro k hk
    refine ev_iload dX11_wreck_44 rfl ?_
    refine ev_bipush (v := 70) dX11_wreck_46 cnb_70 ?_
    refine ev_icmp_gt (tgt := 98) dX11_wreck_48 (by decide) (fun h48 => ?_) (fun h48 => False.elim (Int32.not_lt.mpr h48 (nI_lt (a := 70) (b := 20 + k) (by omega) (by omega))))
    refine ev_iload dX11_wreck_98 rfl ?_
    exact ev_reti dX11_wreck_100 rfl rfl (⟨by rw [show k = 51 by omega], rfl⟩)
  | succ m ih =>
    intro k hk
    refine ev_iload dX11_wreck_44 rfl ?_
    refine ev_bipush (v := 70) dX11_wreck_46 cnb_70 ?_
    refine ev_icmp_gt (tgt := 98) dX11_wreck_48 (by decide) (fun h48 => False.elim (Int32.not_lt.mpr (nI_le (a := 20 + k) (b := 70) (by omega) (by decide)) h48)) (fun h48 => ?_)
    refine ev_aload_n (i := 0) dX11_wreck_51 rfl rfl ?_
    refine ev_getf dX11_wreck_52 flX11_19 (by first | assumption | rfl) (by rfl) ?_
    refine ev_aload dX11_wreck_55 rfl ?_
    refine ev_c1 kX11_wreck_57 (c9_spine hS) (ev_rv_of (by first | assumption | rfl) rfl rfl) (by decide) (by decide) (Nat.le_of_ble_eq_true rfl) ?_
    refine ev_iload dX11_wreck_60 rfl ?_
    refine ev_iload_n (i := 2) dX11_wreck_62 rfl rfl ?_
    refine ev_c2 kX11_wreck_63 (c12_needOf) trivial (by decide) (by decide) (Nat.le_of_ble_eq_true rfl) ?_
    refine ev_isub dX11_wreck_66 ?_
    refine ev_c2 kX11_wreck_67 (c11_isClean hT hV) (ev_rv_of (by first | assumption | rfl) rfl rfl) (by decide) (by decide) (Nat.le_of_ble_eq_true rfl) ?_
    refine ev_if_neb (tgt := 76) dX11_wreck_70 (by decide) (fun h70 => ?_) (fun h70 => ?_)
    · skip
      refine ev_iload dX11_wreck_76 rfl ?_
      refine ev_bipush (v := (-9)) dX11_wreck_78 cnb_m9 ?_
      refine ev_icmp_eq (tgt := 88) dX11_wreck_80 (by decide) (fun h80 => ?_) (fun h80 => ?_)
      · skip
        refine ev_iload dX11_wreck_88 rfl ?_
        refine ev_istore dX11_wreck_90 (Nat.le_of_ble_eq_true rfl) rfl ?_
        refine ev_iinc (v := nI (20 + (k + 1))) dX11_wreck_92 rfl (by show nI (20 + k) + nI 1 = nI (20 + (k + 1)); rw [nI_add, Nat.add_assoc]) (Nat.le_of_ble_eq_true rfl) rfl ?_
        refine ev_goto (tgt := 44) dX11_wreck_95 (by decide) ?_
        exact ev_loc (L2 := [some (.ref 21), some (.int (nI j)), some (.int wide), some (.int 1), some (.ref (g + 4 + j)), some (.int (sp_last (sb_wreck tu s wide) sb_v20 (-9) (k + 1))), some (.int (nI (20 + (k + 1))))]) (by first | (rw [sp_last_1 (P := (sb_wreck tu s wide)) (v := sb_v20) (z := (-9)) (k := k) h70]; rfl) | (rw [sp_last_0 (P := (sb_wreck tu s wide)) (v := sb_v20) (z := (-9)) (k := k) h70]; rfl)) (ih (k + 1) (by omega))
      · skip
        refine ev_iload_n (i := 3) dX11_wreck_83 rfl rfl ?_
        refine ev_iconst (v := 1) dX11_wreck_84 cni_1 ?_
        refine ev_icmp_ne (tgt := 92) dX11_wreck_85 (by decide) (fun h85 => False.elim (absurd rfl h85)) (fun h85 => ?_)
        refine ev_iload dX11_wreck_88 rfl ?_
        refine ev_istore dX11_wreck_90 (Nat.le_of_ble_eq_true rfl) rfl ?_
        refine ev_iinc (v := nI (20 + (k + 1))) dX11_wreck_92 rfl (by show nI (20 + k) + nI 1 = nI (20 + (k + 1)); rw [nI_add, Nat.add_assoc]) (Nat.le_of_ble_eq_true rfl) rfl ?_
        refine ev_goto (tgt := 44) dX11_wreck_95 (by decide) ?_
        exact ev_loc (L2 := [some (.ref 21), some (.int (nI j)), some (.int wide), some (.int 1), some (.ref (g + 4 + j)), some (.int (sp_last (sb_wreck tu s wide) sb_v20 (-9) (k + 1))), some (.int (nI (20 + (k + 1))))]) (by first | (rw [sp_last_1 (P := (sb_wreck tu s wide)) (v := sb_v20) (z := (-9)) (k := k) h70]; rfl) | (rw [sp_last_0 (P := (sb_wreck tu s wide)) (v := sb_v20) (z := (-9)) (k := k) h70]; rfl)) (ih (k + 1) (by omega))
    · skip
      refine ev_goto (tgt := 92) dX11_wreck_73 (by decide) ?_
      refine ev_iinc (v := nI (20 + (k + 1))) dX11_wreck_92 rfl (by show nI (20 + k) + nI 1 = nI (20 + (k + 1)); rw [nI_add, Nat.add_assoc]) (Nat.le_of_ble_eq_true rfl) rfl ?_
      refine ev_goto (tgt := 44) dX11_wreck_95 (by decide) ?_
      exact ev_loc (L2 := [some (.ref 21), some (.int (nI j)), some (.int wide), some (.int 1), some (.ref (g + 4 + j)), some (.int (sp_last (sb_wreck tu s wide) sb_v20 (-9) (k + 1))), some (.int (nI (20 + (k + 1))))]) (by first | (rw [sp_last_1 (P := (sb_wreck tu s wide)) (v := sb_v20) (z := (-9)) (k := k) h70]; rfl) | (rw [sp_last_0 (P := (sb_wreck tu s wide)) (v := sb_v20) (z := (-9)) (k := k) h70]; rfl)) (ih (k + 1) (by omega))
theorem c12_wreck_1 {G : ev_G} {n : Nat} {M : ev_M} {g g' c0 c1 c2 : Nat} {lot : Int32} (h20 : M 21 = .inr (11, [.ref 22, .ref 25, .ref 27, .ref 35, .ref 39, .ref 40, .ref 41, .ref 63, .ref g, .ref g', .int lot])) (hG : M g = .inr (3, [.ref (g + 1), .ref (g + 2), .ref (g + 3), .int (nI c0), .int (nI c1), .int (nI c2)])) {fa : Nat → Option Nat} (hA : M (g + 1) = .inl (2, 12, ev_q fa)) (hfa : ∀ i, i < 12 → fa i = some (g + 4 + i)) {j : Nat} (hj : j < c0) (hc : c0 ≤ 12) {s : Nat → Int32} (hS : M (g + 4 + j) = .inr (9, [.int (s 0), .int (s 1), .int (s 2), .int (s 3), .int (s 4), .int (s 5), .int (s 6)])) {tu : Nat → Int32} (hT : M 25 = .inr (10, [.ref 26])) (hV : M 26 = .inl (0, 4, .inl tu)) {wide : Int32} (hw : sp_in wide 0 9 = true) : ev_Cal G mX11_wreck 5 0 0 [.ref 21, .int (nI j), .int wide, .int 1] n M (ev_is (some (.int (sp_last (sb_wreck tu s wide) sb_v20 (-9) 51))) M) := by
  refine ev_Cal_of (L := [some (.ref 21), some (.int (nI j)), some (.int wide), some (.int 1), none, none, none]) (by decide +kernel) (Nat.le_of_ble_eq_true rfl) rfl ?_
  refine ev_aload_n (i := 0) dX11_wreck_0 rfl rfl ?_
  refine ev_getf dX11_wreck_1 flX11_64 (by first | assumption | rfl) (by rfl) ?_
  refine ev_iload_n (i := 1) dX11_wreck_4 rfl rfl ?_
  refine ev_c2 kX11_wreck_5 (c3_stickAt_in hG hA hfa hj hc) (ev_rv_of (by first | assumption | rfl) rfl rfl) (by decide) (by decide) (Nat.le_of_ble_eq_true rfl) ?_
  refine ev_astore dX11_wreck_8 (Nat.le_of_ble_eq_true rfl) rfl ?_
  refine ev_aload dX11_wreck_10 rfl ?_
  refine ev_ifnull dX11_wreck_12 ?_
  refine ev_iload_n (i := 2) dX11_wreck_15 rfl rfl ?_
  refine ev_iconst (v := 0) dX11_wreck_16 cni_0 ?_
  refine ev_bipush (v := 9) dX11_wreck_17 cnb_9 ?_
  refine ev_c3 kX11_wreck_19 (c12_within) trivial (by decide) (by decide) (Nat.le_of_ble_eq_true rfl) ?_
  refine ev_if_eqb (tgt := 34) dX11_wreck_22 (by decide) (fun h22 => False.elim (Bool.false_ne_true (h22.symm.trans (hw)))) (fun h22 => ?_)
  refine ev_iload_n (i := 3) dX11_wreck_25 rfl rfl ?_
  refine ev_iconst (v := 0) dX11_wreck_26 cni_0 ?_
  refine ev_iconst (v := 1) dX11_wreck_27 cni_1 ?_
  refine ev_c3 kX11_wreck_28 (c12_within) trivial (by decide) (by decide) (Nat.le_of_ble_eq_true rfl) ?_
  refine ev_if_neb (tgt := 36) dX11_wreck_31 (by decide) (fun h31 => ?_) (fun h31 => False.elim (Bool.false_ne_true (h31.symm.trans (by decide))))
  refine ev_bipush (v := (-9)) dX11_wreck_36 cnb_m9 ?_
  refine ev_istore dX11_wreck_38 (Nat.le_of_ble_eq_true rfl) rfl ?_
  refine ev_bipush (v := 20) dX11_wreck_40 cnb_20 ?_
  refine ev_istore dX11_wreck_42 (Nat.le_of_ble_eq_true rfl) rfl ?_
  exact l12_wreck_1 h20 hG hA hfa hj hc hS hT hV 51 0 rfl
theorem l12_says_0 {G : ev_G} {n : Nat} {M : ev_M} {g g' : Nat} {lot : Int32} (h20 : M 21 = .inr (11, [.ref 22, .ref 25, .ref 27, .ref 35, .ref 39, .ref 40, .ref 41, .ref 63, .ref g, .ref g', .int lot])) {tu : Nat → Int32} (hT : M 25 = .inr (10, [.ref 26])) (hV : M 26 = .inl (0, 4, .inl tu)) {x fe : Int32} : ∀ (m k : Nat), k + m = 121 → ev_E G mX11_says 5 0 0 n M 43 [some (.ref 21), some (.int x), some (.int fe), some (.int 0), some (.int (sp_first (sb_says tu fe x) sb_v60 (-1000000) k)), some (.int (nI k - 60))] [] (ev_is (some (.int (sp_first (sb_says tu fe x) sb_v60 (-1000000) 121))) M) := by
  intro m
  induction m with
  | zero =>
    intro k hk
    refine ev_iload dX11_says_43 rfl ?_
    refine ev_bipush (v := 60) dX11_says_45 cnb_60 ?_
    refine ev_icmp_gt (tgt := 99) dX11_says_47 (by decide) (fun h47 => ?_) (fun h47 => False.elim (Int32.not_lt.mpr h47 (sp_m60_lt (by omega) (by omega))))
    refine ev_iload dX11_says_99 rfl ?_
    exact ev_reti dX11_says_101 rfl rfl (⟨by rw [show k = 121 by omega], rfl⟩)
  | succ m ih =>
    intro k hk
    refine ev_iload dX11_says_43 rfl ?_
    refine ev_bipush (v := 60) dX11_says_45 cnb_60 ?_
    refine ev_icmp_gt (tgt := 99) dX11_says_47 (by decide) (fun h47 => False.elim (Int32.not_lt.mpr (sp_m60_le (by omega)) h47)) (fun h47 => ?_)
    refine ev_aload_n (i := 0) dX11_says_50 rfl rfl ?_
    refine ev_getf dX11_says_51 flX11_19 (by first | assumption | rfl) (by rfl) ?_
    refine ev_iload dX11_says_54 rfl ?_
    refine ev_iload_n (i := 2) dX11_says_56 rfl rfl ?_
    refine ev_c3 kX11_says_57 (c11_feathered hT hV) (ev_rv_of (by first | assumption | rfl) rfl rfl) (by decide) (by decide) (Nat.le_of_ble_eq_true rfl) ?_
    refine ev_aload_n (i := 0) dX11_says_60 rfl rfl ?_
    refine ev_getf dX11_says_61 flX11_19 (by first | assumption | rfl) (by rfl) ?_
    refine ev_iload dX11_says_64 rfl ?_
    refine ev_c2 kX11_says_66 (c11_bareOf hT hV) (ev_rv_of (by first | assumption | rfl) rfl rfl) (by decide) (by decide) (Nat.le_of_ble_eq_true rfl) ?_
    refine ev_isub dX11_says_69 ?_
    refine ev_iload_n (i := 1) dX11_says_70 rfl rfl ?_
    refine ev_icmp_eq (tgt := 77) dX11_says_71 (by decide) (fun h71 => ?_) (fun h71 => ?_)
    · skip
      refine ev_iload dX11_says_77 rfl ?_
      refine ev_ldc dX11_says_79 coX11_145 ?_
      refine ev_icmp_eq (tgt := 89) dX11_says_81 (by decide) (fun h81 => ?_) (fun h81 => ?_)
      · skip
        refine ev_iload dX11_says_89 rfl ?_
        refine ev_istore dX11_says_91 (Nat.le_of_ble_eq_true rfl) rfl ?_
        refine ev_iinc (v := nI (k + 1) - 60) dX11_says_93 rfl (by show nI k - 60 + nI 1 = nI (k + 1) - 60; rw [← nI_add, Int32.sub_eq_add_neg, Int32.sub_eq_add_neg, Int32.add_assoc, Int32.add_comm (-60), ← Int32.add_assoc]) (Nat.le_of_ble_eq_true rfl) rfl ?_
        refine ev_goto (tgt := 43) dX11_says_96 (by decide) ?_
        exact ev_loc (L2 := [some (.ref 21), some (.int x), some (.int fe), some (.int 0), some (.int (sp_first (sb_says tu fe x) sb_v60 (-1000000) (k + 1))), some (.int (nI (k + 1) - 60))]) (by first | (rw [sp_first_1 (P := sb_says tu fe x) (v := sb_v60) (z := (-1000000)) (k := k) (decide_eq_true h71) h81]; rfl) | (rw [sp_first_2 (P := sb_says tu fe x) (v := sb_v60) (z := (-1000000)) (k := k) (decide_eq_true h71) h81]; rfl) | (rw [sp_first_0 (P := sb_says tu fe x) (v := sb_v60) (z := (-1000000)) (k := k) (decide_eq_false h71)]; rfl)) (ih (k + 1) (by omega))
      · skip
        refine ev_iload_n (i := 3) dX11_says_84 rfl rfl ?_
        refine ev_iconst (v := 1) dX11_says_85 cni_1 ?_
        refine ev_icmp_ne (tgt := 93) dX11_says_86 (by decide) (fun h86 => ?_) (fun h86 => False.elim (absurd h86 (by decide)))
        refine ev_iinc (v := nI (k + 1) - 60) dX11_says_93 rfl (by show nI k - 60 + nI 1 = nI (k + 1) - 60; rw [← nI_add, Int32.sub_eq_add_neg, Int32.sub_eq_add_neg, Int32.add_assoc, Int32.add_comm (-60), ← Int32.add_assoc]) (Nat.le_of_ble_eq_true rfl) rfl ?_
        refine ev_goto (tgt := 43) dX11_says_96 (by decide) ?_
        exact ev_loc (L2 := [some (.ref 21), some (.int x), some (.int fe), some (.int 0), some (.int (sp_first (sb_says tu fe x) sb_v60 (-1000000) (k + 1))), some (.int (nI (k + 1) - 60))]) (by first | (rw [sp_first_1 (P := sb_says tu fe x) (v := sb_v60) (z := (-1000000)) (k := k) (decide_eq_true h71) h81]; rfl) | (rw [sp_first_2 (P := sb_says tu fe x) (v := sb_v60) (z := (-1000000)) (k := k) (decide_eq_true h71) h81]; rfl) | (rw [sp_first_0 (P := sb_says tu fe x) (v := sb_v60) (z := (-1000000)) (k := k) (decide_eq_false h71)]; rfl)) (ih (k + 1) (by omega))
    · skip
      refine ev_goto (tgt := 93) dX11_says_74 (by decide) ?_
      refine ev_iinc (v := nI (k + 1) - 60) dX11_says_93 rfl (by show nI k - 60 + nI 1 = nI (k + 1) - 60; rw [← nI_add, Int32.sub_eq_add_neg, Int32.sub_eq_add_neg, Int32.add_assoc, Int32.add_comm (-60), ← Int32.add_assoc]) (Nat.le_of_ble_eq_true rfl) rfl ?_
      refine ev_goto (tgt := 43) dX11_says_96 (by decide) ?_
      exact ev_loc (L2 := [some (.ref 21), some (.int x), some (.int fe), some (.int 0), some (.int (sp_first (sb_says tu fe x) sb_v60 (-1000000) (k + 1))), some (.int (nI (k + 1) - 60))]) (by first | (rw [sp_first_1 (P := sb_says tu fe x) (v := sb_v60) (z := (-1000000)) (k := k) (decide_eq_true h71) h81]; rfl) | (rw [sp_first_2 (P := sb_says tu fe x) (v := sb_v60) (z := (-1000000)) (k := k) (decide_eq_true h71) h81]; rfl) | (rw [sp_first_0 (P := sb_says tu fe x) (v := sb_v60) (z := (-1000000)) (k := k) (decide_eq_false h71)]; rfl)) (ih (k + 1) (by omega))
theorem c12_says_0 {G : ev_G} {n : Nat} {M : ev_M} {g g' : Nat} {lot : Int32} (h20 : M 21 = .inr (11, [.ref 22, .ref 25, .ref 27, .ref 35, .ref 39, .ref 40, .ref 41, .ref 63, .ref g, .ref g', .int lot])) {tu : Nat → Int32} (hT : M 25 = .inr (10, [.ref 26])) (hV : M 26 = .inl (0, 4, .inl tu)) {x fe : Int32} (hx : sp_in x (-999) 999 = true) (hf : sp_in fe 0 9 = true) : ev_Cal G mX11_says 5 0 0 [.ref 21, .int x, .int fe, .int 0] n M (ev_is (some (.int (sp_first (sb_says tu fe x) sb_v60 (-1000000) 121))) M) := by
  refine ev_Cal_of (L := [some (.ref 21), some (.int x), some (.int fe), some (.int 0), none, none]) (by decide +kernel) (Nat.le_of_ble_eq_true rfl) rfl ?_
  refine ev_iload_n (i := 1) dX11_says_0 rfl rfl ?_
  refine ev_sipush (v := (-999)) dX11_says_1 cns_m999 ?_
  refine ev_sipush (v := 999) dX11_says_4 cns_999 ?_
  refine ev_c3 kX11_says_7 (c12_within) trivial (by decide) (by decide) (Nat.le_of_ble_eq_true rfl) ?_
  refine ev_if_eqb (tgt := 32) dX11_says_10 (by decide) (fun h10 => False.elim (Bool.false_ne_true (h10.symm.trans (hx)))) (fun h10 => ?_)
  refine ev_iload_n (i := 2) dX11_says_13 rfl rfl ?_
  refine ev_iconst (v := 0) dX11_says_14 cni_0 ?_
  refine ev_bipush (v := 9) dX11_says_15 cnb_9 ?_
  refine ev_c3 kX11_says_17 (c12_within) trivial (by decide) (by decide) (Nat.le_of_ble_eq_true rfl) ?_
  refine ev_if_eqb (tgt := 32) dX11_says_20 (by decide) (fun h20b => False.elim (Bool.false_ne_true (h20b.symm.trans (hf)))) (fun h20b => ?_)
  refine ev_iload_n (i := 3) dX11_says_23 rfl rfl ?_
  refine ev_iconst (v := 0) dX11_says_24 cni_0 ?_
  refine ev_iconst (v := 1) dX11_says_25 cni_1 ?_
  refine ev_c3 kX11_says_26 (c12_within) trivial (by decide) (by decide) (Nat.le_of_ble_eq_true rfl) ?_
  refine ev_if_neb (tgt := 35) dX11_says_29 (by decide) (fun h29 => ?_) (fun h29 => False.elim (Bool.false_ne_true (h29.symm.trans (by decide))))
  refine ev_ldc dX11_says_35 coX11_145 ?_
  refine ev_istore dX11_says_37 (Nat.le_of_ble_eq_true rfl) rfl ?_
  refine ev_bipush (v := (-60)) dX11_says_39 cnb_m60 ?_
  refine ev_istore dX11_says_41 (Nat.le_of_ble_eq_true rfl) rfl ?_
  exact l12_says_0 h20 hT hV 121 0 rfl
theorem l12_says_1 {G : ev_G} {n : Nat} {M : ev_M} {g g' : Nat} {lot : Int32} (h20 : M 21 = .inr (11, [.ref 22, .ref 25, .ref 27, .ref 35, .ref 39, .ref 40, .ref 41, .ref 63, .ref g, .ref g', .int lot])) {tu : Nat → Int32} (hT : M 25 = .inr (10, [.ref 26])) (hV : M 26 = .inl (0, 4, .inl tu)) {x fe : Int32} : ∀ (m k : Nat), k + m = 121 → ev_E G mX11_says 5 0 0 n M 43 [some (.ref 21), some (.int x), some (.int fe), some (.int 1), some (.int (sp_last (sb_says tu fe x) sb_v60 (-1000000) k)), some (.int (nI k - 60))] [] (ev_is (some (.int (sp_last (sb_says tu fe x) sb_v60 (-1000000) 121))) M) := by
  intro m
  induction m with
  | zero =>
    intro k hk
    refine ev_iload dX11_says_43 rfl ?_
    refine ev_bipush (v := 60) dX11_says_45 cnb_60 ?_
    refine ev_icmp_gt (tgt := 99) dX11_says_47 (by decide) (fun h47 => ?_) (fun h47 => False.elim (Int32.not_lt.mpr h47 (sp_m60_lt (by omega) (by omega))))
    refine ev_iload dX11_says_99 rfl ?_
    exact ev_reti dX11_says_101 rfl rfl (⟨by rw [show k = 121 by omega], rfl⟩)
  | succ m ih =>
    intro k hk
    refine ev_iload dX11_says_43 rfl ?_
    refine ev_bipush (v := 60) dX11_says_45 cnb_60 ?_
    refine ev_icmp_gt (tgt := 99) dX11_says_47 (by decide) (fun h47 => False.elim (Int32.not_lt.mpr (sp_m60_le (by omega)) h47)) (fun h47 => ?_)
    refine ev_aload_n (i := 0) dX11_says_50 rfl rfl ?_
    refine ev_getf dX11_says_51 flX11_19 (by first | assumption | rfl) (by rfl) ?_
    refine ev_iload dX11_says_54 rfl ?_
    refine ev_iload_n (i := 2) dX11_says_56 rfl rfl ?_
    refine ev_c3 kX11_says_57 (c11_feathered hT hV) (ev_rv_of (by first | assumption | rfl) rfl rfl) (by decide) (by decide) (Nat.le_of_ble_eq_true rfl) ?_
    refine ev_aload_n (i := 0) dX11_says_60 rfl rfl ?_
    refine ev_getf dX11_says_61 flX11_19 (by first | assumption | rfl) (by rfl) ?_
    refine ev_iload dX11_says_64 rfl ?_
    refine ev_c2 kX11_says_66 (c11_bareOf hT hV) (ev_rv_of (by first | assumption | rfl) rfl rfl) (by decide) (by decide) (Nat.le_of_ble_eq_true rfl) ?_
    refine ev_isub dX11_says_69 ?_
    refine ev_iload_n (i := 1) dX11_says_70 rfl rfl ?_
    refine ev_icmp_eq (tgt := 77) dX11_says_71 (by decide) (fun h71 => ?_) (fun h71 => ?_)
    · skip
      refine ev_iload dX11_says_77 rfl ?_
      refine ev_ldc dX11_says_79 coX11_145 ?_
      refine ev_icmp_eq (tgt := 89) dX11_says_81 (by decide) (fun h81 => ?_) (fun h81 => ?_)
      · skip
        refine ev_iload dX11_says_89 rfl ?_
        refine ev_istore dX11_says_91 (Nat.le_of_ble_eq_true rfl) rfl ?_
        refine ev_iinc (v := nI (k + 1) - 60) dX11_says_93 rfl (by show nI k - 60 + nI 1 = nI (k + 1) - 60; rw [← nI_add, Int32.sub_eq_add_neg, Int32.sub_eq_add_neg, Int32.add_assoc, Int32.add_comm (-60), ← Int32.add_assoc]) (Nat.le_of_ble_eq_true rfl) rfl ?_
        refine ev_goto (tgt := 43) dX11_says_96 (by decide) ?_
        exact ev_loc (L2 := [some (.ref 21), some (.int x), some (.int fe), some (.int 1), some (.int (sp_last (sb_says tu fe x) sb_v60 (-1000000) (k + 1))), some (.int (nI (k + 1) - 60))]) (by first | (rw [sp_last_1 (P := sb_says tu fe x) (v := sb_v60) (z := (-1000000)) (k := k) (decide_eq_true h71)]; rfl) | (rw [sp_last_0 (P := sb_says tu fe x) (v := sb_v60) (z := (-1000000)) (k := k) (decide_eq_false h71)]; rfl)) (ih (k + 1) (by omega))
      · skip
        refine ev_iload_n (i := 3) dX11_says_84 rfl rfl ?_
        refine ev_iconst (v := 1) dX11_says_85 cni_1 ?_
        refine ev_icmp_ne (tgt := 93) dX11_says_86 (by decide) (fun h86 => False.elim (absurd rfl h86)) (fun h86 => ?_)
        refine ev_iload dX11_says_89 rfl ?_
        refine ev_istore dX11_says_91 (Nat.le_of_ble_eq_true rfl) rfl ?_
        refine ev_iinc (v := nI (k + 1) - 60) dX11_says_93 rfl (by show nI k - 60 + nI 1 = nI (k + 1) - 60; rw [← nI_add, Int32.sub_eq_add_neg, Int32.sub_eq_add_neg, Int32.add_assoc, Int32.add_comm (-60), ← Int32.add_assoc]) (Nat.le_of_ble_eq_true rfl) rfl ?_
        refine ev_goto (tgt := 43) dX11_says_96 (by decide) ?_
        exact ev_loc (L2 := [some (.ref 21), some (.int x), some (.int fe), some (.int 1), some (.int (sp_last (sb_says tu fe x) sb_v60 (-1000000) (k + 1))), some (.int (nI (k + 1) - 60))]) (by first | (rw [sp_last_1 (P := sb_says tu fe x) (v := sb_v60) (z := (-1000000)) (k := k) (decide_eq_true h71)]; rfl) | (rw [sp_last_0 (P := sb_says tu fe x) (v := sb_v60) (z := (-1000000)) (k := k) (decide_eq_false h71)]; rfl)) (ih (k + 1) (by omega))
    · skip
      refine ev_goto (tgt := 93) dX11_says_74 (by decide) ?_
      refine ev_iinc (v := nI (k + 1) - 60) dX11_says_93 rfl (by show nI k - 60 + nI 1 = nI (k + 1) - 60; rw [← nI_add, Int32.sub_eq_add_neg, Int32.sub_eq_add_neg, Int32.add_assoc, Int32.add_comm (-60), ← Int32.add_assoc]) (Nat.le_of_ble_eq_true rfl) rfl ?_
      refine ev_goto (tgt := 43) dX11_says_96 (by decide) ?_
      exact ev_loc (L2 := [some (.ref 21), some (.int x), some (.int fe), some (.int 1), some (.int (sp_last (sb_says tu fe x) sb_v60 (-1000000) (k + 1))), some (.int (nI (k + 1) - 60))]) (by first | (rw [sp_last_1 (P := sb_says tu fe x) (v := sb_v60) (z := (-1000000)) (k := k) (decide_eq_true h71)]; rfl) | (rw [sp_last_0 (P := sb_says tu fe x) (v := sb_v60) (z := (-1000000)) (k := k) (decide_eq_false h71)]; rfl)) (ih (k + 1) (by omega))
theorem c12_says_1 {G : ev_G} {n : Nat} {M : ev_M} {g g' : Nat} {lot : Int32} (h20 : M 21 = .inr (11, [.ref 22, .ref 25, .ref 27, .ref 35, .ref 39, .ref 40, .ref 41, .ref 63, .ref g, .ref g', .int lot])) {tu : Nat → Int32} (hT : M 25 = .inr (10, [.ref 26])) (hV : M 26 = .inl (0, 4, .inl tu)) {x fe : Int32} (hx : sp_in x (-999) 999 = true) (hf : sp_in fe 0 9 = true) : ev_Cal G mX11_says 5 0 0 [.ref 21, .int x, .int fe, .int 1] n M (ev_is (some (.int (sp_last (sb_says tu fe x) sb_v60 (-1000000) 121))) M) := by
  refine ev_Cal_of (L := [some (.ref 21), some (.int x), some (.int fe), some (.int 1), none, none]) (by decide +kernel) (Nat.le_of_ble_eq_true rfl) rfl ?_
  refine ev_iload_n (i := 1) dX11_says_0 rfl rfl ?_
  refine ev_sipush (v := (-999)) dX11_says_1 cns_m999 ?_
  refine ev_sipush (v := 999) dX11_says_4 cns_999 ?_
  refine ev_c3 kX11_says_7 (c12_within) trivial (by decide) (by decide) (Nat.le_of_ble_eq_true rfl) ?_
  refine ev_if_eqb (tgt := 32) dX11_says_10 (by decide) (fun h10 => False.elim (Bool.false_ne_true (h10.symm.trans (hx)))) (fun h10 => ?_)
  refine ev_iload_n (i := 2) dX11_says_13 rfl rfl ?_
  refine ev_iconst (v := 0) dX11_says_14 cni_0 ?_
  refine ev_bipush (v := 9) dX11_says_15 cnb_9 ?_
  refine ev_c3 kX11_says_17 (c12_within) trivial (by decide) (by decide) (Nat.le_of_ble_eq_true rfl) ?_
  refine ev_if_eqb (tgt := 32) dX11_says_20 (by decide) (fun h20b => False.elim (Bool.false_ne_true (h20b.symm.trans (hf)))) (fun h20b => ?_)
  refine ev_iload_n (i := 3) dX11_says_23 rfl rfl ?_
  refine ev_iconst (v := 0) dX11_says_24 cni_0 ?_
  refine ev_iconst (v := 1) dX11_says_25 cni_1 ?_
  refine ev_c3 kX11_says_26 (c12_within) trivial (by decide) (by decide) (Nat.le_of_ble_eq_true rfl) ?_
  refine ev_if_neb (tgt := 35) dX11_says_29 (by decide) (fun h29 => ?_) (fun h29 => False.elim (Bool.false_ne_true (h29.symm.trans (by decide))))
  refine ev_ldc dX11_says_35 coX11_145 ?_
  refine ev_istore dX11_says_37 (Nat.le_of_ble_eq_true rfl) rfl ?_
  refine ev_bipush (v := (-60)) dX11_says_39 cnb_m60 ?_
  refine ev_istore dX11_says_41 (Nat.le_of_ble_eq_true rfl) rfl ?_
  exact l12_says_1 h20 hT hV 121 0 rfl
