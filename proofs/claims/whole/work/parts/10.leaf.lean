/-! ===== contracts: the class's leaves ===== -/
theorem cni_m1 : Int32.ofInt (-1) = (-1 : Int32) := by decide +kernel
theorem cni_0 : Int32.ofInt 0 = (0 : Int32) := by decide +kernel
theorem cni_1 : Int32.ofInt 1 = (1 : Int32) := by decide +kernel
theorem cni_2 : Int32.ofInt 2 = (2 : Int32) := by decide +kernel
theorem cni_3 : Int32.ofInt 3 = (3 : Int32) := by decide +kernel
theorem cni_4 : Int32.ofInt 4 = (4 : Int32) := by decide +kernel
theorem cni_5 : Int32.ofInt 5 = (5 : Int32) := by decide +kernel
theorem cnb_m60 : (Int8.ofInt (-60)).toInt32 = (-60 : Int32) := by decide +kernel
theorem cnb_m10 : (Int8.ofInt (-10)).toInt32 = (-10 : Int32) := by decide +kernel
theorem cnb_m9 : (Int8.ofInt (-9)).toInt32 = (-9 : Int32) := by decide +kernel
theorem cnb_m3 : (Int8.ofInt (-3)).toInt32 = (-3 : Int32) := by decide +kernel
theorem cnb_m2 : (Int8.ofInt (-2)).toInt32 = (-2 : Int32) := by decide +kernel
theorem cnb_6 : (Int8.ofInt 6).toInt32 = (6 : Int32) := by decide +kernel
theorem cnb_7 : (Int8.ofInt 7).toInt32 = (7 : Int32) := by decide +kernel
theorem cnb_8 : (Int8.ofInt 8).toInt32 = (8 : Int32) := by decide +kernel
theorem cnb_9 : (Int8.ofInt 9).toInt32 = (9 : Int32) := by decide +kernel
theorem cnb_10 : (Int8.ofInt 10).toInt32 = (10 : Int32) := by decide +kernel
theorem cnb_12 : (Int8.ofInt 12).toInt32 = (12 : Int32) := by decide +kernel
theorem cnb_15 : (Int8.ofInt 15).toInt32 = (15 : Int32) := by decide +kernel
theorem cnb_16 : (Int8.ofInt 16).toInt32 = (16 : Int32) := by decide +kernel
theorem cnb_20 : (Int8.ofInt 20).toInt32 = (20 : Int32) := by decide +kernel
theorem cnb_24 : (Int8.ofInt 24).toInt32 = (24 : Int32) := by decide +kernel
theorem cnb_30 : (Int8.ofInt 30).toInt32 = (30 : Int32) := by decide +kernel
theorem cnb_31 : (Int8.ofInt 31).toInt32 = (31 : Int32) := by decide +kernel
theorem cnb_32 : (Int8.ofInt 32).toInt32 = (32 : Int32) := by decide +kernel
theorem cnb_48 : (Int8.ofInt 48).toInt32 = (48 : Int32) := by decide +kernel
theorem cnb_57 : (Int8.ofInt 57).toInt32 = (57 : Int32) := by decide +kernel
theorem cnb_59 : (Int8.ofInt 59).toInt32 = (59 : Int32) := by decide +kernel
theorem cnb_60 : (Int8.ofInt 60).toInt32 = (60 : Int32) := by decide +kernel
theorem cnb_61 : (Int8.ofInt 61).toInt32 = (61 : Int32) := by decide +kernel
theorem cnb_63 : (Int8.ofInt 63).toInt32 = (63 : Int32) := by decide +kernel
theorem cnb_70 : (Int8.ofInt 70).toInt32 = (70 : Int32) := by decide +kernel
theorem cnb_71 : (Int8.ofInt 71).toInt32 = (71 : Int32) := by decide +kernel
theorem cnb_80 : (Int8.ofInt 80).toInt32 = (80 : Int32) := by decide +kernel
theorem cnb_84 : (Int8.ofInt 84).toInt32 = (84 : Int32) := by decide +kernel
theorem cnb_85 : (Int8.ofInt 85).toInt32 = (85 : Int32) := by decide +kernel
theorem cnb_86 : (Int8.ofInt 86).toInt32 = (86 : Int32) := by decide +kernel
theorem cnb_97 : (Int8.ofInt 97).toInt32 = (97 : Int32) := by decide +kernel
theorem cnb_98 : (Int8.ofInt 98).toInt32 = (98 : Int32) := by decide +kernel
theorem cnb_99 : (Int8.ofInt 99).toInt32 = (99 : Int32) := by decide +kernel
theorem cnb_100 : (Int8.ofInt 100).toInt32 = (100 : Int32) := by decide +kernel
theorem cnb_101 : (Int8.ofInt 101).toInt32 = (101 : Int32) := by decide +kernel
theorem cnb_102 : (Int8.ofInt 102).toInt32 = (102 : Int32) := by decide +kernel
theorem cnb_103 : (Int8.ofInt 103).toInt32 = (103 : Int32) := by decide +kernel
theorem cnb_104 : (Int8.ofInt 104).toInt32 = (104 : Int32) := by decide +kernel
theorem cnb_105 : (Int8.ofInt 105).toInt32 = (105 : Int32) := by decide +kernel
theorem cnb_107 : (Int8.ofInt 107).toInt32 = (107 : Int32) := by decide +kernel
theorem cnb_108 : (Int8.ofInt 108).toInt32 = (108 : Int32) := by decide +kernel
theorem cnb_111 : (Int8.ofInt 111).toInt32 = (111 : Int32) := by decide +kernel
theorem cnb_112 : (Int8.ofInt 112).toInt32 = (112 : Int32) := by decide +kernel
theorem cnb_114 : (Int8.ofInt 114).toInt32 = (114 : Int32) := by decide +kernel
theorem cnb_115 : (Int8.ofInt 115).toInt32 = (115 : Int32) := by decide +kernel
theorem cnb_116 : (Int8.ofInt 116).toInt32 = (116 : Int32) := by decide +kernel
theorem cnb_119 : (Int8.ofInt 119).toInt32 = (119 : Int32) := by decide +kernel
theorem cnb_122 : (Int8.ofInt 122).toInt32 = (122 : Int32) := by decide +kernel
theorem cns_m999 : (Int16.ofInt (-999)).toInt32 = (-999 : Int32) := by decide +kernel
theorem cns_130 : (Int16.ofInt 130).toInt32 = (130 : Int32) := by decide +kernel
theorem cns_200 : (Int16.ofInt 200).toInt32 = (200 : Int32) := by decide +kernel
theorem cns_255 : (Int16.ofInt 255).toInt32 = (255 : Int32) := by decide +kernel
theorem cns_386 : (Int16.ofInt 386).toInt32 = (386 : Int32) := by decide +kernel
theorem cns_400 : (Int16.ofInt 400).toInt32 = (400 : Int32) := by decide +kernel
theorem cns_600 : (Int16.ofInt 600).toInt32 = (600 : Int32) := by decide +kernel
theorem cns_772 : (Int16.ofInt 772).toInt32 = (772 : Int32) := by decide +kernel
theorem cns_800 : (Int16.ofInt 800).toInt32 = (800 : Int32) := by decide +kernel
theorem cns_999 : (Int16.ofInt 999).toInt32 = (999 : Int32) := by decide +kernel
theorem cns_1000 : (Int16.ofInt 1000).toInt32 = (1000 : Int32) := by decide +kernel
theorem cns_12345 : (Int16.ofInt 12345).toInt32 = (12345 : Int32) := by decide +kernel
theorem c12_within {G : ev_G} {n : Nat} {M : ev_M} {v lo hi : Int32} : ev_Cal G mX11_within 1 0 0 [.int v, .int lo, .int hi] n M (ev_is (some (.int (ev_b (sp_in v lo hi)))) M) := by
  refine ev_Cal_of (L := [some (.int v), some (.int lo), some (.int hi)]) (by decide +kernel) (Nat.le_of_ble_eq_true rfl) rfl ?_
  refine ev_iload_n (i := 0) dX11_within_0 rfl rfl ?_
  refine ev_iload_n (i := 1) dX11_within_1 rfl rfl ?_
  refine ev_icmp_lt (tgt := 14) dX11_within_2 (by decide) (fun h1 => ?_) (fun h1 => ?_)
  · skip
    refine ev_iconst (v := 0) dX11_within_14 cni_0 ?_
    exact ev_reti dX11_within_15 rfl rfl (⟨by first | rw [sp_in_t h1 h2]; rfl | rw [sp_in_1 h1]; rfl | rw [sp_in_2 h2]; rfl, rfl⟩)
  · skip
    refine ev_iload_n (i := 0) dX11_within_5 rfl rfl ?_
    refine ev_iload_n (i := 2) dX11_within_6 rfl rfl ?_
    refine ev_icmp_gt (tgt := 14) dX11_within_7 (by decide) (fun h2 => ?_) (fun h2 => ?_)
    · skip
      refine ev_iconst (v := 0) dX11_within_14 cni_0 ?_
      exact ev_reti dX11_within_15 rfl rfl (⟨by first | rw [sp_in_t h1 h2]; rfl | rw [sp_in_1 h1]; rfl | rw [sp_in_2 h2]; rfl, rfl⟩)
    · skip
      refine ev_iconst (v := 1) dX11_within_10 cni_1 ?_
      refine ev_goto (tgt := 15) dX11_within_11 (by decide) ?_
      exact ev_reti dX11_within_15 rfl rfl (⟨by first | rw [sp_in_t h1 h2]; rfl | rw [sp_in_1 h1]; rfl | rw [sp_in_2 h2]; rfl, rfl⟩)
theorem c12_divided {G : ev_G} {n : Nat} {M : ev_M} {v b : Int32} : ev_Cal G mX11_divided 1 0 0 [.int v, .int b] n M (ev_is (some (.int (sp_div v b))) M) := by
  refine ev_Cal_of (L := [some (.int v), some (.int b)]) (by decide +kernel) (Nat.le_of_ble_eq_true rfl) rfl ?_
  refine ev_iload_n (i := 1) dX11_divided_0 rfl rfl ?_
  refine ev_if_ne (tgt := 8) dX11_divided_1 (by decide) (fun h1 => ?_) (fun h1 => ?_)
  · skip
    refine ev_iload_n (i := 0) dX11_divided_8 rfl rfl ?_
    refine ev_iload_n (i := 1) dX11_divided_9 rfl rfl ?_
    refine ev_idiv dX11_divided_10 (h1) ?_
    exact ev_reti dX11_divided_11 rfl rfl (⟨by simp only [sp_div, h1, if_true, if_false], rfl⟩)
  · skip
    refine ev_iconst (v := 0) dX11_divided_4 cni_0 ?_
    refine ev_goto (tgt := 11) dX11_divided_5 (by decide) ?_
    exact ev_reti dX11_divided_11 rfl rfl (⟨by simp only [sp_div, h1, if_true, if_false], rfl⟩)
theorem c12_leftOver {G : ev_G} {n : Nat} {M : ev_M} {v b : Int32} : ev_Cal G mX11_leftOver 1 0 0 [.int v, .int b] n M (ev_is (some (.int (sp_rem v b))) M) := by
  refine ev_Cal_of (L := [some (.int v), some (.int b)]) (by decide +kernel) (Nat.le_of_ble_eq_true rfl) rfl ?_
  refine ev_iload_n (i := 1) dX11_leftOver_0 rfl rfl ?_
  refine ev_if_ne (tgt := 8) dX11_leftOver_1 (by decide) (fun h1 => ?_) (fun h1 => ?_)
  · skip
    refine ev_iload_n (i := 0) dX11_leftOver_8 rfl rfl ?_
    refine ev_iload_n (i := 1) dX11_leftOver_9 rfl rfl ?_
    refine ev_irem dX11_leftOver_10 (h1) ?_
    exact ev_reti dX11_leftOver_11 rfl rfl (⟨by simp only [sp_rem, h1, if_true, if_false], rfl⟩)
  · skip
    refine ev_iconst (v := 0) dX11_leftOver_4 cni_0 ?_
    refine ev_goto (tgt := 11) dX11_leftOver_5 (by decide) ?_
    exact ev_reti dX11_leftOver_11 rfl rfl (⟨by simp only [sp_rem, h1, if_true, if_false], rfl⟩)
theorem c12_spineOf {G : ev_G} {n : Nat} {M : ev_M} {st l t : Int32} : ev_Cal G mX11_spineOf 2 0 0 [.int st, .int l, .int t] n M (ev_is (some (.int (sp_spine st l t))) M) := by
  refine ev_Cal_of (L := [some (.int st), some (.int l), some (.int t)]) (by decide +kernel) (Nat.le_of_ble_eq_true rfl) rfl ?_
  refine ev_iload_n (i := 0) dX11_spineOf_0 rfl rfl ?_
  refine ev_bipush (v := 112) dX11_spineOf_1 cnb_112 ?_
  refine ev_imul dX11_spineOf_3 ?_
  refine ev_iload_n (i := 1) dX11_spineOf_4 rfl rfl ?_
  refine ev_c2 kX11_spineOf_5 (c12_divided) trivial (by decide) (by decide) (Nat.le_of_ble_eq_true rfl) ?_
  refine ev_iload_n (i := 2) dX11_spineOf_8 rfl rfl ?_
  refine ev_bipush (v := 10) dX11_spineOf_9 cnb_10 ?_
  refine ev_idiv dX11_spineOf_11 (by decide) ?_
  refine ev_isub dX11_spineOf_12 ?_
  exact ev_reti dX11_spineOf_13 rfl rfl (⟨by first | rfl | simp [*], rfl⟩)
theorem c12_needOf {G : ev_G} {n : Nat} {M : ev_M} {d w : Int32} : ev_Cal G mX11_needOf 1 0 0 [.int d, .int w] n M (ev_is (some (.int (sp_need d w))) M) := by
  refine ev_Cal_of (L := [some (.int d), some (.int w)]) (by decide +kernel) (Nat.le_of_ble_eq_true rfl) rfl ?_
  refine ev_iload_n (i := 0) dX11_needOf_0 rfl rfl ?_
  refine ev_iconst (v := 2) dX11_needOf_1 cni_2 ?_
  refine ev_iload_n (i := 1) dX11_needOf_2 rfl rfl ?_
  refine ev_imul dX11_needOf_3 ?_
  refine ev_iadd dX11_needOf_4 ?_
  exact ev_reti dX11_needOf_5 rfl rfl (⟨by first | rfl | simp [*], rfl⟩)
theorem c9_stiffBy {G : ev_G} {n : Nat} {M : ev_M} {a : Nat} {l w s0 s1 t fe nt : Int32} {sd : Int32} (hS : M a = .inr (9, [.int l, .int w, .int s0, .int s1, .int t, .int fe, .int nt]))  : ev_Cal G mX9_stiffBy 1 0 0 [.ref a, .int sd] n M (ev_is (some (.int (sp_stiff s0 s1 sd))) M) := by
  refine ev_Cal_of (L := [some (.ref a), some (.int sd)]) (by decide +kernel) (Nat.le_of_ble_eq_true rfl) rfl ?_
  refine ev_iload_n (i := 1) dX9_stiffBy_0 rfl rfl ?_
  refine ev_if_ne (tgt := 11) dX9_stiffBy_1 (by decide) (fun h1 => ?_) (fun h1 => ?_)
  · skip
    refine ev_aload_n (i := 0) dX9_stiffBy_11 rfl rfl ?_
    refine ev_getf dX9_stiffBy_12 flX9_21 (by first | assumption | rfl) (by rfl) ?_
    exact ev_reti dX9_stiffBy_15 rfl rfl (⟨by simp only [sp_stiff, h1, if_true, if_false], rfl⟩)
  · skip
    refine ev_aload_n (i := 0) dX9_stiffBy_4 rfl rfl ?_
    refine ev_getf dX9_stiffBy_5 flX9_18 (by first | assumption | rfl) (by rfl) ?_
    refine ev_goto (tgt := 15) dX9_stiffBy_8 (by decide) ?_
    exact ev_reti dX9_stiffBy_15 rfl rfl (⟨by simp only [sp_stiff, h1, if_true, if_false], rfl⟩)
theorem c9_spineBy {G : ev_G} {n : Nat} {M : ev_M} {a : Nat} {l w s0 s1 t fe nt : Int32} {sd : Int32} (hS : M a = .inr (9, [.int l, .int w, .int s0, .int s1, .int t, .int fe, .int nt]))  : ev_Cal G mX9_spineBy 3 0 0 [.ref a, .int sd] n M (ev_is (some (.int (sp_spine (sp_stiff s0 s1 sd) l t))) M) := by
  refine ev_Cal_of (L := [some (.ref a), some (.int sd)]) (by decide +kernel) (Nat.le_of_ble_eq_true rfl) rfl ?_
  refine ev_aload_n (i := 0) dX9_spineBy_0 rfl rfl ?_
  refine ev_iload_n (i := 1) dX9_spineBy_1 rfl rfl ?_
  refine ev_c2 kX9_spineBy_2 (c9_stiffBy hS) (ev_rv_of (by first | assumption | rfl) rfl rfl) (by decide) (by decide) (Nat.le_of_ble_eq_true rfl) ?_
  refine ev_aload_n (i := 0) dX9_spineBy_5 rfl rfl ?_
  refine ev_getf dX9_spineBy_6 flX9_9 (by first | assumption | rfl) (by rfl) ?_
  refine ev_aload_n (i := 0) dX9_spineBy_9 rfl rfl ?_
  refine ev_getf dX9_spineBy_10 flX9_24 (by first | assumption | rfl) (by rfl) ?_
  refine ev_c3 kX9_spineBy_13 (c12_spineOf) trivial (by decide) (by decide) (Nat.le_of_ble_eq_true rfl) ?_
  exact ev_reti dX9_spineBy_16 rfl rfl (⟨by first | rfl | simp [*], rfl⟩)
theorem c9_spine {G : ev_G} {n : Nat} {M : ev_M} {a : Nat} {l w s0 s1 t fe nt : Int32} (hS : M a = .inr (9, [.int l, .int w, .int s0, .int s1, .int t, .int fe, .int nt]))  : ev_Cal G mX9_spine 4 0 0 [.ref a] n M (ev_is (some (.int (sp_spine (sp_stiff s0 s1 nt) l t))) M) := by
  refine ev_Cal_of (L := [some (.ref a)]) (by decide +kernel) (Nat.le_of_ble_eq_true rfl) rfl ?_
  refine ev_aload_n (i := 0) dX9_spine_0 rfl rfl ?_
  refine ev_aload_n (i := 0) dX9_spine_1 rfl rfl ?_
  refine ev_getf dX9_spine_2 flX9_30 (by first | assumption | rfl) (by rfl) ?_
  refine ev_c2 kX9_spine_5 (c9_spineBy hS) (ev_rv_of (by first | assumption | rfl) rfl rfl) (by decide) (by decide) (Nat.le_of_ble_eq_true rfl) ?_
  exact ev_reti dX9_spine_8 rfl rfl (⟨by first | rfl | simp [*], rfl⟩)
theorem c9_mass {G : ev_G} {n : Nat} {M : ev_M} {a : Nat} {l w s0 s1 t fe nt : Int32} (hS : M a = .inr (9, [.int l, .int w, .int s0, .int s1, .int t, .int fe, .int nt]))  : ev_Cal G mX9_mass 1 0 0 [.ref a] n M (ev_is (some (.int (w + t))) M) := by
  refine ev_Cal_of (L := [some (.ref a)]) (by decide +kernel) (Nat.le_of_ble_eq_true rfl) rfl ?_
  refine ev_aload_n (i := 0) dX9_mass_0 rfl rfl ?_
  refine ev_getf dX9_mass_1 flX9_15 (by first | assumption | rfl) (by rfl) ?_
  refine ev_aload_n (i := 0) dX9_mass_4 rfl rfl ?_
  refine ev_getf dX9_mass_5 flX9_24 (by first | assumption | rfl) (by rfl) ?_
  refine ev_iadd dX9_mass_8 ?_
  exact ev_reti dX9_mass_9 rfl rfl (⟨by first | rfl | simp [*], rfl⟩)
theorem c9_mostCuts {G : ev_G} {n : Nat} {M : ev_M} {a : Nat} {l w s0 s1 t fe nt : Int32} (hS : M a = .inr (9, [.int l, .int w, .int s0, .int s1, .int t, .int fe, .int nt]))  : ev_Cal G mX9_mostCuts 1 0 0 [.ref a] n M (ev_is (some (.int (l - 80))) M) := by
  refine ev_Cal_of (L := [some (.ref a)]) (by decide +kernel) (Nat.le_of_ble_eq_true rfl) rfl ?_
  refine ev_aload_n (i := 0) dX9_mostCuts_0 rfl rfl ?_
  refine ev_getf dX9_mostCuts_1 flX9_9 (by first | assumption | rfl) (by rfl) ?_
  refine ev_bipush (v := 80) dX9_mostCuts_4 cnb_80 ?_
  refine ev_isub dX9_mostCuts_6 ?_
  exact ev_reti dX9_mostCuts_7 rfl rfl (⟨by first | rfl | simp [*], rfl⟩)
theorem c9_mostScrapes {G : ev_G} {n : Nat} {M : ev_M} {a : Nat} {l w s0 s1 t fe nt : Int32} (hS : M a = .inr (9, [.int l, .int w, .int s0, .int s1, .int t, .int fe, .int nt]))  : ev_Cal G mX9_mostScrapes 1 0 0 [.ref a] n M (ev_is (some (.int (sp_scr s0 s1 w))) M) := by
  refine ev_Cal_of (L := [some (.ref a)]) (by decide +kernel) (Nat.le_of_ble_eq_true rfl) rfl ?_
  refine ev_aload_n (i := 0) dX9_mostScrapes_0 rfl rfl ?_
  refine ev_getf dX9_mostScrapes_1 flX9_18 (by first | assumption | rfl) (by rfl) ?_
  refine ev_aload_n (i := 0) dX9_mostScrapes_4 rfl rfl ?_
  refine ev_getf dX9_mostScrapes_5 flX9_21 (by first | assumption | rfl) (by rfl) ?_
  refine ev_min2 dX9_mostScrapes_8 maX9_44 (by decide) (Nat.le_of_ble_eq_true rfl) ?_
  refine ev_bipush (v := 20) dX9_mostScrapes_11 cnb_20 ?_
  refine ev_isub dX9_mostScrapes_13 ?_
  refine ev_aload_n (i := 0) dX9_mostScrapes_14 rfl rfl ?_
  refine ev_getf dX9_mostScrapes_15 flX9_15 (by first | assumption | rfl) (by rfl) ?_
  refine ev_sipush (v := 200) dX9_mostScrapes_18 cns_200 ?_
  refine ev_isub dX9_mostScrapes_21 ?_
  refine ev_iconst (v := 2) dX9_mostScrapes_22 cni_2 ?_
  refine ev_idiv dX9_mostScrapes_23 (by decide) ?_
  refine ev_min2 dX9_mostScrapes_24 maX9_44 (by decide) (Nat.le_of_ble_eq_true rfl) ?_
  exact ev_reti dX9_mostScrapes_27 rfl rfl (⟨by first | rfl | simp [*], rfl⟩)
theorem c9_mostLoads {G : ev_G} {n : Nat} {M : ev_M} {a : Nat} {l w s0 s1 t fe nt : Int32} (hS : M a = .inr (9, [.int l, .int w, .int s0, .int s1, .int t, .int fe, .int nt]))  : ev_Cal G mX9_mostLoads 1 0 0 [.ref a] n M (ev_is (some (.int ((200 - t) / 5))) M) := by
  refine ev_Cal_of (L := [some (.ref a)]) (by decide +kernel) (Nat.le_of_ble_eq_true rfl) rfl ?_
  refine ev_sipush (v := 200) dX9_mostLoads_0 cns_200 ?_
  refine ev_aload_n (i := 0) dX9_mostLoads_3 rfl rfl ?_
  refine ev_getf dX9_mostLoads_4 flX9_24 (by first | assumption | rfl) (by rfl) ?_
  refine ev_isub dX9_mostLoads_7 ?_
  refine ev_iconst (v := 5) dX9_mostLoads_8 cni_5 ?_
  refine ev_idiv dX9_mostLoads_9 (by decide) ?_
  exact ev_reti dX9_mostLoads_10 rfl rfl (⟨by first | rfl | simp [*], rfl⟩)
theorem c9_copy {G : ev_G} {n : Nat} {M : ev_M} {a : Nat} {l w s0 s1 t fe nt : Int32} {b : Nat} {l2 w2 s02 s12 t2 fe2 nt2 : Int32} (hS : M a = .inr (9, [.int l, .int w, .int s0, .int s1, .int t, .int fe, .int nt])) (hb : M b = .inr (9, [.int l2, .int w2, .int s02, .int s12, .int t2, .int fe2, .int nt2])) (hab : b ≠ a) : ev_Cal G mX9_copy 1 0 0 [.ref a, .ref b] n M (ev_is none (ev_set M a (.inr (9, [.int l2, .int w2, .int s02, .int s12, .int t2, .int fe2, .int nt2])))) := by
  refine ev_Cal_of (L := [some (.ref a), some (.ref b)]) (by decide +kernel) (Nat.le_of_ble_eq_true rfl) rfl ?_
  refine ev_pre1 hS ?_
  refine ev_aload_n (i := 0) dX9_copy_0 rfl rfl ?_
  refine ev_aload_n (i := 1) dX9_copy_1 rfl rfl ?_
  refine ev_getf dX9_copy_2 flX9_9 (by first | exact (ev_set_ne hab).trans hb | exact ev_set_eq) (by rfl) ?_
  refine ev_putiU dX9_copy_5 fpX9_9 (Nat.le_of_ble_eq_true rfl) ?_
  refine ev_aload_n (i := 0) dX9_copy_8 rfl rfl ?_
  refine ev_aload_n (i := 1) dX9_copy_9 rfl rfl ?_
  refine ev_getf dX9_copy_10 flX9_15 (by first | exact (ev_set_ne hab).trans hb | exact ev_set_eq) (by rfl) ?_
  refine ev_putiU dX9_copy_13 fpX9_15 (Nat.le_of_ble_eq_true rfl) ?_
  refine ev_aload_n (i := 0) dX9_copy_16 rfl rfl ?_
  refine ev_aload_n (i := 1) dX9_copy_17 rfl rfl ?_
  refine ev_getf dX9_copy_18 flX9_18 (by first | exact (ev_set_ne hab).trans hb | exact ev_set_eq) (by rfl) ?_
  refine ev_putiU dX9_copy_21 fpX9_18 (Nat.le_of_ble_eq_true rfl) ?_
  refine ev_aload_n (i := 0) dX9_copy_24 rfl rfl ?_
  refine ev_aload_n (i := 1) dX9_copy_25 rfl rfl ?_
  refine ev_getf dX9_copy_26 flX9_21 (by first | exact (ev_set_ne hab).trans hb | exact ev_set_eq) (by rfl) ?_
  refine ev_putiU dX9_copy_29 fpX9_21 (Nat.le_of_ble_eq_true rfl) ?_
  refine ev_aload_n (i := 0) dX9_copy_32 rfl rfl ?_
  refine ev_aload_n (i := 1) dX9_copy_33 rfl rfl ?_
  refine ev_getf dX9_copy_34 flX9_24 (by first | exact (ev_set_ne hab).trans hb | exact ev_set_eq) (by rfl) ?_
  refine ev_putiU dX9_copy_37 fpX9_24 (Nat.le_of_ble_eq_true rfl) ?_
  refine ev_aload_n (i := 0) dX9_copy_40 rfl rfl ?_
  refine ev_aload_n (i := 1) dX9_copy_41 rfl rfl ?_
  refine ev_getf dX9_copy_42 flX9_27 (by first | exact (ev_set_ne hab).trans hb | exact ev_set_eq) (by rfl) ?_
  refine ev_putiU dX9_copy_45 fpX9_27 (Nat.le_of_ble_eq_true rfl) ?_
  refine ev_aload_n (i := 0) dX9_copy_48 rfl rfl ?_
  refine ev_aload_n (i := 1) dX9_copy_49 rfl rfl ?_
  refine ev_getf dX9_copy_50 flX9_30 (by first | exact (ev_set_ne hab).trans hb | exact ev_set_eq) (by rfl) ?_
  refine ev_putiU dX9_copy_53 fpX9_30 (Nat.le_of_ble_eq_true rfl) ?_
  exact ev_retv dX9_copy_56 rfl (⟨rfl, rfl⟩)
theorem c1_need {G : ev_G} {n : Nat} {M : ev_M} {b : Nat} {dr wi : Int32} (hB : M b = .inr (1, [.int dr, .int wi]))  : ev_Cal G mX1_need 2 0 0 [.ref b] n M (ev_is (some (.int (sp_need dr wi))) M) := by
  refine ev_Cal_of (L := [some (.ref b)]) (by decide +kernel) (Nat.le_of_ble_eq_true rfl) rfl ?_
  refine ev_aload_n (i := 0) dX1_need_0 rfl rfl ?_
  refine ev_getf dX1_need_1 flX1_7 (by first | assumption | rfl) (by rfl) ?_
  refine ev_aload_n (i := 0) dX1_need_4 rfl rfl ?_
  refine ev_getf dX1_need_5 flX1_13 (by first | assumption | rfl) (by rfl) ?_
  refine ev_c2 kX1_need_8 (c12_needOf) trivial (by decide) (by decide) (Nat.le_of_ble_eq_true rfl) ?_
  exact ev_reti dX1_need_11 rfl rfl (⟨by first | rfl | simp [*], rfl⟩)
theorem c1_dropOf {G : ev_G} {n : Nat} {M : ev_M} {b : Nat} {dr wi : Int32} (hB : M b = .inr (1, [.int dr, .int wi])) {a : Nat} {l w s0 s1 t fe nt : Int32} (hS : M a = .inr (9, [.int l, .int w, .int s0, .int s1, .int t, .int fe, .int nt])) {f2 : Int32} : ev_Cal G mX1_dropOf 2 0 0 [.ref b, .ref a, .int f2] n M (ev_is (some (.int (sp_drop (w + t) dr f2))) M) := by
  refine ev_Cal_of (L := [some (.ref b), some (.ref a), some (.int f2)]) (by decide +kernel) (Nat.le_of_ble_eq_true rfl) rfl ?_
  refine ev_bipush (v := 10) dX1_dropOf_0 cnb_10 ?_
  refine ev_aload_n (i := 1) dX1_dropOf_2 rfl rfl ?_
  refine ev_c1 kX1_dropOf_3 (c9_mass hS) (ev_rv_of (by first | assumption | rfl) rfl rfl) (by decide) (by decide) (Nat.le_of_ble_eq_true rfl) ?_
  refine ev_imul dX1_dropOf_6 ?_
  refine ev_aload_n (i := 0) dX1_dropOf_7 rfl rfl ?_
  refine ev_getf dX1_dropOf_8 flX1_7 (by first | assumption | rfl) (by rfl) ?_
  refine ev_c2 kX1_dropOf_11 (c12_divided) trivial (by decide) (by decide) (Nat.le_of_ble_eq_true rfl) ?_
  refine ev_iload_n (i := 2) dX1_dropOf_14 rfl rfl ?_
  refine ev_iadd dX1_dropOf_15 ?_
  exact ev_reti dX1_dropOf_16 rfl rfl (⟨by first | rfl | simp [*], rfl⟩)
theorem c11_wind {G : ev_G} {n : Nat} {M : ev_M} {tu : Nat → Int32} (hT : M 25 = .inr (10, [.ref 26])) (hV : M 26 = .inl (0, 4, .inl tu))  : ev_Cal G mX10_wind 1 0 0 [.ref 25] n M (ev_is (some (.int (tu 3))) M) := by
  refine ev_Cal_of (L := [some (.ref 25)]) (by decide +kernel) (Nat.le_of_ble_eq_true rfl) rfl ?_
  refine ev_aload_n (i := 0) dX10_wind_0 rfl rfl ?_
  refine ev_getf dX10_wind_1 flX10_9 (by first | assumption | rfl) (by rfl) ?_
  refine ev_iconst (v := 3) dX10_wind_4 cni_3 ?_
  refine ev_iald (j := 3) dX10_wind_5 (by first | assumption | rfl) (by decide) (by decide) ?_
  exact ev_reti dX10_wind_6 rfl rfl (⟨by first | rfl | simp [*], rfl⟩)
theorem c11_isClean {G : ev_G} {n : Nat} {M : ev_M} {tu : Nat → Int32} (hT : M 25 = .inr (10, [.ref 26])) (hV : M 26 = .inl (0, 4, .inl tu)) {off : Int32} : ev_Cal G mX10_isClean 1 0 0 [.ref 25, .int off] n M (ev_is (some (.int (ev_b (sp_clean (tu 0) off)))) M) := by
  refine ev_Cal_of (L := [some (.ref 25), some (.int off)]) (by decide +kernel) (Nat.le_of_ble_eq_true rfl) rfl ?_
  refine ev_iload_n (i := 1) dX10_isClean_0 rfl rfl ?_
  refine ev_abs2 dX10_isClean_1 maX10_26 (by decide) (Nat.le_of_ble_eq_true rfl) ?_
  refine ev_aload_n (i := 0) dX10_isClean_4 rfl rfl ?_
  refine ev_getf dX10_isClean_5 flX10_9 (by first | assumption | rfl) (by rfl) ?_
  refine ev_iconst (v := 0) dX10_isClean_8 cni_0 ?_
  refine ev_iald (j := 0) dX10_isClean_9 (by first | assumption | rfl) (by decide) (by decide) ?_
  refine ev_icmp_gt (tgt := 17) dX10_isClean_10 (by decide) (fun h1 => ?_) (fun h1 => ?_)
  · skip
    refine ev_iconst (v := 0) dX10_isClean_17 cni_0 ?_
    exact ev_reti dX10_isClean_18 rfl rfl (⟨by rw [sp_clean]; first | (rw [decide_eq_true h1]; rfl) | (rw [decide_eq_false (Int32.not_le.mpr h1)]; rfl), rfl⟩)
  · skip
    refine ev_iconst (v := 1) dX10_isClean_13 cni_1 ?_
    refine ev_goto (tgt := 18) dX10_isClean_14 (by decide) ?_
    exact ev_reti dX10_isClean_18 rfl rfl (⟨by rw [sp_clean]; first | (rw [decide_eq_true h1]; rfl) | (rw [decide_eq_false (Int32.not_le.mpr h1)]; rfl), rfl⟩)
theorem c11_flightOf {G : ev_G} {n : Nat} {M : ev_M} {tu : Nat → Int32} (hT : M 25 = .inr (10, [.ref 26])) (hV : M 26 = .inl (0, 4, .inl tu)) {off : Int32} : ev_Cal G mX10_flightOf 2 0 0 [.ref 25, .int off] n M (ev_is (some (.int (sp_kind (tu 0) (tu 1) off))) M) := by
  refine ev_Cal_of (L := [some (.ref 25), some (.int off)]) (by decide +kernel) (Nat.le_of_ble_eq_true rfl) rfl ?_
  refine ev_aload_n (i := 0) dX10_flightOf_0 rfl rfl ?_
  refine ev_iload_n (i := 1) dX10_flightOf_1 rfl rfl ?_
  refine ev_c2 kX10_flightOf_2 (c11_isClean hT hV) (ev_rv_of (by first | assumption | rfl) rfl rfl) (by decide) (by decide) (Nat.le_of_ble_eq_true rfl) ?_
  refine ev_if_eqb (tgt := 10) dX10_flightOf_5 (by decide) (fun h0 => ?_) (fun h0 => ?_)
  · skip
    refine ev_iload_n (i := 1) dX10_flightOf_10 rfl rfl ?_
    refine ev_abs2 dX10_flightOf_11 maX10_26 (by decide) (Nat.le_of_ble_eq_true rfl) ?_
    refine ev_aload_n (i := 0) dX10_flightOf_14 rfl rfl ?_
    refine ev_getf dX10_flightOf_15 flX10_9 (by first | assumption | rfl) (by rfl) ?_
    refine ev_iconst (v := 1) dX10_flightOf_18 cni_1 ?_
    refine ev_iald (j := 1) dX10_flightOf_19 (by first | assumption | rfl) (by decide) (by decide) ?_
    refine ev_icmp_le (tgt := 25) dX10_flightOf_20 (by decide) (fun h1 => ?_) (fun h1 => ?_)
    · skip
      refine ev_iload_n (i := 1) dX10_flightOf_25 rfl rfl ?_
      refine ev_if_le (tgt := 33) dX10_flightOf_26 (by decide) (fun h2 => ?_) (fun h2 => ?_)
      · skip
        refine ev_iconst (v := 5) dX10_flightOf_33 cni_5 ?_
        exact ev_reti dX10_flightOf_34 rfl rfl (⟨by rw [sp_kind, if_neg (of_decide_eq_false h0), if_neg (Int32.not_lt.mpr h1)]; first | rw [if_pos h2] | rw [if_neg (Int32.not_lt.mpr h2)], rfl⟩)
      · skip
        refine ev_iconst (v := 2) dX10_flightOf_29 cni_2 ?_
        refine ev_goto (tgt := 34) dX10_flightOf_30 (by decide) ?_
        exact ev_reti dX10_flightOf_34 rfl rfl (⟨by rw [sp_kind, if_neg (of_decide_eq_false h0), if_neg (Int32.not_lt.mpr h1)]; first | rw [if_pos h2] | rw [if_neg (Int32.not_lt.mpr h2)], rfl⟩)
    · skip
      refine ev_iconst (v := 4) dX10_flightOf_23 cni_4 ?_
      exact ev_reti dX10_flightOf_24 rfl rfl (⟨by rw [sp_kind, if_neg (of_decide_eq_false h0), if_pos h1], rfl⟩)
  · skip
    refine ev_iconst (v := 1) dX10_flightOf_8 cni_1 ?_
    exact ev_reti dX10_flightOf_9 rfl rfl (⟨by rw [sp_kind, if_pos (of_decide_eq_true h0)], rfl⟩)
theorem c11_bareOf {G : ev_G} {n : Nat} {M : ev_M} {tu : Nat → Int32} (hT : M 25 = .inr (10, [.ref 26])) (hV : M 26 = .inl (0, 4, .inl tu)) {off : Int32} : ev_Cal G mX10_bareOf 3 0 0 [.ref 25, .int off] n M (ev_is (some (.int (sp_bare (tu 0) (tu 1) (tu 2) off))) M) := by
  refine ev_Cal_of (L := [some (.ref 25), some (.int off), none]) (by decide +kernel) (Nat.le_of_ble_eq_true rfl) rfl ?_
  refine ev_iload_n (i := 1) dX10_bareOf_0 rfl rfl ?_
  refine ev_aload_n (i := 0) dX10_bareOf_1 rfl rfl ?_
  refine ev_getf dX10_bareOf_2 flX10_9 (by first | assumption | rfl) (by rfl) ?_
  refine ev_iconst (v := 2) dX10_bareOf_5 cni_2 ?_
  refine ev_iald (j := 2) dX10_bareOf_6 (by first | assumption | rfl) (by decide) (by decide) ?_
  refine ev_imul dX10_bareOf_7 ?_
  refine ev_bipush (v := 10) dX10_bareOf_8 cnb_10 ?_
  refine ev_idiv dX10_bareOf_10 (by decide) ?_
  refine ev_ineg dX10_bareOf_11 ?_
  refine ev_istore_n (i := 2) dX10_bareOf_12 rfl (Nat.le_of_ble_eq_true rfl) rfl ?_
  refine ev_aload_n (i := 0) dX10_bareOf_13 rfl rfl ?_
  refine ev_iload_n (i := 1) dX10_bareOf_14 rfl rfl ?_
  refine ev_c2 kX10_bareOf_15 (c11_flightOf hT hV) (ev_rv_of (by first | assumption | rfl) rfl rfl) (by decide) (by decide) (Nat.le_of_ble_eq_true rfl) ?_
  rcases sp_kind_cases (tu 0) (tu 1) off with h1 | h1 | h1 | h1
  · rw [h1]
    refine ev_lookup (off := 26) (tgt := 44) dX10_bareOf_18 (by decide) (by decide) (by decide) ?_
    refine ev_iconst (v := 0) dX10_bareOf_44 cni_0 ?_
    exact ev_reti dX10_bareOf_45 rfl rfl (⟨by simp only [sp_bare, h1]; first | rfl | simp, rfl⟩)
  · rw [h1]
    refine ev_lookup (off := 28) (tgt := 46) dX10_bareOf_18 (by decide) (by decide) (by decide) ?_
    refine ev_iconst (v := 2) dX10_bareOf_46 cni_2 ?_
    refine ev_iload_n (i := 2) dX10_bareOf_47 rfl rfl ?_
    refine ev_imul dX10_bareOf_48 ?_
    exact ev_reti dX10_bareOf_49 rfl rfl (⟨by simp only [sp_bare, h1]; first | rfl | simp, rfl⟩)
  · rw [h1]
    refine ev_lookup (off := 32) (tgt := 50) dX10_bareOf_18 (by decide) (by decide) (by decide) ?_
    refine ev_iload_n (i := 2) dX10_bareOf_50 rfl rfl ?_
    exact ev_reti dX10_bareOf_51 rfl rfl (⟨by simp only [sp_bare, h1]; first | rfl | simp, rfl⟩)
  · rw [h1]
    refine ev_lookup (off := 32) (tgt := 50) dX10_bareOf_18 (by decide) (by decide) (by decide) ?_
    refine ev_iload_n (i := 2) dX10_bareOf_50 rfl rfl ?_
    exact ev_reti dX10_bareOf_51 rfl rfl (⟨by simp only [sp_bare, h1]; first | rfl | simp, rfl⟩)
theorem c11_feathered {G : ev_G} {n : Nat} {M : ev_M} {tu : Nat → Int32} (hT : M 25 = .inr (10, [.ref 26])) (hV : M 26 = .inl (0, 4, .inl tu)) {off fe : Int32} : ev_Cal G mX10_feathered 4 0 0 [.ref 25, .int off, .int fe] n M (ev_is (some (.int (sp_fth (tu 0) (tu 1) (tu 2) off fe))) M) := by
  refine ev_Cal_of (L := [some (.ref 25), some (.int off), some (.int fe)]) (by decide +kernel) (Nat.le_of_ble_eq_true rfl) rfl ?_
  refine ev_aload_n (i := 0) dX10_feathered_0 rfl rfl ?_
  refine ev_iload_n (i := 1) dX10_feathered_1 rfl rfl ?_
  refine ev_c2 kX10_feathered_2 (c11_bareOf hT hV) (ev_rv_of (by first | assumption | rfl) rfl rfl) (by decide) (by decide) (Nat.le_of_ble_eq_true rfl) ?_
  refine ev_bipush (v := 10) dX10_feathered_5 cnb_10 ?_
  refine ev_iload_n (i := 2) dX10_feathered_7 rfl rfl ?_
  refine ev_isub dX10_feathered_8 ?_
  refine ev_imul dX10_feathered_9 ?_
  refine ev_bipush (v := 10) dX10_feathered_10 cnb_10 ?_
  refine ev_idiv dX10_feathered_12 (by decide) ?_
  exact ev_reti dX10_feathered_13 rfl rfl (⟨by first | rfl | simp [*], rfl⟩)
theorem c11_goesOf {G : ev_G} {n : Nat} {M : ev_M} {tu : Nat → Int32} (hT : M 25 = .inr (10, [.ref 26])) (hV : M 26 = .inl (0, 4, .inl tu)) {a : Nat} {l w s0 s1 t fe nt : Int32} (hS : M a = .inr (9, [.int l, .int w, .int s0, .int s1, .int t, .int fe, .int nt])) {off f2 : Int32} : ev_Cal G mX10_goesOf 5 0 0 [.ref 25, .ref a, .int off, .int f2] n M (ev_is (some (.int (sp_goes (tu 0) (tu 1) (tu 2) (tu 3) off f2 (w + t)))) M) := by
  refine ev_Cal_of (L := [some (.ref 25), some (.ref a), some (.int off), some (.int f2)]) (by decide +kernel) (Nat.le_of_ble_eq_true rfl) rfl ?_
  refine ev_aload_n (i := 0) dX10_goesOf_0 rfl rfl ?_
  refine ev_iload_n (i := 2) dX10_goesOf_1 rfl rfl ?_
  refine ev_iload_n (i := 3) dX10_goesOf_2 rfl rfl ?_
  refine ev_c3 kX10_goesOf_3 (c11_feathered hT hV) (ev_rv_of (by first | assumption | rfl) rfl rfl) (by decide) (by decide) (Nat.le_of_ble_eq_true rfl) ?_
  refine ev_aload_n (i := 0) dX10_goesOf_6 rfl rfl ?_
  refine ev_c1 kX10_goesOf_7 (c11_wind hT hV) (ev_rv_of (by first | assumption | rfl) rfl rfl) (by decide) (by decide) (Nat.le_of_ble_eq_true rfl) ?_
  refine ev_sipush (v := 600) dX10_goesOf_10 cns_600 ?_
  refine ev_imul dX10_goesOf_13 ?_
  refine ev_aload_n (i := 1) dX10_goesOf_14 rfl rfl ?_
  refine ev_c1 kX10_goesOf_15 (c9_mass hS) (ev_rv_of (by first | assumption | rfl) rfl rfl) (by decide) (by decide) (Nat.le_of_ble_eq_true rfl) ?_
  refine ev_c2 kX10_goesOf_18 (c12_divided) trivial (by decide) (by decide) (Nat.le_of_ble_eq_true rfl) ?_
  refine ev_iadd dX10_goesOf_21 ?_
  exact ev_reti dX10_goesOf_22 rfl rfl (⟨by first | rfl | simp [*], rfl⟩)
