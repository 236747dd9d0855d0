/-! ===== contracts: constructors, the small ones ===== -/
theorem c9_init {G : ev_G} {n : Nat} {M : ev_M} {a : Nat} : ev_Cal G mX9_init 1 0 0 [.ref a] n M (ev_is none M) := by
  refine ev_Cal_of (L := [some (.ref a)]) (by decide +kernel) (Nat.le_of_ble_eq_true rfl) rfl ?_
  refine ev_aload_n (i := 0) dX9_init_0 rfl rfl ?_
  refine ev_objInit dX9_init_1 obX9_3 (by decide) (Nat.le_of_ble_eq_true rfl) ?_
  exact ev_retv dX9_init_4 rfl (⟨rfl, rfl⟩)
theorem c1_init {G : ev_G} {n : Nat} {M : ev_M} {a : Nat} : ev_Cal G mX1_init 1 0 0 [.ref a] n M (ev_is none M) := by
  refine ev_Cal_of (L := [some (.ref a)]) (by decide +kernel) (Nat.le_of_ble_eq_true rfl) rfl ?_
  refine ev_aload_n (i := 0) dX1_init_0 rfl rfl ?_
  refine ev_objInit dX1_init_1 obX1_1 (by decide) (Nat.le_of_ble_eq_true rfl) ?_
  exact ev_retv dX1_init_4 rfl (⟨rfl, rfl⟩)
theorem c0_init {G : ev_G} {n : Nat} {M : ev_M} {a : Nat} : ev_Cal G mX0_init 1 0 0 [.ref a] n M (ev_is none M) := by
  refine ev_Cal_of (L := [some (.ref a)]) (by decide +kernel) (Nat.le_of_ble_eq_true rfl) rfl ?_
  refine ev_aload_n (i := 0) dX0_init_0 rfl rfl ?_
  refine ev_objInit dX0_init_1 obX0_1 (by decide) (Nat.le_of_ble_eq_true rfl) ?_
  exact ev_retv dX0_init_4 rfl (⟨rfl, rfl⟩)
theorem c6_init {G : ev_G} {n : Nat} {M : ev_M} {a : Nat} : ev_Cal G mX6_init 1 0 0 [.ref a] n M (ev_is none M) := by
  refine ev_Cal_of (L := [some (.ref a)]) (by decide +kernel) (Nat.le_of_ble_eq_true rfl) rfl ?_
  refine ev_aload_n (i := 0) dX6_init_0 rfl rfl ?_
  refine ev_objInit dX6_init_1 obX6_3 (by decide) (Nat.le_of_ble_eq_true rfl) ?_
  exact ev_retv dX6_init_4 rfl (⟨rfl, rfl⟩)
theorem c5_init {G : ev_G} {n : Nat} {M : ev_M} {a : Nat} : ev_Cal G mX5_init 1 0 0 [.ref a] n M (ev_is none M) := by
  refine ev_Cal_of (L := [some (.ref a)]) (by decide +kernel) (Nat.le_of_ble_eq_true rfl) rfl ?_
  refine ev_aload_n (i := 0) dX5_init_0 rfl rfl ?_
  refine ev_objInit dX5_init_1 obX5_3 (by decide) (Nat.le_of_ble_eq_true rfl) ?_
  exact ev_retv dX5_init_4 rfl (⟨rfl, rfl⟩)
theorem c11_init {G : ev_G} {n : Nat} {M : ev_M} {a : Nat} (ha : a < 21 + n) (hM : M a = .inr (10, [.null])) : ev_Cal G mX10_init 1 1 4 [.ref a] n M (ev_is none (ev_set (ev_set M (21 + n) (.inl (0, 4, .inl (upd (upd (upd (upd (fun _ => 0) 0 4) 1 15) 2 10) 3 0)))) a (.inr (10, [.ref (21 + n)])))) := by
  refine ev_Cal_of (L := [some (.ref a)]) (by decide +kernel) (Nat.le_of_ble_eq_true rfl) rfl ?_
  refine ev_aload_n (i := 0) dX10_init_0 rfl rfl ?_
  refine ev_objInit dX10_init_1 obX10_3 (by decide) (Nat.le_of_ble_eq_true rfl) ?_
  refine ev_aload_n (i := 0) dX10_init_4 rfl rfl ?_
  refine ev_iconst (v := 4) dX10_init_5 cni_4 ?_
  refine ev_newI (N := 4) dX10_init_6 arI (by decide) (by decide) rfl rfl ?_
  refine ev_dup dX10_init_8 rfl ?_
  refine ev_iconst (v := 0) dX10_init_9 cni_0 ?_
  refine ev_iconst (v := 4) dX10_init_10 cni_4 ?_
  refine ev_iastU (j := 0) dX10_init_11 (ev_ixc rfl (by decide)) (by decide) ?_
  refine ev_dup dX10_init_12 rfl ?_
  refine ev_iconst (v := 1) dX10_init_13 cni_1 ?_
  refine ev_bipush (v := 15) dX10_init_14 cnb_15 ?_
  refine ev_iastU (j := 1) dX10_init_16 (ev_ixc rfl (by decide)) (by decide) ?_
  refine ev_dup dX10_init_17 rfl ?_
  refine ev_iconst (v := 2) dX10_init_18 cni_2 ?_
  refine ev_bipush (v := 10) dX10_init_19 cnb_10 ?_
  refine ev_iastU (j := 2) dX10_init_21 (ev_ixc rfl (by decide)) (by decide) ?_
  refine ev_dup dX10_init_22 rfl ?_
  refine ev_iconst (v := 3) dX10_init_23 cni_3 ?_
  refine ev_iconst (v := 0) dX10_init_24 cni_0 ?_
  refine ev_iastU (j := 3) dX10_init_25 (ev_ixc rfl (by decide)) (by decide) ?_
  refine ev_putaF dX10_init_26 fpX10_9 rfl (by exact (ev_set_ne (by omega)).trans hM) (by exact Nat.le_of_ble_eq_true rfl) ?_
  exact ev_retv dX10_init_29 rfl (⟨rfl, rfl⟩)
theorem c7_init {G : ev_G} {n : Nat} {M : ev_M} {a : Nat} (ha : a < 21 + n) (hM : M a = .inr (7, [.null, .null, .int 0, .int 0])) : ev_Cal G mX7_init 1 2 406 [.ref a] n M (ev_is none (ev_set (ev_set (ev_set M (21 + n) (.inl (0, 400, .inl (fun _ => 0)))) (21 + (n + 1)) (.inl (0, 6, .inl (fun _ => 0)))) a (.inr (7, [.ref (21 + n), .ref (21 + (n + 1)), .int 0, .int 0])))) := by
  refine ev_Cal_of (L := [some (.ref a)]) (by decide +kernel) (Nat.le_of_ble_eq_true rfl) rfl ?_
  refine ev_aload_n (i := 0) dX7_init_0 rfl rfl ?_
  refine ev_objInit dX7_init_1 obX7_3 (by decide) (Nat.le_of_ble_eq_true rfl) ?_
  refine ev_aload_n (i := 0) dX7_init_4 rfl rfl ?_
  refine ev_sipush (v := 400) dX7_init_5 cns_400 ?_
  refine ev_newI (N := 400) dX7_init_8 arI (by decide) (by decide) rfl rfl ?_
  refine ev_putaF dX7_init_10 fpX7_9 rfl (by first | exact ev_set_eq | exact (ev_set_ne (by omega)).trans hM) (by exact Nat.le_of_ble_eq_true rfl) ?_
  refine ev_aload_n (i := 0) dX7_init_13 rfl rfl ?_
  refine ev_bipush (v := 6) dX7_init_14 cnb_6 ?_
  refine ev_newI (N := 6) dX7_init_16 arI (by decide) (by decide) rfl rfl ?_
  refine ev_mem (ev_set_comm (by omega)) ?_
  refine ev_putaF dX7_init_18 fpX7_15 rfl (by first | exact ev_set_eq | exact (ev_set_ne (by omega)).trans hM) (by exact Nat.le_of_ble_eq_true rfl) ?_
  refine ev_mem ev_set_set ?_
  exact ev_retv dX7_init_21 rfl (⟨rfl, rfl⟩)
theorem c2_init {G : ev_G} {n : Nat} {M : ev_M} {a : Nat} (ha : a < 21 + n) (hM : M a = .inr (2, [.null, .null, .null, .int 0, .int 0, .int 0])) : ev_Cal G mX2_init 1 3 36 [.ref a] n M (ev_is none (ev_set (ev_set (ev_set (ev_set M (21 + n) (.inl (0, 12, .inl (fun _ => 0)))) (21 + (n + 1)) (.inl (0, 12, .inl (fun _ => 0)))) (21 + (n + 2)) (.inl (0, 12, .inl (fun _ => 0)))) a (.inr (2, [.ref (21 + n), .ref (21 + (n + 1)), .ref (21 + (n + 2)), .int 0, .int 0, .int 0])))) := by
  refine ev_Cal_of (L := [some (.ref a)]) (by decide +kernel) (Nat.le_of_ble_eq_true rfl) rfl ?_
  refine ev_aload_n (i := 0) dX2_init_0 rfl rfl ?_
  refine ev_objInit dX2_init_1 obX2_3 (by decide) (Nat.le_of_ble_eq_true rfl) ?_
  refine ev_aload_n (i := 0) dX2_init_4 rfl rfl ?_
  refine ev_bipush (v := 12) dX2_init_5 cnb_12 ?_
  refine ev_newI (N := 12) dX2_init_7 arI (by decide) (by decide) rfl rfl ?_
  refine ev_putaF dX2_init_9 fpX2_9 rfl (by first | exact ev_set_eq | exact (ev_set_ne (by omega)).trans hM) (by exact Nat.le_of_ble_eq_true rfl) ?_
  refine ev_aload_n (i := 0) dX2_init_12 rfl rfl ?_
  refine ev_bipush (v := 12) dX2_init_13 cnb_12 ?_
  refine ev_newI (N := 12) dX2_init_15 arI (by decide) (by decide) rfl rfl ?_
  refine ev_mem (ev_set_comm (by omega)) ?_
  refine ev_putaF dX2_init_17 fpX2_15 rfl (by first | exact ev_set_eq | exact (ev_set_ne (by omega)).trans hM) (by exact Nat.le_of_ble_eq_true rfl) ?_
  refine ev_mem ev_set_set ?_
  refine ev_aload_n (i := 0) dX2_init_20 rfl rfl ?_
  refine ev_bipush (v := 12) dX2_init_21 cnb_12 ?_
  refine ev_newI (N := 12) dX2_init_23 arI (by decide) (by decide) rfl rfl ?_
  refine ev_mem (ev_set_comm (by omega)) ?_
  refine ev_putaF dX2_init_25 fpX2_18 rfl (by first | exact ev_set_eq | exact (ev_set_ne (by omega)).trans hM) (by exact Nat.le_of_ble_eq_true rfl) ?_
  refine ev_mem ev_set_set ?_
  exact ev_retv dX2_init_28 rfl (⟨rfl, rfl⟩)
theorem c8_init {G : ev_G} {n : Nat} {M : ev_M} {a : Nat} (ha : a < 21 + n) (hM : M a = .inr (8, [.null, .null, .null, .null, .null, .null, .null, .long 0, .long 0, .int 0])) : ev_Cal G mX8_init 1 7 324 [.ref a] n M (ev_is none (ev_set (ev_set (ev_set (ev_set (ev_set (ev_set (ev_set (ev_set M (21 + n) (.inl (0, 60, .inl (fun _ => 0)))) (21 + (n + 1)) (.inl (0, 60, .inl (fun _ => 0)))) (21 + (n + 2)) (.inl (0, 60, .inl (fun _ => 0)))) (21 + (n + 3)) (.inl (0, 60, .inl (fun _ => 0)))) (21 + (n + 4)) (.inl (0, 60, .inl (fun _ => 0)))) (21 + (n + 5)) (.inl (0, 12, .inl (fun _ => 0)))) (21 + (n + 6)) (.inl (0, 12, .inl (fun _ => 0)))) a (.inr (8, [.ref (21 + n), .ref (21 + (n + 1)), .ref (21 + (n + 2)), .ref (21 + (n + 3)), .ref (21 + (n + 4)), .ref (21 + (n + 5)), .ref (21 + (n + 6)), .long 0, .long 0, .int 0])))) := by
  refine ev_Cal_of (L := [some (.ref a)]) (by decide +kernel) (Nat.le_of_ble_eq_true rfl) rfl ?_
  refine ev_aload_n (i := 0) dX8_init_0 rfl rfl ?_
  refine ev_objInit dX8_init_1 obX8_3 (by decide) (Nat.le_of_ble_eq_true rfl) ?_
  refine ev_aload_n (i := 0) dX8_init_4 rfl rfl ?_
  refine ev_bipush (v := 60) dX8_init_5 cnb_60 ?_
  refine ev_newI (N := 60) dX8_init_7 arI (by decide) (by decide) rfl rfl ?_
  refine ev_putaF dX8_init_9 fpX8_9 rfl (by first | exact ev_set_eq | exact (ev_set_ne (by omega)).trans hM) (by exact Nat.le_of_ble_eq_true rfl) ?_
  refine ev_aload_n (i := 0) dX8_init_12 rfl rfl ?_
  refine ev_bipush (v := 60) dX8_init_13 cnb_60 ?_
  refine ev_newI (N := 60) dX8_init_15 arI (by decide) (by decide) rfl rfl ?_
  refine ev_mem (ev_set_comm (by omega)) ?_
  refine ev_putaF dX8_init_17 fpX8_15 rfl (by first | exact ev_set_eq | exact (ev_set_ne (by omega)).trans hM) (by exact Nat.le_of_ble_eq_true rfl) ?_
  refine ev_mem ev_set_set ?_
  refine ev_aload_n (i := 0) dX8_init_20 rfl rfl ?_
  refine ev_bipush (v := 60) dX8_init_21 cnb_60 ?_
  refine ev_newI (N := 60) dX8_init_23 arI (by decide) (by decide) rfl rfl ?_
  refine ev_mem (ev_set_comm (by omega)) ?_
  refine ev_putaF dX8_init_25 fpX8_18 rfl (by first | exact ev_set_eq | exact (ev_set_ne (by omega)).trans hM) (by exact Nat.le_of_ble_eq_true rfl) ?_
  refine ev_mem ev_set_set ?_
  refine ev_aload_n (i := 0) dX8_init_28 rfl rfl ?_
  refine ev_bipush (v := 60) dX8_init_29 cnb_60 ?_
  refine ev_newI (N := 60) dX8_init_31 arI (by decide) (by decide) rfl rfl ?_
  refine ev_mem (ev_set_comm (by omega)) ?_
  refine ev_putaF dX8_init_33 fpX8_21 rfl (by first | exact ev_set_eq | exact (ev_set_ne (by omega)).trans hM) (by exact Nat.le_of_ble_eq_true rfl) ?_
  refine ev_mem ev_set_set ?_
  refine ev_aload_n (i := 0) dX8_init_36 rfl rfl ?_
  refine ev_bipush (v := 60) dX8_init_37 cnb_60 ?_
  refine ev_newI (N := 60) dX8_init_39 arI (by decide) (by decide) rfl rfl ?_
  refine ev_mem (ev_set_comm (by omega)) ?_
  refine ev_putaF dX8_init_41 fpX8_24 rfl (by first | exact ev_set_eq | exact (ev_set_ne (by omega)).trans hM) (by exact Nat.le_of_ble_eq_true rfl) ?_
  refine ev_mem ev_set_set ?_
  refine ev_aload_n (i := 0) dX8_init_44 rfl rfl ?_
  refine ev_bipush (v := 12) dX8_init_45 cnb_12 ?_
  refine ev_newI (N := 12) dX8_init_47 arI (by decide) (by decide) rfl rfl ?_
  refine ev_mem (ev_set_comm (by omega)) ?_
  refine ev_putaF dX8_init_49 fpX8_27 rfl (by first | exact ev_set_eq | exact (ev_set_ne (by omega)).trans hM) (by exact Nat.le_of_ble_eq_true rfl) ?_
  refine ev_mem ev_set_set ?_
  refine ev_aload_n (i := 0) dX8_init_52 rfl rfl ?_
  refine ev_bipush (v := 12) dX8_init_53 cnb_12 ?_
  refine ev_newI (N := 12) dX8_init_55 arI (by decide) (by decide) rfl rfl ?_
  refine ev_mem (ev_set_comm (by omega)) ?_
  refine ev_putaF dX8_init_57 fpX8_30 rfl (by first | exact ev_set_eq | exact (ev_set_ne (by omega)).trans hM) (by exact Nat.le_of_ble_eq_true rfl) ?_
  refine ev_mem ev_set_set ?_
  exact ev_retv dX8_init_60 rfl (⟨rfl, rfl⟩)
