/-! ===== contracts: constructors, the small ones ===== -/
theorem c9_init {G : ev_G} {n : Nat} {M : ev_M} {a : Nat} : ev_Cal G mX9_init 1 0 0 [.ref a] n M (ev_is none M) := by
  refine ev_Cal_of (L := [some (.ref a)]) (by decide +kernel) (Nat.le_of_ble_eq_true rfl) rfl ?_
  refine ev_aload_n (i := 0) dX9_init_0 rfl rfl ?_
  refine ev_objInit dX9_init_1 obX9_3 (by decide) (Nat.le_of_ble_eq_true rfl) ?_
  exact ev_retv dX9_init_4 rfl (⟨rfl, rfl⟩)
theorem c1_init {G : ev_G} {n : Nat} {M : ev_M} {a : Nat} : ev_Cal G mX1_init 1 0 0 [.ref a] n M (ev_is none M) := by
  refine ev_Cal_of (L := [some (.ref a)]) (by decide +kernel) (Nat.le_of_ble_eq_true rfl) rfl ?_
  refine ev_aload_n (i := 0) dX1_init_0 rfl rfl ?_
  refine ev_objInit dX1_init_1 obX1_1 (by decide) (Nat.le_of_ble_eq_true rfl) ?_
  exact ev_retv dX1_init_4 rfl (⟨rfl, rfl⟩)
theorem c0_init {G : ev_G} {n : Nat} {M : ev_M} {a : Nat} : ev_Cal G mX0_init 1 0 0 [.ref a] n M (ev_is none M) := by
  refine ev_Cal_of (L := [some (.ref a)]) (by decide +kernel) (Nat.le_of_ble_eq_true rfl) rfl ?_
  refine ev_aload_n (i := 0) dX0_init_0 rfl rfl ?_
  refine ev_objInit dX0_init_1 obX0_1 (by decide) (Nat.le_of_ble_eq_true rfl) ?_
  exact ev_retv dX0_init_4 rfl (⟨rfl, rfl⟩)
theorem c6_init {G : ev_G} {n : Nat} {M : ev_M} {a : Nat} : ev_Cal G mX6_init 1 0 0 [.ref a] n M (ev_is none M) := by
  refine ev_Cal_of (L := [some (.ref a)]) (by decide +kernel) (Nat.le_of_ble_eq_true rfl) rfl ?_
  refine ev_aload_n (i := 0) dX6_init_0 rfl rfl ?_
  refine ev_objInit dX6_init_1 obX6_3 (by decide) (Nat.le_of_ble_eq_true rfl) ?_
  exact ev_retv dX6_init_4 rfl (⟨rfl, rfl⟩)
theorem c10_init {G : ev_G} {n : Nat} {M : ev_M} {a : Nat} (ha : a ≠ 20 + n) (hM : M a = .inr (10, [.null, .int 0])) : ev_Cal G mX10_init 1 1 400 [.ref a] n M (ev_is none (ev_set (ev_set M (20 + n) (.inl (0, 400, .inl (fun _ => 0)))) a (.inr (10, [.ref (20 + n), .int 0])))) := by
  refine ev_Cal_of (L := [some (.ref a)]) (by decide +kernel) (Nat.le_of_ble_eq_true rfl) rfl ?_
  refine ev_aload_n (i := 0) dX10_init_0 rfl rfl ?_
  refine ev_objInit dX10_init_1 obX10_3 (by decide) (Nat.le_of_ble_eq_true rfl) ?_
  refine ev_aload_n (i := 0) dX10_init_4 rfl rfl ?_
  refine ev_sipush (v := 400) dX10_init_5 cns_400 ?_
  refine ev_newI (N := 400) dX10_init_8 arI (by decide) (by decide) rfl rfl ?_
  refine ev_putaF dX10_init_10 fpX10_9 rfl (by exact (ev_set_ne ha).trans hM) (by exact Nat.le_of_ble_eq_true rfl) ?_
  exact ev_retv dX10_init_13 rfl (⟨rfl, rfl⟩)
theorem c7_init {G : ev_G} {n : Nat} {M : ev_M} {a : Nat} (ha : a ≠ 20 + n) {b : Nat} (hM : M a = .inr (7, [.null, .null, .int 0])) : ev_Cal G mX7_init 1 1 6 [.ref a, .ref b] n M (ev_is none (ev_set (ev_set M (20 + n) (.inl (0, 6, .inl (fun _ => 0)))) a (.inr (7, [.ref b, .ref (20 + n), .int 0])))) := by
  refine ev_Cal_of (L := [some (.ref a), some (.ref b)]) (by decide +kernel) (Nat.le_of_ble_eq_true rfl) rfl ?_
  refine ev_aload_n (i := 0) dX7_init_0 rfl rfl ?_
  refine ev_objInit dX7_init_1 obX7_3 (by decide) (Nat.le_of_ble_eq_true rfl) ?_
  refine ev_aload_n (i := 0) dX7_init_4 rfl rfl ?_
  refine ev_bipush (v := 6) dX7_init_5 cnb_6 ?_
  refine ev_newI (N := 6) dX7_init_7 arI (by decide) (by decide) rfl rfl ?_
  refine ev_putaF dX7_init_9 fpX7_9 rfl (by first | exact ev_set_eq | exact (ev_set_ne ha).trans hM) (by exact Nat.le_of_ble_eq_true rfl) ?_
  refine ev_aload_n (i := 0) dX7_init_12 rfl rfl ?_
  refine ev_aload_n (i := 1) dX7_init_13 rfl rfl ?_
  refine ev_putrF dX7_init_14 fpX7_15 rfl (by first | exact ev_set_eq | exact (ev_set_ne ha).trans hM) (by exact Nat.le_of_ble_eq_true rfl) ?_
  refine ev_mem ev_set_set ?_
  exact ev_retv dX7_init_17 rfl (⟨rfl, rfl⟩)
theorem c5_init {G : ev_G} {n : Nat} {M : ev_M} {a b : Nat} (hM : M a = .inr (5, [.null, .long 0])) : ev_Cal G mX5_init 1 0 0 [.ref a, .ref b] n M (ev_is none (ev_set M a (.inr (5, [.ref b, .long 0])))) := by
  refine ev_Cal_of (L := [some (.ref a), some (.ref b)]) (by decide +kernel) (Nat.le_of_ble_eq_true rfl) rfl ?_
  refine ev_aload_n (i := 0) dX5_init_0 rfl rfl ?_
  refine ev_objInit dX5_init_1 obX5_3 (by decide) (Nat.le_of_ble_eq_true rfl) ?_
  refine ev_aload_n (i := 0) dX5_init_4 rfl rfl ?_
  refine ev_aload_n (i := 1) dX5_init_5 rfl rfl ?_
  refine ev_putrF dX5_init_6 fpX5_9 rfl (by exact hM) (by exact Nat.le_of_ble_eq_true rfl) ?_
  exact ev_retv dX5_init_9 rfl (⟨rfl, rfl⟩)
