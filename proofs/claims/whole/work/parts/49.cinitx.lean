/-! ===== contracts: the two objects ===== -/
theorem ev_genM {G : ev_G} {y : ev_MI} {f rc ru n : Nat} {M : ev_M} {pc : Nat} {L : List (Option Value)} {st : List Value} {Post : Option Value → ev_M → Prop} (k : ∀ M1 : ev_M, M1 = M → ev_E G y f rc ru n M1 pc L st Post) : ev_E G y f rc ru n M pc L st Post := k M rfl
def i0_s : Nat → Int32 := upd (fun _ => 0) 84 1
def i0_tu : Nat → Int32 := upd (upd (upd (fun _ => 0) 0 4) 1 15) 2 10
theorem i0_tu3 : upd i0_tu 3 0 = i0_tu := by
  funext k
  unfold i0_tu
  simp only [upd]
  by_cases h : k = 3
  · subst h; rfl
  · rw [if_neg h]
theorem cl_sheet_0 {M : ev_M} {a : Nat} {f f2 : Nat → Int32} (h : cl_sheet M a 0 f) : cl_sheet M a 0 f2 := by
  obtain ⟨f0, f1, f2, f3, f4, f5, f6, up, dn, h0, h1, h2, h3, h4, h5, h6, h7, -⟩ := h
  exact ⟨f0, f1, f2, f3, f4, f5, f6, up, dn, h0, h1, h2, h3, h4, h5, h6, h7, fun k hk => absurd hk (Nat.not_lt_zero k)⟩
theorem c12_init {G : ev_G} {M : ev_M} (hM : M 21 = .inr (11, [.null, .null, .null, .null, .null, .null, .null, .null, .null, .null, .int 0])) : ev_Cal G mX11_init 3 107 1905 [.ref 21] 1 M (fun r M1 => r = none ∧ cl_S M1 0 0 0 0 0 (fun _ => 0) i0_s (fun _ => 0) (fun _ => 0) (fun _ => 0) i0_tu false false 0 ∧ ∀ q, (q < 21 ∨ 129 ≤ q) → M1 q = M q) := by
  refine ev_Cal_of (L := [some (.ref 21)]) (by decide +kernel) (Nat.le_of_ble_eq_true rfl) rfl ?_
  have h20 := hM
  refine ev_aload_n (i := 0) dX11_init_0 rfl rfl ?_
  refine ev_objInit dX11_init_1 obX11_1 (by decide) (Nat.le_of_ble_eq_true rfl) ?_
  refine ev_aload_n (i := 0) dX11_init_4 rfl rfl ?_
  refine ev_newA (b := 22) (rc' := 106) (ru' := 1901) rfl dX11_init_5 nwX11_7 rfl rfl ?_
  refine ev_dup dX11_init_8 rfl ?_
  refine ev_m1 (rc2 := 104) (ru2 := 1495) kX11_init_9 (c7_init (by decide) ev_set_eq) (ev_rv_of ev_set_eq rfl rfl) (by decide) (by decide) (Nat.le_of_ble_eq_true rfl) rfl rfl ?_
  refine ev_putrF dX11_init_12 fpX11_10 rfl (by first | exact h20 | exact (ev_set_ne (by decide)).trans (h20) | exact (ev_set_ne (by decide)).trans ((ev_set_ne (by decide)).trans (h20)) | exact (ev_set_ne (by decide)).trans ((ev_set_ne (by decide)).trans ((ev_set_ne (by decide)).trans (h20))) | exact (ev_set_ne (by decide)).trans ((ev_set_ne (by decide)).trans ((ev_set_ne (by decide)).trans ((ev_set_ne (by decide)).trans (h20)))) | exact (ev_set_ne (by decide)).trans ((ev_set_ne (by decide)).trans ((ev_set_ne (by decide)).trans ((ev_set_ne (by decide)).trans ((ev_set_ne (by decide)).trans (h20))))) | exact (ev_set_ne (by decide)).trans ((ev_set_ne (by decide)).trans ((ev_set_ne (by decide)).trans ((ev_set_ne (by decide)).trans ((ev_set_ne (by decide)).trans ((ev_set_ne (by decide)).trans (h20)))))) | exact ev_set_eq | exact (ev_set_ne (by decide)).trans (ev_set_eq) | exact (ev_set_ne (by decide)).trans ((ev_set_ne (by decide)).trans (ev_set_eq)) | exact (ev_set_ne (by decide)).trans ((ev_set_ne (by decide)).trans ((ev_set_ne (by decide)).trans (ev_set_eq))) | exact (ev_set_ne (by decide)).trans ((ev_set_ne (by decide)).trans ((ev_set_ne (by decide)).trans ((ev_set_ne (by decide)).trans (ev_set_eq)))) | exact (ev_set_ne (by decide)).trans ((ev_set_ne (by decide)).trans ((ev_set_ne (by decide)).trans ((ev_set_ne (by decide)).trans ((ev_set_ne (by decide)).trans (ev_set_eq))))) | exact (ev_set_ne (by decide)).trans ((ev_set_ne (by decide)).trans ((ev_set_ne (by decide)).trans ((ev_set_ne (by decide)).trans ((ev_set_ne (by decide)).trans ((ev_set_ne (by decide)).trans (ev_set_eq)))))) | assumption | exact (ev_set_ne (by decide)).trans (by assumption) | exact (ev_set_ne (by decide)).trans ((ev_set_ne (by decide)).trans (by assumption)) | exact (ev_set_ne (by decide)).trans ((ev_set_ne (by decide)).trans ((ev_set_ne (by decide)).trans (by assumption))) | exact (ev_set_ne (by decide)).trans ((ev_set_ne (by decide)).trans ((ev_set_ne (by decide)).trans ((ev_set_ne (by decide)).trans (by assumption)))) | exact (ev_set_ne (by decide)).trans ((ev_set_ne (by decide)).trans ((ev_set_ne (by decide)).trans ((ev_set_ne (by decide)).trans ((ev_set_ne (by decide)).trans (by assumption))))) | exact (ev_set_ne (by decide)).trans ((ev_set_ne (by decide)).trans ((ev_set_ne (by decide)).trans ((ev_set_ne (by decide)).trans ((ev_set_ne (by decide)).trans ((ev_set_ne (by decide)).trans (by assumption))))))) (by exact Nat.le_of_ble_eq_true rfl) ?_
  refine ev_genM (fun M1 e1 => ?_)
  have hk1 : ∀ q, (q < 21 ∨ 129 ≤ q) → M1 q = M q := fun q hq => by rw [e1]; simp only [ev_set]; repeat rw [if_neg (by omega)]
  have h20 : M1 21 = .inr (11, [.ref 22, .null, .null, .null, .null, .null, .null, .null, .null, .null, .int 0]) := by rw [e1]; rfl
  have h22 : M1 22 = .inr (7, [.ref 23, .ref 24, .int 0, .int 0]) := by rw [e1]; rfl
  have h23 : M1 23 = .inl (0, 400, .inl (fun _ => 0)) := by rw [e1]; rfl
  have h24 : M1 24 = .inl (0, 6, .inl (fun _ => 0)) := by rw [e1]; rfl
  refine ev_aload_n (i := 0) dX11_init_15 rfl rfl ?_
  refine ev_newA (b := 25) (rc' := 103) (ru' := 1494) rfl dX11_init_16 nwX11_16 rfl rfl ?_
  refine ev_dup dX11_init_19 rfl ?_
  refine ev_m1 (rc2 := 102) (ru2 := 1490) kX11_init_20 (c11_init (by decide) ev_set_eq) (ev_rv_of ev_set_eq rfl rfl) (by decide) (by decide) (Nat.le_of_ble_eq_true rfl) rfl rfl ?_
  refine ev_putrF dX11_init_23 fpX11_19 rfl (by first | exact h20 | exact (ev_set_ne (by decide)).trans (h20) | exact (ev_set_ne (by decide)).trans ((ev_set_ne (by decide)).trans (h20)) | exact (ev_set_ne (by decide)).trans ((ev_set_ne (by decide)).trans ((ev_set_ne (by decide)).trans (h20))) | exact (ev_set_ne (by decide)).trans ((ev_set_ne (by decide)).trans ((ev_set_ne (by decide)).trans ((ev_set_ne (by decide)).trans (h20)))) | exact (ev_set_ne (by decide)).trans ((ev_set_ne (by decide)).trans ((ev_set_ne (by decide)).trans ((ev_set_ne (by decide)).trans ((ev_set_ne (by decide)).trans (h20))))) | exact (ev_set_ne (by decide)).trans ((ev_set_ne (by decide)).trans ((ev_set_ne (by decide)).trans ((ev_set_ne (by decide)).trans ((ev_set_ne (by decide)).trans ((ev_set_ne (by decide)).trans (h20)))))) | exact ev_set_eq | exact (ev_set_ne (by decide)).trans (ev_set_eq) | exact (ev_set_ne (by decide)).trans ((ev_set_ne (by decide)).trans (ev_set_eq)) | exact (ev_set_ne (by decide)).trans ((ev_set_ne (by decide)).trans ((ev_set_ne (by decide)).trans (ev_set_eq))) | exact (ev_set_ne (by decide)).trans ((ev_set_ne (by decide)).trans ((ev_set_ne (by decide)).trans ((ev_set_ne (by decide)).trans (ev_set_eq)))) | exact (ev_set_ne (by decide)).trans ((ev_set_ne (by decide)).trans ((ev_set_ne (by decide)).trans ((ev_set_ne (by decide)).trans ((ev_set_ne (by decide)).trans (ev_set_eq))))) | exact (ev_set_ne (by decide)).trans ((ev_set_ne (by decide)).trans ((ev_set_ne (by decide)).trans ((ev_set_ne (by decide)).trans ((ev_set_ne (by decide)).trans ((ev_set_ne (by decide)).trans (ev_set_eq)))))) | assumption | exact (ev_set_ne (by decide)).trans (by assumption) | exact (ev_set_ne (by decide)).trans ((ev_set_ne (by decide)).trans (by assumption)) | exact (ev_set_ne (by decide)).trans ((ev_set_ne (by decide)).trans ((ev_set_ne (by decide)).trans (by assumption))) | exact (ev_set_ne (by decide)).trans ((ev_set_ne (by decide)).trans ((ev_set_ne (by decide)).trans ((ev_set_ne (by decide)).trans (by assumption)))) | exact (ev_set_ne (by decide)).trans ((ev_set_ne (by decide)).trans ((ev_set_ne (by decide)).trans ((ev_set_ne (by decide)).trans ((ev_set_ne (by decide)).trans (by assumption))))) | exact (ev_set_ne (by decide)).trans ((ev_set_ne (by decide)).trans ((ev_set_ne (by decide)).trans ((ev_set_ne (by decide)).trans ((ev_set_ne (by decide)).trans ((ev_set_ne (by decide)).trans (by assumption))))))) (by exact Nat.le_of_ble_eq_true rfl) ?_
  refine ev_genM (fun M2 e2 => ?_)
  have hk2 : ∀ q, (q < 21 ∨ 129 ≤ q) → M2 q = M1 q := fun q hq => by rw [e2]; simp only [ev_set]; repeat rw [if_neg (by omega)]
  have h22 : M2 22 = .inr (7, [.ref 23, .ref 24, .int 0, .int 0]) := by rw [e2]; exact h22
  have h23 : M2 23 = .inl (0, 400, .inl (fun _ => 0)) := by rw [e2]; exact h23
  have h24 : M2 24 = .inl (0, 6, .inl (fun _ => 0)) := by rw [e2]; exact h24
  have h20 : M2 21 = .inr (11, [.ref 22, .ref 25, .null, .null, .null, .null, .null, .null, .null, .null, .int 0]) := by rw [e2]; rfl
  have h25 : M2 25 = .inr (10, [.ref 26]) := by rw [e2]; rfl
  have h26 : M2 26 = .inl (0, 4, .inl (upd (upd (upd (upd (fun _ => 0) 0 4) 1 15) 2 10) 3 0)) := by rw [e2]; rfl
  refine ev_aload_n (i := 0) dX11_init_26 rfl rfl ?_
  refine ev_newA (b := 27) (rc' := 101) (ru' := 1480) rfl dX11_init_27 nwX11_23 rfl rfl ?_
  refine ev_dup dX11_init_30 rfl ?_
  refine ev_call (f := 3) (n := 7) (as := [.ref 27]) (rst := [.ref 27, .ref 21]) (rc2 := 94) (ru2 := 1156) kX11_init_31 (c8_initP (n := 7) rfl ev_set_eq) (ev_rv_of ev_set_eq rfl rfl) (by decide) (by decide) rfl (Nat.le_of_ble_eq_true rfl) rfl rfl (fun r N27 hr => ?_)
  obtain ⟨rfl, hp27, hfr27⟩ := hr
  have g20 := (hfr27 21 (by decide)).trans ((ev_set_ne (by decide)).trans h20)
  refine ev_putrF dX11_init_34 fpX11_26 rfl (by exact g20) (by exact Nat.le_of_ble_eq_true rfl) ?_
  refine ev_genM (fun M3 e3 => ?_)
  have hk3 : ∀ q, (q ≠ 21 ∧ (q < 27 ∨ 35 ≤ q)) → M3 q = M2 q := fun q hq => by rw [e3]; exact (ev_set_ne (by omega)).trans ((hfr27 q (by omega)).trans (ev_set_ne (by omega)))
  have h22 : M3 22 = .inr (7, [.ref 23, .ref 24, .int 0, .int 0]) := (hk3 22 (by decide)).trans h22
  have h23 : M3 23 = .inl (0, 400, .inl (fun _ => 0)) := (hk3 23 (by decide)).trans h23
  have h24 : M3 24 = .inl (0, 6, .inl (fun _ => 0)) := (hk3 24 (by decide)).trans h24
  have h25 : M3 25 = .inr (10, [.ref 26]) := (hk3 25 (by decide)).trans h25
  have h26 : M3 26 = .inl (0, 4, .inl (upd (upd (upd (upd (fun _ => 0) 0 4) 1 15) 2 10) 3 0)) := (hk3 26 (by decide)).trans h26
  have h20 : M3 21 = .inr (11, [.ref 22, .ref 25, .ref 27, .null, .null, .null, .null, .null, .null, .null, .int 0]) := by rw [e3]; exact ev_set_eq
  have hsheet : cl_sheet M3 27 0 (fun _ => 0) := cl_sheet_keep (fun q z1 z2 => by rw [e3]; exact ev_set_ne (by omega)) hp27
  refine ev_aload_n (i := 0) dX11_init_37 rfl rfl ?_
  refine ev_newA (b := 35) (rc' := 93) (ru' := 1150) rfl dX11_init_38 nwX11_30 rfl rfl ?_
  refine ev_dup dX11_init_41 rfl ?_
  refine ev_m1 (rc2 := 90) (ru2 := 1114) kX11_init_42 (c2_init (by decide) ev_set_eq) (ev_rv_of ev_set_eq rfl rfl) (by decide) (by decide) (Nat.le_of_ble_eq_true rfl) rfl rfl ?_
  refine ev_putrF dX11_init_45 fpX11_33 rfl (by first | exact h20 | exact (ev_set_ne (by decide)).trans (h20) | exact (ev_set_ne (by decide)).trans ((ev_set_ne (by decide)).trans (h20)) | exact (ev_set_ne (by decide)).trans ((ev_set_ne (by decide)).trans ((ev_set_ne (by decide)).trans (h20))) | exact (ev_set_ne (by decide)).trans ((ev_set_ne (by decide)).trans ((ev_set_ne (by decide)).trans ((ev_set_ne (by decide)).trans (h20)))) | exact (ev_set_ne (by decide)).trans ((ev_set_ne (by decide)).trans ((ev_set_ne (by decide)).trans ((ev_set_ne (by decide)).trans ((ev_set_ne (by decide)).trans (h20))))) | exact (ev_set_ne (by decide)).trans ((ev_set_ne (by decide)).trans ((ev_set_ne (by decide)).trans ((ev_set_ne (by decide)).trans ((ev_set_ne (by decide)).trans ((ev_set_ne (by decide)).trans (h20)))))) | exact ev_set_eq | exact (ev_set_ne (by decide)).trans (ev_set_eq) | exact (ev_set_ne (by decide)).trans ((ev_set_ne (by decide)).trans (ev_set_eq)) | exact (ev_set_ne (by decide)).trans ((ev_set_ne (by decide)).trans ((ev_set_ne (by decide)).trans (ev_set_eq))) | exact (ev_set_ne (by decide)).trans ((ev_set_ne (by decide)).trans ((ev_set_ne (by decide)).trans ((ev_set_ne (by decide)).trans (ev_set_eq)))) | exact (ev_set_ne (by decide)).trans ((ev_set_ne (by decide)).trans ((ev_set_ne (by decide)).trans ((ev_set_ne (by decide)).trans ((ev_set_ne (by decide)).trans (ev_set_eq))))) | exact (ev_set_ne (by decide)).trans ((ev_set_ne (by decide)).trans ((ev_set_ne (by decide)).trans ((ev_set_ne (by decide)).trans ((ev_set_ne (by decide)).trans ((ev_set_ne (by decide)).trans (ev_set_eq)))))) | assumption | exact (ev_set_ne (by decide)).trans (by assumption) | exact (ev_set_ne (by decide)).trans ((ev_set_ne (by decide)).trans (by assumption)) | exact (ev_set_ne (by decide)).trans ((ev_set_ne (by decide)).trans ((ev_set_ne (by decide)).trans (by assumption))) | exact (ev_set_ne (by decide)).trans ((ev_set_ne (by decide)).trans ((ev_set_ne (by decide)).trans ((ev_set_ne (by decide)).trans (by assumption)))) | exact (ev_set_ne (by decide)).trans ((ev_set_ne (by decide)).trans ((ev_set_ne (by decide)).trans ((ev_set_ne (by decide)).trans ((ev_set_ne (by decide)).trans (by assumption))))) | exact (ev_set_ne (by decide)).trans ((ev_set_ne (by decide)).trans ((ev_set_ne (by decide)).trans ((ev_set_ne (by decide)).trans ((ev_set_ne (by decide)).trans ((ev_set_ne (by decide)).trans (by assumption))))))) (by exact Nat.le_of_ble_eq_true rfl) ?_
  refine ev_genM (fun M4 e4 => ?_)
  have hk4 : ∀ q, (q < 21 ∨ 129 ≤ q) → M4 q = M3 q := fun q hq => by rw [e4]; simp only [ev_set]; repeat rw [if_neg (by omega)]
  have h22 : M4 22 = .inr (7, [.ref 23, .ref 24, .int 0, .int 0]) := by rw [e4]; exact h22
  have h23 : M4 23 = .inl (0, 400, .inl (fun _ => 0)) := by rw [e4]; exact h23
  have h24 : M4 24 = .inl (0, 6, .inl (fun _ => 0)) := by rw [e4]; exact h24
  have h25 : M4 25 = .inr (10, [.ref 26]) := by rw [e4]; exact h25
  have h26 : M4 26 = .inl (0, 4, .inl (upd (upd (upd (upd (fun _ => 0) 0 4) 1 15) 2 10) 3 0)) := by rw [e4]; exact h26
  have h20 : M4 21 = .inr (11, [.ref 22, .ref 25, .ref 27, .ref 35, .null, .null, .null, .null, .null, .null, .int 0]) := by rw [e4]; rfl
  have h35 : M4 35 = .inr (2, [.ref 36, .ref 37, .ref 38, .int 0, .int 0, .int 0]) := by rw [e4]; rfl
  have h36 : M4 36 = .inl (0, 12, .inl (fun _ => 0)) := by rw [e4]; rfl
  have h37 : M4 37 = .inl (0, 12, .inl (fun _ => 0)) := by rw [e4]; rfl
  have h38 : M4 38 = .inl (0, 12, .inl (fun _ => 0)) := by rw [e4]; rfl
  have hsheet : cl_sheet M4 27 0 (fun _ => 0) := cl_sheet_keep (fun q z1 z2 => by rw [e4]; simp only [ev_set]; repeat rw [if_neg (by omega)]) hsheet
  refine ev_aload_n (i := 0) dX11_init_48 rfl rfl ?_
  refine ev_newA (b := 39) (rc' := 89) (ru' := 1109) rfl dX11_init_49 nwX11_37 rfl rfl ?_
  refine ev_dup dX11_init_52 rfl ?_
  refine ev_w1 kX11_init_53 (c6_init) (ev_rv_of ev_set_eq rfl rfl) (by decide) (by decide) (Nat.le_of_ble_eq_true rfl) ?_
  refine ev_putrF dX11_init_56 fpX11_40 rfl (by first | exact h20 | exact (ev_set_ne (by decide)).trans (h20) | exact (ev_set_ne (by decide)).trans ((ev_set_ne (by decide)).trans (h20)) | exact (ev_set_ne (by decide)).trans ((ev_set_ne (by decide)).trans ((ev_set_ne (by decide)).trans (h20))) | exact (ev_set_ne (by decide)).trans ((ev_set_ne (by decide)).trans ((ev_set_ne (by decide)).trans ((ev_set_ne (by decide)).trans (h20)))) | exact (ev_set_ne (by decide)).trans ((ev_set_ne (by decide)).trans ((ev_set_ne (by decide)).trans ((ev_set_ne (by decide)).trans ((ev_set_ne (by decide)).trans (h20))))) | exact (ev_set_ne (by decide)).trans ((ev_set_ne (by decide)).trans ((ev_set_ne (by decide)).trans ((ev_set_ne (by decide)).trans ((ev_set_ne (by decide)).trans ((ev_set_ne (by decide)).trans (h20)))))) | exact ev_set_eq | exact (ev_set_ne (by decide)).trans (ev_set_eq) | exact (ev_set_ne (by decide)).trans ((ev_set_ne (by decide)).trans (ev_set_eq)) | exact (ev_set_ne (by decide)).trans ((ev_set_ne (by decide)).trans ((ev_set_ne (by decide)).trans (ev_set_eq))) | exact (ev_set_ne (by decide)).trans ((ev_set_ne (by decide)).trans ((ev_set_ne (by decide)).trans ((ev_set_ne (by decide)).trans (ev_set_eq)))) | exact (ev_set_ne (by decide)).trans ((ev_set_ne (by decide)).trans ((ev_set_ne (by decide)).trans ((ev_set_ne (by decide)).trans ((ev_set_ne (by decide)).trans (ev_set_eq))))) | exact (ev_set_ne (by decide)).trans ((ev_set_ne (by decide)).trans ((ev_set_ne (by decide)).trans ((ev_set_ne (by decide)).trans ((ev_set_ne (by decide)).trans ((ev_set_ne (by decide)).trans (ev_set_eq)))))) | assumption | exact (ev_set_ne (by decide)).trans (by assumption) | exact (ev_set_ne (by decide)).trans ((ev_set_ne (by decide)).trans (by assumption)) | exact (ev_set_ne (by decide)).trans ((ev_set_ne (by decide)).trans ((ev_set_ne (by decide)).trans (by assumption))) | exact (ev_set_ne (by decide)).trans ((ev_set_ne (by decide)).trans ((ev_set_ne (by decide)).trans ((ev_set_ne (by decide)).trans (by assumption)))) | exact (ev_set_ne (by decide)).trans ((ev_set_ne (by decide)).trans ((ev_set_ne (by decide)).trans ((ev_set_ne (by decide)).trans ((ev_set_ne (by decide)).trans (by assumption))))) | exact (ev_set_ne (by decide)).trans ((ev_set_ne (by decide)).trans ((ev_set_ne (by decide)).trans ((ev_set_ne (by decide)).trans ((ev_set_ne (by decide)).trans ((ev_set_ne (by decide)).trans (by assumption))))))) (by exact Nat.le_of_ble_eq_true rfl) ?_
  refine ev_genM (fun M5 e5 => ?_)
  have hk5 : ∀ q, (q < 21 ∨ 129 ≤ q) → M5 q = M4 q := fun q hq => by rw [e5]; simp only [ev_set]; repeat rw [if_neg (by omega)]
  have h22 : M5 22 = .inr (7, [.ref 23, .ref 24, .int 0, .int 0]) := by rw [e5]; exact h22
  have h23 : M5 23 = .inl (0, 400, .inl (fun _ => 0)) := by rw [e5]; exact h23
  have h24 : M5 24 = .inl (0, 6, .inl (fun _ => 0)) := by rw [e5]; exact h24
  have h25 : M5 25 = .inr (10, [.ref 26]) := by rw [e5]; exact h25
  have h26 : M5 26 = .inl (0, 4, .inl (upd (upd (upd (upd (fun _ => 0) 0 4) 1 15) 2 10) 3 0)) := by rw [e5]; exact h26
  have h35 : M5 35 = .inr (2, [.ref 36, .ref 37, .ref 38, .int 0, .int 0, .int 0]) := by rw [e5]; exact h35
  have h36 : M5 36 = .inl (0, 12, .inl (fun _ => 0)) := by rw [e5]; exact h36
  have h37 : M5 37 = .inl (0, 12, .inl (fun _ => 0)) := by rw [e5]; exact h37
  have h38 : M5 38 = .inl (0, 12, .inl (fun _ => 0)) := by rw [e5]; exact h38
  have h20 : M5 21 = .inr (11, [.ref 22, .ref 25, .ref 27, .ref 35, .ref 39, .null, .null, .null, .null, .null, .int 0]) := by rw [e5]; rfl
  have h39 : M5 39 = .inr (6, [.int 0, .int 0, .int 0, .int 0, .int 0]) := by rw [e5]; rfl
  have hsheet : cl_sheet M5 27 0 (fun _ => 0) := cl_sheet_keep (fun q z1 z2 => by rw [e5]; simp only [ev_set]; repeat rw [if_neg (by omega)]) hsheet
  refine ev_aload_n (i := 0) dX11_init_59 rfl rfl ?_
  refine ev_newA (b := 40) (rc' := 88) (ru' := 1108) rfl dX11_init_60 nwX11_44 rfl rfl ?_
  refine ev_dup dX11_init_63 rfl ?_
  refine ev_w1 kX11_init_64 (c5_init) (ev_rv_of ev_set_eq rfl rfl) (by decide) (by decide) (Nat.le_of_ble_eq_true rfl) ?_
  refine ev_putrF dX11_init_67 fpX11_47 rfl (by first | exact h20 | exact (ev_set_ne (by decide)).trans (h20) | exact (ev_set_ne (by decide)).trans ((ev_set_ne (by decide)).trans (h20)) | exact (ev_set_ne (by decide)).trans ((ev_set_ne (by decide)).trans ((ev_set_ne (by decide)).trans (h20))) | exact (ev_set_ne (by decide)).trans ((ev_set_ne (by decide)).trans ((ev_set_ne (by decide)).trans ((ev_set_ne (by decide)).trans (h20)))) | exact (ev_set_ne (by decide)).trans ((ev_set_ne (by decide)).trans ((ev_set_ne (by decide)).trans ((ev_set_ne (by decide)).trans ((ev_set_ne (by decide)).trans (h20))))) | exact (ev_set_ne (by decide)).trans ((ev_set_ne (by decide)).trans ((ev_set_ne (by decide)).trans ((ev_set_ne (by decide)).trans ((ev_set_ne (by decide)).trans ((ev_set_ne (by decide)).trans (h20)))))) | exact ev_set_eq | exact (ev_set_ne (by decide)).trans (ev_set_eq) | exact (ev_set_ne (by decide)).trans ((ev_set_ne (by decide)).trans (ev_set_eq)) | exact (ev_set_ne (by decide)).trans ((ev_set_ne (by decide)).trans ((ev_set_ne (by decide)).trans (ev_set_eq))) | exact (ev_set_ne (by decide)).trans ((ev_set_ne (by decide)).trans ((ev_set_ne (by decide)).trans ((ev_set_ne (by decide)).trans (ev_set_eq)))) | exact (ev_set_ne (by decide)).trans ((ev_set_ne (by decide)).trans ((ev_set_ne (by decide)).trans ((ev_set_ne (by decide)).trans ((ev_set_ne (by decide)).trans (ev_set_eq))))) | exact (ev_set_ne (by decide)).trans ((ev_set_ne (by decide)).trans ((ev_set_ne (by decide)).trans ((ev_set_ne (by decide)).trans ((ev_set_ne (by decide)).trans ((ev_set_ne (by decide)).trans (ev_set_eq)))))) | assumption | exact (ev_set_ne (by decide)).trans (by assumption) | exact (ev_set_ne (by decide)).trans ((ev_set_ne (by decide)).trans (by assumption)) | exact (ev_set_ne (by decide)).trans ((ev_set_ne (by decide)).trans ((ev_set_ne (by decide)).trans (by assumption))) | exact (ev_set_ne (by decide)).trans ((ev_set_ne (by decide)).trans ((ev_set_ne (by decide)).trans ((ev_set_ne (by decide)).trans (by assumption)))) | exact (ev_set_ne (by decide)).trans ((ev_set_ne (by decide)).trans ((ev_set_ne (by decide)).trans ((ev_set_ne (by decide)).trans ((ev_set_ne (by decide)).trans (by assumption))))) | exact (ev_set_ne (by decide)).trans ((ev_set_ne (by decide)).trans ((ev_set_ne (by decide)).trans ((ev_set_ne (by decide)).trans ((ev_set_ne (by decide)).trans ((ev_set_ne (by decide)).trans (by assumption))))))) (by exact Nat.le_of_ble_eq_true rfl) ?_
  refine ev_genM (fun M6 e6 => ?_)
  have hk6 : ∀ q, (q < 21 ∨ 129 ≤ q) → M6 q = M5 q := fun q hq => by rw [e6]; simp only [ev_set]; repeat rw [if_neg (by omega)]
  have h22 : M6 22 = .inr (7, [.ref 23, .ref 24, .int 0, .int 0]) := by rw [e6]; exact h22
  have h23 : M6 23 = .inl (0, 400, .inl (fun _ => 0)) := by rw [e6]; exact h23
  have h24 : M6 24 = .inl (0, 6, .inl (fun _ => 0)) := by rw [e6]; exact h24
  have h25 : M6 25 = .inr (10, [.ref 26]) := by rw [e6]; exact h25
  have h26 : M6 26 = .inl (0, 4, .inl (upd (upd (upd (upd (fun _ => 0) 0 4) 1 15) 2 10) 3 0)) := by rw [e6]; exact h26
  have h35 : M6 35 = .inr (2, [.ref 36, .ref 37, .ref 38, .int 0, .int 0, .int 0]) := by rw [e6]; exact h35
  have h36 : M6 36 = .inl (0, 12, .inl (fun _ => 0)) := by rw [e6]; exact h36
  have h37 : M6 37 = .inl (0, 12, .inl (fun _ => 0)) := by rw [e6]; exact h37
  have h38 : M6 38 = .inl (0, 12, .inl (fun _ => 0)) := by rw [e6]; exact h38
  have h39 : M6 39 = .inr (6, [.int 0, .int 0, .int 0, .int 0, .int 0]) := by rw [e6]; exact h39
  have h20 : M6 21 = .inr (11, [.ref 22, .ref 25, .ref 27, .ref 35, .ref 39, .ref 40, .null, .null, .null, .null, .int 0]) := by rw [e6]; rfl
  have h40 : M6 40 = .inr (5, [.long 0]) := by rw [e6]; rfl
  have hsheet : cl_sheet M6 27 0 (fun _ => 0) := cl_sheet_keep (fun q z1 z2 => by rw [e6]; simp only [ev_set]; repeat rw [if_neg (by omega)]) hsheet
  refine ev_aload_n (i := 0) dX11_init_70 rfl rfl ?_
  refine ev_newA (b := 41) (rc' := 87) (ru' := 1104) rfl dX11_init_71 nwX11_51 rfl rfl ?_
  refine ev_dup dX11_init_74 rfl ?_
  refine ev_call (f := 3) (n := 21) (as := [.ref 41]) (rst := [.ref 41, .ref 21]) (rc2 := 66) (ru2 := 674) kX11_init_75 (c4_init (n := 21) rfl ev_set_eq) (ev_rv_of ev_set_eq rfl rfl) (by decide) (by decide) rfl (Nat.le_of_ble_eq_true rfl) rfl rfl (fun r N41 hr => ?_)
  obtain ⟨rfl, hp41, hfr41⟩ := hr
  have g20 := (hfr41 21 (by decide)).trans ((ev_set_ne (by decide)).trans h20)
  refine ev_putrF dX11_init_78 fpX11_54 rfl (by exact g20) (by exact Nat.le_of_ble_eq_true rfl) ?_
  refine ev_genM (fun M7 e7 => ?_)
  have hk7 : ∀ q, (q ≠ 21 ∧ (q < 41 ∨ 63 ≤ q)) → M7 q = M6 q := fun q hq => by rw [e7]; exact (ev_set_ne (by omega)).trans ((hfr41 q (by omega)).trans (ev_set_ne (by omega)))
  have h22 : M7 22 = .inr (7, [.ref 23, .ref 24, .int 0, .int 0]) := (hk7 22 (by decide)).trans h22
  have h23 : M7 23 = .inl (0, 400, .inl (fun _ => 0)) := (hk7 23 (by decide)).trans h23
  have h24 : M7 24 = .inl (0, 6, .inl (fun _ => 0)) := (hk7 24 (by decide)).trans h24
  have h25 : M7 25 = .inr (10, [.ref 26]) := (hk7 25 (by decide)).trans h25
  have h26 : M7 26 = .inl (0, 4, .inl (upd (upd (upd (upd (fun _ => 0) 0 4) 1 15) 2 10) 3 0)) := (hk7 26 (by decide)).trans h26
  have h35 : M7 35 = .inr (2, [.ref 36, .ref 37, .ref 38, .int 0, .int 0, .int 0]) := (hk7 35 (by decide)).trans h35
  have h36 : M7 36 = .inl (0, 12, .inl (fun _ => 0)) := (hk7 36 (by decide)).trans h36
  have h37 : M7 37 = .inl (0, 12, .inl (fun _ => 0)) := (hk7 37 (by decide)).trans h37
  have h38 : M7 38 = .inl (0, 12, .inl (fun _ => 0)) := (hk7 38 (by decide)).trans h38
  have h39 : M7 39 = .inr (6, [.int 0, .int 0, .int 0, .int 0, .int 0]) := (hk7 39 (by decide)).trans h39
  have h40 : M7 40 = .inr (5, [.long 0]) := (hk7 40 (by decide)).trans h40
  have h20 : M7 21 = .inr (11, [.ref 22, .ref 25, .ref 27, .ref 35, .ref 39, .ref 40, .ref 41, .null, .null, .null, .int 0]) := by rw [e7]; exact ev_set_eq
  have hsheet : cl_sheet M7 27 0 (fun _ => 0) := cl_sheet_keep (fun q z1 z2 => hk7 q (by omega)) hsheet
  have himg0 : cl_img M7 41 0 (fun _ => 0) false := cl_img_keep (fun q z1 z2 => by rw [e7]; exact ev_set_ne (by omega)) hp41
  refine ev_aload_n (i := 0) dX11_init_81 rfl rfl ?_
  refine ev_newA (b := 63) (rc' := 65) (ru' := 670) rfl dX11_init_82 nwX11_51 rfl rfl ?_
  refine ev_dup dX11_init_85 rfl ?_
  refine ev_call (f := 3) (n := 43) (as := [.ref 63]) (rst := [.ref 63, .ref 21]) (rc2 := 44) (ru2 := 240) kX11_init_86 (c4_init (n := 43) rfl ev_set_eq) (ev_rv_of ev_set_eq rfl rfl) (by decide) (by decide) rfl (Nat.le_of_ble_eq_true rfl) rfl rfl (fun r N63 hr => ?_)
  obtain ⟨rfl, hp63, hfr63⟩ := hr
  have g20 := (hfr63 21 (by decide)).trans ((ev_set_ne (by decide)).trans h20)
  refine ev_putrF dX11_init_89 fpX11_58 rfl (by exact g20) (by exact Nat.le_of_ble_eq_true rfl) ?_
  refine ev_genM (fun M8 e8 => ?_)
  have hk8 : ∀ q, (q ≠ 21 ∧ (q < 63 ∨ 85 ≤ q)) → M8 q = M7 q := fun q hq => by rw [e8]; exact (ev_set_ne (by omega)).trans ((hfr63 q (by omega)).trans (ev_set_ne (by omega)))
  have h22 : M8 22 = .inr (7, [.ref 23, .ref 24, .int 0, .int 0]) := (hk8 22 (by decide)).trans h22
  have h23 : M8 23 = .inl (0, 400, .inl (fun _ => 0)) := (hk8 23 (by decide)).trans h23
  have h24 : M8 24 = .inl (0, 6, .inl (fun _ => 0)) := (hk8 24 (by decide)).trans h24
  have h25 : M8 25 = .inr (10, [.ref 26]) := (hk8 25 (by decide)).trans h25
  have h26 : M8 26 = .inl (0, 4, .inl (upd (upd (upd (upd (fun _ => 0) 0 4) 1 15) 2 10) 3 0)) := (hk8 26 (by decide)).trans h26
  have h35 : M8 35 = .inr (2, [.ref 36, .ref 37, .ref 38, .int 0, .int 0, .int 0]) := (hk8 35 (by decide)).trans h35
  have h36 : M8 36 = .inl (0, 12, .inl (fun _ => 0)) := (hk8 36 (by decide)).trans h36
  have h37 : M8 37 = .inl (0, 12, .inl (fun _ => 0)) := (hk8 37 (by decide)).trans h37
  have h38 : M8 38 = .inl (0, 12, .inl (fun _ => 0)) := (hk8 38 (by decide)).trans h38
  have h39 : M8 39 = .inr (6, [.int 0, .int 0, .int 0, .int 0, .int 0]) := (hk8 39 (by decide)).trans h39
  have h40 : M8 40 = .inr (5, [.long 0]) := (hk8 40 (by decide)).trans h40
  have h20 : M8 21 = .inr (11, [.ref 22, .ref 25, .ref 27, .ref 35, .ref 39, .ref 40, .ref 41, .ref 63, .null, .null, .int 0]) := by rw [e8]; exact ev_set_eq
  have hsheet : cl_sheet M8 27 0 (fun _ => 0) := cl_sheet_keep (fun q z1 z2 => hk8 q (by omega)) hsheet
  have himg0 : cl_img M8 41 0 (fun _ => 0) false := cl_img_keep (fun q z1 z2 => hk8 q (by omega)) himg0
  have himg1 : cl_img M8 63 0 (fun _ => 0) false := cl_img_keep (fun q z1 z2 => by rw [e8]; exact ev_set_ne (by omega)) hp63
  refine ev_aload_n (i := 0) dX11_init_92 rfl rfl ?_
  refine ev_newA (b := 85) (rc' := 43) (ru' := 234) rfl dX11_init_93 nwX11_61 rfl rfl ?_
  refine ev_dup dX11_init_96 rfl ?_
  refine ev_call (f := 3) (n := 65) (as := [.ref 85]) (rst := [.ref 85, .ref 21]) (rc2 := 22) (ru2 := 120) kX11_init_97 (c3_init (n := 65) rfl ev_set_eq) (ev_rv_of ev_set_eq rfl rfl) (by decide) (by decide) rfl (Nat.le_of_ble_eq_true rfl) rfl rfl (fun r N85 hr => ?_)
  obtain ⟨rfl, hp85, hfr85⟩ := hr
  have g20 := (hfr85 21 (by decide)).trans ((ev_set_ne (by decide)).trans h20)
  refine ev_putr dX11_init_100 fpX11_64 (by exact g20) (by exact Nat.le_of_ble_eq_true rfl) ?_
  refine ev_genM (fun M9 e9 => ?_)
  have hk9 : ∀ q, (q ≠ 21 ∧ (q < 85 ∨ 107 ≤ q)) → M9 q = M8 q := fun q hq => by rw [e9]; exact (ev_set_ne (by omega)).trans ((hfr85 q (by omega)).trans (ev_set_ne (by omega)))
  have h22 : M9 22 = .inr (7, [.ref 23, .ref 24, .int 0, .int 0]) := (hk9 22 (by decide)).trans h22
  have h23 : M9 23 = .inl (0, 400, .inl (fun _ => 0)) := (hk9 23 (by decide)).trans h23
  have h24 : M9 24 = .inl (0, 6, .inl (fun _ => 0)) := (hk9 24 (by decide)).trans h24
  have h25 : M9 25 = .inr (10, [.ref 26]) := (hk9 25 (by decide)).trans h25
  have h26 : M9 26 = .inl (0, 4, .inl (upd (upd (upd (upd (fun _ => 0) 0 4) 1 15) 2 10) 3 0)) := (hk9 26 (by decide)).trans h26
  have h35 : M9 35 = .inr (2, [.ref 36, .ref 37, .ref 38, .int 0, .int 0, .int 0]) := (hk9 35 (by decide)).trans h35
  have h36 : M9 36 = .inl (0, 12, .inl (fun _ => 0)) := (hk9 36 (by decide)).trans h36
  have h37 : M9 37 = .inl (0, 12, .inl (fun _ => 0)) := (hk9 37 (by decide)).trans h37
  have h38 : M9 38 = .inl (0, 12, .inl (fun _ => 0)) := (hk9 38 (by decide)).trans h38
  have h39 : M9 39 = .inr (6, [.int 0, .int 0, .int 0, .int 0, .int 0]) := (hk9 39 (by decide)).trans h39
  have h40 : M9 40 = .inr (5, [.long 0]) := (hk9 40 (by decide)).trans h40
  have h20 : M9 21 = .inr (11, [.ref 22, .ref 25, .ref 27, .ref 35, .ref 39, .ref 40, .ref 41, .ref 63, .ref 85, .null, .int 0]) := by rw [e9]; exact ev_set_eq
  have hsheet : cl_sheet M9 27 0 (fun _ => 0) := cl_sheet_keep (fun q z1 z2 => hk9 q (by omega)) hsheet
  have himg0 : cl_img M9 41 0 (fun _ => 0) false := cl_img_keep (fun q z1 z2 => hk9 q (by omega)) himg0
  have himg1 : cl_img M9 63 0 (fun _ => 0) false := cl_img_keep (fun q z1 z2 => hk9 q (by omega)) himg1
  have hgear : cl_gear M9 85 0 0 0 (fun _ => 0) (fun _ => 0) (fun _ => 0) := cl_gear_keep (fun q z1 z2 => by rw [e9]; exact ev_set_ne (by omega)) hp85
  refine ev_aload_n (i := 0) dX11_init_103 rfl rfl ?_
  refine ev_newA (b := 107) (rc' := 21) (ru' := 114) rfl dX11_init_104 nwX11_61 rfl rfl ?_
  refine ev_dup dX11_init_107 rfl ?_
  refine ev_call (f := 3) (n := 87) (as := [.ref 107]) (rst := [.ref 107, .ref 21]) (rc2 := 0) (ru2 := 0) kX11_init_108 (c3_init (n := 87) rfl ev_set_eq) (ev_rv_of ev_set_eq rfl rfl) (by decide) (by decide) rfl (Nat.le_of_ble_eq_true rfl) rfl rfl (fun r N107 hr => ?_)
  obtain ⟨rfl, hp107, hfr107⟩ := hr
  have g20 := (hfr107 21 (by decide)).trans ((ev_set_ne (by decide)).trans h20)
  refine ev_putr dX11_init_111 fpX11_68 (by exact g20) (by exact Nat.le_of_ble_eq_true rfl) ?_
  refine ev_genM (fun M10 e10 => ?_)
  have hk10 : ∀ q, (q ≠ 21 ∧ (q < 107 ∨ 129 ≤ q)) → M10 q = M9 q := fun q hq => by rw [e10]; exact (ev_set_ne (by omega)).trans ((hfr107 q (by omega)).trans (ev_set_ne (by omega)))
  have h22 : M10 22 = .inr (7, [.ref 23, .ref 24, .int 0, .int 0]) := (hk10 22 (by decide)).trans h22
  have h23 : M10 23 = .inl (0, 400, .inl (fun _ => 0)) := (hk10 23 (by decide)).trans h23
  have h24 : M10 24 = .inl (0, 6, .inl (fun _ => 0)) := (hk10 24 (by decide)).trans h24
  have h25 : M10 25 = .inr (10, [.ref 26]) := (hk10 25 (by decide)).trans h25
  have h26 : M10 26 = .inl (0, 4, .inl (upd (upd (upd (upd (fun _ => 0) 0 4) 1 15) 2 10) 3 0)) := (hk10 26 (by decide)).trans h26
  have h35 : M10 35 = .inr (2, [.ref 36, .ref 37, .ref 38, .int 0, .int 0, .int 0]) := (hk10 35 (by decide)).trans h35
  have h36 : M10 36 = .inl (0, 12, .inl (fun _ => 0)) := (hk10 36 (by decide)).trans h36
  have h37 : M10 37 = .inl (0, 12, .inl (fun _ => 0)) := (hk10 37 (by decide)).trans h37
  have h38 : M10 38 = .inl (0, 12, .inl (fun _ => 0)) := (hk10 38 (by decide)).trans h38
  have h39 : M10 39 = .inr (6, [.int 0, .int 0, .int 0, .int 0, .int 0]) := (hk10 39 (by decide)).trans h39
  have h40 : M10 40 = .inr (5, [.long 0]) := (hk10 40 (by decide)).trans h40
  have h20 : M10 21 = .inr (11, [.ref 22, .ref 25, .ref 27, .ref 35, .ref 39, .ref 40, .ref 41, .ref 63, .ref 85, .ref 107, .int 0]) := by rw [e10]; exact ev_set_eq
  have hsheet : cl_sheet M10 27 0 (fun _ => 0) := cl_sheet_keep (fun q z1 z2 => hk10 q (by omega)) hsheet
  have himg0 : cl_img M10 41 0 (fun _ => 0) false := cl_img_keep (fun q z1 z2 => hk10 q (by omega)) himg0
  have himg1 : cl_img M10 63 0 (fun _ => 0) false := cl_img_keep (fun q z1 z2 => hk10 q (by omega)) himg1
  have hgear : cl_gear M10 85 0 0 0 (fun _ => 0) (fun _ => 0) (fun _ => 0) := cl_gear_keep (fun q z1 z2 => hk10 q (by omega)) hgear
  have hspare : cl_gear M10 107 0 0 0 (fun _ => 0) (fun _ => 0) (fun _ => 0) := cl_gear_keep (fun q z1 z2 => by rw [e10]; exact ev_set_ne (by omega)) hp107
  refine ev_aload_n (i := 0) dX11_init_114 rfl rfl ?_
  refine ev_iconst (v := 1) dX11_init_115 cni_1 ?_
  refine ev_puti dX11_init_116 fpX11_71 (by exact h20) (by exact Nat.le_of_ble_eq_true rfl) ?_
  refine ev_genM (fun M9 e9 => ?_)
  have hz : ∀ q, q ≠ 21 → M9 q = M10 q := fun q hq => by rw [e9]; exact ev_set_ne hq
  exact ev_retv dX11_init_119 rfl (⟨rfl, ⟨85, 107, 0, 0, 0, _, _, _, _, _, _, _, _, _, _, _, _, _, _, _, _, _, _, _, _, Or.inl ⟨rfl, rfl⟩, (by rw [e9]; exact ev_set_eq), ((hz 22 (by decide)).trans h22), ((hz 23 (by decide)).trans h23), fun k hk => absurd hk (Nat.not_lt_zero k), ((hz 24 (by decide)).trans h24), ((hz 25 (by decide)).trans h25), ((hz 26 (by decide)).trans (h26.trans (by rw [show upd (upd (upd (upd (fun _ => 0) 0 4) 1 15) 2 10) 3 0 = i0_tu from i0_tu3]))), (cl_sheet_keep (fun q z1 z2 => hz q (by omega)) (cl_sheet_0 hsheet)), rfl, ((hz 35 (by decide)).trans h35), ((hz 36 (by decide)).trans h36), ((hz 37 (by decide)).trans h37), ((hz 38 (by decide)).trans h38), ((hz 39 (by decide)).trans h39), ((hz 40 (by decide)).trans h40), (cl_img_keep (fun q z1 z2 => hz q (by omega)) himg0), (cl_img_keep (fun q z1 z2 => hz q (by omega)) himg1), (cl_gear_keep (fun q z1 z2 => hz q (by omega)) hgear), fun k hk => absurd hk (Nat.not_lt_zero k), fun k hk => absurd hk (Nat.not_lt_zero k), fun k hk => absurd hk (Nat.not_lt_zero k), (cl_gear_keep (fun q z1 z2 => hz q (by omega)) hspare), Nat.zero_le _, Nat.zero_le _, Nat.zero_le _⟩, fun q hq => (hz q (by omega)).trans (((hk10 q (by omega))).trans (((hk9 q (by omega))).trans (((hk8 q (by omega))).trans (((hk7 q (by omega))).trans (((hk6 q (by omega))).trans (((hk5 q (by omega))).trans (((hk4 q (by omega))).trans (((hk3 q (by omega))).trans (((hk2 q (by omega))).trans ((hk1 q (by omega))))))))))))⟩)
theorem c13_init {G : ev_G} {M : ev_M} (hM : M 129 = .inr (12, [.int 0, .long 0, .null, .int 0, .int 0, .int 0, .int 0, .int 0, .int 0, .null, .null, .null, .int 0, .int 0, .int 0, .null, .null, .null, .null, .null, .int 0, .int 0, .int 0, .null, .null, .int 0, .int 0, .int 0, .int 0, .int 0, .int 0, .null, .null, .null, .long 0, .long 0])) : ev_Cal G mX12_init 1 14 1720 [.ref 129] 109 M (fun r M1 => r = none ∧ md_S M1 0 0 0 0 0 (fun _ => 0) i0_s (fun _ => 0) (fun _ => 0) (fun _ => 0) i0_tu false false 0 ∧ ∀ q, q < 129 → M1 q = M q) := by
  refine ev_Cal_of (L := [some (.ref 129)]) (by decide +kernel) (Nat.le_of_ble_eq_true rfl) rfl ?_
  have h129 := hM
  refine ev_aload_n (i := 0) dX12_init_0 rfl rfl ?_
  refine ev_objInit dX12_init_1 obX12_1 (by decide) (Nat.le_of_ble_eq_true rfl) ?_
  refine ev_aload_n (i := 0) dX12_init_4 rfl rfl ?_
  refine ev_sipush (v := 400) dX12_init_5 cns_400 ?_
  refine ev_newI (N := 400) (rc' := 13) (ru' := 1320) dX12_init_8 arI (ev_ixc (j := 400) rfl (by decide)) (by decide) rfl rfl ?_
  refine ev_putaF dX12_init_10 fpX12_7 rfl (by exact (ev_set_ne (by decide)).trans h129) (by exact Nat.le_of_ble_eq_true rfl) ?_
  refine ev_genM (fun M1 e1 => ?_)
  have hk1 : ∀ q, (q ≠ 129 ∧ q ≠ 130) → M1 q = M q := fun q hq => by rw [e1]; exact (ev_set_ne (by omega)).trans (ev_set_ne (by omega))
  have h129 : M1 129 = .inr (12, [.int 0, .long 0, .ref 130, .int 0, .int 0, .int 0, .int 0, .int 0, .int 0, .null, .null, .null, .int 0, .int 0, .int 0, .null, .null, .null, .null, .null, .int 0, .int 0, .int 0, .null, .null, .int 0, .int 0, .int 0, .int 0, .int 0, .int 0, .null, .null, .null, .long 0, .long 0]) := by rw [e1]; exact ev_set_eq
  have h130 : M1 130 = .inl (0, 400, .inl (fun _ => 0)) := by rw [e1]; exact (ev_set_ne (by decide)).trans ev_set_eq
  refine ev_aload_n (i := 0) dX12_init_13 rfl rfl ?_
  refine ev_sipush (v := 386) dX12_init_14 cns_386 ?_
  refine ev_newI (N := 386) (rc' := 12) (ru' := 934) dX12_init_17 arI (ev_ixc (j := 386) rfl (by decide)) (by decide) rfl rfl ?_
  refine ev_putaF dX12_init_19 fpX12_13 rfl (by exact (ev_set_ne (by decide)).trans h129) (by exact Nat.le_of_ble_eq_true rfl) ?_
  refine ev_genM (fun M2 e2 => ?_)
  have hk2 : ∀ q, (q ≠ 129 ∧ q ≠ 131) → M2 q = M1 q := fun q hq => by rw [e2]; exact (ev_set_ne (by omega)).trans (ev_set_ne (by omega))
  have h130 := (hk2 130 (by decide)).trans h130
  have h129 : M2 129 = .inr (12, [.int 0, .long 0, .ref 130, .int 0, .int 0, .int 0, .int 0, .int 0, .int 0, .ref 131, .null, .null, .int 0, .int 0, .int 0, .null, .null, .null, .null, .null, .int 0, .int 0, .int 0, .null, .null, .int 0, .int 0, .int 0, .int 0, .int 0, .int 0, .null, .null, .null, .long 0, .long 0]) := by rw [e2]; exact ev_set_eq
  have h131 : M2 131 = .inl (0, 386, .inl (fun _ => 0)) := by rw [e2]; exact (ev_set_ne (by decide)).trans ev_set_eq
  refine ev_aload_n (i := 0) dX12_init_22 rfl rfl ?_
  refine ev_sipush (v := 772) dX12_init_23 cns_772 ?_
  refine ev_newI (N := 772) (rc' := 11) (ru' := 162) dX12_init_26 arI (ev_ixc (j := 772) rfl (by decide)) (by decide) rfl rfl ?_
  refine ev_putaF dX12_init_28 fpX12_16 rfl (by exact (ev_set_ne (by decide)).trans h129) (by exact Nat.le_of_ble_eq_true rfl) ?_
  refine ev_genM (fun M3 e3 => ?_)
  have hk3 : ∀ q, (q ≠ 129 ∧ q ≠ 132) → M3 q = M2 q := fun q hq => by rw [e3]; exact (ev_set_ne (by omega)).trans (ev_set_ne (by omega))
  have h130 := (hk3 130 (by decide)).trans h130
  have h131 := (hk3 131 (by decide)).trans h131
  have h129 : M3 129 = .inr (12, [.int 0, .long 0, .ref 130, .int 0, .int 0, .int 0, .int 0, .int 0, .int 0, .ref 131, .ref 132, .null, .int 0, .int 0, .int 0, .null, .null, .null, .null, .null, .int 0, .int 0, .int 0, .null, .null, .int 0, .int 0, .int 0, .int 0, .int 0, .int 0, .null, .null, .null, .long 0, .long 0]) := by rw [e3]; exact ev_set_eq
  have h132 : M3 132 = .inl (0, 772, .inl (fun _ => 0)) := by rw [e3]; exact (ev_set_ne (by decide)).trans ev_set_eq
  refine ev_aload_n (i := 0) dX12_init_31 rfl rfl ?_
  refine ev_iconst (v := 2) dX12_init_32 cni_2 ?_
  refine ev_newZ (N := 2) (rc' := 10) (ru' := 160) dX12_init_33 arZ (ev_ixc (j := 2) rfl (by decide)) (by decide) rfl rfl ?_
  refine ev_putaF dX12_init_35 fpX12_19 rfl (by exact (ev_set_ne (by decide)).trans h129) (by exact Nat.le_of_ble_eq_true rfl) ?_
  refine ev_genM (fun M4 e4 => ?_)
  have hk4 : ∀ q, (q ≠ 129 ∧ q ≠ 133) → M4 q = M3 q := fun q hq => by rw [e4]; exact (ev_set_ne (by omega)).trans (ev_set_ne (by omega))
  have h130 := (hk4 130 (by decide)).trans h130
  have h131 := (hk4 131 (by decide)).trans h131
  have h132 := (hk4 132 (by decide)).trans h132
  have h129 : M4 129 = .inr (12, [.int 0, .long 0, .ref 130, .int 0, .int 0, .int 0, .int 0, .int 0, .int 0, .ref 131, .ref 132, .ref 133, .int 0, .int 0, .int 0, .null, .null, .null, .null, .null, .int 0, .int 0, .int 0, .null, .null, .int 0, .int 0, .int 0, .int 0, .int 0, .int 0, .null, .null, .null, .long 0, .long 0]) := by rw [e4]; exact ev_set_eq
  have h133 : M4 133 = .inl (1, 2, .inl (fun _ => 0)) := by rw [e4]; exact (ev_set_ne (by decide)).trans ev_set_eq
  refine ev_aload_n (i := 0) dX12_init_38 rfl rfl ?_
  refine ev_bipush (v := 6) dX12_init_39 cnb_6 ?_
  refine ev_newI (N := 6) (rc' := 9) (ru' := 154) dX12_init_41 arI (ev_ixc (j := 6) rfl (by decide)) (by decide) rfl rfl ?_
  refine ev_putaF dX12_init_43 fpX12_23 rfl (by exact (ev_set_ne (by decide)).trans h129) (by exact Nat.le_of_ble_eq_true rfl) ?_
  refine ev_genM (fun M5 e5 => ?_)
  have hk5 : ∀ q, (q ≠ 129 ∧ q ≠ 134) → M5 q = M4 q := fun q hq => by rw [e5]; exact (ev_set_ne (by omega)).trans (ev_set_ne (by omega))
  have h130 := (hk5 130 (by decide)).trans h130
  have h131 := (hk5 131 (by decide)).trans h131
  have h132 := (hk5 132 (by decide)).trans h132
  have h133 := (hk5 133 (by decide)).trans h133
  have h129 : M5 129 = .inr (12, [.int 0, .long 0, .ref 130, .int 0, .int 0, .int 0, .int 0, .int 0, .int 0, .ref 131, .ref 132, .ref 133, .int 0, .int 0, .int 0, .ref 134, .null, .null, .null, .null, .int 0, .int 0, .int 0, .null, .null, .int 0, .int 0, .int 0, .int 0, .int 0, .int 0, .null, .null, .null, .long 0, .long 0]) := by rw [e5]; exact ev_set_eq
  have h134 : M5 134 = .inl (0, 6, .inl (fun _ => 0)) := by rw [e5]; exact (ev_set_ne (by decide)).trans ev_set_eq
  refine ev_aload_n (i := 0) dX12_init_46 rfl rfl ?_
  refine ev_bipush (v := 6) dX12_init_47 cnb_6 ?_
  refine ev_newI (N := 6) (rc' := 8) (ru' := 148) dX12_init_49 arI (ev_ixc (j := 6) rfl (by decide)) (by decide) rfl rfl ?_
  refine ev_putaF dX12_init_51 fpX12_26 rfl (by exact (ev_set_ne (by decide)).trans h129) (by exact Nat.le_of_ble_eq_true rfl) ?_
  refine ev_genM (fun M6 e6 => ?_)
  have hk6 : ∀ q, (q ≠ 129 ∧ q ≠ 135) → M6 q = M5 q := fun q hq => by rw [e6]; exact (ev_set_ne (by omega)).trans (ev_set_ne (by omega))
  have h130 := (hk6 130 (by decide)).trans h130
  have h131 := (hk6 131 (by decide)).trans h131
  have h132 := (hk6 132 (by decide)).trans h132
  have h133 := (hk6 133 (by decide)).trans h133
  have h134 := (hk6 134 (by decide)).trans h134
  have h129 : M6 129 = .inr (12, [.int 0, .long 0, .ref 130, .int 0, .int 0, .int 0, .int 0, .int 0, .int 0, .ref 131, .ref 132, .ref 133, .int 0, .int 0, .int 0, .ref 134, .ref 135, .null, .null, .null, .int 0, .int 0, .int 0, .null, .null, .int 0, .int 0, .int 0, .int 0, .int 0, .int 0, .null, .null, .null, .long 0, .long 0]) := by rw [e6]; exact ev_set_eq
  have h135 : M6 135 = .inl (0, 6, .inl (fun _ => 0)) := by rw [e6]; exact (ev_set_ne (by decide)).trans ev_set_eq
  refine ev_aload_n (i := 0) dX12_init_54 rfl rfl ?_
  refine ev_bipush (v := 84) dX12_init_55 cnb_84 ?_
  refine ev_newI (N := 84) (rc' := 7) (ru' := 64) dX12_init_57 arI (ev_ixc (j := 84) rfl (by decide)) (by decide) rfl rfl ?_
  refine ev_putaF dX12_init_59 fpX12_29 rfl (by exact (ev_set_ne (by decide)).trans h129) (by exact Nat.le_of_ble_eq_true rfl) ?_
  refine ev_genM (fun M7 e7 => ?_)
  have hk7 : ∀ q, (q ≠ 129 ∧ q ≠ 136) → M7 q = M6 q := fun q hq => by rw [e7]; exact (ev_set_ne (by omega)).trans (ev_set_ne (by omega))
  have h130 := (hk7 130 (by decide)).trans h130
  have h131 := (hk7 131 (by decide)).trans h131
  have h132 := (hk7 132 (by decide)).trans h132
  have h133 := (hk7 133 (by decide)).trans h133
  have h134 := (hk7 134 (by decide)).trans h134
  have h135 := (hk7 135 (by decide)).trans h135
  have h129 : M7 129 = .inr (12, [.int 0, .long 0, .ref 130, .int 0, .int 0, .int 0, .int 0, .int 0, .int 0, .ref 131, .ref 132, .ref 133, .int 0, .int 0, .int 0, .ref 134, .ref 135, .ref 136, .null, .null, .int 0, .int 0, .int 0, .null, .null, .int 0, .int 0, .int 0, .int 0, .int 0, .int 0, .null, .null, .null, .long 0, .long 0]) := by rw [e7]; exact ev_set_eq
  have h136 : M7 136 = .inl (0, 84, .inl (fun _ => 0)) := by rw [e7]; exact (ev_set_ne (by decide)).trans ev_set_eq
  refine ev_aload_n (i := 0) dX12_init_62 rfl rfl ?_
  refine ev_bipush (v := 6) dX12_init_63 cnb_6 ?_
  refine ev_newI (N := 6) (rc' := 6) (ru' := 58) dX12_init_65 arI (ev_ixc (j := 6) rfl (by decide)) (by decide) rfl rfl ?_
  refine ev_putaF dX12_init_67 fpX12_32 rfl (by exact (ev_set_ne (by decide)).trans h129) (by exact Nat.le_of_ble_eq_true rfl) ?_
  refine ev_genM (fun M8 e8 => ?_)
  have hk8 : ∀ q, (q ≠ 129 ∧ q ≠ 137) → M8 q = M7 q := fun q hq => by rw [e8]; exact (ev_set_ne (by omega)).trans (ev_set_ne (by omega))
  have h130 := (hk8 130 (by decide)).trans h130
  have h131 := (hk8 131 (by decide)).trans h131
  have h132 := (hk8 132 (by decide)).trans h132
  have h133 := (hk8 133 (by decide)).trans h133
  have h134 := (hk8 134 (by decide)).trans h134
  have h135 := (hk8 135 (by decide)).trans h135
  have h136 := (hk8 136 (by decide)).trans h136
  have h129 : M8 129 = .inr (12, [.int 0, .long 0, .ref 130, .int 0, .int 0, .int 0, .int 0, .int 0, .int 0, .ref 131, .ref 132, .ref 133, .int 0, .int 0, .int 0, .ref 134, .ref 135, .ref 136, .ref 137, .null, .int 0, .int 0, .int 0, .null, .null, .int 0, .int 0, .int 0, .int 0, .int 0, .int 0, .null, .null, .null, .long 0, .long 0]) := by rw [e8]; exact ev_set_eq
  have h137 : M8 137 = .inl (0, 6, .inl (fun _ => 0)) := by rw [e8]; exact (ev_set_ne (by decide)).trans ev_set_eq
  refine ev_aload_n (i := 0) dX12_init_70 rfl rfl ?_
  refine ev_bipush (v := 6) dX12_init_71 cnb_6 ?_
  refine ev_newI (N := 6) (rc' := 5) (ru' := 52) dX12_init_73 arI (ev_ixc (j := 6) rfl (by decide)) (by decide) rfl rfl ?_
  refine ev_putaF dX12_init_75 fpX12_35 rfl (by exact (ev_set_ne (by decide)).trans h129) (by exact Nat.le_of_ble_eq_true rfl) ?_
  refine ev_genM (fun M9 e9 => ?_)
  have hk9 : ∀ q, (q ≠ 129 ∧ q ≠ 138) → M9 q = M8 q := fun q hq => by rw [e9]; exact (ev_set_ne (by omega)).trans (ev_set_ne (by omega))
  have h130 := (hk9 130 (by decide)).trans h130
  have h131 := (hk9 131 (by decide)).trans h131
  have h132 := (hk9 132 (by decide)).trans h132
  have h133 := (hk9 133 (by decide)).trans h133
  have h134 := (hk9 134 (by decide)).trans h134
  have h135 := (hk9 135 (by decide)).trans h135
  have h136 := (hk9 136 (by decide)).trans h136
  have h137 := (hk9 137 (by decide)).trans h137
  have h129 : M9 129 = .inr (12, [.int 0, .long 0, .ref 130, .int 0, .int 0, .int 0, .int 0, .int 0, .int 0, .ref 131, .ref 132, .ref 133, .int 0, .int 0, .int 0, .ref 134, .ref 135, .ref 136, .ref 137, .ref 138, .int 0, .int 0, .int 0, .null, .null, .int 0, .int 0, .int 0, .int 0, .int 0, .int 0, .null, .null, .null, .long 0, .long 0]) := by rw [e9]; exact ev_set_eq
  have h138 : M9 138 = .inl (0, 6, .inl (fun _ => 0)) := by rw [e9]; exact (ev_set_ne (by decide)).trans ev_set_eq
  refine ev_aload_n (i := 0) dX12_init_78 rfl rfl ?_
  refine ev_iconst (v := 4) dX12_init_79 cni_4 ?_
  refine ev_newI (N := 4) (rc' := 4) (ru' := 48) dX12_init_80 arI (ev_ixc (j := 4) rfl (by decide)) (by decide) rfl rfl ?_
  refine ev_putaF dX12_init_82 fpX12_38 rfl (by exact (ev_set_ne (by decide)).trans h129) (by exact Nat.le_of_ble_eq_true rfl) ?_
  refine ev_genM (fun M10 e10 => ?_)
  have hk10 : ∀ q, (q ≠ 129 ∧ q ≠ 139) → M10 q = M9 q := fun q hq => by rw [e10]; exact (ev_set_ne (by omega)).trans (ev_set_ne (by omega))
  have h130 := (hk10 130 (by decide)).trans h130
  have h131 := (hk10 131 (by decide)).trans h131
  have h132 := (hk10 132 (by decide)).trans h132
  have h133 := (hk10 133 (by decide)).trans h133
  have h134 := (hk10 134 (by decide)).trans h134
  have h135 := (hk10 135 (by decide)).trans h135
  have h136 := (hk10 136 (by decide)).trans h136
  have h137 := (hk10 137 (by decide)).trans h137
  have h138 := (hk10 138 (by decide)).trans h138
  have h129 : M10 129 = .inr (12, [.int 0, .long 0, .ref 130, .int 0, .int 0, .int 0, .int 0, .int 0, .int 0, .ref 131, .ref 132, .ref 133, .int 0, .int 0, .int 0, .ref 134, .ref 135, .ref 136, .ref 137, .ref 138, .int 0, .int 0, .int 0, .ref 139, .null, .int 0, .int 0, .int 0, .int 0, .int 0, .int 0, .null, .null, .null, .long 0, .long 0]) := by rw [e10]; exact ev_set_eq
  have h139 : M10 139 = .inl (0, 4, .inl (fun _ => 0)) := by rw [e10]; exact (ev_set_ne (by decide)).trans ev_set_eq
  refine ev_aload_n (i := 0) dX12_init_85 rfl rfl ?_
  refine ev_bipush (v := 7) dX12_init_86 cnb_7 ?_
  refine ev_newI (N := 7) (rc' := 3) (ru' := 41) dX12_init_88 arI (ev_ixc (j := 7) rfl (by decide)) (by decide) rfl rfl ?_
  refine ev_putaF dX12_init_90 fpX12_41 rfl (by exact (ev_set_ne (by decide)).trans h129) (by exact Nat.le_of_ble_eq_true rfl) ?_
  refine ev_genM (fun M11 e11 => ?_)
  have hk11 : ∀ q, (q ≠ 129 ∧ q ≠ 140) → M11 q = M10 q := fun q hq => by rw [e11]; exact (ev_set_ne (by omega)).trans (ev_set_ne (by omega))
  have h130 := (hk11 130 (by decide)).trans h130
  have h131 := (hk11 131 (by decide)).trans h131
  have h132 := (hk11 132 (by decide)).trans h132
  have h133 := (hk11 133 (by decide)).trans h133
  have h134 := (hk11 134 (by decide)).trans h134
  have h135 := (hk11 135 (by decide)).trans h135
  have h136 := (hk11 136 (by decide)).trans h136
  have h137 := (hk11 137 (by decide)).trans h137
  have h138 := (hk11 138 (by decide)).trans h138
  have h139 := (hk11 139 (by decide)).trans h139
  have h129 : M11 129 = .inr (12, [.int 0, .long 0, .ref 130, .int 0, .int 0, .int 0, .int 0, .int 0, .int 0, .ref 131, .ref 132, .ref 133, .int 0, .int 0, .int 0, .ref 134, .ref 135, .ref 136, .ref 137, .ref 138, .int 0, .int 0, .int 0, .ref 139, .ref 140, .int 0, .int 0, .int 0, .int 0, .int 0, .int 0, .null, .null, .null, .long 0, .long 0]) := by rw [e11]; exact ev_set_eq
  have h140 : M11 140 = .inl (0, 7, .inl (fun _ => 0)) := by rw [e11]; exact (ev_set_ne (by decide)).trans ev_set_eq
  refine ev_aload_n (i := 0) dX12_init_93 rfl rfl ?_
  refine ev_bipush (v := 24) dX12_init_94 cnb_24 ?_
  refine ev_newI (N := 24) (rc' := 2) (ru' := 17) dX12_init_96 arI (ev_ixc (j := 24) rfl (by decide)) (by decide) rfl rfl ?_
  refine ev_putaF dX12_init_98 fpX12_44 rfl (by exact (ev_set_ne (by decide)).trans h129) (by exact Nat.le_of_ble_eq_true rfl) ?_
  refine ev_genM (fun M12 e12 => ?_)
  have hk12 : ∀ q, (q ≠ 129 ∧ q ≠ 141) → M12 q = M11 q := fun q hq => by rw [e12]; exact (ev_set_ne (by omega)).trans (ev_set_ne (by omega))
  have h130 := (hk12 130 (by decide)).trans h130
  have h131 := (hk12 131 (by decide)).trans h131
  have h132 := (hk12 132 (by decide)).trans h132
  have h133 := (hk12 133 (by decide)).trans h133
  have h134 := (hk12 134 (by decide)).trans h134
  have h135 := (hk12 135 (by decide)).trans h135
  have h136 := (hk12 136 (by decide)).trans h136
  have h137 := (hk12 137 (by decide)).trans h137
  have h138 := (hk12 138 (by decide)).trans h138
  have h139 := (hk12 139 (by decide)).trans h139
  have h140 := (hk12 140 (by decide)).trans h140
  have h129 : M12 129 = .inr (12, [.int 0, .long 0, .ref 130, .int 0, .int 0, .int 0, .int 0, .int 0, .int 0, .ref 131, .ref 132, .ref 133, .int 0, .int 0, .int 0, .ref 134, .ref 135, .ref 136, .ref 137, .ref 138, .int 0, .int 0, .int 0, .ref 139, .ref 140, .int 0, .int 0, .int 0, .int 0, .int 0, .int 0, .ref 141, .null, .null, .long 0, .long 0]) := by rw [e12]; exact ev_set_eq
  have h141 : M12 141 = .inl (0, 24, .inl (fun _ => 0)) := by rw [e12]; exact (ev_set_ne (by decide)).trans ev_set_eq
  refine ev_aload_n (i := 0) dX12_init_101 rfl rfl ?_
  refine ev_bipush (v := 12) dX12_init_102 cnb_12 ?_
  refine ev_newI (N := 12) (rc' := 1) (ru' := 5) dX12_init_104 arI (ev_ixc (j := 12) rfl (by decide)) (by decide) rfl rfl ?_
  refine ev_putaF dX12_init_106 fpX12_47 rfl (by exact (ev_set_ne (by decide)).trans h129) (by exact Nat.le_of_ble_eq_true rfl) ?_
  refine ev_genM (fun M13 e13 => ?_)
  have hk13 : ∀ q, (q ≠ 129 ∧ q ≠ 142) → M13 q = M12 q := fun q hq => by rw [e13]; exact (ev_set_ne (by omega)).trans (ev_set_ne (by omega))
  have h130 := (hk13 130 (by decide)).trans h130
  have h131 := (hk13 131 (by decide)).trans h131
  have h132 := (hk13 132 (by decide)).trans h132
  have h133 := (hk13 133 (by decide)).trans h133
  have h134 := (hk13 134 (by decide)).trans h134
  have h135 := (hk13 135 (by decide)).trans h135
  have h136 := (hk13 136 (by decide)).trans h136
  have h137 := (hk13 137 (by decide)).trans h137
  have h138 := (hk13 138 (by decide)).trans h138
  have h139 := (hk13 139 (by decide)).trans h139
  have h140 := (hk13 140 (by decide)).trans h140
  have h141 := (hk13 141 (by decide)).trans h141
  have h129 : M13 129 = .inr (12, [.int 0, .long 0, .ref 130, .int 0, .int 0, .int 0, .int 0, .int 0, .int 0, .ref 131, .ref 132, .ref 133, .int 0, .int 0, .int 0, .ref 134, .ref 135, .ref 136, .ref 137, .ref 138, .int 0, .int 0, .int 0, .ref 139, .ref 140, .int 0, .int 0, .int 0, .int 0, .int 0, .int 0, .ref 141, .ref 142, .null, .long 0, .long 0]) := by rw [e13]; exact ev_set_eq
  have h142 : M13 142 = .inl (0, 12, .inl (fun _ => 0)) := by rw [e13]; exact (ev_set_ne (by decide)).trans ev_set_eq
  refine ev_aload_n (i := 0) dX12_init_109 rfl rfl ?_
  refine ev_iconst (v := 5) dX12_init_110 cni_5 ?_
  refine ev_newI (N := 5) (rc' := 0) (ru' := 0) dX12_init_111 arI (ev_ixc (j := 5) rfl (by decide)) (by decide) rfl rfl ?_
  refine ev_putaF dX12_init_113 fpX12_50 rfl (by exact (ev_set_ne (by decide)).trans h129) (by exact Nat.le_of_ble_eq_true rfl) ?_
  refine ev_genM (fun M14 e14 => ?_)
  have hk14 : ∀ q, (q ≠ 129 ∧ q ≠ 143) → M14 q = M13 q := fun q hq => by rw [e14]; exact (ev_set_ne (by omega)).trans (ev_set_ne (by omega))
  have h130 := (hk14 130 (by decide)).trans h130
  have h131 := (hk14 131 (by decide)).trans h131
  have h132 := (hk14 132 (by decide)).trans h132
  have h133 := (hk14 133 (by decide)).trans h133
  have h134 := (hk14 134 (by decide)).trans h134
  have h135 := (hk14 135 (by decide)).trans h135
  have h136 := (hk14 136 (by decide)).trans h136
  have h137 := (hk14 137 (by decide)).trans h137
  have h138 := (hk14 138 (by decide)).trans h138
  have h139 := (hk14 139 (by decide)).trans h139
  have h140 := (hk14 140 (by decide)).trans h140
  have h141 := (hk14 141 (by decide)).trans h141
  have h142 := (hk14 142 (by decide)).trans h142
  have h129 : M14 129 = .inr (12, [.int 0, .long 0, .ref 130, .int 0, .int 0, .int 0, .int 0, .int 0, .int 0, .ref 131, .ref 132, .ref 133, .int 0, .int 0, .int 0, .ref 134, .ref 135, .ref 136, .ref 137, .ref 138, .int 0, .int 0, .int 0, .ref 139, .ref 140, .int 0, .int 0, .int 0, .int 0, .int 0, .int 0, .ref 141, .ref 142, .ref 143, .long 0, .long 0]) := by rw [e14]; exact ev_set_eq
  have h143 : M14 143 = .inl (0, 5, .inl (fun _ => 0)) := by rw [e14]; exact (ev_set_ne (by decide)).trans ev_set_eq
  refine ev_aload_n (i := 0) dX12_init_116 rfl rfl ?_
  refine ev_getf dX12_init_117 flX12_38 (by first | assumption | exact ev_set_eq | exact (ev_set_ne (by decide)).trans (by assumption) | exact (ev_set_ne (by decide)).trans ((ev_set_ne (by decide)).trans (by assumption)) | exact (ev_set_ne (by decide)).trans ((ev_set_ne (by decide)).trans ((ev_set_ne (by decide)).trans (by assumption))) | exact (ev_set_ne (by decide)).trans ((ev_set_ne (by decide)).trans ((ev_set_ne (by decide)).trans ((ev_set_ne (by decide)).trans (by assumption))))) (by rfl) ?_
  refine ev_iconst (v := 0) dX12_init_120 cni_0 ?_
  refine ev_iconst (v := 4) dX12_init_121 cni_4 ?_
  refine ev_iast (j := 0) dX12_init_122 (by first | assumption | exact ev_set_eq | exact (ev_set_ne (by decide)).trans (by assumption) | exact (ev_set_ne (by decide)).trans ((ev_set_ne (by decide)).trans (by assumption)) | exact (ev_set_ne (by decide)).trans ((ev_set_ne (by decide)).trans ((ev_set_ne (by decide)).trans (by assumption))) | exact (ev_set_ne (by decide)).trans ((ev_set_ne (by decide)).trans ((ev_set_ne (by decide)).trans ((ev_set_ne (by decide)).trans (by assumption))))) (ev_ixc (j := 0) rfl (by decide)) (by decide) ?_
  refine ev_aload_n (i := 0) dX12_init_123 rfl rfl ?_
  refine ev_getf dX12_init_124 flX12_38 (by first | assumption | exact ev_set_eq | exact (ev_set_ne (by decide)).trans (by assumption) | exact (ev_set_ne (by decide)).trans ((ev_set_ne (by decide)).trans (by assumption)) | exact (ev_set_ne (by decide)).trans ((ev_set_ne (by decide)).trans ((ev_set_ne (by decide)).trans (by assumption))) | exact (ev_set_ne (by decide)).trans ((ev_set_ne (by decide)).trans ((ev_set_ne (by decide)).trans ((ev_set_ne (by decide)).trans (by assumption))))) (by rfl) ?_
  refine ev_iconst (v := 1) dX12_init_127 cni_1 ?_
  refine ev_bipush (v := 15) dX12_init_128 cnb_15 ?_
  refine ev_iast (j := 1) dX12_init_130 (by first | assumption | exact ev_set_eq | exact (ev_set_ne (by decide)).trans (by assumption) | exact (ev_set_ne (by decide)).trans ((ev_set_ne (by decide)).trans (by assumption)) | exact (ev_set_ne (by decide)).trans ((ev_set_ne (by decide)).trans ((ev_set_ne (by decide)).trans (by assumption))) | exact (ev_set_ne (by decide)).trans ((ev_set_ne (by decide)).trans ((ev_set_ne (by decide)).trans ((ev_set_ne (by decide)).trans (by assumption))))) (ev_ixc (j := 1) rfl (by decide)) (by decide) ?_
  refine ev_aload_n (i := 0) dX12_init_131 rfl rfl ?_
  refine ev_getf dX12_init_132 flX12_38 (by first | assumption | exact ev_set_eq | exact (ev_set_ne (by decide)).trans (by assumption) | exact (ev_set_ne (by decide)).trans ((ev_set_ne (by decide)).trans (by assumption)) | exact (ev_set_ne (by decide)).trans ((ev_set_ne (by decide)).trans ((ev_set_ne (by decide)).trans (by assumption))) | exact (ev_set_ne (by decide)).trans ((ev_set_ne (by decide)).trans ((ev_set_ne (by decide)).trans ((ev_set_ne (by decide)).trans (by assumption))))) (by rfl) ?_
  refine ev_iconst (v := 2) dX12_init_135 cni_2 ?_
  refine ev_bipush (v := 10) dX12_init_136 cnb_10 ?_
  refine ev_iast (j := 2) dX12_init_138 (by first | assumption | exact ev_set_eq | exact (ev_set_ne (by decide)).trans (by assumption) | exact (ev_set_ne (by decide)).trans ((ev_set_ne (by decide)).trans (by assumption)) | exact (ev_set_ne (by decide)).trans ((ev_set_ne (by decide)).trans ((ev_set_ne (by decide)).trans (by assumption))) | exact (ev_set_ne (by decide)).trans ((ev_set_ne (by decide)).trans ((ev_set_ne (by decide)).trans ((ev_set_ne (by decide)).trans (by assumption))))) (ev_ixc (j := 2) rfl (by decide)) (by decide) ?_
  refine ev_aload_n (i := 0) dX12_init_139 rfl rfl ?_
  refine ev_getf dX12_init_140 flX12_13 (by first | assumption | exact ev_set_eq | exact (ev_set_ne (by decide)).trans (by assumption) | exact (ev_set_ne (by decide)).trans ((ev_set_ne (by decide)).trans (by assumption)) | exact (ev_set_ne (by decide)).trans ((ev_set_ne (by decide)).trans ((ev_set_ne (by decide)).trans (by assumption))) | exact (ev_set_ne (by decide)).trans ((ev_set_ne (by decide)).trans ((ev_set_ne (by decide)).trans ((ev_set_ne (by decide)).trans (by assumption))))) (by rfl) ?_
  refine ev_bipush (v := 84) dX12_init_143 cnb_84 ?_
  refine ev_iconst (v := 1) dX12_init_145 cni_1 ?_
  refine ev_iast (j := 84) dX12_init_146 (by first | assumption | exact ev_set_eq | exact (ev_set_ne (by decide)).trans (by assumption) | exact (ev_set_ne (by decide)).trans ((ev_set_ne (by decide)).trans (by assumption)) | exact (ev_set_ne (by decide)).trans ((ev_set_ne (by decide)).trans ((ev_set_ne (by decide)).trans (by assumption))) | exact (ev_set_ne (by decide)).trans ((ev_set_ne (by decide)).trans ((ev_set_ne (by decide)).trans ((ev_set_ne (by decide)).trans (by assumption))))) (ev_ixc (j := 84) rfl (by decide)) (by decide) ?_
  refine ev_genM (fun M99 e99 => ?_)
  have hz : ∀ q, (q ≠ 139 ∧ q ≠ 131) → M99 q = M14 q := fun q hq => by rw [e99]; exact (ev_set_ne (by omega)).trans ((ev_set_ne (by omega)).trans ((ev_set_ne (by omega)).trans (ev_set_ne (by omega))))
  exact ev_retv dX12_init_147 rfl (⟨rfl, ⟨0, 0, 0, 0, 0, 0, 0, 0, 0, 0, 0, 0, 0, 0, 0, 0, 0, fun _ => 0, fun _ => 0, fun _ => 0, fun _ => 0, fun _ => 0, fun _ => 0, fun _ => 0, fun _ => 0, ((hz 129 (by decide)).trans h129), ((hz 130 (by decide)).trans h130), (by rw [e99]; exact ev_set_eq), ((hz 132 (by decide)).trans h132), ((hz 133 (by decide)).trans h133), rfl, rfl, ((hz 134 (by decide)).trans h134), ((hz 135 (by decide)).trans h135), ((hz 136 (by decide)).trans h136), ((hz 137 (by decide)).trans h137), ((hz 138 (by decide)).trans h138), (by rw [e99]; exact (ev_set_ne (by decide)).trans ev_set_eq), ((hz 140 (by decide)).trans h140), ((hz 141 (by decide)).trans h141), ((hz 142 (by decide)).trans h142), ((hz 143 (by decide)).trans h143), rfl⟩, fun q hq => (hz q (by omega)).trans ((hk14 q (by omega)).trans ((hk13 q (by omega)).trans ((hk12 q (by omega)).trans ((hk11 q (by omega)).trans ((hk10 q (by omega)).trans ((hk9 q (by omega)).trans ((hk8 q (by omega)).trans ((hk7 q (by omega)).trans ((hk6 q (by omega)).trans ((hk5 q (by omega)).trans ((hk4 q (by omega)).trans ((hk3 q (by omega)).trans ((hk2 q (by omega)).trans ((hk1 q (by omega))))))))))))))))⟩)
