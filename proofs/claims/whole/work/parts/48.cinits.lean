/-! ===== contracts: constructors ===== -/
section EVN
variable {G : ev_G} {y : ev_MI} {f rc ru n : Nat} {M : ev_M} {pc : Nat} {L : List (Option Value)} {st : List Value} {Post : Option Value → ev_M → Prop}
theorem ev_newA {b idx ci N rc' ru' : Nat} {fs : List Value} (hb : 21 + n = b) (hd : decode y.2.1 pc = .ok (.new idx, 3)) (hl : ev_NW y.1.cls idx ci fs N) (h1 : rc = rc' + 1) (h2 : ru = ru' + N) (k : ev_E G y f rc' ru' (n + 1) (ev_set M b (.inr (ci, fs))) (pc + 3) L (.ref b :: st) Post) : ev_E G y f rc ru n M pc L st Post := by
  subst hb; exact ev_new hd hl h1 h2 k
theorem ev_newqA {b N rc' ru' t idx : Nat} {i : Int32} {C : String} (hb0 : 21 + n = b) (hd : decode y.2.1 pc = .ok (.anewarray idx, 3)) (hw : Cond.classLink y.1.cls idx C ∈ ev_TB) (ho : ∀ (G : ev_G) (s : State), ev_F G s → va_AO C s) (ht : ∀ G, (ev_tys G)[t]? = some (ev_cA G t, .object C)) (hx : ev_ix i N) (hb : N ≤ 10000) (h1 : rc = rc' + 1) (h2 : ru = ru' + N) (k : ev_E G y f rc' ru' (n + 1) (ev_set M b (.inl (t, N, .inr (.inr (.inr (.inr (fun _ => none))))))) (pc + 3) L (.ref b :: st) Post) : ev_E G y f rc ru n M pc L (.int i :: st) Post := by
  subst hb0; exact ev_newq hd hw ho ht hx hb h1 h2 k
end EVN
/-- a row of so many places, the first k of them filled -/
def qb_R (M : ev_M) (a t N b k : Nat) : Prop := ∃ f, M a = .inl (t, N, ev_q f) ∧ ∀ q, q < k → f q = some (b + q)
theorem qb_R_up {M : ev_M} {a t N b k : Nat} {f : Nat → Option Nat} (h : ∀ q, q < k → f q = some (b + q)) : ∀ q, q < k + 1 → va_up f k (some (b + k)) q = some (b + q) := by
  intro q hq
  unfold va_up
  by_cases e : q = k
  · rw [if_pos e, e]
  · rw [if_neg e]; exact h q (by omega)
theorem qb_keep {M M1 : ev_M} {a t N b k : Nat} (h : M1 a = M a) (hR : qb_R M a t N b k) : qb_R M1 a t N b k := by
  obtain ⟨f, h1, h2⟩ := hR
  exact ⟨f, h.trans h1, h2⟩
/-- gear under way -/
def gb_S (M M0 : ev_M) (a i j k : Nat) : Prop := M a = .inr (3, [.ref (a + 1), .ref (a + 2), .ref (a + 3), .int 0, .int 0, .int 0]) ∧ qb_R M (a + 1) 2 12 (a + 4) i ∧ qb_R M (a + 2) 3 3 (a + 16) j ∧ qb_R M (a + 3) 4 3 (a + 19) k ∧ (∀ q, q < i → M (a + 4 + q) = .inr (9, [.int 0, .int 0, .int 0, .int 0, .int 0, .int 0, .int 0])) ∧ (∀ q, q < j → M (a + 16 + q) = .inr (1, [.int 0, .int 0])) ∧ (∀ q, q < k → M (a + 19 + q) = .inr (0, [.int 0, .int 0])) ∧ ∀ q, (q < a ∨ a + 22 ≤ q) → M q = M0 q
theorem l3_s {G : ev_G} {n : Nat} {M0 : ev_M} {a : Nat} (hn : 21 + n = a + 1) {Post : Option Value → ev_M → Prop} (K : ∀ M2 : ev_M, gb_S M2 M0 a 12 0 0 → ev_E G mX3_init 2 (6) (12) (n + 15) M2 59 [some (.ref a), some (.int (nI 12))] [] Post) : ∀ (m i : Nat) (M1 : ev_M), i + m = 12 → gb_S M1 M0 a i 0 0 → ev_E G mX3_init 2 (m + 6) (7 * m + 12) (n + 3 + i) M1 31 [some (.ref a), some (.int (nI i))] [] Post := by
  intro m
  induction m with
  | zero =>
    intro i M1 hm hS
    have hS0 := hS
    obtain ⟨g0, ⟨fs, g1, g2⟩, ⟨fb, g3, g4⟩, ⟨fc, g5, g6⟩, g7, g8, g9, g10⟩ := hS
    refine ev_iload_n (i := 1) dX3_init_31 rfl rfl ?_
    refine ev_aload_n (i := 0) dX3_init_32 rfl rfl ?_
    refine ev_getf dX3_init_33 flX3_11 (by assumption) (by rfl) ?_
    refine ev_alen (v := 12) dX3_init_36 (fun _ => rfl) (by assumption) (by rfl) ?_
    refine ev_icmp_ge (tgt := 59) dX3_init_37 (by decide) (fun h37 => ?_) (fun h37 => False.elim (Int32.not_le.mpr h37 (nI_le (a := 12) (b := i) (by omega) (by omega))))
    have e : i = 12 := by omega
    subst e
    exact K M1 hS0
  | succ m ih =>
    intro i M1 hm hS
    have hS0 := hS
    obtain ⟨g0, ⟨fs, g1, g2⟩, ⟨fb, g3, g4⟩, ⟨fc, g5, g6⟩, g7, g8, g9, g10⟩ := hS
    refine ev_iload_n (i := 1) dX3_init_31 rfl rfl ?_
    refine ev_aload_n (i := 0) dX3_init_32 rfl rfl ?_
    refine ev_getf dX3_init_33 flX3_11 (by first | assumption | exact ev_set_eq | exact (ev_set_ne (by omega)).trans (by assumption)) (by rfl) ?_
    refine ev_alen (v := 12) dX3_init_36 (fun _ => rfl) (by first | assumption | exact ev_set_eq | exact (ev_set_ne (by omega)).trans (by assumption)) (by rfl) ?_
    refine ev_icmp_ge (tgt := 59) dX3_init_37 (by decide) (fun h37 => False.elim (nI_ge (a := i) (b := 12) (by omega) (by decide) h37)) (fun h37 => ?_)
    refine ev_aload_n (i := 0) dX3_init_40 rfl rfl ?_
    refine ev_getf dX3_init_41 flX3_11 (by first | assumption | exact ev_set_eq | exact (ev_set_ne (by omega)).trans (by assumption)) (by rfl) ?_
    refine ev_iload_n (i := 1) dX3_init_44 rfl rfl ?_
    refine ev_newA (b := a + 4 + i) (rc' := m + 6) (ru' := 7 * m + 12) (by omega) dX3_init_45 nwX3_9 (by omega) (by omega) ?_
    refine ev_dup dX3_init_48 rfl ?_
    refine ev_w1 kX3_init_49 (c9_init) (ev_rv_of (by first | assumption | exact ev_set_eq | exact (ev_set_ne (by omega)).trans (by assumption)) rfl rfl) (by decide) (by decide) (Nat.le_of_ble_eq_true rfl) ?_
    refine ev_aast (j := i) dX3_init_52 rfl (fun _ => rfl) (by first | assumption | exact ev_set_eq | exact (ev_set_ne (by omega)).trans (by assumption)) (ev_ix_nI (by omega)) (by omega) (by first | assumption | exact ev_set_eq | exact (ev_set_ne (by omega)).trans (by assumption)) ?_
    refine ev_iinc (v := nI (i + 1)) dX3_init_53 rfl (nI_1 i) (Nat.le_of_ble_eq_true rfl) rfl ?_
    refine ev_goto (tgt := 31) dX3_init_56 (by decide) ?_
    have hk : ∀ z, (z ≠ a + 4 + i ∧ z ≠ a + 1) → ev_set (ev_set M1 (a + 4 + i) (.inr (9, [.int 0, .int 0, .int 0, .int 0, .int 0, .int 0, .int 0]))) (a + 1) (.inl (2, 12, ev_q (va_up fs i (some (a + 4 + i))))) z = M1 z := fun z h => (ev_set_ne h.2).trans (ev_set_ne h.1)
    refine ih (i + 1) _ (by omega) ⟨(hk _ (by omega)).trans g0, ⟨_, ev_set_eq, qb_R_up (M := M1) (a := a) (t := 2) (N := 12) g2⟩, (qb_keep (hk _ (by omega)) ⟨fb, g3, g4⟩), (qb_keep (hk _ (by omega)) ⟨fc, g5, g6⟩), fun z hz => by
        by_cases e : z = i
        · subst e; exact (ev_set_ne (by omega)).trans ev_set_eq
        · exact (hk _ (by omega)).trans (g7 z (by omega)), fun z hz => (hk _ (by omega)).trans (g8 z hz), fun z hz => (hk _ (by omega)).trans (g9 z hz), fun z hz => (hk _ (by omega)).trans (g10 z hz)⟩
theorem l3_b {G : ev_G} {n : Nat} {M0 : ev_M} {a : Nat} (hn : 21 + n = a + 1) {Post : Option Value → ev_M → Prop} (K : ∀ M2 : ev_M, gb_S M2 M0 a 12 3 0 → ev_E G mX3_init 2 (3) (6) (n + 18) M2 89 [some (.ref a), some (.int (nI 3))] [] Post) : ∀ (m j : Nat) (M1 : ev_M), j + m = 3 → gb_S M1 M0 a 12 j 0 → ev_E G mX3_init 2 (m + 3) (2 * m + 6) (n + 15 + j) M1 61 [some (.ref a), some (.int (nI j))] [] Post := by
  intro m
  induction m with
  | zero =>
    intro j M1 hm hS
    have hS0 := hS
    obtain ⟨g0, ⟨fs, g1, g2⟩, ⟨fb, g3, g4⟩, ⟨fc, g5, g6⟩, g7, g8, g9, g10⟩ := hS
    refine ev_iload_n (i := 1) dX3_init_61 rfl rfl ?_
    refine ev_aload_n (i := 0) dX3_init_62 rfl rfl ?_
    refine ev_getf dX3_init_63 flX3_19 (by assumption) (by rfl) ?_
    refine ev_alen (v := 3) dX3_init_66 (fun _ => rfl) (by assumption) (by rfl) ?_
    refine ev_icmp_ge (tgt := 89) dX3_init_67 (by decide) (fun h67 => ?_) (fun h67 => False.elim (Int32.not_le.mpr h67 (nI_le (a := 3) (b := j) (by omega) (by omega))))
    have e : j = 3 := by omega
    subst e
    exact K M1 hS0
  | succ m ih =>
    intro j M1 hm hS
    have hS0 := hS
    obtain ⟨g0, ⟨fs, g1, g2⟩, ⟨fb, g3, g4⟩, ⟨fc, g5, g6⟩, g7, g8, g9, g10⟩ := hS
    refine ev_iload_n (i := 1) dX3_init_61 rfl rfl ?_
    refine ev_aload_n (i := 0) dX3_init_62 rfl rfl ?_
    refine ev_getf dX3_init_63 flX3_19 (by first | assumption | exact ev_set_eq | exact (ev_set_ne (by omega)).trans (by assumption)) (by rfl) ?_
    refine ev_alen (v := 3) dX3_init_66 (fun _ => rfl) (by first | assumption | exact ev_set_eq | exact (ev_set_ne (by omega)).trans (by assumption)) (by rfl) ?_
    refine ev_icmp_ge (tgt := 89) dX3_init_67 (by decide) (fun h67 => False.elim (nI_ge (a := j) (b := 3) (by omega) (by decide) h67)) (fun h67 => ?_)
    refine ev_aload_n (i := 0) dX3_init_70 rfl rfl ?_
    refine ev_getf dX3_init_71 flX3_19 (by first | assumption | exact ev_set_eq | exact (ev_set_ne (by omega)).trans (by assumption)) (by rfl) ?_
    refine ev_iload_n (i := 1) dX3_init_74 rfl rfl ?_
    refine ev_newA (b := a + 16 + j) (rc' := m + 3) (ru' := 2 * m + 6) (by omega) dX3_init_75 nwX3_17 (by omega) (by omega) ?_
    refine ev_dup dX3_init_78 rfl ?_
    refine ev_w1 kX3_init_79 (c1_init) (ev_rv_of (by first | assumption | exact ev_set_eq | exact (ev_set_ne (by omega)).trans (by assumption)) rfl rfl) (by decide) (by decide) (Nat.le_of_ble_eq_true rfl) ?_
    refine ev_aast (j := j) dX3_init_82 rfl (fun _ => rfl) (by first | assumption | exact ev_set_eq | exact (ev_set_ne (by omega)).trans (by assumption)) (ev_ix_nI (by omega)) (by omega) (by first | assumption | exact ev_set_eq | exact (ev_set_ne (by omega)).trans (by assumption)) ?_
    refine ev_iinc (v := nI (j + 1)) dX3_init_83 rfl (nI_1 j) (Nat.le_of_ble_eq_true rfl) rfl ?_
    refine ev_goto (tgt := 61) dX3_init_86 (by decide) ?_
    have hk : ∀ z, (z ≠ a + 16 + j ∧ z ≠ a + 2) → ev_set (ev_set M1 (a + 16 + j) (.inr (1, [.int 0, .int 0]))) (a + 2) (.inl (3, 3, ev_q (va_up fb j (some (a + 16 + j))))) z = M1 z := fun z h => (ev_set_ne h.2).trans (ev_set_ne h.1)
    refine ih (j + 1) _ (by omega) ⟨(hk _ (by omega)).trans g0, (qb_keep (hk _ (by omega)) ⟨fs, g1, g2⟩), ⟨_, ev_set_eq, qb_R_up (M := M1) (a := a) (t := 3) (N := 3) g4⟩, (qb_keep (hk _ (by omega)) ⟨fc, g5, g6⟩), fun z hz => (hk _ (by omega)).trans (g7 z hz), fun z hz => by
        by_cases e : z = j
        · subst e; exact (ev_set_ne (by omega)).trans ev_set_eq
        · exact (hk _ (by omega)).trans (g8 z (by omega)), fun z hz => (hk _ (by omega)).trans (g9 z hz), fun z hz => (hk _ (by omega)).trans (g10 z hz)⟩
theorem l3_c {G : ev_G} {n : Nat} {M0 : ev_M} {a : Nat} (hn : 21 + n = a + 1) {Post : Option Value → ev_M → Prop} (K : ∀ M2 : ev_M, gb_S M2 M0 a 12 3 3 → ev_E G mX3_init 2 (0) (0) (n + 21) M2 119 [some (.ref a), some (.int (nI 3))] [] Post) : ∀ (m k : Nat) (M1 : ev_M), k + m = 3 → gb_S M1 M0 a 12 3 k → ev_E G mX3_init 2 (m + 0) (2 * m + 0) (n + 18 + k) M1 91 [some (.ref a), some (.int (nI k))] [] Post := by
  intro m
  induction m with
  | zero =>
    intro k M1 hm hS
    have hS0 := hS
    obtain ⟨g0, ⟨fs, g1, g2⟩, ⟨fb, g3, g4⟩, ⟨fc, g5, g6⟩, g7, g8, g9, g10⟩ := hS
    refine ev_iload_n (i := 1) dX3_init_91 rfl rfl ?_
    refine ev_aload_n (i := 0) dX3_init_92 rfl rfl ?_
    refine ev_getf dX3_init_93 flX3_25 (by assumption) (by rfl) ?_
    refine ev_alen (v := 3) dX3_init_96 (fun _ => rfl) (by assumption) (by rfl) ?_
    refine ev_icmp_ge (tgt := 119) dX3_init_97 (by decide) (fun h97 => ?_) (fun h97 => False.elim (Int32.not_le.mpr h97 (nI_le (a := 3) (b := k) (by omega) (by omega))))
    have e : k = 3 := by omega
    subst e
    exact K M1 hS0
  | succ m ih =>
    intro k M1 hm hS
    have hS0 := hS
    obtain ⟨g0, ⟨fs, g1, g2⟩, ⟨fb, g3, g4⟩, ⟨fc, g5, g6⟩, g7, g8, g9, g10⟩ := hS
    refine ev_iload_n (i := 1) dX3_init_91 rfl rfl ?_
    refine ev_aload_n (i := 0) dX3_init_92 rfl rfl ?_
    refine ev_getf dX3_init_93 flX3_25 (by first | assumption | exact ev_set_eq | exact (ev_set_ne (by omega)).trans (by assumption)) (by rfl) ?_
    refine ev_alen (v := 3) dX3_init_96 (fun _ => rfl) (by first | assumption | exact ev_set_eq | exact (ev_set_ne (by omega)).trans (by assumption)) (by rfl) ?_
    refine ev_icmp_ge (tgt := 119) dX3_init_97 (by decide) (fun h97 => False.elim (nI_ge (a := k) (b := 3) (by omega) (by decide) h97)) (fun h97 => ?_)
    refine ev_aload_n (i := 0) dX3_init_100 rfl rfl ?_
    refine ev_getf dX3_init_101 flX3_25 (by first | assumption | exact ev_set_eq | exact (ev_set_ne (by omega)).trans (by assumption)) (by rfl) ?_
    refine ev_iload_n (i := 1) dX3_init_104 rfl rfl ?_
    refine ev_newA (b := a + 19 + k) (rc' := m + 0) (ru' := 2 * m + 0) (by omega) dX3_init_105 nwX3_23 (by omega) (by omega) ?_
    refine ev_dup dX3_init_108 rfl ?_
    refine ev_w1 kX3_init_109 (c0_init) (ev_rv_of (by first | assumption | exact ev_set_eq | exact (ev_set_ne (by omega)).trans (by assumption)) rfl rfl) (by decide) (by decide) (Nat.le_of_ble_eq_true rfl) ?_
    refine ev_aast (j := k) dX3_init_112 rfl (fun _ => rfl) (by first | assumption | exact ev_set_eq | exact (ev_set_ne (by omega)).trans (by assumption)) (ev_ix_nI (by omega)) (by omega) (by first | assumption | exact ev_set_eq | exact (ev_set_ne (by omega)).trans (by assumption)) ?_
    refine ev_iinc (v := nI (k + 1)) dX3_init_113 rfl (nI_1 k) (Nat.le_of_ble_eq_true rfl) rfl ?_
    refine ev_goto (tgt := 91) dX3_init_116 (by decide) ?_
    have hk : ∀ z, (z ≠ a + 19 + k ∧ z ≠ a + 3) → ev_set (ev_set M1 (a + 19 + k) (.inr (0, [.int 0, .int 0]))) (a + 3) (.inl (4, 3, ev_q (va_up fc k (some (a + 19 + k))))) z = M1 z := fun z h => (ev_set_ne h.2).trans (ev_set_ne h.1)
    refine ih (k + 1) _ (by omega) ⟨(hk _ (by omega)).trans g0, (qb_keep (hk _ (by omega)) ⟨fs, g1, g2⟩), (qb_keep (hk _ (by omega)) ⟨fb, g3, g4⟩), ⟨_, ev_set_eq, qb_R_up (M := M1) (a := a) (t := 4) (N := 3) g6⟩, fun z hz => (hk _ (by omega)).trans (g7 z hz), fun z hz => (hk _ (by omega)).trans (g8 z hz), fun z hz => by
        by_cases e : z = k
        · subst e; exact (ev_set_ne (by omega)).trans ev_set_eq
        · exact (hk _ (by omega)).trans (g9 z (by omega)), fun z hz => (hk _ (by omega)).trans (g10 z hz)⟩
theorem c3_init {G : ev_G} {n : Nat} {M : ev_M} {a : Nat} (hn : 21 + n = a + 1) (hM : M a = .inr (3, [.null, .null, .null, .int 0, .int 0, .int 0])) : ev_Cal G mX3_init 2 21 114 [.ref a] n M (fun r M1 => r = none ∧ cl_gear M1 a 0 0 0 (fun _ => 0) (fun _ => 0) (fun _ => 0) ∧ ∀ q, (q < a ∨ a + 22 ≤ q) → M1 q = M q) := by
  refine ev_Cal_of (L := [some (.ref a), none]) (by decide +kernel) (Nat.le_of_ble_eq_true rfl) rfl ?_
  refine ev_aload_n (i := 0) dX3_init_0 rfl rfl ?_
  refine ev_objInit dX3_init_1 obX3_3 (by decide) (Nat.le_of_ble_eq_true rfl) ?_
  refine ev_aload_n (i := 0) dX3_init_4 rfl rfl ?_
  refine ev_bipush (v := 12) dX3_init_5 cnb_12 ?_
  refine ev_newqA (b := a + 1) (t := 2) (N := 12) (rc' := 20) (ru' := 102) (by omega) dX3_init_7 clX3_9 (fun _ _ h => h.2.2.1.1) (fun _ => rfl) (by decide) (by decide) rfl rfl ?_
  refine ev_putaF dX3_init_10 fpX3_11 rfl (by first | assumption | exact ev_set_eq | exact (ev_set_ne (by omega)).trans (by first | assumption | exact ev_set_eq)) (by exact Nat.le_of_ble_eq_true rfl) ?_
  refine ev_aload_n (i := 0) dX3_init_13 rfl rfl ?_
  refine ev_iconst (v := 3) dX3_init_14 cni_3 ?_
  refine ev_newqA (b := a + 2) (t := 3) (N := 3) (rc' := 19) (ru' := 99) (by omega) dX3_init_15 clX3_17 (fun _ _ h => h.2.2.1.2.1) (fun _ => rfl) (by decide) (by decide) rfl rfl ?_
  refine ev_putaF dX3_init_18 fpX3_19 rfl (by first | assumption | exact ev_set_eq | exact (ev_set_ne (by omega)).trans (by first | assumption | exact ev_set_eq)) (by exact Nat.le_of_ble_eq_true rfl) ?_
  refine ev_aload_n (i := 0) dX3_init_21 rfl rfl ?_
  refine ev_iconst (v := 3) dX3_init_22 cni_3 ?_
  refine ev_newqA (b := a + 3) (t := 4) (N := 3) (rc' := 18) (ru' := 96) (by omega) dX3_init_23 clX3_23 (fun _ _ h => h.2.2.1.2.2) (fun _ => rfl) (by decide) (by decide) rfl rfl ?_
  refine ev_putaF dX3_init_26 fpX3_25 rfl (by first | assumption | exact ev_set_eq | exact (ev_set_ne (by omega)).trans (by first | assumption | exact ev_set_eq)) (by exact Nat.le_of_ble_eq_true rfl) ?_
  refine ev_iconst (v := 0) dX3_init_29 cni_0 ?_
  refine ev_istore_n (i := 1) dX3_init_30 rfl (Nat.le_of_ble_eq_true rfl) rfl ?_
  refine l3_s (M0 := M) hn (fun M2 hS => ?_) 12 0 _ rfl ⟨ev_set_eq, ⟨_, (ev_set_ne (by omega)).trans ((ev_set_ne (by omega)).trans ((ev_set_ne (by omega)).trans ((ev_set_ne (by omega)).trans ((ev_set_ne (by omega)).trans ev_set_eq)))), fun q hq => absurd hq (Nat.not_lt_zero q)⟩, ⟨_, (ev_set_ne (by omega)).trans ((ev_set_ne (by omega)).trans ((ev_set_ne (by omega)).trans ev_set_eq)), fun q hq => absurd hq (Nat.not_lt_zero q)⟩, ⟨_, (ev_set_ne (by omega)).trans ev_set_eq, fun q hq => absurd hq (Nat.not_lt_zero q)⟩, fun q hq => absurd hq (Nat.not_lt_zero q), fun q hq => absurd hq (Nat.not_lt_zero q), fun q hq => absurd hq (Nat.not_lt_zero q), fun q hq => (ev_set_ne (by omega)).trans ((ev_set_ne (by omega)).trans ((ev_set_ne (by omega)).trans ((ev_set_ne (by omega)).trans ((ev_set_ne (by omega)).trans (ev_set_ne (by omega))))))⟩
  refine ev_iconst (v := 0) dX3_init_59 cni_0 ?_
  refine ev_istore_n (i := 1) dX3_init_60 rfl (Nat.le_of_ble_eq_true rfl) rfl ?_
  refine l3_b (M0 := M) hn (fun M3 hS => ?_) 3 0 _ rfl hS
  refine ev_iconst (v := 0) dX3_init_89 cni_0 ?_
  refine ev_istore_n (i := 1) dX3_init_90 rfl (Nat.le_of_ble_eq_true rfl) rfl ?_
  refine l3_c (M0 := M) hn (fun M4 hS => ?_) 3 0 _ rfl hS
  obtain ⟨g0, ⟨fs, g1, g2⟩, ⟨fb, g3, g4⟩, ⟨fc, g5, g6⟩, g7, g8, g9, g10⟩ := hS
  exact ev_retv dX3_init_119 rfl (⟨rfl, ⟨g0, ⟨fs, g1, g2⟩, ⟨fb, g3, g4⟩, ⟨fc, g5, g6⟩, fun i hi => g7 i hi, fun i hi => g8 i hi, fun i hi => g9 i hi⟩, g10⟩)
/-- an image under way -/
def ib_S (M M0 : ev_M) (a i : Nat) : Prop := M a = .inr (4, [.ref (a + 1), .ref (a + 2), .int 0, .int 0]) ∧ qb_R M (a + 1) 2 12 (a + 10) i ∧ cl_sheet M (a + 2) 0 (fun _ => 0) ∧ (∀ q, q < i → M (a + 10 + q) = .inr (9, [.int 0, .int 0, .int 0, .int 0, .int 0, .int 0, .int 0])) ∧ ∀ q, (q < a ∨ a + 22 ≤ q) → M q = M0 q
theorem l4_s {G : ev_G} {n : Nat} {M0 : ev_M} {a : Nat} (hn : 21 + n = a + 1) {Post : Option Value → ev_M → Prop} (K : ∀ M2 : ev_M, ib_S M2 M0 a 12 → ev_E G mX4_init 2 (0) (0) (n + 21) M2 54 [some (.ref a), some (.int (nI 12))] [] Post) : ∀ (m i : Nat) (M1 : ev_M), i + m = 12 → ib_S M1 M0 a i → ev_E G mX4_init 2 (m) (7 * m) (n + 9 + i) M1 26 [some (.ref a), some (.int (nI i))] [] Post := by
  intro m
  induction m with
  | zero =>
    intro i M1 hm hS
    have hS0 := hS
    obtain ⟨g0, ⟨fs, g1, g2⟩, g3, g7, g10⟩ := hS
    refine ev_iload_n (i := 1) dX4_init_26 rfl rfl ?_
    refine ev_aload_n (i := 0) dX4_init_27 rfl rfl ?_
    refine ev_getf dX4_init_28 flX4_11 (by assumption) (by rfl) ?_
    refine ev_alen (v := 12) dX4_init_31 (fun _ => rfl) (by assumption) (by rfl) ?_
    refine ev_icmp_ge (tgt := 54) dX4_init_32 (by decide) (fun h32 => ?_) (fun h32 => False.elim (Int32.not_le.mpr h32 (nI_le (a := 12) (b := i) (by omega) (by omega))))
    have e : i = 12 := by omega
    subst e
    exact K M1 hS0
  | succ m ih =>
    intro i M1 hm hS
    have hS0 := hS
    obtain ⟨g0, ⟨fs, g1, g2⟩, g3, g7, g10⟩ := hS
    refine ev_iload_n (i := 1) dX4_init_26 rfl rfl ?_
    refine ev_aload_n (i := 0) dX4_init_27 rfl rfl ?_
    refine ev_getf dX4_init_28 flX4_11 (by first | assumption | exact ev_set_eq | exact (ev_set_ne (by omega)).trans (by assumption)) (by rfl) ?_
    refine ev_alen (v := 12) dX4_init_31 (fun _ => rfl) (by first | assumption | exact ev_set_eq | exact (ev_set_ne (by omega)).trans (by assumption)) (by rfl) ?_
    refine ev_icmp_ge (tgt := 54) dX4_init_32 (by decide) (fun h32 => False.elim (nI_ge (a := i) (b := 12) (by omega) (by decide) h32)) (fun h32 => ?_)
    refine ev_aload_n (i := 0) dX4_init_35 rfl rfl ?_
    refine ev_getf dX4_init_36 flX4_11 (by first | assumption | exact ev_set_eq | exact (ev_set_ne (by omega)).trans (by assumption)) (by rfl) ?_
    refine ev_iload_n (i := 1) dX4_init_39 rfl rfl ?_
    refine ev_newA (b := a + 10 + i) (rc' := m) (ru' := 7 * m) (by omega) dX4_init_40 nwX4_9 (by omega) (by omega) ?_
    refine ev_dup dX4_init_43 rfl ?_
    refine ev_w1 kX4_init_44 (c9_init) (ev_rv_of (by first | assumption | exact ev_set_eq | exact (ev_set_ne (by omega)).trans (by assumption)) rfl rfl) (by decide) (by decide) (Nat.le_of_ble_eq_true rfl) ?_
    refine ev_aast (j := i) dX4_init_47 rfl (fun _ => rfl) (by first | assumption | exact ev_set_eq | exact (ev_set_ne (by omega)).trans (by assumption)) (ev_ix_nI (by omega)) (by omega) (by first | assumption | exact ev_set_eq | exact (ev_set_ne (by omega)).trans (by assumption)) ?_
    refine ev_iinc (v := nI (i + 1)) dX4_init_48 rfl (nI_1 i) (Nat.le_of_ble_eq_true rfl) rfl ?_
    refine ev_goto (tgt := 26) dX4_init_51 (by decide) ?_
    have hk : ∀ z, (z ≠ a + 10 + i ∧ z ≠ a + 1) → ev_set (ev_set M1 (a + 10 + i) (.inr (9, [.int 0, .int 0, .int 0, .int 0, .int 0, .int 0, .int 0]))) (a + 1) (.inl (2, 12, ev_q (va_up fs i (some (a + 10 + i))))) z = M1 z := fun z h => (ev_set_ne h.2).trans (ev_set_ne h.1)
    refine ih (i + 1) _ (by omega) ⟨(hk _ (by omega)).trans g0, ⟨_, ev_set_eq, qb_R_up (M := M1) (a := a) (t := 2) (N := 12) g2⟩, cl_sheet_keep (fun z z1 z2 => hk z (by omega)) g3, fun z hz => by
        by_cases e : z = i
        · subst e; exact (ev_set_ne (by omega)).trans ev_set_eq
        · exact (hk _ (by omega)).trans (g7 z (by omega)), fun z hz => (hk _ (by omega)).trans (g10 z hz)⟩
theorem c8_initP {G : ev_G} {n : Nat} {M : ev_M} {a : Nat} (hn : 21 + n = a + 1) (hM : M a = .inr (8, [.null, .null, .null, .null, .null, .null, .null, .long 0, .long 0, .int 0])) : ev_Cal G mX8_init 1 7 324 [.ref a] n M (fun r M1 => r = none ∧ cl_sheet M1 a 0 (fun _ => 0) ∧ ∀ q, (q < a ∨ a + 8 ≤ q) → M1 q = M q) := by
  refine (c8_init (by omega) hM).post (fun r M1 h => ?_)
  obtain ⟨rfl, rfl⟩ := h
  refine ⟨rfl, ⟨fun _ => 0, fun _ => 0, fun _ => 0, fun _ => 0, fun _ => 0, fun _ => 0, fun _ => 0, 0, 0, ev_set_eq.trans (by rw [show 21 + n = a + 1 by omega, show 21 + (n + 1) = a + 2 by omega, show 21 + (n + 2) = a + 3 by omega, show 21 + (n + 3) = a + 4 by omega, show 21 + (n + 4) = a + 5 by omega, show 21 + (n + 5) = a + 6 by omega, show 21 + (n + 6) = a + 7 by omega]; rfl), ?_, ?_, ?_, ?_, ?_, ?_, ?_, fun k hk => absurd hk (Nat.not_lt_zero k)⟩, fun q hq => ?_⟩
  · rw [show a + 1 = 21 + n by omega]; simp only [ev_set]; rw [if_neg (by omega), if_neg (by omega), if_neg (by omega), if_neg (by omega), if_neg (by omega), if_neg (by omega), if_neg (by omega), if_pos trivial]
  · rw [show a + 2 = 21 + (n + 1) by omega]; simp only [ev_set]; rw [if_neg (by omega), if_neg (by omega), if_neg (by omega), if_neg (by omega), if_neg (by omega), if_neg (by omega), if_pos trivial]
  · rw [show a + 3 = 21 + (n + 2) by omega]; simp only [ev_set]; rw [if_neg (by omega), if_neg (by omega), if_neg (by omega), if_neg (by omega), if_neg (by omega), if_pos trivial]
  · rw [show a + 4 = 21 + (n + 3) by omega]; simp only [ev_set]; rw [if_neg (by omega), if_neg (by omega), if_neg (by omega), if_neg (by omega), if_pos trivial]
  · rw [show a + 5 = 21 + (n + 4) by omega]; simp only [ev_set]; rw [if_neg (by omega), if_neg (by omega), if_neg (by omega), if_pos trivial]
  · rw [show a + 6 = 21 + (n + 5) by omega]; simp only [ev_set]; rw [if_neg (by omega), if_neg (by omega), if_pos trivial]
  · rw [show a + 7 = 21 + (n + 6) by omega]; simp only [ev_set]; rw [if_neg (by omega), if_pos trivial]
  · simp only [ev_set]; rw [if_neg (by omega), if_neg (by omega), if_neg (by omega), if_neg (by omega), if_neg (by omega), if_neg (by omega), if_neg (by omega), if_neg (by omega)]
theorem c4_init {G : ev_G} {n : Nat} {M : ev_M} {a : Nat} (hn : 21 + n = a + 1) (hM : M a = .inr (4, [.null, .null, .int 0, .int 0])) : ev_Cal G mX4_init 2 21 430 [.ref a] n M (fun r M1 => r = none ∧ cl_img M1 a 0 (fun _ => 0) false ∧ ∀ q, (q < a ∨ a + 22 ≤ q) → M1 q = M q) := by
  refine ev_Cal_of (L := [some (.ref a), none]) (by decide +kernel) (Nat.le_of_ble_eq_true rfl) rfl ?_
  refine ev_aload_n (i := 0) dX4_init_0 rfl rfl ?_
  refine ev_objInit dX4_init_1 obX4_3 (by decide) (Nat.le_of_ble_eq_true rfl) ?_
  refine ev_aload_n (i := 0) dX4_init_4 rfl rfl ?_
  refine ev_bipush (v := 12) dX4_init_5 cnb_12 ?_
  refine ev_newqA (b := a + 1) (t := 2) (N := 12) (rc' := 20) (ru' := 418) (by omega) dX4_init_7 clX4_9 (fun _ _ h => h.2.2.1.1) (fun _ => rfl) (by decide) (by decide) rfl rfl ?_
  refine ev_putaF dX4_init_10 fpX4_11 rfl (by first | assumption | exact ev_set_eq | exact (ev_set_ne (by omega)).trans (by first | assumption | exact ev_set_eq | exact (ev_set_ne (by omega)).trans (by first | assumption | exact ev_set_eq))) (by exact Nat.le_of_ble_eq_true rfl) ?_
  refine ev_aload_n (i := 0) dX4_init_13 rfl rfl ?_
  refine ev_newA (b := a + 2) (rc' := 19) (ru' := 408) (by omega) dX4_init_14 nwX4_17 rfl rfl ?_
  refine ev_dup dX4_init_17 rfl ?_
  refine ev_call (f := 2) (n := n + 1 + 1) (as := [.ref (a + 2)]) (rst := [.ref (a + 2), .ref a]) (rc2 := 12) (ru2 := 84) kX4_init_18 (c8_initP (n := n + 1 + 1) (by omega) ev_set_eq) (ev_rv_of ev_set_eq rfl rfl) (by decide) (by decide) rfl (Nat.le_of_ble_eq_true rfl) rfl rfl (fun r M1 hr => ?_)
  obtain ⟨rfl, hsh, hfr⟩ := hr
  have hka : M1 a = .inr (4, [.ref (a + 1), .null, .int 0, .int 0]) := (hfr _ (by omega)).trans ((ev_set_ne (by omega)).trans ev_set_eq)
  have hkb : M1 (a + 1) = .inl (2, 12, ev_q (fun _ => none)) := (hfr _ (by omega)).trans ((ev_set_ne (by omega)).trans ((ev_set_ne (by omega)).trans ev_set_eq))
  refine ev_putrF dX4_init_21 fpX4_20 rfl (by assumption) (by exact Nat.le_of_ble_eq_true rfl) ?_
  refine ev_iconst (v := 0) dX4_init_24 cni_0 ?_
  refine ev_istore_n (i := 1) dX4_init_25 rfl (Nat.le_of_ble_eq_true rfl) rfl ?_
  refine l4_s (M0 := M) hn (fun M2 hS => ?_) 12 0 _ rfl ⟨ev_set_eq, ⟨_, (ev_set_ne (by omega)).trans hkb, fun q hq => absurd hq (Nat.not_lt_zero q)⟩, cl_sheet_keep (fun z z1 z2 => ev_set_ne (by omega)) hsh, fun q hq => absurd hq (Nat.not_lt_zero q), fun q hq => (ev_set_ne (by omega)).trans ((hfr _ (by omega)).trans ((ev_set_ne (by omega)).trans ((ev_set_ne (by omega)).trans (ev_set_ne (by omega)))))⟩
  obtain ⟨g0, ⟨fs, g1, g2⟩, g3, g7, g10⟩ := hS
  exact ev_retv dX4_init_54 rfl (⟨rfl, ⟨0, fun _ => 0, 0, fun _ => 0, g0, ⟨fs, g1, g2⟩, g3, fun i hi => g7 i hi, Nat.zero_le _, fun z => by cases z⟩, g10⟩)
