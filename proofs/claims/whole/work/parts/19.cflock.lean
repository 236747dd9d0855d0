/-! ===== contracts: the class: the flock ===== -/
def sp_bc1 (x : Int32) : Int32 := (x - (((x).toUInt32 >>> ((1 : Int32).toUInt32 &&& Int32.toUInt32 31)).toInt32 &&& 1431655765))
def sp_bc2 (x : Int32) : Int32 := ((x &&& 858993459) + (((x).toUInt32 >>> ((2 : Int32).toUInt32 &&& Int32.toUInt32 31)).toInt32 &&& 858993459))
def sp_bc3 (x : Int32) : Int32 := ((x + ((x).toUInt32 >>> ((4 : Int32).toUInt32 &&& Int32.toUInt32 31)).toInt32) &&& 252645135)
def sp_bc4 (x : Int32) : Int32 := (x + ((x).toUInt32 >>> ((8 : Int32).toUInt32 &&& Int32.toUInt32 31)).toInt32)
def sp_bc5 (x : Int32) : Int32 := (x + ((x).toUInt32 >>> ((16 : Int32).toUInt32 &&& Int32.toUInt32 31)).toInt32)
def sp_bcE (x : Int32) : Int32 := (x &&& 63)
def sp_bc (x : Int32) : Int32 := sp_bcE (sp_bc5 (sp_bc4 (sp_bc3 (sp_bc2 (sp_bc1 x)))))
theorem cJ6_bitCount {G : ev_G} {n : Nat} {M : ev_M} {x : Int32} : ev_Cal G mJ6_bitCount_0f7a4 1 0 0 [.int x] n M (ev_is (some (.int (sp_bc x))) M) := by
  refine ev_Cal_of (L := [some (.int x)]) (by decide +kernel) (Nat.le_of_ble_eq_true rfl) rfl ?_
  refine ev_iload_n (i := 0) dJ6_bitCount_0f7a4_0 rfl rfl ?_
  refine ev_iload_n (i := 0) dJ6_bitCount_0f7a4_1 rfl rfl ?_
  refine ev_iconst (v := 1) dJ6_bitCount_0f7a4_2 cni_1 ?_
  refine ev_iushr dJ6_bitCount_0f7a4_3 ?_
  refine ev_ldcw dJ6_bitCount_0f7a4_4 coJ6_265 ?_
  refine ev_iand dJ6_bitCount_0f7a4_7 ?_
  refine ev_isub dJ6_bitCount_0f7a4_8 ?_
  refine ev_istore_n (i := 0) dJ6_bitCount_0f7a4_9 rfl (Nat.le_of_ble_eq_true rfl) rfl ?_
  refine ev_iload_n (i := 0) dJ6_bitCount_0f7a4_10 rfl rfl ?_
  refine ev_ldcw dJ6_bitCount_0f7a4_11 coJ6_266 ?_
  refine ev_iand dJ6_bitCount_0f7a4_14 ?_
  refine ev_iload_n (i := 0) dJ6_bitCount_0f7a4_15 rfl rfl ?_
  refine ev_iconst (v := 2) dJ6_bitCount_0f7a4_16 cni_2 ?_
  refine ev_iushr dJ6_bitCount_0f7a4_17 ?_
  refine ev_ldcw dJ6_bitCount_0f7a4_18 coJ6_266 ?_
  refine ev_iand dJ6_bitCount_0f7a4_21 ?_
  refine ev_iadd dJ6_bitCount_0f7a4_22 ?_
  refine ev_istore_n (i := 0) dJ6_bitCount_0f7a4_23 rfl (Nat.le_of_ble_eq_true rfl) rfl ?_
  refine ev_iload_n (i := 0) dJ6_bitCount_0f7a4_24 rfl rfl ?_
  refine ev_iload_n (i := 0) dJ6_bitCount_0f7a4_25 rfl rfl ?_
  refine ev_iconst (v := 4) dJ6_bitCount_0f7a4_26 cni_4 ?_
  refine ev_iushr dJ6_bitCount_0f7a4_27 ?_
  refine ev_iadd dJ6_bitCount_0f7a4_28 ?_
  refine ev_ldcw dJ6_bitCount_0f7a4_29 coJ6_267 ?_
  refine ev_iand dJ6_bitCount_0f7a4_32 ?_
  refine ev_istore_n (i := 0) dJ6_bitCount_0f7a4_33 rfl (Nat.le_of_ble_eq_true rfl) rfl ?_
  refine ev_iload_n (i := 0) dJ6_bitCount_0f7a4_34 rfl rfl ?_
  refine ev_iload_n (i := 0) dJ6_bitCount_0f7a4_35 rfl rfl ?_
  refine ev_bipush (v := 8) dJ6_bitCount_0f7a4_36 cnb_8 ?_
  refine ev_iushr dJ6_bitCount_0f7a4_38 ?_
  refine ev_iadd dJ6_bitCount_0f7a4_39 ?_
  refine ev_istore_n (i := 0) dJ6_bitCount_0f7a4_40 rfl (Nat.le_of_ble_eq_true rfl) rfl ?_
  refine ev_iload_n (i := 0) dJ6_bitCount_0f7a4_41 rfl rfl ?_
  refine ev_iload_n (i := 0) dJ6_bitCount_0f7a4_42 rfl rfl ?_
  refine ev_bipush (v := 16) dJ6_bitCount_0f7a4_43 cnb_16 ?_
  refine ev_iushr dJ6_bitCount_0f7a4_45 ?_
  refine ev_iadd dJ6_bitCount_0f7a4_46 ?_
  refine ev_istore_n (i := 0) dJ6_bitCount_0f7a4_47 rfl (Nat.le_of_ble_eq_true rfl) rfl ?_
  refine ev_iload_n (i := 0) dJ6_bitCount_0f7a4_48 rfl rfl ?_
  refine ev_bipush (v := 63) dJ6_bitCount_0f7a4_49 cnb_63 ?_
  refine ev_iand dJ6_bitCount_0f7a4_51 ?_
  exact ev_reti dJ6_bitCount_0f7a4_52 rfl rfl (⟨rfl, rfl⟩)
def fl_near (q0 q1 q2 : Nat → Int32) (g d dp e : Int32) (k : Nat) : Bool := (sp_in (q0 k) g (g + d) || sp_in (q1 k) g (g + d)) && sp_in (q2 k) dp (dp + e)
def fl_set (N : Nat → Bool) : Nat → Int32
  | 0 => 0
  | k + 1 => if N k = true then fl_set N k ||| (1 <<< (nI k &&& 31)) else fl_set N k
theorem fl_set_1 {N : Nat → Bool} {k : Nat} (h : N k = true) : fl_set N (k + 1) = fl_set N k ||| (1 <<< (nI k &&& 31)) := by rw [fl_set, if_pos h]
theorem fl_set_0 {N : Nat → Bool} {k : Nat} (h : N k = false) : fl_set N (k + 1) = fl_set N k := by rw [fl_set, if_neg (by rw [h]; decide)]
def fl_upd (set many : Int32) (B : Int32 × Int32) : Int32 × Int32 := if many < B.2 ∨ (many = B.2 ∧ B.1 ≤ set) then B else (set, many)
def fl_try (q0 q1 q2 : Nat → Int32) (sz : Nat) (g d dp e : Int32) (B : Int32 × Int32) : Int32 × Int32 := fl_upd (fl_set (fl_near q0 q1 q2 g d dp e) sz) (sp_bc (fl_set (fl_near q0 q1 q2 g d dp e) sz)) B
def fl_j (q0 q1 q2 : Nat → Int32) (sz : Nat) (d e : Int32) (i : Nat) : Nat → Int32 × Int32 → Int32 × Int32
  | 0, B => B
  | k + 1, B => fl_try q0 q1 q2 sz (q1 i) d (q2 k) e (fl_try q0 q1 q2 sz (q0 i) d (q2 k) e (fl_j q0 q1 q2 sz d e i k B))
def fl_i (q0 q1 q2 : Nat → Int32) (sz : Nat) (d e : Int32) : Nat → Int32 × Int32 → Int32 × Int32
  | 0, B => B
  | k + 1, B => fl_j q0 q1 q2 sz d e k sz (fl_i q0 q1 q2 sz d e k B)
def fl_V (tu s : Nat → Int32) (dr wi : Int32) (q : Nat) (side : Int32) : Int32 := sp_goes (tu 0) (tu 1) (tu 2) (tu 3) (sp_spine (sp_stiff (s (7 * q + 2)) (s (7 * q + 3)) side) (s (7 * q + 0)) (s (7 * q + 4)) - sp_need dr wi) (s (7 * q + 5)) (s (7 * q + 1) + s (7 * q + 4))
def fl_D (s : Nat → Int32) (dr : Int32) (q : Nat) : Int32 := sp_drop (s (7 * q + 1) + s (7 * q + 4)) dr (s (7 * q + 5))
theorem l2_tryFrom {G : ev_G} {n : Nat} {M : ev_M} {sz : Nat} {B : Int32 × Int32} {q0 q1 q2 : Nat → Int32} (h35 : M 35 = .inr (2, [.ref 36, .ref 37, .ref 38, .int (nI sz), .int (B.1), .int (B.2)])) (h36 : M 36 = .inl (0, 12, .inl q0)) (h37 : M 37 = .inl (0, 12, .inl q1)) (h38 : M 38 = .inl (0, 12, .inl q2)) (hsz : sz ≤ 12) {gg d dp e : Int32} : ∀ (m k : Nat) (z : Option Value), k + m = sz → ev_E G mX2_tryFrom 2 0 0 n M 6 [some (.ref 35), some (.int gg), some (.int d), some (.int dp), some (.int e), some (.int (fl_set (fl_near q0 q1 q2 gg d dp e) k)), some (.int (nI (k))), z] [] (ev_is none (ev_set M 35 (.inr (2, [.ref 36, .ref 37, .ref 38, .int (nI sz), .int ((fl_try q0 q1 q2 sz gg d dp e B).1), .int ((fl_try q0 q1 q2 sz gg d dp e B).2)])))) := by
  intro m
  induction m with
  | zero =>
    intro k z hk
    refine ev_iload dX2_tryFrom_6 rfl ?_
    refine ev_aload_n (i := 0) dX2_tryFrom_8 rfl rfl ?_
    refine ev_getf dX2_tryFrom_9 flX2_21 (by first | assumption | exact ev_set_eq) (by rfl) ?_
    refine ev_icmp_ge (tgt := 94) dX2_tryFrom_12 (by decide) (fun h12 => ?_) (fun h12 => False.elim (nI_nlt (a := k) (b := sz) (by omega) (by omega) h12))
    obtain rfl : k = sz := by omega
    refine ev_iload dX2_tryFrom_94 rfl ?_
    refine ev_c1 kX2_tryFrom_96 (cJ6_bitCount) trivial (by decide) (by decide) (Nat.le_of_ble_eq_true rfl) ?_
    refine ev_istore dX2_tryFrom_99 (Nat.le_of_ble_eq_true rfl) rfl ?_
    refine ev_iload dX2_tryFrom_101 rfl ?_
    refine ev_aload_n (i := 0) dX2_tryFrom_103 rfl rfl ?_
    refine ev_getf dX2_tryFrom_104 flX2_65 (by first | assumption | exact ev_set_eq) (by rfl) ?_
    refine ev_icmp_lt (tgt := 128) dX2_tryFrom_107 (by decide) (fun h107 => ?_) (fun h107 => ?_)
    · skip
      exact ev_retv dX2_tryFrom_128 rfl (⟨rfl, by rw [fl_try, fl_upd, if_pos (by first | exact Or.inl h107 | exact Or.inr ⟨h116, h125⟩)]; exact (ev_set_self h35).symm⟩)
    · skip
      refine ev_iload dX2_tryFrom_110 rfl ?_
      refine ev_aload_n (i := 0) dX2_tryFrom_112 rfl rfl ?_
      refine ev_getf dX2_tryFrom_113 flX2_65 (by first | assumption | exact ev_set_eq) (by rfl) ?_
      refine ev_icmp_ne (tgt := 129) dX2_tryFrom_116 (by decide) (fun h116 => ?_) (fun h116 => ?_)
      · skip
        refine ev_aload_n (i := 0) dX2_tryFrom_129 rfl rfl ?_
        refine ev_iload dX2_tryFrom_130 rfl ?_
        refine ev_puti dX2_tryFrom_132 fpX2_62 (by first | assumption | exact ev_set_eq) (by exact Nat.le_of_ble_eq_true rfl) ?_
        refine ev_aload_n (i := 0) dX2_tryFrom_135 rfl rfl ?_
        refine ev_iload dX2_tryFrom_136 rfl ?_
        refine ev_puti dX2_tryFrom_138 fpX2_65 (by first | assumption | exact ev_set_eq) (by exact Nat.le_of_ble_eq_true rfl) ?_
        exact ev_retv dX2_tryFrom_141 rfl (⟨rfl, by rw [fl_try, fl_upd, if_neg (by rintro (q | ⟨q1, q2⟩) <;> first | exact Int32.not_lt.mpr h107 q | exact h116 q1 | exact Int32.not_lt.mpr q2 h125)]; simp only [ev_set_set, List.set]⟩)
      · skip
        refine ev_iload dX2_tryFrom_119 rfl ?_
        refine ev_aload_n (i := 0) dX2_tryFrom_121 rfl rfl ?_
        refine ev_getf dX2_tryFrom_122 flX2_62 (by first | assumption | exact ev_set_eq) (by rfl) ?_
        refine ev_icmp_lt (tgt := 129) dX2_tryFrom_125 (by decide) (fun h125 => ?_) (fun h125 => ?_)
        · skip
          refine ev_aload_n (i := 0) dX2_tryFrom_129 rfl rfl ?_
          refine ev_iload dX2_tryFrom_130 rfl ?_
          refine ev_puti dX2_tryFrom_132 fpX2_62 (by first | assumption | exact ev_set_eq) (by exact Nat.le_of_ble_eq_true rfl) ?_
          refine ev_aload_n (i := 0) dX2_tryFrom_135 rfl rfl ?_
          refine ev_iload dX2_tryFrom_136 rfl ?_
          refine ev_puti dX2_tryFrom_138 fpX2_65 (by first | assumption | exact ev_set_eq) (by exact Nat.le_of_ble_eq_true rfl) ?_
          exact ev_retv dX2_tryFrom_141 rfl (⟨rfl, by rw [fl_try, fl_upd, if_neg (by rintro (q | ⟨q1, q2⟩) <;> first | exact Int32.not_lt.mpr h107 q | exact h116 q1 | exact Int32.not_lt.mpr q2 h125)]; simp only [ev_set_set, List.set]⟩)
        · skip
          exact ev_retv dX2_tryFrom_128 rfl (⟨rfl, by rw [fl_try, fl_upd, if_pos (by first | exact Or.inl h107 | exact Or.inr ⟨h116, h125⟩)]; exact (ev_set_self h35).symm⟩)
  | succ m ih =>
    intro k z hk
    refine ev_iload dX2_tryFrom_6 rfl ?_
    refine ev_aload_n (i := 0) dX2_tryFrom_8 rfl rfl ?_
    refine ev_getf dX2_tryFrom_9 flX2_21 (by first | assumption | rfl) (by rfl) ?_
    refine ev_icmp_ge (tgt := 94) dX2_tryFrom_12 (by decide) (fun h12 => False.elim (nI_ge (a := k) (b := sz) (by omega) (by omega) h12)) (fun h12 => ?_)
    refine ev_aload_n (i := 0) dX2_tryFrom_15 rfl rfl ?_
    refine ev_getf dX2_tryFrom_16 flX2_9 (by first | assumption | rfl) (by rfl) ?_
    refine ev_iload dX2_tryFrom_19 rfl ?_
    refine ev_iald (j := k) dX2_tryFrom_21 (by first | assumption | rfl) (ev_ix_nI (by omega)) (by omega) ?_
    refine ev_iload_n (i := 1) dX2_tryFrom_22 rfl rfl ?_
    refine ev_iload_n (i := 1) dX2_tryFrom_23 rfl rfl ?_
    refine ev_iload_n (i := 2) dX2_tryFrom_24 rfl rfl ?_
    refine ev_iadd dX2_tryFrom_25 ?_
    refine ev_c3 kX2_tryFrom_26 (c12_within) trivial (by decide) (by decide) (Nat.le_of_ble_eq_true rfl) ?_
    refine ev_if_neb (tgt := 49) dX2_tryFrom_29 (by decide) (fun h29 => ?_) (fun h29 => ?_)
    · skip
      refine ev_iconst (v := 1) dX2_tryFrom_49 cni_1 ?_
      refine ev_goto (tgt := 54) dX2_tryFrom_50 (by decide) ?_
      refine ev_istore dX2_tryFrom_54 (Nat.le_of_ble_eq_true rfl) rfl ?_
      refine ev_iload dX2_tryFrom_56 rfl ?_
      refine ev_if_eq (tgt := 88) dX2_tryFrom_58 (by decide) (fun h58 => ?_) (fun h58 => ?_)
      · skip
        refine ev_iinc (v := nI (k + 1)) dX2_tryFrom_88 rfl (nI_1 k) (Nat.le_of_ble_eq_true rfl) rfl ?_
        refine ev_goto (tgt := 6) dX2_tryFrom_91 (by decide) ?_
        first | exact absurd h58 (by decide) | exact absurd rfl h58 | exact ev_loc (L2 := [some (.ref 35), some (.int gg), some (.int d), some (.int dp), some (.int e), some (.int (fl_set (fl_near q0 q1 q2 gg d dp e) (k + 1))), some (.int (nI (k + 1))), _]) (by first | (rw [fl_set_1 (N := (fl_near q0 q1 q2 gg d dp e)) (k := k) (by simp only [fl_near]; first | (rw [h29, h76]; rfl) | (rw [h46, h76, Bool.or_true]; rfl))]; rfl) | (rw [fl_set_0 (N := (fl_near q0 q1 q2 gg d dp e)) (k := k) (by simp only [fl_near]; first | (rw [h29, h46]; rfl) | (rw [h76, Bool.and_false]))]; rfl)) (ih (k + 1) _ (by omega))
      · skip
        refine ev_aload_n (i := 0) dX2_tryFrom_61 rfl rfl ?_
        refine ev_getf dX2_tryFrom_62 flX2_18 (by first | assumption | rfl) (by rfl) ?_
        refine ev_iload dX2_tryFrom_65 rfl ?_
        refine ev_iald (j := k) dX2_tryFrom_67 (by first | assumption | rfl) (ev_ix_nI (by omega)) (by omega) ?_
        refine ev_iload_n (i := 3) dX2_tryFrom_68 rfl rfl ?_
        refine ev_iload_n (i := 3) dX2_tryFrom_69 rfl rfl ?_
        refine ev_iload dX2_tryFrom_70 rfl ?_
        refine ev_iadd dX2_tryFrom_72 ?_
        refine ev_c3 kX2_tryFrom_73 (c12_within) trivial (by decide) (by decide) (Nat.le_of_ble_eq_true rfl) ?_
        refine ev_if_eqb (tgt := 88) dX2_tryFrom_76 (by decide) (fun h76 => ?_) (fun h76 => ?_)
        · skip
          refine ev_iinc (v := nI (k + 1)) dX2_tryFrom_88 rfl (nI_1 k) (Nat.le_of_ble_eq_true rfl) rfl ?_
          refine ev_goto (tgt := 6) dX2_tryFrom_91 (by decide) ?_
          first | exact absurd h58 (by decide) | exact absurd rfl h58 | exact ev_loc (L2 := [some (.ref 35), some (.int gg), some (.int d), some (.int dp), some (.int e), some (.int (fl_set (fl_near q0 q1 q2 gg d dp e) (k + 1))), some (.int (nI (k + 1))), _]) (by first | (rw [fl_set_1 (N := (fl_near q0 q1 q2 gg d dp e)) (k := k) (by simp only [fl_near]; first | (rw [h29, h76]; rfl) | (rw [h46, h76, Bool.or_true]; rfl))]; rfl) | (rw [fl_set_0 (N := (fl_near q0 q1 q2 gg d dp e)) (k := k) (by simp only [fl_near]; first | (rw [h29, h46]; rfl) | (rw [h76, Bool.and_false]))]; rfl)) (ih (k + 1) _ (by omega))
        · skip
          refine ev_iload dX2_tryFrom_79 rfl ?_
          refine ev_iconst (v := 1) dX2_tryFrom_81 cni_1 ?_
          refine ev_iload dX2_tryFrom_82 rfl ?_
          refine ev_ishl dX2_tryFrom_84 ?_
          refine ev_ior dX2_tryFrom_85 ?_
          refine ev_istore dX2_tryFrom_86 (Nat.le_of_ble_eq_true rfl) rfl ?_
          refine ev_iinc (v := nI (k + 1)) dX2_tryFrom_88 rfl (nI_1 k) (Nat.le_of_ble_eq_true rfl) rfl ?_
          refine ev_goto (tgt := 6) dX2_tryFrom_91 (by decide) ?_
          first | exact absurd h58 (by decide) | exact absurd rfl h58 | exact ev_loc (L2 := [some (.ref 35), some (.int gg), some (.int d), some (.int dp), some (.int e), some (.int (fl_set (fl_near q0 q1 q2 gg d dp e) (k + 1))), some (.int (nI (k + 1))), _]) (by first | (rw [fl_set_1 (N := (fl_near q0 q1 q2 gg d dp e)) (k := k) (by simp only [fl_near]; first | (rw [h29, h76]; rfl) | (rw [h46, h76, Bool.or_true]; rfl))]; rfl) | (rw [fl_set_0 (N := (fl_near q0 q1 q2 gg d dp e)) (k := k) (by simp only [fl_near]; first | (rw [h29, h46]; rfl) | (rw [h76, Bool.and_false]))]; rfl)) (ih (k + 1) _ (by omega))
    · skip
      refine ev_aload_n (i := 0) dX2_tryFrom_32 rfl rfl ?_
      refine ev_getf dX2_tryFrom_33 flX2_15 (by first | assumption | rfl) (by rfl) ?_
      refine ev_iload dX2_tryFrom_36 rfl ?_
      refine ev_iald (j := k) dX2_tryFrom_38 (by first | assumption | rfl) (ev_ix_nI (by omega)) (by omega) ?_
      refine ev_iload_n (i := 1) dX2_tryFrom_39 rfl rfl ?_
      refine ev_iload_n (i := 1) dX2_tryFrom_40 rfl rfl ?_
      refine ev_iload_n (i := 2) dX2_tryFrom_41 rfl rfl ?_
      refine ev_iadd dX2_tryFrom_42 ?_
      refine ev_c3 kX2_tryFrom_43 (c12_within) trivial (by decide) (by decide) (Nat.le_of_ble_eq_true rfl) ?_
      refine ev_if_eqb (tgt := 53) dX2_tryFrom_46 (by decide) (fun h46 => ?_) (fun h46 => ?_)
      · skip
        refine ev_iconst (v := 0) dX2_tryFrom_53 cni_0 ?_
        refine ev_istore dX2_tryFrom_54 (Nat.le_of_ble_eq_true rfl) rfl ?_
        refine ev_iload dX2_tryFrom_56 rfl ?_
        refine ev_if_eq (tgt := 88) dX2_tryFrom_58 (by decide) (fun h58 => ?_) (fun h58 => ?_)
        · skip
          refine ev_iinc (v := nI (k + 1)) dX2_tryFrom_88 rfl (nI_1 k) (Nat.le_of_ble_eq_true rfl) rfl ?_
          refine ev_goto (tgt := 6) dX2_tryFrom_91 (by decide) ?_
          first | exact absurd h58 (by decide) | exact absurd rfl h58 | exact ev_loc (L2 := [some (.ref 35), some (.int gg), some (.int d), some (.int dp), some (.int e), some (.int (fl_set (fl_near q0 q1 q2 gg d dp e) (k + 1))), some (.int (nI (k + 1))), _]) (by first | (rw [fl_set_1 (N := (fl_near q0 q1 q2 gg d dp e)) (k := k) (by simp only [fl_near]; first | (rw [h29, h76]; rfl) | (rw [h46, h76, Bool.or_true]; rfl))]; rfl) | (rw [fl_set_0 (N := (fl_near q0 q1 q2 gg d dp e)) (k := k) (by simp only [fl_near]; first | (rw [h29, h46]; rfl) | (rw [h76, Bool.and_false]))]; rfl)) (ih (k + 1) _ (by omega))
        · skip
          refine ev_aload_n (i := 0) dX2_tryFrom_61 rfl rfl ?_
          refine ev_getf dX2_tryFrom_62 flX2_18 (by first | assumption | rfl) (by rfl) ?_
          refine ev_iload dX2_tryFrom_65 rfl ?_
          refine ev_iald (j := k) dX2_tryFrom_67 (by first | assumption | rfl) (ev_ix_nI (by omega)) (by omega) ?_
          refine ev_iload_n (i := 3) dX2_tryFrom_68 rfl rfl ?_
          refine ev_iload_n (i := 3) dX2_tryFrom_69 rfl rfl ?_
          refine ev_iload dX2_tryFrom_70 rfl ?_
          refine ev_iadd dX2_tryFrom_72 ?_
          refine ev_c3 kX2_tryFrom_73 (c12_within) trivial (by decide) (by decide) (Nat.le_of_ble_eq_true rfl) ?_
          refine ev_if_eqb (tgt := 88) dX2_tryFrom_76 (by decide) (fun h76 => ?_) (fun h76 => ?_)
          · skip
            refine ev_iinc (v := nI (k + 1)) dX2_tryFrom_88 rfl (nI_1 k) (Nat.le_of_ble_eq_true rfl) rfl ?_
            refine ev_goto (tgt := 6) dX2_tryFrom_91 (by decide) ?_
            first | exact absurd h58 (by decide) | exact absurd rfl h58 | exact ev_loc (L2 := [some (.ref 35), some (.int gg), some (.int d), some (.int dp), some (.int e), some (.int (fl_set (fl_near q0 q1 q2 gg d dp e) (k + 1))), some (.int (nI (k + 1))), _]) (by first | (rw [fl_set_1 (N := (fl_near q0 q1 q2 gg d dp e)) (k := k) (by simp only [fl_near]; first | (rw [h29, h76]; rfl) | (rw [h46, h76, Bool.or_true]; rfl))]; rfl) | (rw [fl_set_0 (N := (fl_near q0 q1 q2 gg d dp e)) (k := k) (by simp only [fl_near]; first | (rw [h29, h46]; rfl) | (rw [h76, Bool.and_false]))]; rfl)) (ih (k + 1) _ (by omega))
          · skip
            refine ev_iload dX2_tryFrom_79 rfl ?_
            refine ev_iconst (v := 1) dX2_tryFrom_81 cni_1 ?_
            refine ev_iload dX2_tryFrom_82 rfl ?_
            refine ev_ishl dX2_tryFrom_84 ?_
            refine ev_ior dX2_tryFrom_85 ?_
            refine ev_istore dX2_tryFrom_86 (Nat.le_of_ble_eq_true rfl) rfl ?_
            refine ev_iinc (v := nI (k + 1)) dX2_tryFrom_88 rfl (nI_1 k) (Nat.le_of_ble_eq_true rfl) rfl ?_
            refine ev_goto (tgt := 6) dX2_tryFrom_91 (by decide) ?_
            first | exact absurd h58 (by decide) | exact absurd rfl h58 | exact ev_loc (L2 := [some (.ref 35), some (.int gg), some (.int d), some (.int dp), some (.int e), some (.int (fl_set (fl_near q0 q1 q2 gg d dp e) (k + 1))), some (.int (nI (k + 1))), _]) (by first | (rw [fl_set_1 (N := (fl_near q0 q1 q2 gg d dp e)) (k := k) (by simp only [fl_near]; first | (rw [h29, h76]; rfl) | (rw [h46, h76, Bool.or_true]; rfl))]; rfl) | (rw [fl_set_0 (N := (fl_near q0 q1 q2 gg d dp e)) (k := k) (by simp only [fl_near]; first | (rw [h29, h46]; rfl) | (rw [h76, Bool.and_false]))]; rfl)) (ih (k + 1) _ (by omega))
      · skip
        refine ev_iconst (v := 1) dX2_tryFrom_49 cni_1 ?_
        refine ev_goto (tgt := 54) dX2_tryFrom_50 (by decide) ?_
        refine ev_istore dX2_tryFrom_54 (Nat.le_of_ble_eq_true rfl) rfl ?_
        refine ev_iload dX2_tryFrom_56 rfl ?_
        refine ev_if_eq (tgt := 88) dX2_tryFrom_58 (by decide) (fun h58 => ?_) (fun h58 => ?_)
        · skip
          refine ev_iinc (v := nI (k + 1)) dX2_tryFrom_88 rfl (nI_1 k) (Nat.le_of_ble_eq_true rfl) rfl ?_
          refine ev_goto (tgt := 6) dX2_tryFrom_91 (by decide) ?_
          first | exact absurd h58 (by decide) | exact absurd rfl h58 | exact ev_loc (L2 := [some (.ref 35), some (.int gg), some (.int d), some (.int dp), some (.int e), some (.int (fl_set (fl_near q0 q1 q2 gg d dp e) (k + 1))), some (.int (nI (k + 1))), _]) (by first | (rw [fl_set_1 (N := (fl_near q0 q1 q2 gg d dp e)) (k := k) (by simp only [fl_near]; first | (rw [h29, h76]; rfl) | (rw [h46, h76, Bool.or_true]; rfl))]; rfl) | (rw [fl_set_0 (N := (fl_near q0 q1 q2 gg d dp e)) (k := k) (by simp only [fl_near]; first | (rw [h29, h46]; rfl) | (rw [h76, Bool.and_false]))]; rfl)) (ih (k + 1) _ (by omega))
        · skip
          refine ev_aload_n (i := 0) dX2_tryFrom_61 rfl rfl ?_
          refine ev_getf dX2_tryFrom_62 flX2_18 (by first | assumption | rfl) (by rfl) ?_
          refine ev_iload dX2_tryFrom_65 rfl ?_
          refine ev_iald (j := k) dX2_tryFrom_67 (by first | assumption | rfl) (ev_ix_nI (by omega)) (by omega) ?_
          refine ev_iload_n (i := 3) dX2_tryFrom_68 rfl rfl ?_
          refine ev_iload_n (i := 3) dX2_tryFrom_69 rfl rfl ?_
          refine ev_iload dX2_tryFrom_70 rfl ?_
          refine ev_iadd dX2_tryFrom_72 ?_
          refine ev_c3 kX2_tryFrom_73 (c12_within) trivial (by decide) (by decide) (Nat.le_of_ble_eq_true rfl) ?_
          refine ev_if_eqb (tgt := 88) dX2_tryFrom_76 (by decide) (fun h76 => ?_) (fun h76 => ?_)
          · skip
            refine ev_iinc (v := nI (k + 1)) dX2_tryFrom_88 rfl (nI_1 k) (Nat.le_of_ble_eq_true rfl) rfl ?_
            refine ev_goto (tgt := 6) dX2_tryFrom_91 (by decide) ?_
            first | exact absurd h58 (by decide) | exact absurd rfl h58 | exact ev_loc (L2 := [some (.ref 35), some (.int gg), some (.int d), some (.int dp), some (.int e), some (.int (fl_set (fl_near q0 q1 q2 gg d dp e) (k + 1))), some (.int (nI (k + 1))), _]) (by first | (rw [fl_set_1 (N := (fl_near q0 q1 q2 gg d dp e)) (k := k) (by simp only [fl_near]; first | (rw [h29, h76]; rfl) | (rw [h46, h76, Bool.or_true]; rfl))]; rfl) | (rw [fl_set_0 (N := (fl_near q0 q1 q2 gg d dp e)) (k := k) (by simp only [fl_near]; first | (rw [h29, h46]; rfl) | (rw [h76, Bool.and_false]))]; rfl)) (ih (k + 1) _ (by omega))
          · skip
            refine ev_iload dX2_tryFrom_79 rfl ?_
            refine ev_iconst (v := 1) dX2_tryFrom_81 cni_1 ?_
            refine ev_iload dX2_tryFrom_82 rfl ?_
            refine ev_ishl dX2_tryFrom_84 ?_
            refine ev_ior dX2_tryFrom_85 ?_
            refine ev_istore dX2_tryFrom_86 (Nat.le_of_ble_eq_true rfl) rfl ?_
            refine ev_iinc (v := nI (k + 1)) dX2_tryFrom_88 rfl (nI_1 k) (Nat.le_of_ble_eq_true rfl) rfl ?_
            refine ev_goto (tgt := 6) dX2_tryFrom_91 (by decide) ?_
            first | exact absurd h58 (by decide) | exact absurd rfl h58 | exact ev_loc (L2 := [some (.ref 35), some (.int gg), some (.int d), some (.int dp), some (.int e), some (.int (fl_set (fl_near q0 q1 q2 gg d dp e) (k + 1))), some (.int (nI (k + 1))), _]) (by first | (rw [fl_set_1 (N := (fl_near q0 q1 q2 gg d dp e)) (k := k) (by simp only [fl_near]; first | (rw [h29, h76]; rfl) | (rw [h46, h76, Bool.or_true]; rfl))]; rfl) | (rw [fl_set_0 (N := (fl_near q0 q1 q2 gg d dp e)) (k := k) (by simp only [fl_near]; first | (rw [h29, h46]; rfl) | (rw [h76, Bool.and_false]))]; rfl)) (ih (k + 1) _ (by omega))
theorem c2_tryFrom {G : ev_G} {n : Nat} {M : ev_M} {sz : Nat} {B : Int32 × Int32} {q0 q1 q2 : Nat → Int32} (h35 : M 35 = .inr (2, [.ref 36, .ref 37, .ref 38, .int (nI sz), .int (B.1), .int (B.2)])) (h36 : M 36 = .inl (0, 12, .inl q0)) (h37 : M 37 = .inl (0, 12, .inl q1)) (h38 : M 38 = .inl (0, 12, .inl q2)) (hsz : sz ≤ 12) {gg d dp e : Int32}  : ev_Cal G mX2_tryFrom 2 0 0 [.ref 35, .int gg, .int d, .int dp, .int e] n M (ev_is none (ev_set M 35 (.inr (2, [.ref 36, .ref 37, .ref 38, .int (nI sz), .int ((fl_try q0 q1 q2 sz gg d dp e B).1), .int ((fl_try q0 q1 q2 sz gg d dp e B).2)])))) := by
  refine ev_Cal_of (L := [some (.ref 35), some (.int gg), some (.int d), some (.int dp), some (.int e), none, none, none]) (by decide +kernel) (Nat.le_of_ble_eq_true rfl) rfl ?_
  refine ev_iconst (v := 0) dX2_tryFrom_0 cni_0 ?_
  refine ev_istore dX2_tryFrom_1 (Nat.le_of_ble_eq_true rfl) rfl ?_
  refine ev_iconst (v := 0) dX2_tryFrom_3 cni_0 ?_
  refine ev_istore dX2_tryFrom_4 (Nat.le_of_ble_eq_true rfl) rfl ?_
  exact l2_tryFrom h35 h36 h37 h38 hsz sz 0 none (Nat.zero_add _)
