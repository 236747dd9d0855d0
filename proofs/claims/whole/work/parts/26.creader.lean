/-! ===== contracts: strings; the reader ===== -/
def ch_n (i : Nat) : Nat := ev_sl.getD i 0
def ch_at (i j : Nat) : Int32 := (ev_sb.getD i []).getD j 0
theorem ch_all : ∀ i, i < 5 → ∀ j, j < ch_n i → (ch_at i j &&& 255 = ch_at i j) ∧ ((ch_at i j).toUInt32 % 65536).toInt32 = ch_at i j ∧ (ch_at i j).toUInt32.toUInt16.toUInt32.toInt32 = ch_at i j := by decide +kernel
theorem ch_len : ∀ i, i < 5 → (Int32.ofNat (ch_n i)) >>> ((0 : Int32) &&& 31) = nI (ch_n i) ∧ ch_n i ≤ 6 := by decide +kernel
theorem ch_nar {i j : Nat} (hi : i < 5) (hj : j < ch_n i) : narrow .char (.int (ch_at i j)) = .int (ch_at i j) := congrArg Value.int (ch_all i hi j hj).2.2
/-- the text at a place -/
def rd_at (tn : Nat) (tb : Nat → Int32) (i : Nat) : Int32 := if i < tn then tb i else -1
def rd_sk (tb : Nat → Int32) : Nat → Nat → Nat
  | 0, p => p
  | m + 1, p => if tb p = 32 then rd_sk tb m (p + 1) else p
theorem rd_sk_1 {tb : Nat → Int32} {m p : Nat} (h : tb p = 32) : rd_sk tb (m + 1) p = rd_sk tb m (p + 1) := by rw [rd_sk, if_pos h]
theorem rd_sk_0 {tb : Nat → Int32} {m p : Nat} (h : ¬ tb p = 32) : rd_sk tb (m + 1) p = p := by rw [rd_sk, if_neg h]
theorem rd_sk_le {tb : Nat → Int32} : ∀ (m p : Nat), p ≤ rd_sk tb m p ∧ rd_sk tb m p ≤ p + m
  | 0, p => ⟨Nat.le_refl _, Nat.le_refl _⟩
  | m + 1, p => by
    have h := rd_sk_le (tb := tb) m (p + 1)
    rw [rd_sk]
    split
    · omega
    · omega
def rd_skip (tn : Nat) (tb : Nat → Int32) (p : Nat) : Nat := rd_sk tb (tn - p) p
theorem rd_skip_le {tn : Nat} {tb : Nat → Int32} {p : Nat} (h : p ≤ tn) : p ≤ rd_skip tn tb p ∧ rd_skip tn tb p ≤ tn := by
  have := rd_sk_le (tb := tb) (tn - p) p
  unfold rd_skip
  omega
theorem cJ0_coder {G : ev_G} {n : Nat} {M : ev_M} {i : Nat} (hi : i < 5) : ev_Cal G mJ0_coder_7d493 1 0 0 [.ref (9 + i)] n M (ev_is (some (.int 0)) M) := by
  refine ev_Cal_of (L := [some (.ref (9 + i))]) (by decide +kernel) (Nat.le_of_ble_eq_true rfl) rfl ?_
  refine ev_getCS dJ0_coder_7d493_0 fwJ0_38 ?_
  refine ev_if_eq (tgt := 13) dJ0_coder_7d493_3 (by decide) (fun h3 => False.elim (absurd h3 (by decide))) (fun h3 => ?_)
  refine ev_aload_n (i := 0) dJ0_coder_7d493_6 rfl rfl ?_
  refine ev_strC dJ0_coder_7d493_7 (by assumption) fwJ0_15 ?_
  refine ev_goto (tgt := 14) dJ0_coder_7d493_10 (by decide) ?_
  exact ev_reti dJ0_coder_7d493_14 rfl rfl (⟨rfl, rfl⟩)
theorem cJ0_isLatin1 {G : ev_G} {n : Nat} {M : ev_M} {i : Nat} (hi : i < 5) : ev_Cal G mJ0_isLatin1_aae02 1 0 0 [.ref (9 + i)] n M (ev_is (some (.int 1)) M) := by
  refine ev_Cal_of (L := [some (.ref (9 + i))]) (by decide +kernel) (Nat.le_of_ble_eq_true rfl) rfl ?_
  refine ev_getCS dJ0_isLatin1_aae02_0 fwJ0_38 ?_
  refine ev_if_eq (tgt := 17) dJ0_isLatin1_aae02_3 (by decide) (fun h3 => False.elim (absurd h3 (by decide))) (fun h3 => ?_)
  refine ev_aload_n (i := 0) dJ0_isLatin1_aae02_6 rfl rfl ?_
  refine ev_strC dJ0_isLatin1_aae02_7 (by assumption) fwJ0_15 ?_
  refine ev_if_ne (tgt := 17) dJ0_isLatin1_aae02_10 (by decide) (fun h10 => False.elim (h10 rfl)) (fun h10 => ?_)
  refine ev_iconst (v := 1) dJ0_isLatin1_aae02_13 cni_1 ?_
  refine ev_goto (tgt := 18) dJ0_isLatin1_aae02_14 (by decide) ?_
  exact ev_reti dJ0_isLatin1_aae02_18 rfl rfl (⟨rfl, rfl⟩)
theorem cJ0_length {G : ev_G} {n : Nat} {M : ev_M} {i : Nat} (hi : i < 5) : ev_Cal G mJ0_length_8abf5 2 0 0 [.ref (9 + i)] n M (ev_is (some (.int (nI (ch_n i)))) M) := by
  refine ev_Cal_of (L := [some (.ref (9 + i))]) (by decide +kernel) (Nat.le_of_ble_eq_true rfl) rfl ?_
  refine ev_aload_n (i := 0) dJ0_length_8abf5_0 rfl rfl ?_
  refine ev_strV dJ0_length_8abf5_1 (by assumption) fwJ0_9 ?_
  refine ev_blS (a := i) (v := Int32.ofNat (ch_n i)) dJ0_length_8abf5_4 hi rfl ?_
  refine ev_aload_n (i := 0) dJ0_length_8abf5_5 rfl rfl ?_
  refine ev_c1 kJ0_length_8abf5_6 (cJ0_coder hi) (ev_rv_s (by assumption)) (by decide) (by decide) (Nat.le_of_ble_eq_true rfl) ?_
  refine ev_ishr dJ0_length_8abf5_9 ?_
  refine ev_topi (ch_len i hi).1 ?_
  exact ev_reti dJ0_length_8abf5_10 rfl rfl (⟨rfl, rfl⟩)
theorem cJ3_checkIndex {G : ev_G} {n : Nat} {M : ev_M} {j N : Nat} (hj : j < N) (hN : N < 2 ^ 31) : ev_Cal G mJ3_checkIndex_8e157 1 0 0 [.int (nI j), .int (nI N), .ref 19] n M (ev_is (some (.int (nI j))) M) := by
  refine ev_Cal_of (L := [some (.int (nI j)), some (.int (nI N)), some (.ref 19)]) (by decide +kernel) (Nat.le_of_ble_eq_true rfl) rfl ?_
  refine ev_iload_n (i := 0) dJ3_checkIndex_8e157_0 rfl rfl ?_
  refine ev_if_lt (tgt := 9) dJ3_checkIndex_8e157_1 (by decide) (fun h1 => False.elim (nI_pos (by omega) h1)) (fun h1 => ?_)
  refine ev_iload_n (i := 0) dJ3_checkIndex_8e157_4 rfl rfl ?_
  refine ev_iload_n (i := 1) dJ3_checkIndex_8e157_5 rfl rfl ?_
  refine ev_icmp_lt (tgt := 16) dJ3_checkIndex_8e157_6 (by decide) (fun h6 => ?_) (fun h6 => False.elim (Int32.not_lt.mpr h6 (nI_lt hj hN)))
  refine ev_iload_n (i := 0) dJ3_checkIndex_8e157_16 rfl rfl ?_
  exact ev_reti dJ3_checkIndex_8e157_17 rfl rfl (⟨rfl, rfl⟩)
theorem cJ3_checkIndexN {G : ev_G} {n : Nat} {M : ev_M} {j N : Nat} (hj : j < N) (hN : N < 2 ^ 31) : ev_Cal G mJ3_checkIndex_8e157 1 0 0 [.int (nI j), .int (nI N), .null] n M (ev_is (some (.int (nI j))) M) := by
  refine ev_Cal_of (L := [some (.int (nI j)), some (.int (nI N)), some (.null)]) (by decide +kernel) (Nat.le_of_ble_eq_true rfl) rfl ?_
  refine ev_iload_n (i := 0) dJ3_checkIndex_8e157_0 rfl rfl ?_
  refine ev_if_lt (tgt := 9) dJ3_checkIndex_8e157_1 (by decide) (fun h1 => False.elim (nI_pos (by omega) h1)) (fun h1 => ?_)
  refine ev_iload_n (i := 0) dJ3_checkIndex_8e157_4 rfl rfl ?_
  refine ev_iload_n (i := 1) dJ3_checkIndex_8e157_5 rfl rfl ?_
  refine ev_icmp_lt (tgt := 16) dJ3_checkIndex_8e157_6 (by decide) (fun h6 => ?_) (fun h6 => False.elim (Int32.not_lt.mpr h6 (nI_lt hj hN)))
  refine ev_iload_n (i := 0) dJ3_checkIndex_8e157_16 rfl rfl ?_
  exact ev_reti dJ3_checkIndex_8e157_17 rfl rfl (⟨rfl, rfl⟩)
abbrev ev_hs (G : ev_G) : Prop := ev_sio G = .ref 19 ∨ ev_sio G = .null
theorem cJ3_checkIndexV {G : ev_G} {n : Nat} {M : ev_M} {j N : Nat} {v : Value} (hj : j < N) (hN : N < 2 ^ 31) (hv : v = .ref 19 ∨ v = .null) : ev_Cal G mJ3_checkIndex_8e157 1 0 0 [.int (nI j), .int (nI N), v] n M (ev_is (some (.int (nI j))) M) := by
  rcases hv with rfl | rfl
  · exact cJ3_checkIndex hj hN
  · exact cJ3_checkIndexN hj hN
theorem cJ0_checkIndex {G : ev_G} {n : Nat} {M : ev_M} {j N : Nat} (hj : j < N) (hN : N < 2 ^ 31) (hsio : ev_hs G) : ev_Cal G mJ0_checkIndex_df160 2 0 0 [.int (nI j), .int (nI N)] n M (ev_is none M) := by
  refine ev_Cal_of (L := [some (.int (nI j)), some (.int (nI N))]) (by decide +kernel) (Nat.le_of_ble_eq_true rfl) rfl ?_
  refine ev_iload_n (i := 0) dJ0_checkIndex_df160_0 rfl rfl ?_
  refine ev_iload_n (i := 1) dJ0_checkIndex_df160_1 rfl rfl ?_
  refine ev_getSio dJ0_checkIndex_df160_2 fwJ0_1053 ?_
  refine ev_c3 kJ0_checkIndex_df160_5 (cJ3_checkIndexV hj hN hsio) trivial (by decide) (by decide) (Nat.le_of_ble_eq_true rfl) ?_
  refine ev_pop dJ0_checkIndex_df160_8 rfl ?_
  exact ev_retv dJ0_checkIndex_df160_9 rfl (⟨rfl, rfl⟩)
theorem cJ1_charAt {G : ev_G} {n : Nat} {M : ev_M} {i : Nat} (hi : i < 5) {j : Nat} (hj : j < ch_n i) (hsio : ev_hs G) : ev_Cal G mJ1_charAt_3b067 3 0 0 [.ref (14 + i), .int (nI j)] n M (ev_is (some (.int (ch_at i j))) M) := by
  refine ev_Cal_of (L := [some (.ref (14 + i)), some (.int (nI j))]) (by decide +kernel) (Nat.le_of_ble_eq_true rfl) rfl ?_
  refine ev_iload_n (i := 1) dJ1_charAt_3b067_0 rfl rfl ?_
  refine ev_aload_n (i := 0) dJ1_charAt_3b067_1 rfl rfl ?_
  refine ev_blS (a := i) (v := nI (ch_n i)) dJ1_charAt_3b067_2 hi rfl ?_
  refine ev_w2 kJ1_charAt_3b067_3 (cJ0_checkIndex hj (by have := (ch_len i hi).2; omega) hsio) trivial (by decide) (by decide) (Nat.le_of_ble_eq_true rfl) ?_
  refine ev_aload_n (i := 0) dJ1_charAt_3b067_6 rfl rfl ?_
  refine ev_iload_n (i := 1) dJ1_charAt_3b067_7 rfl rfl ?_
  refine ev_balS (a := i) (j := j) dJ1_charAt_3b067_8 hi (ev_ix_nI (by have := (ch_len i hi).2; omega)) hj ?_
  refine ev_sipush (v := 255) dJ1_charAt_3b067_9 cns_255 ?_
  refine ev_iand dJ1_charAt_3b067_12 ?_
  refine ev_topi (ch_all i hi j hj).1 ?_
  refine ev_i2c (v := ch_at i j) dJ1_charAt_3b067_13 (ch_all i hi j hj).2.1 ?_
  exact ev_reti dJ1_charAt_3b067_14 rfl (ch_nar hi hj) ⟨rfl, rfl⟩
theorem cJ0_charAt {G : ev_G} {n : Nat} {M : ev_M} {i : Nat} (hi : i < 5) {j : Nat} (hj : j < ch_n i) (hsio : ev_hs G) : ev_Cal G mJ0_charAt_5068e 4 0 0 [.ref (9 + i), .int (nI j)] n M (ev_is (some (.int (ch_at i j))) M) := by
  refine ev_Cal_of (L := [some (.ref (9 + i)), some (.int (nI j))]) (by decide +kernel) (Nat.le_of_ble_eq_true rfl) rfl ?_
  refine ev_aload_n (i := 0) dJ0_charAt_5068e_0 rfl rfl ?_
  refine ev_c1 kJ0_charAt_5068e_1 (cJ0_isLatin1 hi) (ev_rv_s (by assumption)) (by decide) (by decide) (Nat.le_of_ble_eq_true rfl) ?_
  refine ev_if_eq (tgt := 16) dJ0_charAt_5068e_4 (by decide) (fun h4 => False.elim (absurd h4 (by decide))) (fun h4 => ?_)
  refine ev_aload_n (i := 0) dJ0_charAt_5068e_7 rfl rfl ?_
  refine ev_strV dJ0_charAt_5068e_8 (by assumption) fwJ0_9 ?_
  refine ev_iload_n (i := 1) dJ0_charAt_5068e_11 rfl rfl ?_
  refine ev_c2 kJ0_charAt_5068e_12 (cJ1_charAt hi hj hsio) trivial (by decide) (by decide) (Nat.le_of_ble_eq_true rfl) ?_
  exact ev_reti dJ0_charAt_5068e_15 rfl (ch_nar hi hj) ⟨rfl, rfl⟩
theorem c10_at {G : ev_G} {n : Nat} {M : ev_M} {tn : Nat} {pl : Int32} {tb : Nat → Int32} (hT2 : M 22 = .inr (7, [.ref 23, .ref 24, .int (pl), .int (nI tn)])) (hTb : M 23 = .inl (0, 400, .inl tb)) (hn : tn ≤ 400) {i : Nat} (hi : i < 2 ^ 31) : ev_Cal G mX7_byteAt 1 0 0 [.ref 22, .int (nI i)] n M (ev_is (some (.int (rd_at tn tb i))) M) := by
  unfold rd_at
  by_cases h : i < tn
  · rw [if_pos h]; exact c10_at_in hT2 hTb h hn
  · rw [if_neg h]; exact c10_at_out hT2 hTb (Or.inr (nI_le (by omega) hi))
theorem l7_skip {G : ev_G} {n : Nat} {M : ev_M} {tn : Nat} {tb : Nat → Int32} (hTb : M 23 = .inl (0, 400, .inl tb)) (hn : tn ≤ 400) : ∀ (m p : Nat), p + m = tn → ev_E G mX7_skipBlanks 2 0 0 n (ev_set M 22 (.inr (7, [.ref 23, .ref 24, .int (nI (p)), .int (nI tn)]))) 0 [some (.ref 22)] [] (ev_is none (ev_set M 22 (.inr (7, [.ref 23, .ref 24, .int (nI (rd_sk tb m p)), .int (nI tn)])))) := by
  intro m
  induction m with
  | zero =>
    intro p hk
    refine ev_aload_n (i := 0) dX7_skipBlanks_0 rfl rfl ?_
    refine ev_getf dX7_skipBlanks_1 flX7_27 (by exact ev_set_eq) (by rfl) ?_
    refine ev_aload_n (i := 0) dX7_skipBlanks_4 rfl rfl ?_
    refine ev_getf dX7_skipBlanks_5 flX7_18 (by exact ev_set_eq) (by rfl) ?_
    refine ev_icmp_ge (tgt := 37) dX7_skipBlanks_8 (by decide) (fun h8 => ?_) (fun h8 => False.elim (nI_nlt (a := p) (b := tn) (by omega) (by omega) h8))
    exact ev_retv dX7_skipBlanks_37 rfl (⟨rfl, rfl⟩)
  | succ m ih =>
    intro p hk
    refine ev_aload_n (i := 0) dX7_skipBlanks_0 rfl rfl ?_
    refine ev_getf dX7_skipBlanks_1 flX7_27 (by exact ev_set_eq) (by rfl) ?_
    refine ev_aload_n (i := 0) dX7_skipBlanks_4 rfl rfl ?_
    refine ev_getf dX7_skipBlanks_5 flX7_18 (by exact ev_set_eq) (by rfl) ?_
    refine ev_icmp_ge (tgt := 37) dX7_skipBlanks_8 (by decide) (fun h8 => False.elim (nI_ge (a := p) (b := tn) (by omega) (by omega) h8)) (fun h8 => ?_)
    refine ev_aload_n (i := 0) dX7_skipBlanks_11 rfl rfl ?_
    refine ev_aload_n (i := 0) dX7_skipBlanks_12 rfl rfl ?_
    refine ev_getf dX7_skipBlanks_13 flX7_27 (by exact ev_set_eq) (by rfl) ?_
    refine ev_c2 kX7_skipBlanks_16 (c10_at_in (j := p) ev_set_eq ((ev_set_ne (by decide)).trans hTb) (by omega) hn) (ev_rv_of (by exact ev_set_eq) rfl rfl) (by decide) (by decide) (Nat.le_of_ble_eq_true rfl) ?_
    refine ev_bipush (v := 32) dX7_skipBlanks_19 cnb_32 ?_
    refine ev_icmp_ne (tgt := 37) dX7_skipBlanks_21 (by decide) (fun h21 => ?_) (fun h21 => ?_)
    · skip
      exact ev_retv dX7_skipBlanks_37 rfl (⟨rfl, by rw [rd_sk_0 h21]⟩)
    · skip
      refine ev_aload_n (i := 0) dX7_skipBlanks_24 rfl rfl ?_
      refine ev_dup dX7_skipBlanks_25 rfl ?_
      refine ev_getf dX7_skipBlanks_26 flX7_27 (by exact ev_set_eq) (by rfl) ?_
      refine ev_iconst (v := 1) dX7_skipBlanks_29 cni_1 ?_
      refine ev_iadd dX7_skipBlanks_30 ?_
      refine ev_topi (nI_1 p) ?_
      refine ev_putiU dX7_skipBlanks_31 fpX7_27 (Nat.le_of_ble_eq_true rfl) ?_
      refine ev_goto (tgt := 0) dX7_skipBlanks_34 (by decide) ?_
      rw [rd_sk_1 h21]
      exact ih (p + 1) (by omega)
theorem c7_skip {G : ev_G} {n : Nat} {M : ev_M} {tn : Nat} {tb : Nat → Int32} (hTb : M 23 = .inl (0, 400, .inl tb)) (hn : tn ≤ 400) {p : Nat} (h23 : M 22 = .inr (7, [.ref 23, .ref 24, .int (nI (p)), .int (nI tn)])) (hp : p ≤ tn)  : ev_Cal G mX7_skipBlanks 2 0 0 [.ref 22] n M (ev_is none (ev_set M 22 (.inr (7, [.ref 23, .ref 24, .int (nI (rd_skip tn tb p)), .int (nI tn)])))) := by
  refine ev_Cal_of (L := [some (.ref 22)]) (by decide +kernel) (Nat.le_of_ble_eq_true rfl) rfl ?_
  refine ev_pre1 h23 ?_
  exact l7_skip hTb hn (tn - p) p (by omega)
theorem c7_takeEnd_1 {G : ev_G} {n : Nat} {M : ev_M} {tn : Nat} {tb : Nat → Int32} (hTb : M 23 = .inl (0, 400, .inl tb)) (hn : tn ≤ 400) {p : Nat} (h23 : M 22 = .inr (7, [.ref 23, .ref 24, .int (nI (p)), .int (nI tn)])) (hp : p ≤ tn) (he : rd_at tn tb (rd_skip tn tb p) = 59) : ev_Cal G mX7_takeEnd 3 0 0 [.ref 22] n M (ev_is (some (.int 1)) (ev_set M 22 (.inr (7, [.ref 23, .ref 24, .int (nI (rd_skip tn tb p + 1)), .int (nI tn)])))) := by
  refine ev_Cal_of (L := [some (.ref 22)]) (by decide +kernel) (Nat.le_of_ble_eq_true rfl) rfl ?_
  have hs := (rd_skip_le (tb := tb) hp).2
  refine ev_aload_n (i := 0) dX7_takeEnd_0 rfl rfl ?_
  refine ev_w1 kX7_takeEnd_1 (c7_skip hTb hn h23 hp) (ev_rv_of (by first | exact h23 | exact ev_set_eq) rfl rfl) (by decide) (by decide) (Nat.le_of_ble_eq_true rfl) ?_
  refine ev_aload_n (i := 0) dX7_takeEnd_4 rfl rfl ?_
  refine ev_aload_n (i := 0) dX7_takeEnd_5 rfl rfl ?_
  refine ev_getf dX7_takeEnd_6 flX7_27 (by first | exact h23 | exact ev_set_eq) (by rfl) ?_
  refine ev_c2 kX7_takeEnd_9 (c10_at ev_set_eq ((ev_set_ne (by decide)).trans hTb) hn (by omega)) (ev_rv_of (by first | exact h23 | exact ev_set_eq) rfl rfl) (by decide) (by decide) (Nat.le_of_ble_eq_true rfl) ?_
  refine ev_bipush (v := 59) dX7_takeEnd_12 cnb_59 ?_
  refine ev_icmp_eq (tgt := 19) dX7_takeEnd_14 (by decide) (fun h14 => ?_) (fun h14 => False.elim (h14 he))
  refine ev_aload_n (i := 0) dX7_takeEnd_19 rfl rfl ?_
  refine ev_dup dX7_takeEnd_20 rfl ?_
  refine ev_getf dX7_takeEnd_21 flX7_27 (by first | exact h23 | exact ev_set_eq) (by rfl) ?_
  refine ev_iconst (v := 1) dX7_takeEnd_24 cni_1 ?_
  refine ev_iadd dX7_takeEnd_25 ?_
  refine ev_topi (nI_1 (rd_skip tn tb p)) ?_
  refine ev_putiU dX7_takeEnd_26 fpX7_27 (Nat.le_of_ble_eq_true rfl) ?_
  refine ev_iconst (v := 1) dX7_takeEnd_29 cni_1 ?_
  exact ev_reti dX7_takeEnd_30 rfl rfl (⟨rfl, rfl⟩)
theorem c7_takeEnd_0 {G : ev_G} {n : Nat} {M : ev_M} {tn : Nat} {tb : Nat → Int32} (hTb : M 23 = .inl (0, 400, .inl tb)) (hn : tn ≤ 400) {p : Nat} (h23 : M 22 = .inr (7, [.ref 23, .ref 24, .int (nI (p)), .int (nI tn)])) (hp : p ≤ tn) (he : ¬ rd_at tn tb (rd_skip tn tb p) = 59) : ev_Cal G mX7_takeEnd 3 0 0 [.ref 22] n M (ev_is (some (.int 0)) (ev_set M 22 (.inr (7, [.ref 23, .ref 24, .int (nI (rd_skip tn tb p)), .int (nI tn)])))) := by
  refine ev_Cal_of (L := [some (.ref 22)]) (by decide +kernel) (Nat.le_of_ble_eq_true rfl) rfl ?_
  have hs := (rd_skip_le (tb := tb) hp).2
  refine ev_aload_n (i := 0) dX7_takeEnd_0 rfl rfl ?_
  refine ev_w1 kX7_takeEnd_1 (c7_skip hTb hn h23 hp) (ev_rv_of (by first | exact h23 | exact ev_set_eq) rfl rfl) (by decide) (by decide) (Nat.le_of_ble_eq_true rfl) ?_
  refine ev_aload_n (i := 0) dX7_takeEnd_4 rfl rfl ?_
  refine ev_aload_n (i := 0) dX7_takeEnd_5 rfl rfl ?_
  refine ev_getf dX7_takeEnd_6 flX7_27 (by first | exact h23 | exact ev_set_eq) (by rfl) ?_
  refine ev_c2 kX7_takeEnd_9 (c10_at ev_set_eq ((ev_set_ne (by decide)).trans hTb) hn (by omega)) (ev_rv_of (by first | exact h23 | exact ev_set_eq) rfl rfl) (by decide) (by decide) (Nat.le_of_ble_eq_true rfl) ?_
  refine ev_bipush (v := 59) dX7_takeEnd_12 cnb_59 ?_
  refine ev_icmp_eq (tgt := 19) dX7_takeEnd_14 (by decide) (fun h14 => False.elim (he h14)) (fun h14 => ?_)
  refine ev_iconst (v := 0) dX7_takeEnd_17 cni_0 ?_
  exact ev_reti dX7_takeEnd_18 rfl rfl (⟨rfl, rfl⟩)
def rd_dig (x : Int32) : Bool := sp_in x 48 57
def rd_num (tb : Nat → Int32) : Nat → Nat × Int32 → Nat × Int32
  | 0, a => a
  | m + 1, a => if rd_dig (tb a.1) = true then rd_num tb m (a.1 + 1, sp_min 1000 (a.2 * 10 + tb a.1 - 48)) else a
theorem rd_num_1 {tb : Nat → Int32} {m q : Nat} {v : Int32} (h : sp_in (tb q) 48 57 = true) : rd_num tb (m + 1) (q, v) = rd_num tb m (q + 1, sp_min 1000 (v * 10 + tb q - 48)) := by
  show (if sp_in (tb q) 48 57 = true then rd_num tb m (q + 1, sp_min 1000 (v * 10 + tb q - 48)) else (q, v)) = _
  rw [if_pos h]
theorem rd_num_0 {tb : Nat → Int32} {m q : Nat} {v : Int32} (h : sp_in (tb q) 48 57 = false) : rd_num tb (m + 1) (q, v) = (q, v) := by rw [rd_num, if_neg (by rw [rd_dig, h]; decide)]
theorem rd_num_le {tb : Nat → Int32} : ∀ (m : Nat) (a : Nat × Int32), a.1 ≤ (rd_num tb m a).1 ∧ (rd_num tb m a).1 ≤ a.1 + m
  | 0, a => ⟨Nat.le_refl _, Nat.le_refl _⟩
  | m + 1, a => by
    have h := rd_num_le (tb := tb) m (a.1 + 1, sp_min 1000 (a.2 * 10 + tb a.1 - 48))
    simp only at h
    rw [rd_num]
    split
    · omega
    · omega
def rd_nm (tn : Nat) (tb : Nat → Int32) (p : Nat) : Nat × Int32 := rd_num tb (tn - p) (p, 0)
def rd_okx (p e : Nat) (a v lo hi : Int32) : Bool := decide (p < e) && (!(decide (p + 1 < e) && decide (a = 48)) && sp_in v lo hi)
theorem rd_x1 {p e : Nat} {a v lo hi : Int32} (h : rd_okx p e a v lo hi = true) : p < e ∧ ¬ (p + 1 < e ∧ a = 48) ∧ sp_in v lo hi = true := by
  simp only [rd_okx, Bool.and_eq_true, decide_eq_true_eq, Bool.not_eq_true', Bool.and_eq_false_iff, decide_eq_false_iff_not] at h
  refine ⟨h.1, fun q => ?_, h.2.2⟩
  rcases h.2.1 with z | z
  · exact z q.1
  · exact z q.2
theorem rd_x0 {p e : Nat} {a v lo hi : Int32} (h1 : p < e) (h2 : ¬ (p + 1 < e ∧ a = 48)) (h3 : sp_in v lo hi = true) : rd_okx p e a v lo hi = true := by
  simp only [rd_okx, Bool.and_eq_true, decide_eq_true_eq, Bool.not_eq_true', Bool.and_eq_false_iff, decide_eq_false_iff_not]
  refine ⟨h1, ?_, h3⟩
  by_cases q : p + 1 < e
  · exact Or.inr (fun z => h2 ⟨q, z⟩)
  · exact Or.inl q
theorem rd_sub {e p : Nat} (h : p ≤ e) : nI e - nI p = nI (e - p) := by
  have q : nI e = nI (e - p) + nI p := by rw [nI_add, Nat.sub_add_cancel h]
  rw [q, Int32.add_sub_cancel]
theorem rd_gt1 {e p : Nat} (h : (1 : Int32) < nI (e - p)) : p + 1 < e := by
  by_cases q : e - p ≤ 1
  · exact absurd h (Int32.not_lt.mpr (nI_le (a := e - p) (b := 1) q (by decide)))
  · omega
theorem rd_le1 {e p : Nat} (he : e < 2 ^ 31) (h : nI (e - p) ≤ (1 : Int32)) : e ≤ p + 1 := by
  by_cases q : e - p ≤ 1
  · omega
  · exact absurd h (Int32.not_le.mpr (nI_lt (a := 1) (b := e - p) (by omega) (by omega)))
theorem rd_c1 {p e : Nat} {a v lo hi : Int32} (h : rd_okx p e a v lo hi = true) (he : e < 2 ^ 31) (q : nI e = nI p) : False := by
  have h1 := (rd_x1 h).1
  have := sh_nI_inj he (by omega) q
  omega
theorem rd_c2 {p e : Nat} {a v lo hi : Int32} (h : rd_okx p e a v lo hi = true) (h1 : (1 : Int32) < nI (e - p)) (h2 : a = 48) : False := (rd_x1 h).2.1 ⟨rd_gt1 h1, h2⟩
theorem rd_c3 {p e : Nat} {a v lo hi : Int32} (h : rd_okx p e a v lo hi = true) (q : sp_in v lo hi = false) : False := Bool.false_ne_true (q.symm.trans (rd_x1 h).2.2)
theorem rd_d1 {p e : Nat} {a v lo hi : Int32} (h : rd_okx p e a v lo hi = false) (hp : p ≤ e) (he : e < 2 ^ 31) (q : ¬ nI e = nI p) (h1 : nI (e - p) ≤ (1 : Int32)) (hs : sp_in v lo hi = true) : False := by
  have hne : e ≠ p := fun z => q (by rw [z])
  have := rd_le1 he h1
  exact Bool.false_ne_true (h.symm.trans (rd_x0 (by omega) (fun z => by omega) hs))
theorem rd_d2 {p e : Nat} {a v lo hi : Int32} (h : rd_okx p e a v lo hi = false) (hp : p ≤ e) (q : ¬ nI e = nI p) (h2 : ¬ a = 48) (hs : sp_in v lo hi = true) : False := by
  have hne : e ≠ p := fun z => q (by rw [z])
  exact Bool.false_ne_true (h.symm.trans (rd_x0 (by omega) (fun z => h2 z.2) hs))
theorem l7_num {G : ev_G} {n : Nat} {M : ev_M} {tn : Nat} {tb : Nat → Int32} (hTb : M 23 = .inl (0, 400, .inl tb)) (hn : tn ≤ 400) {p : Nat} (h23 : M 22 = .inr (7, [.ref 23, .ref 24, .int (nI (p)), .int (nI tn)])) {lo hi : Int32} {Post : Option Value → ev_M → Prop} : ∀ (m q : Nat) (v : Int32), q + m = tn → (ev_E G mX7_takeNumber 2 0 0 n M 60 [some (.ref 22), some (.int lo), some (.int hi), some (.int ((rd_num tb m (q, v)).2)), some (.int (nI ((rd_num tb m (q, v)).1))), none] [] Post) → ev_E G mX7_takeNumber 2 0 0 n M 8 [some (.ref 22), some (.int lo), some (.int hi), some (.int (v)), some (.int (nI (q))), none] [] Post := by
  intro m
  induction m with
  | zero =>
    intro q v hk K
    refine ev_iload dX7_takeNumber_8 rfl ?_
    refine ev_aload_n (i := 0) dX7_takeNumber_10 rfl rfl ?_
    refine ev_getf dX7_takeNumber_11 flX7_18 (by first | assumption | exact ev_set_eq) (by rfl) ?_
    refine ev_icmp_ge (tgt := 60) dX7_takeNumber_14 (by decide) (fun h14 => ?_) (fun h14 => False.elim (nI_nlt (a := q) (b := tn) (by omega) (by omega) h14))
    exact K
  | succ m ih =>
    intro q v hk K
    refine ev_iload dX7_takeNumber_8 rfl ?_
    refine ev_aload_n (i := 0) dX7_takeNumber_10 rfl rfl ?_
    refine ev_getf dX7_takeNumber_11 flX7_18 (by first | assumption | exact ev_set_eq) (by rfl) ?_
    refine ev_icmp_ge (tgt := 60) dX7_takeNumber_14 (by decide) (fun h14 => False.elim (nI_ge (a := q) (b := tn) (by omega) (by omega) h14)) (fun h14 => ?_)
    refine ev_aload_n (i := 0) dX7_takeNumber_17 rfl rfl ?_
    refine ev_iload dX7_takeNumber_18 rfl ?_
    refine ev_c2 kX7_takeNumber_20 (c10_at_in (j := q) h23 hTb (by omega) hn) (ev_rv_of (by first | assumption | exact ev_set_eq) rfl rfl) (by decide) (by decide) (Nat.le_of_ble_eq_true rfl) ?_
    refine ev_bipush (v := 48) dX7_takeNumber_23 cnb_48 ?_
    refine ev_bipush (v := 57) dX7_takeNumber_25 cnb_57 ?_
    refine ev_c3 kX7_takeNumber_27 (c12_within) trivial (by decide) (by decide) (Nat.le_of_ble_eq_true rfl) ?_
    refine ev_if_eqb (tgt := 60) dX7_takeNumber_30 (by decide) (fun h30 => ?_) (fun h30 => ?_)
    · skip
      rw [rd_num_0 h30] at K
      exact K
    · skip
      refine ev_sipush (v := 1000) dX7_takeNumber_33 cns_1000 ?_
      refine ev_iload_n (i := 3) dX7_takeNumber_36 rfl rfl ?_
      refine ev_bipush (v := 10) dX7_takeNumber_37 cnb_10 ?_
      refine ev_imul dX7_takeNumber_39 ?_
      refine ev_aload_n (i := 0) dX7_takeNumber_40 rfl rfl ?_
      refine ev_iload dX7_takeNumber_41 rfl ?_
      refine ev_c2 kX7_takeNumber_43 (c10_at_in (j := q) h23 hTb (by omega) hn) (ev_rv_of (by first | assumption | exact ev_set_eq) rfl rfl) (by decide) (by decide) (Nat.le_of_ble_eq_true rfl) ?_
      refine ev_iadd dX7_takeNumber_46 ?_
      refine ev_bipush (v := 48) dX7_takeNumber_47 cnb_48 ?_
      refine ev_isub dX7_takeNumber_49 ?_
      refine ev_min2 dX7_takeNumber_50 maX7_167 (by decide) (Nat.le_of_ble_eq_true rfl) ?_
      refine ev_istore_n (i := 3) dX7_takeNumber_53 rfl (Nat.le_of_ble_eq_true rfl) rfl ?_
      refine ev_iinc (v := nI (q + 1)) dX7_takeNumber_54 rfl (nI_1 q) (Nat.le_of_ble_eq_true rfl) rfl ?_
      refine ev_goto (tgt := 8) dX7_takeNumber_57 (by decide) ?_
      rw [rd_num_1 h30] at K
      exact ih (q + 1) _ (by omega) K
theorem c7_takeNumber_1 {G : ev_G} {n : Nat} {M : ev_M} {tn : Nat} {tb : Nat → Int32} (hTb : M 23 = .inl (0, 400, .inl tb)) (hn : tn ≤ 400) {p : Nat} (h23 : M 22 = .inr (7, [.ref 23, .ref 24, .int (nI (p)), .int (nI tn)])) (hp : p ≤ tn) {lo hi : Int32} (ho : rd_okx p (rd_nm tn tb p).1 (rd_at tn tb p) (rd_nm tn tb p).2 lo hi = true) : ev_Cal G mX7_takeNumber 2 0 0 [.ref 22, .int lo, .int hi] n M (ev_is (some (.int (rd_nm tn tb p).2)) (ev_set M 22 (.inr (7, [.ref 23, .ref 24, .int (nI ((rd_nm tn tb p).1)), .int (nI tn)])))) := by
  refine ev_Cal_of (L := [some (.ref 22), some (.int lo), some (.int hi), none, none, none]) (by decide +kernel) (Nat.le_of_ble_eq_true rfl) rfl ?_
  have hle := rd_num_le (tb := tb) (tn - p) (p, 0)
  simp only at hle
  change p ≤ (rd_nm tn tb p).1 ∧ (rd_nm tn tb p).1 ≤ p + (tn - p) at hle
  refine ev_iconst (v := 0) dX7_takeNumber_0 cni_0 ?_
  refine ev_istore_n (i := 3) dX7_takeNumber_1 rfl (Nat.le_of_ble_eq_true rfl) rfl ?_
  refine ev_aload_n (i := 0) dX7_takeNumber_2 rfl rfl ?_
  refine ev_getf dX7_takeNumber_3 flX7_27 (by first | assumption | exact ev_set_eq) (by rfl) ?_
  refine ev_istore dX7_takeNumber_6 (Nat.le_of_ble_eq_true rfl) rfl ?_
  refine l7_num hTb hn h23 (tn - p) p 0 (by omega) ?_
  change ev_E G mX7_takeNumber 2 0 0 n M 60 [some (.ref 22), some (.int lo), some (.int hi), some (.int ((rd_nm tn tb p).2)), some (.int (nI ((rd_nm tn tb p).1))), none] [] _
  refine ev_iload dX7_takeNumber_60 rfl ?_
  refine ev_aload_n (i := 0) dX7_takeNumber_62 rfl rfl ?_
  refine ev_getf dX7_takeNumber_63 flX7_27 (by first | assumption | exact ev_set_eq) (by rfl) ?_
  refine ev_isub dX7_takeNumber_66 ?_
  refine ev_topi (rd_sub hle.1) ?_
  refine ev_iconst (v := 1) dX7_takeNumber_67 cni_1 ?_
  refine ev_icmp_le (tgt := 88) dX7_takeNumber_68 (by decide) (fun h68 => ?_) (fun h68 => ?_)
  · skip
    refine ev_iconst dX7_takeNumber_88 cni_0 ?_
    refine ev_istore dX7_takeNumber_89 (Nat.le_of_ble_eq_true rfl) rfl ?_
    refine ev_iload dX7_takeNumber_91 rfl ?_
    refine ev_aload_n (i := 0) dX7_takeNumber_93 rfl rfl ?_
    refine ev_getf dX7_takeNumber_94 flX7_27 (by first | assumption | exact ev_set_eq) (by rfl) ?_
    refine ev_icmp_eq (tgt := 114) dX7_takeNumber_97 (by decide) (fun h97 => ?_) (fun h97 => ?_)
    · skip
      refine ev_iconst (v := (-1)) dX7_takeNumber_114 cni_m1 ?_
      exact ev_reti dX7_takeNumber_115 rfl rfl (False.elim (by first | exact absurd h102 (by decide) | exact h102 rfl | exact rd_c1 ho (by omega) h97 | exact rd_c2 ho h68 h81 | exact rd_c3 ho h111))
    · skip
      refine ev_iload dX7_takeNumber_100 rfl ?_
      refine ev_if_ne (tgt := 114) dX7_takeNumber_102 (by decide) (fun h102 => ?_) (fun h102 => ?_)
      · skip
        refine ev_iconst (v := (-1)) dX7_takeNumber_114 cni_m1 ?_
        exact ev_reti dX7_takeNumber_115 rfl rfl (False.elim (by first | exact absurd h102 (by decide) | exact h102 rfl | exact rd_c1 ho (by omega) h97 | exact rd_c2 ho h68 h81 | exact rd_c3 ho h111))
      · skip
        refine ev_iload_n (i := 3) dX7_takeNumber_105 rfl rfl ?_
        refine ev_iload_n (i := 1) dX7_takeNumber_106 rfl rfl ?_
        refine ev_iload_n (i := 2) dX7_takeNumber_107 rfl rfl ?_
        refine ev_c3 kX7_takeNumber_108 (c12_within) trivial (by decide) (by decide) (Nat.le_of_ble_eq_true rfl) ?_
        refine ev_if_neb (tgt := 116) dX7_takeNumber_111 (by decide) (fun h111 => ?_) (fun h111 => ?_)
        · skip
          refine ev_pre1 h23 ?_
          refine ev_aload_n (i := 0) dX7_takeNumber_116 rfl rfl ?_
          refine ev_iload dX7_takeNumber_117 rfl ?_
          refine ev_putiU dX7_takeNumber_119 fpX7_27 (Nat.le_of_ble_eq_true rfl) ?_
          refine ev_iload_n (i := 3) dX7_takeNumber_122 rfl rfl ?_
          exact ev_reti dX7_takeNumber_123 rfl rfl (by first | exact absurd h102 (by decide) | exact absurd rfl h102 | exact ⟨rfl, rfl⟩)
        · skip
          refine ev_iconst (v := (-1)) dX7_takeNumber_114 cni_m1 ?_
          exact ev_reti dX7_takeNumber_115 rfl rfl (False.elim (by first | exact absurd h102 (by decide) | exact h102 rfl | exact rd_c1 ho (by omega) h97 | exact rd_c2 ho h68 h81 | exact rd_c3 ho h111))
  · skip
    refine ev_aload_n (i := 0) dX7_takeNumber_71 rfl rfl ?_
    refine ev_aload_n (i := 0) dX7_takeNumber_72 rfl rfl ?_
    refine ev_getf dX7_takeNumber_73 flX7_27 (by first | assumption | exact ev_set_eq) (by rfl) ?_
    refine ev_c2 kX7_takeNumber_76 (c10_at h23 hTb hn (i := p) (by omega)) (ev_rv_of (by first | assumption | exact ev_set_eq) rfl rfl) (by decide) (by decide) (Nat.le_of_ble_eq_true rfl) ?_
    refine ev_bipush (v := 48) dX7_takeNumber_79 cnb_48 ?_
    refine ev_icmp_ne (tgt := 88) dX7_takeNumber_81 (by decide) (fun h81 => ?_) (fun h81 => ?_)
    · skip
      refine ev_iconst dX7_takeNumber_88 cni_0 ?_
      refine ev_istore dX7_takeNumber_89 (Nat.le_of_ble_eq_true rfl) rfl ?_
      refine ev_iload dX7_takeNumber_91 rfl ?_
      refine ev_aload_n (i := 0) dX7_takeNumber_93 rfl rfl ?_
      refine ev_getf dX7_takeNumber_94 flX7_27 (by first | assumption | exact ev_set_eq) (by rfl) ?_
      refine ev_icmp_eq (tgt := 114) dX7_takeNumber_97 (by decide) (fun h97 => ?_) (fun h97 => ?_)
      · skip
        refine ev_iconst (v := (-1)) dX7_takeNumber_114 cni_m1 ?_
        exact ev_reti dX7_takeNumber_115 rfl rfl (False.elim (by first | exact absurd h102 (by decide) | exact h102 rfl | exact rd_c1 ho (by omega) h97 | exact rd_c2 ho h68 h81 | exact rd_c3 ho h111))
      · skip
        refine ev_iload dX7_takeNumber_100 rfl ?_
        refine ev_if_ne (tgt := 114) dX7_takeNumber_102 (by decide) (fun h102 => ?_) (fun h102 => ?_)
        · skip
          refine ev_iconst (v := (-1)) dX7_takeNumber_114 cni_m1 ?_
          exact ev_reti dX7_takeNumber_115 rfl rfl (False.elim (by first | exact absurd h102 (by decide) | exact h102 rfl | exact rd_c1 ho (by omega) h97 | exact rd_c2 ho h68 h81 | exact rd_c3 ho h111))
        · skip
          refine ev_iload_n (i := 3) dX7_takeNumber_105 rfl rfl ?_
          refine ev_iload_n (i := 1) dX7_takeNumber_106 rfl rfl ?_
          refine ev_iload_n (i := 2) dX7_takeNumber_107 rfl rfl ?_
          refine ev_c3 kX7_takeNumber_108 (c12_within) trivial (by decide) (by decide) (Nat.le_of_ble_eq_true rfl) ?_
          refine ev_if_neb (tgt := 116) dX7_takeNumber_111 (by decide) (fun h111 => ?_) (fun h111 => ?_)
          · skip
            refine ev_pre1 h23 ?_
            refine ev_aload_n (i := 0) dX7_takeNumber_116 rfl rfl ?_
            refine ev_iload dX7_takeNumber_117 rfl ?_
            refine ev_putiU dX7_takeNumber_119 fpX7_27 (Nat.le_of_ble_eq_true rfl) ?_
            refine ev_iload_n (i := 3) dX7_takeNumber_122 rfl rfl ?_
            exact ev_reti dX7_takeNumber_123 rfl rfl (by first | exact absurd h102 (by decide) | exact absurd rfl h102 | exact ⟨rfl, rfl⟩)
          · skip
            refine ev_iconst (v := (-1)) dX7_takeNumber_114 cni_m1 ?_
            exact ev_reti dX7_takeNumber_115 rfl rfl (False.elim (by first | exact absurd h102 (by decide) | exact h102 rfl | exact rd_c1 ho (by omega) h97 | exact rd_c2 ho h68 h81 | exact rd_c3 ho h111))
    · skip
      refine ev_iconst (v := 1) dX7_takeNumber_84 cni_1 ?_
      refine ev_goto (tgt := 89) dX7_takeNumber_85 (by decide) ?_
      refine ev_istore dX7_takeNumber_89 (Nat.le_of_ble_eq_true rfl) rfl ?_
      refine ev_iload dX7_takeNumber_91 rfl ?_
      refine ev_aload_n (i := 0) dX7_takeNumber_93 rfl rfl ?_
      refine ev_getf dX7_takeNumber_94 flX7_27 (by first | assumption | exact ev_set_eq) (by rfl) ?_
      refine ev_icmp_eq (tgt := 114) dX7_takeNumber_97 (by decide) (fun h97 => ?_) (fun h97 => ?_)
      · skip
        refine ev_iconst (v := (-1)) dX7_takeNumber_114 cni_m1 ?_
        exact ev_reti dX7_takeNumber_115 rfl rfl (False.elim (by first | exact absurd h102 (by decide) | exact h102 rfl | exact rd_c1 ho (by omega) h97 | exact rd_c2 ho h68 h81 | exact rd_c3 ho h111))
      · skip
        refine ev_iload dX7_takeNumber_100 rfl ?_
        refine ev_if_ne (tgt := 114) dX7_takeNumber_102 (by decide) (fun h102 => ?_) (fun h102 => ?_)
        · skip
          refine ev_iconst (v := (-1)) dX7_takeNumber_114 cni_m1 ?_
          exact ev_reti dX7_takeNumber_115 rfl rfl (False.elim (by first | exact absurd h102 (by decide) | exact h102 rfl | exact rd_c1 ho (by omega) h97 | exact rd_c2 ho h68 h81 | exact rd_c3 ho h111))
        · skip
          refine ev_iload_n (i := 3) dX7_takeNumber_105 rfl rfl ?_
          refine ev_iload_n (i := 1) dX7_takeNumber_106 rfl rfl ?_
          refine ev_iload_n (i := 2) dX7_takeNumber_107 rfl rfl ?_
          refine ev_c3 kX7_takeNumber_108 (c12_within) trivial (by decide) (by decide) (Nat.le_of_ble_eq_true rfl) ?_
          refine ev_if_neb (tgt := 116) dX7_takeNumber_111 (by decide) (fun h111 => ?_) (fun h111 => ?_)
          · skip
            refine ev_pre1 h23 ?_
            refine ev_aload_n (i := 0) dX7_takeNumber_116 rfl rfl ?_
            refine ev_iload dX7_takeNumber_117 rfl ?_
            refine ev_putiU dX7_takeNumber_119 fpX7_27 (Nat.le_of_ble_eq_true rfl) ?_
            refine ev_iload_n (i := 3) dX7_takeNumber_122 rfl rfl ?_
            exact ev_reti dX7_takeNumber_123 rfl rfl (by first | exact absurd h102 (by decide) | exact absurd rfl h102 | exact ⟨rfl, rfl⟩)
          · skip
            refine ev_iconst (v := (-1)) dX7_takeNumber_114 cni_m1 ?_
            exact ev_reti dX7_takeNumber_115 rfl rfl (False.elim (by first | exact absurd h102 (by decide) | exact h102 rfl | exact rd_c1 ho (by omega) h97 | exact rd_c2 ho h68 h81 | exact rd_c3 ho h111))
theorem c7_takeNumber_0 {G : ev_G} {n : Nat} {M : ev_M} {tn : Nat} {tb : Nat → Int32} (hTb : M 23 = .inl (0, 400, .inl tb)) (hn : tn ≤ 400) {p : Nat} (h23 : M 22 = .inr (7, [.ref 23, .ref 24, .int (nI (p)), .int (nI tn)])) (hp : p ≤ tn) {lo hi : Int32} (ho : rd_okx p (rd_nm tn tb p).1 (rd_at tn tb p) (rd_nm tn tb p).2 lo hi = false) : ev_Cal G mX7_takeNumber 2 0 0 [.ref 22, .int lo, .int hi] n M (ev_is (some (.int (-1))) M) := by
  refine ev_Cal_of (L := [some (.ref 22), some (.int lo), some (.int hi), none, none, none]) (by decide +kernel) (Nat.le_of_ble_eq_true rfl) rfl ?_
  have hle := rd_num_le (tb := tb) (tn - p) (p, 0)
  simp only at hle
  change p ≤ (rd_nm tn tb p).1 ∧ (rd_nm tn tb p).1 ≤ p + (tn - p) at hle
  refine ev_iconst (v := 0) dX7_takeNumber_0 cni_0 ?_
  refine ev_istore_n (i := 3) dX7_takeNumber_1 rfl (Nat.le_of_ble_eq_true rfl) rfl ?_
  refine ev_aload_n (i := 0) dX7_takeNumber_2 rfl rfl ?_
  refine ev_getf dX7_takeNumber_3 flX7_27 (by first | assumption | exact ev_set_eq) (by rfl) ?_
  refine ev_istore dX7_takeNumber_6 (Nat.le_of_ble_eq_true rfl) rfl ?_
  refine l7_num hTb hn h23 (tn - p) p 0 (by omega) ?_
  change ev_E G mX7_takeNumber 2 0 0 n M 60 [some (.ref 22), some (.int lo), some (.int hi), some (.int ((rd_nm tn tb p).2)), some (.int (nI ((rd_nm tn tb p).1))), none] [] _
  refine ev_iload dX7_takeNumber_60 rfl ?_
  refine ev_aload_n (i := 0) dX7_takeNumber_62 rfl rfl ?_
  refine ev_getf dX7_takeNumber_63 flX7_27 (by first | assumption | exact ev_set_eq) (by rfl) ?_
  refine ev_isub dX7_takeNumber_66 ?_
  refine ev_topi (rd_sub hle.1) ?_
  refine ev_iconst (v := 1) dX7_takeNumber_67 cni_1 ?_
  refine ev_icmp_le (tgt := 88) dX7_takeNumber_68 (by decide) (fun h68 => ?_) (fun h68 => ?_)
  · skip
    refine ev_iconst dX7_takeNumber_88 cni_0 ?_
    refine ev_istore dX7_takeNumber_89 (Nat.le_of_ble_eq_true rfl) rfl ?_
    refine ev_iload dX7_takeNumber_91 rfl ?_
    refine ev_aload_n (i := 0) dX7_takeNumber_93 rfl rfl ?_
    refine ev_getf dX7_takeNumber_94 flX7_27 (by first | assumption | exact ev_set_eq) (by rfl) ?_
    refine ev_icmp_eq (tgt := 114) dX7_takeNumber_97 (by decide) (fun h97 => ?_) (fun h97 => ?_)
    · skip
      refine ev_iconst (v := (-1)) dX7_takeNumber_114 cni_m1 ?_
      exact ev_reti dX7_takeNumber_115 rfl rfl (⟨rfl, rfl⟩)
    · skip
      refine ev_iload dX7_takeNumber_100 rfl ?_
      refine ev_if_ne (tgt := 114) dX7_takeNumber_102 (by decide) (fun h102 => ?_) (fun h102 => ?_)
      · skip
        refine ev_iconst (v := (-1)) dX7_takeNumber_114 cni_m1 ?_
        exact ev_reti dX7_takeNumber_115 rfl rfl (⟨rfl, rfl⟩)
      · skip
        refine ev_iload_n (i := 3) dX7_takeNumber_105 rfl rfl ?_
        refine ev_iload_n (i := 1) dX7_takeNumber_106 rfl rfl ?_
        refine ev_iload_n (i := 2) dX7_takeNumber_107 rfl rfl ?_
        refine ev_c3 kX7_takeNumber_108 (c12_within) trivial (by decide) (by decide) (Nat.le_of_ble_eq_true rfl) ?_
        refine ev_if_neb (tgt := 116) dX7_takeNumber_111 (by decide) (fun h111 => ?_) (fun h111 => ?_)
        · skip
          exact False.elim (by first | exact absurd h102 (by decide) | exact absurd rfl h102 | exact rd_d1 ho hle.1 (by omega) h97 h68 h111 | exact rd_d2 ho hle.1 h97 h81 h111)
        · skip
          refine ev_iconst (v := (-1)) dX7_takeNumber_114 cni_m1 ?_
          exact ev_reti dX7_takeNumber_115 rfl rfl (⟨rfl, rfl⟩)
  · skip
    refine ev_aload_n (i := 0) dX7_takeNumber_71 rfl rfl ?_
    refine ev_aload_n (i := 0) dX7_takeNumber_72 rfl rfl ?_
    refine ev_getf dX7_takeNumber_73 flX7_27 (by first | assumption | exact ev_set_eq) (by rfl) ?_
    refine ev_c2 kX7_takeNumber_76 (c10_at h23 hTb hn (i := p) (by omega)) (ev_rv_of (by first | assumption | exact ev_set_eq) rfl rfl) (by decide) (by decide) (Nat.le_of_ble_eq_true rfl) ?_
    refine ev_bipush (v := 48) dX7_takeNumber_79 cnb_48 ?_
    refine ev_icmp_ne (tgt := 88) dX7_takeNumber_81 (by decide) (fun h81 => ?_) (fun h81 => ?_)
    · skip
      refine ev_iconst dX7_takeNumber_88 cni_0 ?_
      refine ev_istore dX7_takeNumber_89 (Nat.le_of_ble_eq_true rfl) rfl ?_
      refine ev_iload dX7_takeNumber_91 rfl ?_
      refine ev_aload_n (i := 0) dX7_takeNumber_93 rfl rfl ?_
      refine ev_getf dX7_takeNumber_94 flX7_27 (by first | assumption | exact ev_set_eq) (by rfl) ?_
      refine ev_icmp_eq (tgt := 114) dX7_takeNumber_97 (by decide) (fun h97 => ?_) (fun h97 => ?_)
      · skip
        refine ev_iconst (v := (-1)) dX7_takeNumber_114 cni_m1 ?_
        exact ev_reti dX7_takeNumber_115 rfl rfl (⟨rfl, rfl⟩)
      · skip
        refine ev_iload dX7_takeNumber_100 rfl ?_
        refine ev_if_ne (tgt := 114) dX7_takeNumber_102 (by decide) (fun h102 => ?_) (fun h102 => ?_)
        · skip
          refine ev_iconst (v := (-1)) dX7_takeNumber_114 cni_m1 ?_
          exact ev_reti dX7_takeNumber_115 rfl rfl (⟨rfl, rfl⟩)
        · skip
          refine ev_iload_n (i := 3) dX7_takeNumber_105 rfl rfl ?_
          refine ev_iload_n (i := 1) dX7_takeNumber_106 rfl rfl ?_
          refine ev_iload_n (i := 2) dX7_takeNumber_107 rfl rfl ?_
          refine ev_c3 kX7_takeNumber_108 (c12_within) trivial (by decide) (by decide) (Nat.le_of_ble_eq_true rfl) ?_
          refine ev_if_neb (tgt := 116) dX7_takeNumber_111 (by decide) (fun h111 => ?_) (fun h111 => ?_)
          · skip
            exact False.elim (by first | exact absurd h102 (by decide) | exact absurd rfl h102 | exact rd_d1 ho hle.1 (by omega) h97 h68 h111 | exact rd_d2 ho hle.1 h97 h81 h111)
          · skip
            refine ev_iconst (v := (-1)) dX7_takeNumber_114 cni_m1 ?_
            exact ev_reti dX7_takeNumber_115 rfl rfl (⟨rfl, rfl⟩)
    · skip
      refine ev_iconst (v := 1) dX7_takeNumber_84 cni_1 ?_
      refine ev_goto (tgt := 89) dX7_takeNumber_85 (by decide) ?_
      refine ev_istore dX7_takeNumber_89 (Nat.le_of_ble_eq_true rfl) rfl ?_
      refine ev_iload dX7_takeNumber_91 rfl ?_
      refine ev_aload_n (i := 0) dX7_takeNumber_93 rfl rfl ?_
      refine ev_getf dX7_takeNumber_94 flX7_27 (by first | assumption | exact ev_set_eq) (by rfl) ?_
      refine ev_icmp_eq (tgt := 114) dX7_takeNumber_97 (by decide) (fun h97 => ?_) (fun h97 => ?_)
      · skip
        refine ev_iconst (v := (-1)) dX7_takeNumber_114 cni_m1 ?_
        exact ev_reti dX7_takeNumber_115 rfl rfl (⟨rfl, rfl⟩)
      · skip
        refine ev_iload dX7_takeNumber_100 rfl ?_
        refine ev_if_ne (tgt := 114) dX7_takeNumber_102 (by decide) (fun h102 => ?_) (fun h102 => ?_)
        · skip
          refine ev_iconst (v := (-1)) dX7_takeNumber_114 cni_m1 ?_
          exact ev_reti dX7_takeNumber_115 rfl rfl (⟨rfl, rfl⟩)
        · skip
          refine ev_iload_n (i := 3) dX7_takeNumber_105 rfl rfl ?_
          refine ev_iload_n (i := 1) dX7_takeNumber_106 rfl rfl ?_
          refine ev_iload_n (i := 2) dX7_takeNumber_107 rfl rfl ?_
          refine ev_c3 kX7_takeNumber_108 (c12_within) trivial (by decide) (by decide) (Nat.le_of_ble_eq_true rfl) ?_
          refine ev_if_neb (tgt := 116) dX7_takeNumber_111 (by decide) (fun h111 => ?_) (fun h111 => ?_)
          · skip
            exact False.elim (by first | exact absurd h102 (by decide) | exact absurd rfl h102 | exact rd_d1 ho hle.1 (by omega) h97 h68 h111 | exact rd_d2 ho hle.1 h97 h81 h111)
          · skip
            refine ev_iconst (v := (-1)) dX7_takeNumber_114 cni_m1 ?_
            exact ev_reti dX7_takeNumber_115 rfl rfl (⟨rfl, rfl⟩)
