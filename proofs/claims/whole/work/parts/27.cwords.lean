/-! ===== contracts: the reader: words, rows of numbers ===== -/
theorem l7_word {G : ev_G} {n : Nat} {M : ev_M} {tn : Nat} {tb : Nat → Int32} (hTb : M 23 = .inl (0, 400, .inl tb)) (hn : tn ≤ 400) {i : Nat} (hi : i < 5) (hsio : ev_hs G) {q : Nat} (hq : q ≤ tn) {Post : Option Value → ev_M → Prop} (K1 : (∀ j, j < ch_n i → rd_at tn tb (q + j) = ch_at i j) → ev_E G mX7_takeWord 5 0 0 n (ev_set M 22 (.inr (7, [.ref 23, .ref 24, .int (nI (q)), .int (nI tn)]))) 42 [some (.ref 22), some (.ref (9 + i)), some (.int (nI (ch_n i))), some (.int (nI (ch_n i)))] [] Post) (K0 : ∀ k, k < ch_n i → ¬ rd_at tn tb (q + k) = ch_at i k → ev_E G mX7_takeWord 5 0 0 n (ev_set M 22 (.inr (7, [.ref 23, .ref 24, .int (nI (q)), .int (nI tn)]))) 34 [some (.ref 22), some (.ref (9 + i)), some (.int (nI (ch_n i))), some (.int (nI (k)))] [] Post) : ∀ (m k : Nat), k + m = ch_n i → (∀ j, j < k → rd_at tn tb (q + j) = ch_at i j) → ev_E G mX7_takeWord 5 0 0 n (ev_set M 22 (.inr (7, [.ref 23, .ref 24, .int (nI (q)), .int (nI tn)]))) 11 [some (.ref 22), some (.ref (9 + i)), some (.int (nI (ch_n i))), some (.int (nI (k)))] [] Post := by
  intro m
  induction m with
  | zero =>
    intro k hk hall
    refine ev_iload_n (i := 3) dX7_takeWord_11 rfl rfl ?_
    refine ev_iload_n (i := 2) dX7_takeWord_12 rfl rfl ?_
    refine ev_icmp_ge (tgt := 42) dX7_takeWord_13 (by decide) (fun h13 => ?_) (fun h13 => False.elim (nI_nlt (a := k) (b := ch_n i) (by omega) (by have := (ch_len i hi).2; omega) h13))
    have e : k = ch_n i := by omega
    rw [e] at hall ⊢
    exact K1 hall
  | succ m ih =>
    intro k hk hall
    refine ev_iload_n (i := 3) dX7_takeWord_11 rfl rfl ?_
    refine ev_iload_n (i := 2) dX7_takeWord_12 rfl rfl ?_
    refine ev_icmp_ge (tgt := 42) dX7_takeWord_13 (by decide) (fun h13 => False.elim (nI_ge (a := k) (b := ch_n i) (by omega) (by have := (ch_len i hi).2; omega) h13)) (fun h13 => ?_)
    refine ev_aload_n (i := 0) dX7_takeWord_16 rfl rfl ?_
    refine ev_aload_n (i := 0) dX7_takeWord_17 rfl rfl ?_
    refine ev_getf dX7_takeWord_18 flX7_27 (by first | exact ev_set_eq | exact h23) (by rfl) ?_
    refine ev_iload_n (i := 3) dX7_takeWord_21 rfl rfl ?_
    refine ev_iadd dX7_takeWord_22 ?_
    refine ev_topi (nI_add q k) ?_
    refine ev_c2 kX7_takeWord_23 (c10_at ev_set_eq ((ev_set_ne (by decide)).trans hTb) hn (i := q + k) (by have := (ch_len i hi).2; omega)) (ev_rv_of (by first | exact ev_set_eq | exact h23) rfl rfl) (by decide) (by decide) (Nat.le_of_ble_eq_true rfl) ?_
    refine ev_aload_n (i := 1) dX7_takeWord_26 rfl rfl ?_
    refine ev_iload_n (i := 3) dX7_takeWord_27 rfl rfl ?_
    refine ev_c2 kX7_takeWord_28 (cJ0_charAt hi (j := k) (by omega) hsio) (ev_rv_s (by assumption)) (by decide) (by decide) (Nat.le_of_ble_eq_true rfl) ?_
    refine ev_icmp_eq (tgt := 36) dX7_takeWord_31 (by decide) (fun h31 => ?_) (fun h31 => ?_)
    · skip
      refine ev_iinc (v := nI (k + 1)) dX7_takeWord_36 rfl (nI_1 k) (Nat.le_of_ble_eq_true rfl) rfl ?_
      refine ev_goto (tgt := 11) dX7_takeWord_39 (by decide) ?_
      exact ih (k + 1) (by omega) (fun j hj => by rcases Nat.lt_succ_iff_lt_or_eq.mp hj with z | rfl; exact hall j z; exact h31)
    · skip
      exact K0 k (by omega) h31
theorem c7_takeWord_1 {G : ev_G} {n : Nat} {M : ev_M} {tn : Nat} {tb : Nat → Int32} (hTb : M 23 = .inl (0, 400, .inl tb)) (hn : tn ≤ 400) {i : Nat} (hi : i < 5) (hsio : ev_hs G) {p : Nat} (h23 : M 22 = .inr (7, [.ref 23, .ref 24, .int (nI (p)), .int (nI tn)])) (hp : p ≤ tn) (hall : ∀ j, j < ch_n i → rd_at tn tb ((rd_skip tn tb p) + j) = ch_at i j) (hlet : sp_in (rd_at tn tb ((rd_skip tn tb p) + ch_n i)) 97 122 = false) : ev_Cal G mX7_takeWord 5 0 0 [.ref 22, .ref (9 + i)] n M (ev_is (some (.int 1)) (ev_set M 22 (.inr (7, [.ref 23, .ref 24, .int (nI ((rd_skip tn tb p) + ch_n i)), .int (nI tn)])))) := by
  refine ev_Cal_of (L := [some (.ref 22), some (.ref (9 + i)), none, none]) (by decide +kernel) (Nat.le_of_ble_eq_true rfl) rfl ?_
  have hs := (rd_skip_le (tb := tb) hp).2
  refine ev_aload_n (i := 0) dX7_takeWord_0 rfl rfl ?_
  refine ev_w1 kX7_takeWord_1 (c7_skip hTb hn h23 hp) (ev_rv_of (by first | exact ev_set_eq | exact h23) rfl rfl) (by decide) (by decide) (Nat.le_of_ble_eq_true rfl) ?_
  refine ev_aload_n (i := 1) dX7_takeWord_4 rfl rfl ?_
  refine ev_c1 kX7_takeWord_5 (cJ0_length hi) (ev_rv_s (by assumption)) (by decide) (by decide) (Nat.le_of_ble_eq_true rfl) ?_
  refine ev_istore_n (i := 2) dX7_takeWord_8 rfl (Nat.le_of_ble_eq_true rfl) rfl ?_
  refine ev_iconst (v := 0) dX7_takeWord_9 cni_0 ?_
  refine ev_istore_n (i := 3) dX7_takeWord_10 rfl (Nat.le_of_ble_eq_true rfl) rfl ?_
  refine l7_word hTb hn hi hsio (q := (rd_skip tn tb p)) hs (fun hall => ?_) (fun k hk hne => ?_) (ch_n i) 0 (Nat.zero_add _) (fun j hj => absurd hj (Nat.not_lt_zero j))
  · skip
    refine ev_aload_n (i := 0) dX7_takeWord_42 rfl rfl ?_
    refine ev_aload_n (i := 0) dX7_takeWord_43 rfl rfl ?_
    refine ev_getf dX7_takeWord_44 flX7_27 (by first | exact ev_set_eq | exact h23) (by rfl) ?_
    refine ev_iload_n (i := 2) dX7_takeWord_47 rfl rfl ?_
    refine ev_iadd dX7_takeWord_48 ?_
    refine ev_topi (nI_add (rd_skip tn tb p) (ch_n i)) ?_
    refine ev_c2 kX7_takeWord_49 (c10_at ev_set_eq ((ev_set_ne (by decide)).trans hTb) hn (i := (rd_skip tn tb p) + ch_n i) (by have := (ch_len i hi).2; omega)) (ev_rv_of (by first | exact ev_set_eq | exact h23) rfl rfl) (by decide) (by decide) (Nat.le_of_ble_eq_true rfl) ?_
    refine ev_bipush (v := 97) dX7_takeWord_52 cnb_97 ?_
    refine ev_bipush (v := 122) dX7_takeWord_54 cnb_122 ?_
    refine ev_c3 kX7_takeWord_56 (c12_within) trivial (by decide) (by decide) (Nat.le_of_ble_eq_true rfl) ?_
    refine ev_if_eqb (tgt := 64) dX7_takeWord_59 (by decide) (fun h59 => ?_) (fun h59 => False.elim (Bool.false_ne_true (hlet.symm.trans h59)))
    refine ev_aload_n (i := 0) dX7_takeWord_64 rfl rfl ?_
    refine ev_dup dX7_takeWord_65 rfl ?_
    refine ev_getf dX7_takeWord_66 flX7_27 (by first | exact ev_set_eq | exact h23) (by rfl) ?_
    refine ev_iload_n (i := 2) dX7_takeWord_69 rfl rfl ?_
    refine ev_iadd dX7_takeWord_70 ?_
    refine ev_topi (nI_add (rd_skip tn tb p) (ch_n i)) ?_
    refine ev_putiU dX7_takeWord_71 fpX7_27 (Nat.le_of_ble_eq_true rfl) ?_
    refine ev_iconst (v := 1) dX7_takeWord_74 cni_1 ?_
    exact ev_reti dX7_takeWord_75 rfl rfl (⟨rfl, rfl⟩)
  · skip
    exact absurd (hall k hk) hne
theorem c7_takeWord_0 {G : ev_G} {n : Nat} {M : ev_M} {tn : Nat} {tb : Nat → Int32} (hTb : M 23 = .inl (0, 400, .inl tb)) (hn : tn ≤ 400) {i : Nat} (hi : i < 5) (hsio : ev_hs G) {p : Nat} (h23 : M 22 = .inr (7, [.ref 23, .ref 24, .int (nI (p)), .int (nI tn)])) (hp : p ≤ tn) (hno : (∀ j, j < ch_n i → rd_at tn tb ((rd_skip tn tb p) + j) = ch_at i j) → sp_in (rd_at tn tb ((rd_skip tn tb p) + ch_n i)) 97 122 = true) : ev_Cal G mX7_takeWord 5 0 0 [.ref 22, .ref (9 + i)] n M (ev_is (some (.int 0)) (ev_set M 22 (.inr (7, [.ref 23, .ref 24, .int (nI ((rd_skip tn tb p))), .int (nI tn)])))) := by
  refine ev_Cal_of (L := [some (.ref 22), some (.ref (9 + i)), none, none]) (by decide +kernel) (Nat.le_of_ble_eq_true rfl) rfl ?_
  have hs := (rd_skip_le (tb := tb) hp).2
  refine ev_aload_n (i := 0) dX7_takeWord_0 rfl rfl ?_
  refine ev_w1 kX7_takeWord_1 (c7_skip hTb hn h23 hp) (ev_rv_of (by first | exact ev_set_eq | exact h23) rfl rfl) (by decide) (by decide) (Nat.le_of_ble_eq_true rfl) ?_
  refine ev_aload_n (i := 1) dX7_takeWord_4 rfl rfl ?_
  refine ev_c1 kX7_takeWord_5 (cJ0_length hi) (ev_rv_s (by assumption)) (by decide) (by decide) (Nat.le_of_ble_eq_true rfl) ?_
  refine ev_istore_n (i := 2) dX7_takeWord_8 rfl (Nat.le_of_ble_eq_true rfl) rfl ?_
  refine ev_iconst (v := 0) dX7_takeWord_9 cni_0 ?_
  refine ev_istore_n (i := 3) dX7_takeWord_10 rfl (Nat.le_of_ble_eq_true rfl) rfl ?_
  refine l7_word hTb hn hi hsio (q := (rd_skip tn tb p)) hs (fun hall => ?_) (fun k hk hne => ?_) (ch_n i) 0 (Nat.zero_add _) (fun j hj => absurd hj (Nat.not_lt_zero j))
  · skip
    refine ev_aload_n (i := 0) dX7_takeWord_42 rfl rfl ?_
    refine ev_aload_n (i := 0) dX7_takeWord_43 rfl rfl ?_
    refine ev_getf dX7_takeWord_44 flX7_27 (by first | exact ev_set_eq | exact h23) (by rfl) ?_
    refine ev_iload_n (i := 2) dX7_takeWord_47 rfl rfl ?_
    refine ev_iadd dX7_takeWord_48 ?_
    refine ev_topi (nI_add (rd_skip tn tb p) (ch_n i)) ?_
    refine ev_c2 kX7_takeWord_49 (c10_at ev_set_eq ((ev_set_ne (by decide)).trans hTb) hn (i := (rd_skip tn tb p) + ch_n i) (by have := (ch_len i hi).2; omega)) (ev_rv_of (by first | exact ev_set_eq | exact h23) rfl rfl) (by decide) (by decide) (Nat.le_of_ble_eq_true rfl) ?_
    refine ev_bipush (v := 97) dX7_takeWord_52 cnb_97 ?_
    refine ev_bipush (v := 122) dX7_takeWord_54 cnb_122 ?_
    refine ev_c3 kX7_takeWord_56 (c12_within) trivial (by decide) (by decide) (Nat.le_of_ble_eq_true rfl) ?_
    refine ev_if_eqb (tgt := 64) dX7_takeWord_59 (by decide) (fun h59 => False.elim (Bool.false_ne_true (h59.symm.trans (hno hall)))) (fun h59 => ?_)
    refine ev_iconst (v := 0) dX7_takeWord_62 cni_0 ?_
    exact ev_reti dX7_takeWord_63 rfl rfl (⟨rfl, rfl⟩)
  · skip
    refine ev_iconst (v := 0) dX7_takeWord_34 cni_0 ?_
    exact ev_reti dX7_takeWord_35 rfl rfl (⟨rfl, rfl⟩)
abbrev rd_V (tn : Nat) (tb : Nat → Int32) (p : Nat) (lo hi : Int32) : Bool := rd_okx p (rd_nm tn tb p).1 (rd_at tn tb p) (rd_nm tn tb p).2 lo hi
def rd_nums (tn : Nat) (tb : Nat → Int32) (lo hi : Nat → Int32) : Nat → Nat → Nat → (Nat → Int32) → Bool × Nat × (Nat → Int32)
  | 0, _, p, nm => (true, p, nm)
  | m + 1, k, p, nm => if rd_V tn tb (rd_skip tn tb p) (lo k) (hi k) = true then rd_nums tn tb lo hi m (k + 1) (rd_nm tn tb (rd_skip tn tb p)).1 (upd nm k (rd_nm tn tb (rd_skip tn tb p)).2) else (false, rd_skip tn tb p, upd nm k (-1))
theorem rd_nums_1 {tn : Nat} {tb lo hi : Nat → Int32} {m k p : Nat} {nm : Nat → Int32} (h : rd_V tn tb (rd_skip tn tb p) (lo k) (hi k) = true) : rd_nums tn tb lo hi (m + 1) k p nm = rd_nums tn tb lo hi m (k + 1) (rd_nm tn tb (rd_skip tn tb p)).1 (upd nm k (rd_nm tn tb (rd_skip tn tb p)).2) := by rw [rd_nums, if_pos h]
theorem rd_nums_0 {tn : Nat} {tb lo hi : Nat → Int32} {m k p : Nat} {nm : Nat → Int32} (h : rd_V tn tb (rd_skip tn tb p) (lo k) (hi k) = false) : rd_nums tn tb lo hi (m + 1) k p nm = (false, rd_skip tn tb p, upd nm k (-1)) := by rw [rd_nums, if_neg (by rw [h]; decide)]
theorem rd_upd {nm : Nat → Int32} {k : Nat} {v : Int32} : upd nm k v k = v := if_pos rfl
theorem rd_out {M : ev_M} {a : Nat} {x0 x1 : ev_MC} (h : ¬ a = 22 ∧ ¬ a = 24) : ev_ml M [(22, x0), (24, x1)] a = M a := ev_ml_out _ (by simp only [List.map_cons, List.map_nil, List.mem_cons, List.not_mem_nil, or_false, not_or]; omega)
theorem rd_in0 {v lo hi : Int32} (h : sp_in v lo hi = true) (h0 : 0 ≤ lo) : 0 ≤ v := by
  simp only [sp_in, Bool.and_eq_true, decide_eq_true_eq] at h
  exact Int32.le_trans h0 h.1
theorem rd_nm_le {tn : Nat} {tb : Nat → Int32} {p : Nat} (hp : p ≤ tn) : p ≤ (rd_nm tn tb p).1 ∧ (rd_nm tn tb p).1 ≤ tn := by
  have h := rd_num_le (tb := tb) (tn - p) (p, 0)
  unfold rd_nm
  simp only at h
  omega
theorem l7_nums {G : ev_G} {n : Nat} {M : ev_M} {tn : Nat} {tb : Nat → Int32} (hTb : M 23 = .inl (0, 400, .inl tb)) (hn : tn ≤ 400) {a b N : Nat} (ha : a < 8) (hb : b < 8) (hla : (ev_stA a).length = N) (hlb : (ev_stA b).length = N) (hN : N ≤ 6) (hlo : ∀ k, k < N → 0 ≤ (ev_stA a).getD k 0) : ∀ (m k p : Nat) (nm : Nat → Int32), k + m = N → p ≤ tn → ev_E G mX7_takeNumbers 3 0 0 n (ev_ml M [(22, .inr (7, [.ref 23, .ref 24, .int (nI (p)), .int (nI tn)])), (24, .inl (0, 6, .inl nm))]) 2 [some (.ref 22), some (.ref (1 + a)), some (.ref (1 + b)), some (.int (nI (k)))] [] (ev_is (some (.int (ev_b (rd_nums tn tb (fun k => (ev_stA a).getD k 0) (fun k => (ev_stA b).getD k 0) (m) (k) (p) nm).1))) (ev_ml M [(22, .inr (7, [.ref 23, .ref 24, .int (nI ((rd_nums tn tb (fun k => (ev_stA a).getD k 0) (fun k => (ev_stA b).getD k 0) (m) (k) (p) nm).2.1)), .int (nI tn)])), (24, .inl (0, 6, .inl (rd_nums tn tb (fun k => (ev_stA a).getD k 0) (fun k => (ev_stA b).getD k 0) (m) (k) (p) nm).2.2))])) := by
  intro m
  induction m with
  | zero =>
    intro k p nm hk hp
    refine ev_iload_n (i := 3) dX7_takeNumbers_2 rfl rfl ?_
    refine ev_aload_n (i := 1) dX7_takeNumbers_3 rfl rfl ?_
    refine ev_alS (a := a) (v := nI N) dX7_takeNumbers_4 ha (by rw [hla]; rfl) ?_
    refine ev_icmp_ge (tgt := 60) dX7_takeNumbers_5 (by decide) (fun h5 => ?_) (fun h5 => False.elim (nI_nlt (a := k) (b := N) (by omega) (by omega) h5))
    refine ev_iconst (v := 1) dX7_takeNumbers_60 cni_1 ?_
    exact ev_reti dX7_takeNumbers_61 rfl rfl (⟨rfl, rfl⟩)
  | succ m ih =>
    intro k p nm hk hp
    have hs := (rd_skip_le (tb := tb) hp).2
    have hne := (rd_nm_le (tb := tb) hs).2
    cases ho : rd_V tn tb (rd_skip tn tb p) ((ev_stA a).getD k 0) ((ev_stA b).getD k 0)
    · skip
      refine ev_iload_n (i := 3) dX7_takeNumbers_2 rfl rfl ?_
      refine ev_aload_n (i := 1) dX7_takeNumbers_3 rfl rfl ?_
      refine ev_alS (a := a) (v := nI N) dX7_takeNumbers_4 ha (by rw [hla]; rfl) ?_
      refine ev_icmp_ge (tgt := 60) dX7_takeNumbers_5 (by decide) (fun h5 => False.elim (nI_ge (a := k) (b := N) (by omega) (by omega) h5)) (fun h5 => ?_)
      refine ev_iload_n (i := 3) dX7_takeNumbers_8 rfl rfl ?_
      refine ev_aload_n (i := 2) dX7_takeNumbers_9 rfl rfl ?_
      refine ev_alS (a := b) (v := nI N) dX7_takeNumbers_10 hb (by rw [hlb]; rfl) ?_
      refine ev_icmp_ge (tgt := 60) dX7_takeNumbers_11 (by decide) (fun h11 => False.elim (nI_ge (a := k) (b := N) (by omega) (by omega) h11)) (fun h11 => ?_)
      refine ev_iload_n (i := 3) dX7_takeNumbers_14 rfl rfl ?_
      refine ev_aload_n (i := 0) dX7_takeNumbers_15 rfl rfl ?_
      refine ev_getf dX7_takeNumbers_16 flX7_15 (by rfl) (by rfl) ?_
      refine ev_alen (v := 6) dX7_takeNumbers_19 (fun _ => rfl) (by rfl) (by rfl) ?_
      refine ev_icmp_ge (tgt := 60) dX7_takeNumbers_20 (by decide) (fun h20 => False.elim (nI_ge (a := k) (b := 6) (by omega) (by decide) h20)) (fun h20 => ?_)
      refine ev_aload_n (i := 0) dX7_takeNumbers_23 rfl rfl ?_
      refine ev_w1 kX7_takeNumbers_24 (c7_skip ((rd_out (by decide)).trans hTb) hn rfl hp) (ev_rv_of (by rfl) rfl rfl) (by decide) (by decide) (Nat.le_of_ble_eq_true rfl) ?_
      refine ev_mem (M2 := (ev_ml M [(22, .inr (7, [.ref 23, .ref 24, .int (nI ((rd_skip tn tb p))), .int (nI tn)])), (24, .inl (0, 6, .inl nm))])) ev_set_set ?_
      refine ev_aload_n (i := 0) dX7_takeNumbers_27 rfl rfl ?_
      refine ev_getf dX7_takeNumbers_28 flX7_15 (by rfl) (by rfl) ?_
      refine ev_iload_n (i := 3) dX7_takeNumbers_31 rfl rfl ?_
      refine ev_aload_n (i := 0) dX7_takeNumbers_32 rfl rfl ?_
      refine ev_aload_n (i := 1) dX7_takeNumbers_33 rfl rfl ?_
      refine ev_iload_n (i := 3) dX7_takeNumbers_34 rfl rfl ?_
      refine ev_iaS (a := a) (j := k) dX7_takeNumbers_35 ha (ev_ix_nI (by omega)) (by omega) ?_
      refine ev_aload_n (i := 2) dX7_takeNumbers_36 rfl rfl ?_
      refine ev_iload_n (i := 3) dX7_takeNumbers_37 rfl rfl ?_
      refine ev_iaS (a := b) (j := k) dX7_takeNumbers_38 hb (ev_ix_nI (by omega)) (by omega) ?_
      refine ev_c3 kX7_takeNumbers_39 (c7_takeNumber_0 (p := (rd_skip tn tb p)) ((rd_out (by decide)).trans hTb) hn rfl hs (lo := (ev_stA a).getD k 0) (hi := (ev_stA b).getD k 0) ho) (ev_rv_of (by rfl) rfl rfl) (by decide) (by decide) (Nat.le_of_ble_eq_true rfl) ?_
      refine ev_iastP 1 (j := k) dX7_takeNumbers_42 (by rfl) (by rfl) (ev_ix_nI (by omega)) (by omega) (by rfl) (by rfl) ?_
      refine ev_aload_n (i := 0) dX7_takeNumbers_43 rfl rfl ?_
      refine ev_getf dX7_takeNumbers_44 flX7_15 (by rfl) (by rfl) ?_
      refine ev_iload_n (i := 3) dX7_takeNumbers_47 rfl rfl ?_
      refine ev_iald (j := k) dX7_takeNumbers_48 (by rfl) (ev_ix_nI (by omega)) (by omega) ?_
      refine ev_topi rd_upd ?_
      refine ev_if_ge (tgt := 54) dX7_takeNumbers_49 (by decide) (fun h49 => False.elim (absurd h49 (by decide))) (fun h49 => ?_)
      refine ev_iconst (v := 0) dX7_takeNumbers_52 cni_0 ?_
      exact ev_reti dX7_takeNumbers_53 rfl rfl (by rw [rd_nums_0 (tn := tn) (tb := tb) (lo := (fun k => (ev_stA a).getD k 0)) (hi := (fun k => (ev_stA b).getD k 0)) (m := m) (k := k) (p := p) (nm := nm) ho]; exact ⟨rfl, rfl⟩)
    · skip
      refine ev_iload_n (i := 3) dX7_takeNumbers_2 rfl rfl ?_
      refine ev_aload_n (i := 1) dX7_takeNumbers_3 rfl rfl ?_
      refine ev_alS (a := a) (v := nI N) dX7_takeNumbers_4 ha (by rw [hla]; rfl) ?_
      refine ev_icmp_ge (tgt := 60) dX7_takeNumbers_5 (by decide) (fun h5 => False.elim (nI_ge (a := k) (b := N) (by omega) (by omega) h5)) (fun h5 => ?_)
      refine ev_iload_n (i := 3) dX7_takeNumbers_8 rfl rfl ?_
      refine ev_aload_n (i := 2) dX7_takeNumbers_9 rfl rfl ?_
      refine ev_alS (a := b) (v := nI N) dX7_takeNumbers_10 hb (by rw [hlb]; rfl) ?_
      refine ev_icmp_ge (tgt := 60) dX7_takeNumbers_11 (by decide) (fun h11 => False.elim (nI_ge (a := k) (b := N) (by omega) (by omega) h11)) (fun h11 => ?_)
      refine ev_iload_n (i := 3) dX7_takeNumbers_14 rfl rfl ?_
      refine ev_aload_n (i := 0) dX7_takeNumbers_15 rfl rfl ?_
      refine ev_getf dX7_takeNumbers_16 flX7_15 (by rfl) (by rfl) ?_
      refine ev_alen (v := 6) dX7_takeNumbers_19 (fun _ => rfl) (by rfl) (by rfl) ?_
      refine ev_icmp_ge (tgt := 60) dX7_takeNumbers_20 (by decide) (fun h20 => False.elim (nI_ge (a := k) (b := 6) (by omega) (by decide) h20)) (fun h20 => ?_)
      refine ev_aload_n (i := 0) dX7_takeNumbers_23 rfl rfl ?_
      refine ev_w1 kX7_takeNumbers_24 (c7_skip ((rd_out (by decide)).trans hTb) hn rfl hp) (ev_rv_of (by rfl) rfl rfl) (by decide) (by decide) (Nat.le_of_ble_eq_true rfl) ?_
      refine ev_mem (M2 := (ev_ml M [(22, .inr (7, [.ref 23, .ref 24, .int (nI ((rd_skip tn tb p))), .int (nI tn)])), (24, .inl (0, 6, .inl nm))])) ev_set_set ?_
      refine ev_aload_n (i := 0) dX7_takeNumbers_27 rfl rfl ?_
      refine ev_getf dX7_takeNumbers_28 flX7_15 (by rfl) (by rfl) ?_
      refine ev_iload_n (i := 3) dX7_takeNumbers_31 rfl rfl ?_
      refine ev_aload_n (i := 0) dX7_takeNumbers_32 rfl rfl ?_
      refine ev_aload_n (i := 1) dX7_takeNumbers_33 rfl rfl ?_
      refine ev_iload_n (i := 3) dX7_takeNumbers_34 rfl rfl ?_
      refine ev_iaS (a := a) (j := k) dX7_takeNumbers_35 ha (ev_ix_nI (by omega)) (by omega) ?_
      refine ev_aload_n (i := 2) dX7_takeNumbers_36 rfl rfl ?_
      refine ev_iload_n (i := 3) dX7_takeNumbers_37 rfl rfl ?_
      refine ev_iaS (a := b) (j := k) dX7_takeNumbers_38 hb (ev_ix_nI (by omega)) (by omega) ?_
      refine ev_c3 kX7_takeNumbers_39 (c7_takeNumber_1 (p := (rd_skip tn tb p)) ((rd_out (by decide)).trans hTb) hn rfl hs (lo := (ev_stA a).getD k 0) (hi := (ev_stA b).getD k 0) ho) (ev_rv_of (by rfl) rfl rfl) (by decide) (by decide) (Nat.le_of_ble_eq_true rfl) ?_
      refine ev_mem (M2 := (ev_ml M [(22, .inr (7, [.ref 23, .ref 24, .int (nI ((rd_nm tn tb (rd_skip tn tb p)).1)), .int (nI tn)])), (24, .inl (0, 6, .inl nm))])) ev_set_set ?_
      refine ev_iastP 1 (j := k) dX7_takeNumbers_42 (by rfl) (by rfl) (ev_ix_nI (by omega)) (by omega) (by rfl) (by rfl) ?_
      refine ev_aload_n (i := 0) dX7_takeNumbers_43 rfl rfl ?_
      refine ev_getf dX7_takeNumbers_44 flX7_15 (by rfl) (by rfl) ?_
      refine ev_iload_n (i := 3) dX7_takeNumbers_47 rfl rfl ?_
      refine ev_iald (j := k) dX7_takeNumbers_48 (by rfl) (ev_ix_nI (by omega)) (by omega) ?_
      refine ev_topi rd_upd ?_
      refine ev_if_ge (tgt := 54) dX7_takeNumbers_49 (by decide) (fun h49 => ?_) (fun h49 => False.elim (Int32.not_lt.mpr (rd_in0 (rd_x1 ho).2.2 (hlo k (by omega))) h49))
      refine ev_iinc (v := nI (k + 1)) dX7_takeNumbers_54 rfl (nI_1 k) (Nat.le_of_ble_eq_true rfl) rfl ?_
      refine ev_goto (tgt := 2) dX7_takeNumbers_57 (by decide) ?_
      rw [rd_nums_1 (tn := tn) (tb := tb) (lo := (fun k => (ev_stA a).getD k 0)) (hi := (fun k => (ev_stA b).getD k 0)) (m := m) (k := k) (p := p) (nm := nm) ho]
      exact ih (k + 1) _ _ (by omega) hne
theorem c7_takeNumbers {G : ev_G} {n : Nat} {M : ev_M} {tn : Nat} {tb : Nat → Int32} (hTb : M 23 = .inl (0, 400, .inl tb)) (hn : tn ≤ 400) {a b N : Nat} (ha : a < 8) (hb : b < 8) (hla : (ev_stA a).length = N) (hlb : (ev_stA b).length = N) (hN : N ≤ 6) (hlo : ∀ k, k < N → 0 ≤ (ev_stA a).getD k 0) {p : Nat} {nm : Nat → Int32} (h23 : M 22 = .inr (7, [.ref 23, .ref 24, .int (nI (p)), .int (nI tn)])) (h24 : M 24 = .inl (0, 6, .inl nm)) (hp : p ≤ tn) : ev_Cal G mX7_takeNumbers 3 0 0 [.ref 22, .ref (1 + a), .ref (1 + b)] n M (ev_is (some (.int (ev_b (rd_nums tn tb (fun k => (ev_stA a).getD k 0) (fun k => (ev_stA b).getD k 0) (N) (0) (p) nm).1))) (ev_ml M [(22, .inr (7, [.ref 23, .ref 24, .int (nI ((rd_nums tn tb (fun k => (ev_stA a).getD k 0) (fun k => (ev_stA b).getD k 0) (N) (0) (p) nm).2.1)), .int (nI tn)])), (24, .inl (0, 6, .inl (rd_nums tn tb (fun k => (ev_stA a).getD k 0) (fun k => (ev_stA b).getD k 0) (N) (0) (p) nm).2.2))])) := by
  refine ev_Cal_of (L := [some (.ref 22), some (.ref (1 + a)), some (.ref (1 + b)), none]) (by decide +kernel) (Nat.le_of_ble_eq_true rfl) rfl ?_
  refine ev_track (l := [(22, .inr (7, [.ref 23, .ref 24, .int (nI (p)), .int (nI tn)])), (24, .inl (0, 6, .inl nm))]) (ev_fa1 h23 (ev_fa1 h24 ev_fa0)) ?_
  refine ev_iconst (v := 0) dX7_takeNumbers_0 cni_0 ?_
  refine ev_istore_n (i := 3) dX7_takeNumbers_1 rfl (Nat.le_of_ble_eq_true rfl) rfl ?_
  exact l7_nums hTb hn ha hb hla hlb hN hlo N 0 p nm (Nat.zero_add _) hp
