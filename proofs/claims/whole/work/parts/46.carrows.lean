/-! ===== contracts: the class, readAll, arrows ===== -/
theorem cl_sheet_keep {M M1 : ev_M} {a n : Nat} {f : Nat → Int32} (h : ∀ q, a ≤ q → q < a + 8 → M1 q = M q) (hS : cl_sheet M a n f) : cl_sheet M1 a n f := by
  obtain ⟨f0, f1, f2, f3, f4, f5, f6, up, dn, h0, h1, h2, h3, h4, h5, h6, h7, h8⟩ := hS
  exact ⟨f0, f1, f2, f3, f4, f5, f6, up, dn, (h _ (by omega) (by omega)).trans h0, (h _ (by omega) (by omega)).trans h1, (h _ (by omega) (by omega)).trans h2, (h _ (by omega) (by omega)).trans h3, (h _ (by omega) (by omega)).trans h4, (h _ (by omega) (by omega)).trans h5, (h _ (by omega) (by omega)).trans h6, (h _ (by omega) (by omega)).trans h7, h8⟩
theorem cl_img_keep {M M1 : ev_M} {a c0 : Nat} {kp : Nat → Int32} {k : Bool} (h : ∀ q, a ≤ q → q < a + 22 → M1 q = M q) (hI : cl_img M a c0 kp k) : cl_img M1 a c0 kp k := by
  obtain ⟨lt, s, m, f, h0, ⟨q, h1, h2⟩, h3, h4, h5, h6⟩ := hI
  exact ⟨lt, s, m, f, (h _ (by omega) (by omega)).trans h0, ⟨q, (h _ (by omega) (by omega)).trans h1, h2⟩, cl_sheet_keep (fun b z1 z2 => h b (by omega) (by omega)) h3, fun i hi => (h _ (by omega) (by omega)).trans (h4 i hi), h5, h6⟩
theorem rd_at_c {tn : Nat} {tb tx : Nat → Int32} (h : ∀ k, k < tn → tb k = tx k) : rd_at tn tb = rd_at tn tx := by
  funext i; unfold rd_at; split
  · rename_i q; exact h i q
  · rfl
theorem rd_sk_c {tb tx : Nat → Int32} : ∀ (m p : Nat), (∀ k, p ≤ k → k < p + m → tb k = tx k) → rd_sk tb m p = rd_sk tx m p
  | 0, _, _ => rfl
  | m + 1, p, h => by rw [rd_sk, rd_sk, h p (by omega) (by omega), rd_sk_c m (p + 1) (fun k h1 h2 => h k (by omega) (by omega))]
theorem rd_skip_c {tn : Nat} {tb tx : Nat → Int32} (h : ∀ k, k < tn → tb k = tx k) : rd_skip tn tb = rd_skip tn tx := by
  funext p; exact rd_sk_c _ _ (fun k h1 h2 => h k (by omega))
theorem rd_num_c {tb tx : Nat → Int32} : ∀ (m : Nat) (a : Nat × Int32), (∀ k, a.1 ≤ k → k < a.1 + m → tb k = tx k) → rd_num tb m a = rd_num tx m a
  | 0, _, _ => rfl
  | m + 1, a, h => by rw [rd_num, rd_num, h a.1 (by omega) (by omega), rd_num_c m _ (fun k h1 h2 => h k (by have : a.1 + 1 ≤ k := h1; omega) (by have : k < a.1 + 1 + m := h2; omega))]
theorem rd_nm_c {tn : Nat} {tb tx : Nat → Int32} (h : ∀ k, k < tn → tb k = tx k) : rd_nm tn tb = rd_nm tn tx := by
  funext p; exact rd_num_c _ _ (fun k h1 h2 => h k (by have : p ≤ k := h1; have : k < p + (tn - p) := h2; omega))
theorem it_x_c {tn : Nat} {tb tx : Nat → Int32} (h : ∀ k, k < tn → tb k = tx k) : it_x tn tb = it_x tn tx := by
  have h1 := rd_at_c h
  have h2 := rd_skip_c h
  have h3 := rd_nm_c h
  have hV : rd_V tn tb = rd_V tn tx := by funext q lo hi; unfold rd_V; rw [h1, h3]
  have hv : nb_v tn tb = nb_v tn tx := by funext ps lo hi; unfold nb_v; rw [h2, h3]; rw [show rd_V tn tb = rd_V tn tx from hV]
  have hs : nb_s tn tb = nb_s tn tx := by funext ps lo hi; unfold nb_s; rw [h2, h3]; rw [show rd_V tn tb = rd_V tn tx from hV]
  have hp : nb_p tn tb = nb_p tn tx := by
    funext lo hi p k
    induction k with
    | zero => rfl
    | succ k ih => rw [nb_p, nb_p, ih, hs]
  have hw : nb_w tn tb = nb_w tn tx := by funext lo hi p k; unfold nb_w; rw [hv, hp]
  have he : it_end tn tb = it_end tn tx := by funext ps; unfold it_end; rw [h1, h2]
  have hW : rd_Wb tn tb = rd_Wb tn tx := by
    funext i q
    have e : rd_W tn tb i q ↔ rd_W tn tx i q := by unfold rd_W; rw [h1]
    cases hb : rd_Wb tn tb i q with
    | true => exact (rd_Wb_iff.mpr (e.mp (rd_Wb_iff.mp hb))).symm
    | false =>
      cases hc : rd_Wb tn tx i q with
      | false => rfl
      | true => exact absurd (rd_Wb_iff.mpr (e.mpr (rd_Wb_iff.mp hc))) (by rw [hb]; decide)
  funext p A
  unfold it_x it_A it_S it_B it_L it_R
  rw [hW, h2, he, hp, hw]
theorem rdr_c {tn : Nat} {tb tx : Nat → Int32} (h : ∀ k, k < tn → tb k = tx k) : ∀ f p k A, rdr tn tb f p k A = rdr tn tx f p k A := by
  intro f
  induction f with
  | zero => intro p k A; rfl
  | succ f ih =>
    intro p k A
    rw [rdr, rdr, it_x_c h, rd_skip_c h, ih]
/-- what is read depends on what was there only above the counts -/
def rs_eq (A B : rs_T) : Prop := A.1 = B.1 ∧ A.2.1 = B.2.1 ∧ A.2.2.1 = B.2.2.1 ∧ (∀ k, k < 7 * A.1 → A.2.2.2.1 k = B.2.2.2.1 k) ∧ (∀ k, k < 2 * A.2.1 → A.2.2.2.2.1 k = B.2.2.2.2.1 k) ∧ ∀ k, k < 2 * A.2.2.1 → A.2.2.2.2.2 k = B.2.2.2.2.2 k
theorem rs_stk_eq {S T v : Nat → Int32} {c k : Nat} (h : ∀ k, k < 7 * c → S k = T k) (hk : k < 7 * (c + 1)) : rs_stk S c v k = rs_stk T c v k := by
  unfold rs_stk; split
  · rfl
  · split
    · rfl
    · exact h k (by omega)
theorem rs_two_eq {S T : Nat → Int32} {x y : Int32} {c k : Nat} (h : ∀ k, k < 2 * c → S k = T k) (hk : k < 2 * (c + 1)) : rs_two S c x y k = rs_two T c x y k := by
  unfold rs_two; simp only [upd]; split
  · rfl
  · split
    · rfl
    · exact h k (by omega)
theorem it_x_eq {tn : Nat} {tb : Nat → Int32} {p : Nat} {A B : rs_T} (h : rs_eq A B) : (it_x tn tb p A).1 = (it_x tn tb p B).1 ∧ ((it_x tn tb p A).1.1 = true → rs_eq (it_x tn tb p A).2 (it_x tn tb p B).2) := by
  obtain ⟨a0, a1, a2, a3, a4, a5⟩ := A
  obtain ⟨b0, b1, b2, b3, b4, b5⟩ := B
  obtain ⟨e0, e1, e2, e3, e4, e5⟩ := h
  have e0 : a0 = b0 := e0
  have e1 : a1 = b1 := e1
  have e2 : a2 = b2 := e2
  subst e0 e1 e2
  unfold it_x
  simp only
  split
  · exact ⟨rfl, fun _ => ⟨rfl, rfl, rfl, fun k hk => rs_stk_eq e3 hk, e4, e5⟩⟩
  split
  · exact ⟨rfl, fun _ => ⟨rfl, rfl, rfl, e3, fun k hk => rs_two_eq e4 hk, e5⟩⟩
  split
  · unfold it_A
    split
    · exact ⟨rfl, fun _ => ⟨rfl, rfl, rfl, e3, e4, fun k hk => rs_two_eq e5 hk⟩⟩
    split
    · exact ⟨rfl, fun _ => ⟨rfl, rfl, rfl, e3, e4, fun k hk => rs_two_eq e5 hk⟩⟩
    · exact ⟨rfl, fun h => by cases h⟩
  · exact ⟨rfl, fun h => by cases h⟩
theorem rdr_eq {tn : Nat} {tb : Nat → Int32} : ∀ (f p k : Nat) (A B : rs_T), rs_eq A B → (rdr tn tb f p k A).1 = (rdr tn tb f p k B).1 ∧ (rdr tn tb f p k A).2.1 = (rdr tn tb f p k B).2.1 ∧ rs_eq (rdr tn tb f p k A).2.2 (rdr tn tb f p k B).2.2 := by
  intro f
  induction f with
  | zero => intro p k A B h; exact ⟨rfl, rfl, h⟩
  | succ f ih =>
    intro p k A B h
    by_cases hp : p = tn
    · rw [rdr_end _ hp, rdr_end _ hp]; exact ⟨rfl, rfl, h⟩
    obtain ⟨h1, h2⟩ := it_x_eq (tn := tn) (tb := tb) (p := p) h
    cases hb : (it_x tn tb p A).1.1 with
    | true => rw [rdr_go hp hb, rdr_go hp (by rw [← h1]; exact hb), ← h1]; exact ih _ _ _ _ (h2 hb)
    | false => rw [rdr_no hp hb, rdr_no hp (by rw [← h1]; exact hb), ← h1]; exact ⟨rfl, rfl, h⟩
theorem l7_readAll {G : ev_G} {n : Nat} {M0 : ev_M} {tn : Nat} {tb : Nat → Int32} {g : Nat} (hsio : ev_hs G) (hn : tn ≤ 400) (hg : 40 < g) : ∀ (f q k : Nat) (A : rs_T) (M1 : ev_M), tn - q ≤ f → q ≤ tn → k ≤ q → rd_skip tn tb q = q → (A.1 ≤ 12 ∧ A.2.1 ≤ 3 ∧ A.2.2.1 ≤ 3) → rd_S M1 M0 tn tb g q A → ev_E G mX7_readAll 8 0 0 n M1 15 [some (.ref 22), some (.ref g), some (.int (nI k))] [] (fun r M2 => ((rdr tn tb f q k A).1 = true ∧ r = some (.int (nI (rdr tn tb f q k A).2.1)) ∧ rd_S M2 M0 tn tb g tn (rdr tn tb f q k A).2.2 ∧ ((rdr tn tb f q k A).2.2.1 ≤ 12 ∧ (rdr tn tb f q k A).2.2.2.1 ≤ 3 ∧ (rdr tn tb f q k A).2.2.2.2.1 ≤ 3)) ∨ ((rdr tn tb f q k A).1 = false ∧ r = some (.int (-10 - nI (rdr tn tb f q k A).2.1)) ∧ ∃ B : rs_T, rd_S M2 M0 tn tb g (rdr tn tb f q k A).2.1 B ∧ (B.1 ≤ 12 ∧ B.2.1 ≤ 3 ∧ B.2.2.1 ≤ 3))) := by
  intro f
  induction f with
  | zero =>
    intro q k A M1 hm hq hkq hfix hcc hS
    have hS0 := hS
    obtain ⟨h22, h23, ⟨nm, h24⟩, hGr, hfr⟩ := hS
    have hqt : q = tn := by omega
    refine ev_aload_n (i := 0) dX7_readAll_15 rfl rfl ?_
    refine ev_getf dX7_readAll_16 flX7_27 (by assumption) (by rfl) ?_
    refine ev_aload_n (i := 0) dX7_readAll_19 rfl rfl ?_
    refine ev_getf dX7_readAll_20 flX7_18 (by assumption) (by rfl) ?_
    refine ev_icmp_ge (tgt := 59) dX7_readAll_23 (by decide) (fun h23 => ?_) (fun h23 => False.elim (absurd h23 (Int32.not_lt.mpr (nI_le (a := tn) (b := q) (by omega) (by omega)))))
    refine ev_iload_n (i := 2) dX7_readAll_59 rfl rfl ?_
    exact ev_reti dX7_readAll_60 rfl rfl (Or.inl ⟨by rw [rdr_end 0 hqt], by rw [rdr_end 0 hqt], by rw [rdr_end 0 hqt]; have hS9 := hS0; rw [hqt] at hS9; exact hS9, by rw [rdr_end 0 hqt]; exact hcc⟩)
  | succ f ih =>
    intro q k A M1 hm hq hkq hfix hcc hS
    have hS0 := hS
    obtain ⟨h22, h23, ⟨nm, h24⟩, hGr, hfr⟩ := hS
    refine ev_aload_n (i := 0) dX7_readAll_15 rfl rfl ?_
    refine ev_getf dX7_readAll_16 flX7_27 (by assumption) (by rfl) ?_
    refine ev_aload_n (i := 0) dX7_readAll_19 rfl rfl ?_
    refine ev_getf dX7_readAll_20 flX7_18 (by assumption) (by rfl) ?_
    refine ev_icmp_ge (tgt := 59) dX7_readAll_23 (by decide) (fun h23 => ?_) (fun h23 => ?_)
    · skip
      have hqt : q = tn := by have := (nI_leI (a := tn) (b := q) (by omega) (by omega)).mp h23; omega
      refine ev_iload_n (i := 2) dX7_readAll_59 rfl rfl ?_
      exact ev_reti dX7_readAll_60 rfl rfl (Or.inl ⟨by rw [rdr_end (f + 1) hqt], by rw [rdr_end (f + 1) hqt], by rw [rdr_end (f + 1) hqt]; have hS9 := hS0; rw [hqt] at hS9; exact hS9, by rw [rdr_end (f + 1) hqt]; exact hcc⟩)
    · skip
      have hqt : q < tn := (nI_ltI (a := q) (b := tn) (by omega) (by omega)).mp h23
      have hqn : ¬ q = tn := by omega
      have hte := it_x_t (tn := tn) (tb := tb) (p := q) (A := A)
      refine ev_iload_n (i := 2) dX7_readAll_26 rfl rfl ?_
      refine ev_sipush (v := 400) dX7_readAll_27 cns_400 ?_
      refine ev_icmp_ge (tgt := 59) dX7_readAll_30 (by decide) (fun h30 => False.elim (nI_ge (a := k) (b := 400) (by omega) (by decide) h30)) (fun h30 => ?_)
      refine ev_aload_n (i := 0) dX7_readAll_33 rfl rfl ?_
      refine ev_aload_n (i := 1) dX7_readAll_34 rfl rfl ?_
      refine ev_d2 kX7_readAll_35 (c7_item hsio hS0 hn (by omega) hg hfix hcc) (ev_rv_of (by assumption) rfl rfl) (by decide) (by decide) (Nat.le_of_ble_eq_true rfl) ?_
      intro r M2 hr
      obtain ⟨rfl, hS2⟩ := hr
      cases hb : (it_x tn tb q A).1.1 with
      | false =>
        rw [hb] at hS2
        rw [if_neg (by decide)] at hS2
        refine ev_if_neb (tgt := 49) (q := false) dX7_readAll_38 (by decide) (fun h => by cases h) (fun _ => ?_)
        have hS3 := hS2
        obtain ⟨h22, h23, ⟨nm, h24⟩, hGr, hfr⟩ := hS2
        refine ev_bipush (v := (-10)) dX7_readAll_41 cnb_m10 ?_
        refine ev_aload_n (i := 0) dX7_readAll_43 rfl rfl ?_
        refine ev_getf dX7_readAll_44 flX7_27 (by assumption) (by rfl) ?_
        refine ev_isub dX7_readAll_47 ?_
        exact ev_reti dX7_readAll_48 rfl rfl (Or.inr ⟨by rw [rdr_no hqn hb], by rw [rdr_no hqn hb], A, by rw [rdr_no hqn hb]; exact hS3, hcc⟩)
      | true =>
        rw [hb] at hS2
        rw [if_pos rfl] at hS2
        refine ev_if_neb (tgt := 49) (q := true) dX7_readAll_38 (by decide) (fun _ => ?_) (fun h => by cases h)
        have hS3 := hS2
        obtain ⟨h22, h23, ⟨nm, h24⟩, hGr, hfr⟩ := hS2
        have h9 := hte hb hcc
        have h7 := rd_skip_le (tb := tb) h9.1.2
        refine ev_iinc (v := nI (k + 1)) dX7_readAll_49 rfl (nI_1 k) (Nat.le_of_ble_eq_true rfl) rfl ?_
        refine ev_aload_n (i := 0) dX7_readAll_52 rfl rfl ?_
        refine ev_w1 kX7_readAll_53 (c7_skip h22 hn h23 h9.1.2) (ev_rv_of (by assumption) rfl rfl) (by decide) (by decide) (Nat.le_of_ble_eq_true rfl) ?_
        refine ev_goto (tgt := 15) dX7_readAll_56 (by decide) ?_
        rw [rdr_go hqn hb]
        exact ih (rd_skip tn tb (it_x tn tb q A).1.2) (k + 1) (it_x tn tb q A).2 _ (by omega) (by omega) (by omega) (rd_skip_skip h9.1.2) h9.2 (rd_S_keep hS3 hg (fun a z1 _ => ev_set_ne z1) ev_set_eq ⟨nm, (ev_set_ne (by decide)).trans h24⟩)
theorem c7_readAll {G : ev_G} {n : Nat} {M : ev_M} {tn : Nat} {tb : Nat → Int32} {g p : Nat} {D : rs_T} (hsio : ev_hs G) (hn : tn ≤ 400) (hg : 40 < g) (hS : rd_S M M tn tb g p D) : ev_Cal G mX7_readAll 8 0 0 [.ref 22, .ref g] n M (fun r M2 => ((rdr tn tb tn (rd_skip tn tb 0) 0 (0, 0, 0, D.2.2.2.1, D.2.2.2.2.1, D.2.2.2.2.2)).1 = true ∧ r = some (.int (nI (rdr tn tb tn (rd_skip tn tb 0) 0 (0, 0, 0, D.2.2.2.1, D.2.2.2.2.1, D.2.2.2.2.2)).2.1)) ∧ rd_S M2 M tn tb g tn (rdr tn tb tn (rd_skip tn tb 0) 0 (0, 0, 0, D.2.2.2.1, D.2.2.2.2.1, D.2.2.2.2.2)).2.2 ∧ ((rdr tn tb tn (rd_skip tn tb 0) 0 (0, 0, 0, D.2.2.2.1, D.2.2.2.2.1, D.2.2.2.2.2)).2.2.1 ≤ 12 ∧ (rdr tn tb tn (rd_skip tn tb 0) 0 (0, 0, 0, D.2.2.2.1, D.2.2.2.2.1, D.2.2.2.2.2)).2.2.2.1 ≤ 3 ∧ (rdr tn tb tn (rd_skip tn tb 0) 0 (0, 0, 0, D.2.2.2.1, D.2.2.2.2.1, D.2.2.2.2.2)).2.2.2.2.1 ≤ 3)) ∨ ((rdr tn tb tn (rd_skip tn tb 0) 0 (0, 0, 0, D.2.2.2.1, D.2.2.2.2.1, D.2.2.2.2.2)).1 = false ∧ r = some (.int (-10 - nI (rdr tn tb tn (rd_skip tn tb 0) 0 (0, 0, 0, D.2.2.2.1, D.2.2.2.2.1, D.2.2.2.2.2)).2.1)) ∧ ∃ B : rs_T, rd_S M2 M tn tb g (rdr tn tb tn (rd_skip tn tb 0) 0 (0, 0, 0, D.2.2.2.1, D.2.2.2.2.1, D.2.2.2.2.2)).2.1 B ∧ (B.1 ≤ 12 ∧ B.2.1 ≤ 3 ∧ B.2.2.1 ≤ 3))) := by
  refine ev_Cal_of (L := [some (.ref 22), some (.ref g), none]) (by decide +kernel) (Nat.le_of_ble_eq_true rfl) rfl ?_
  obtain ⟨h22, h23, ⟨nm, h24⟩, hGr, hfr⟩ := hS
  refine ev_aload_n (i := 1) dX7_readAll_0 rfl rfl ?_
  refine ev_w1 kX7_readAll_1 (c3_empty hGr.1) (ev_rv_of (by first | assumption | exact hGr.1 | exact ev_set_eq | exact (ev_set_ne (by omega)).trans h23) rfl rfl) (by decide) (by decide) (Nat.le_of_ble_eq_true rfl) ?_
  refine ev_aload_n (i := 0) dX7_readAll_4 rfl rfl ?_
  refine ev_iconst (v := 0) dX7_readAll_5 cni_0 ?_
  refine ev_puti dX7_readAll_6 fpX7_27 (by first | assumption | exact hGr.1 | exact ev_set_eq | exact (ev_set_ne (by omega)).trans h23) (by exact Nat.le_of_ble_eq_true rfl) ?_
  have hS2 : rd_S (ev_set (ev_set M g (.inr (3, [.ref (g + 1), .ref (g + 2), .ref (g + 3), .int 0, .int 0, .int 0]))) 22 (.inr (7, [.ref 23, .ref 24, .int (nI 0), .int (nI tn)]))) M tn tb g 0 (0, 0, 0, D.2.2.2.1, D.2.2.2.2.1, D.2.2.2.2.2) := by
    refine ⟨(ev_set_ne (by decide)).trans ((ev_set_ne (by omega)).trans h22), ev_set_eq, ⟨nm, (ev_set_ne (by decide)).trans ((ev_set_ne (by omega)).trans h24)⟩, ?_, fun a z1 z2 z3 => (ev_set_ne z1).trans (ev_set_ne (by omega))⟩
    obtain ⟨-, ⟨f1, k2, k3⟩, ⟨f2, k4, k5⟩, ⟨f3, k6, k7⟩, hs, hb, ha⟩ := hGr
    exact ⟨(ev_set_ne (by omega)).trans ev_set_eq, ⟨f1, (ev_set_ne (by omega)).trans ((ev_set_ne (by omega)).trans k2), k3⟩, ⟨f2, (ev_set_ne (by omega)).trans ((ev_set_ne (by omega)).trans k4), k5⟩, ⟨f3, (ev_set_ne (by omega)).trans ((ev_set_ne (by omega)).trans k6), k7⟩, fun i hi => (ev_set_ne (by omega)).trans ((ev_set_ne (by omega)).trans (hs i hi)), fun i hi => (ev_set_ne (by omega)).trans ((ev_set_ne (by omega)).trans (hb i hi)), fun i hi => (ev_set_ne (by omega)).trans ((ev_set_ne (by omega)).trans (ha i hi))⟩
  obtain ⟨h22b, h23b, ⟨nmb, h24b⟩, -, -⟩ := id hS2
  have h24b := (ev_set_ne (M := ev_set M g (.inr (3, [.ref (g + 1), .ref (g + 2), .ref (g + 3), .int 0, .int 0, .int 0]))) (a := 22) (b := 24) (c := .inr (7, [.ref 23, .ref 24, .int (nI 0), .int (nI tn)])) (by decide)).trans ((ev_set_ne (by omega)).trans h24)
  have hs0 := rd_skip_le (tb := tb) (Nat.zero_le tn)
  refine ev_iconst (v := 0) dX7_readAll_9 cni_0 ?_
  refine ev_istore_n (i := 2) dX7_readAll_10 rfl (Nat.le_of_ble_eq_true rfl) rfl ?_
  refine ev_aload_n (i := 0) dX7_readAll_11 rfl rfl ?_
  refine ev_w1 kX7_readAll_12 (c7_skip h22b hn h23b (Nat.zero_le _)) (ev_rv_of (by first | assumption | exact hGr.1 | exact ev_set_eq | exact (ev_set_ne (by omega)).trans h23) rfl rfl) (by decide) (by decide) (Nat.le_of_ble_eq_true rfl) ?_
  exact l7_readAll hsio hn hg tn (rd_skip tn tb 0) 0 (0, 0, 0, D.2.2.2.1, D.2.2.2.2.1, D.2.2.2.2.2) _ (by omega) hs0.2 (Nat.zero_le _) (rd_skip_skip (Nat.zero_le _)) ⟨Nat.zero_le _, Nat.zero_le _, Nat.zero_le _⟩ (rd_S_keep hS2 hg (fun a z1 _ => ev_set_ne z1) ev_set_eq ⟨nm, (ev_set_ne (by decide)).trans h24b⟩)
