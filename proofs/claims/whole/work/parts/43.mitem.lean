/-! ===== contracts: the model, takes, number, readsItem ===== -/
theorem m_takes_F {G : ev_G} {n : Nat} {M : ev_M} {tn c0 c1 c2 sh : Nat} {tx s kp bw ar tu : Nat → Int32} {k0 k1 : Bool} {tr : Int64} {d0 d1 d2 : Int32} {dS dB dA : Nat → Int32} (hn : tn ≤ 400) {f : Nat} (hps : md_ps M tn c0 c1 c2 sh tx s kp bw ar tu k0 k1 tr ((false, f)) d0 d1 d2 dS dB dA) {x : Int32} : ev_Cal G mX12_takes 5 0 0 [.ref 129, .int x] n M (fun r M1 => r = some (.int 0) ∧ md_ps M1 tn c0 c1 c2 sh tx s kp bw ar tu k0 k1 tr ((false, f)) d0 d1 d2 dS dB dA ∧ ∀ k, k < 129 → M1 k = M k) := by
  refine ev_Cal_of (L := [some (.ref 129), some (.int x), none]) (by decide +kernel) (Nat.le_of_ble_eq_true rfl) rfl ?_
  have hps0 := hps
  obtain ⟨nx, tk, pl, va, fa, hPP, hle, hT, hF⟩ := hps
  obtain ⟨th, sp, of', ba, go, dr, ki, up, dn, one, gof, dof, act, ik, h129, h130, h131, h132, h133, hk0, hk1, h134, h135, h136, h137, h138, h139, h140, h141, h142, h143, hsh⟩ := hPP
  have hle : f ≤ tn := hle
  have hF : false = false → fa = nI f := hF
  refine ev_aload_n (i := 0) dX12_takes_0 rfl rfl ?_
  refine ev_c1 kX12_takes_1 (c13_isWell h129) (ev_rv_of (by assumption) rfl rfl) (by decide) (by decide) (Nat.le_of_ble_eq_true rfl) ?_
  refine ev_if_neb (tgt := 9) dX12_takes_4 (by decide) (fun h4 => False.elim (by rw [hF rfl] at h4; exact nI_pos (n := f) (by omega) (of_decide_eq_true h4))) (fun h4 => ?_)
  refine ev_iconst (v := 0) dX12_takes_7 cni_0 ?_
  exact ev_reti dX12_takes_8 rfl rfl (⟨rfl, hps0, fun _ _ => rfl⟩)
theorem m_takes_N {G : ev_G} {n : Nat} {M : ev_M} {tn c0 c1 c2 sh : Nat} {tx s kp bw ar tu : Nat → Int32} {k0 k1 : Bool} {tr : Int64} {d0 d1 d2 : Int32} {dS dB dA : Nat → Int32} (hn : tn ≤ 400) {p : Nat} (hps : md_ps M tn c0 c1 c2 sh tx s kp bw ar tu k0 k1 tr ((true, p)) d0 d1 d2 dS dB dA)  : ev_Cal G mX12_takes 5 0 0 [.ref 129, .int 0] n M (fun r M1 => r = some (.int 0) ∧ md_ps M1 tn c0 c1 c2 sh tx s kp bw ar tu k0 k1 tr ((false, rd_skip tn tx p)) d0 d1 d2 dS dB dA ∧ ∀ k, k < 129 → M1 k = M k) := by
  refine ev_Cal_of (L := [some (.ref 129), some (.int 0), none]) (by decide +kernel) (Nat.le_of_ble_eq_true rfl) rfl ?_
  obtain ⟨nx, tk, pl, va, fa, hPP0, hle, hT, hF⟩ := hps
  have hPP := hPP0
  obtain ⟨th, sp, of', ba, go, dr, ki, up, dn, one, gof, dof, act, ik, h129, h130, h131, h132, h133, hk0, hk1, h134, h135, h136, h137, h138, h139, h140, h141, h142, h143, hsh⟩ := hPP
  refine ev_aload_n (i := 0) dX12_takes_0 rfl rfl ?_
  refine ev_c1 kX12_takes_1 (c13_isWell h129) (ev_rv_of (by assumption) rfl rfl) (by decide) (by decide) (Nat.le_of_ble_eq_true rfl) ?_
  refine ev_if_neb (tgt := 9) dX12_takes_4 (by decide) (fun h4 => ?_) (fun h4 => False.elim (by rw [(hT rfl).1] at h4; exact absurd h4 (by decide)))
  refine ev_iload_n (i := 1) dX12_takes_9 rfl rfl ?_
  refine ev_if_ne (tgt := 23) dX12_takes_10 (by decide) (fun h10 => False.elim (absurd rfl h10)) (fun h10 => ?_)
  refine ev_aload_n (i := 0) dX12_takes_13 rfl rfl ?_
  refine ev_aload_n (i := 0) dX12_takes_14 rfl rfl ?_
  refine ev_getf dX12_takes_15 flX12_83 (by assumption) (by rfl) ?_
  refine ev_topi (hT rfl).2.1 ?_
  refine md_pf_fa hPP0 dX12_takes_18 rfl (fun M2 hPP hf2 => ?_)
  have hP2 := hPP
  obtain ⟨th, sp, of', ba, go, dr, ki, up, dn, one, gof, dof, act, ik, h129, h130, h131, h132, h133, hk0, hk1, h134, h135, h136, h137, h138, h139, h140, h141, h142, h143, hsh⟩ := hPP
  refine ev_iconst (v := 0) dX12_takes_21 cni_0 ?_
  exact ev_reti dX12_takes_22 rfl rfl (⟨rfl, ⟨_, _, _, _, _, hP2, (rd_skip_le hle).2, (fun z => by cases z), fun _ => rfl⟩, hf2⟩)
theorem m_takes_Y {G : ev_G} {n : Nat} {M : ev_M} {tn c0 c1 c2 sh : Nat} {tx s kp bw ar tu : Nat → Int32} {k0 k1 : Bool} {tr : Int64} {tk pl va fa d0 d1 d2 : Int32} {dS dB dA : Nat → Int32} (hn : tn ≤ 400) (htx : ∀ k, k < tn → 0 ≤ tx k) {p : Nat} (hp : p ≤ tn) (hPP0 : md_P M tn c0 c1 c2 sh tx s kp bw ar tu k0 k1 tr (nI p) tk pl va fa d0 d1 d2 dS dB dA) (hfa : fa = -1) : ev_Cal G mX12_takes 5 0 0 [.ref 129, .int 1] n M (fun r M1 => r = some (.int va) ∧ md_ps M1 tn c0 c1 c2 sh tx s kp bw ar tu k0 k1 tr ((true, p)) d0 d1 d2 dS dB dA ∧ ∀ k, k < 129 → M1 k = M k) := by
  refine ev_Cal_of (L := [some (.ref 129), some (.int 1), none]) (by decide +kernel) (Nat.le_of_ble_eq_true rfl) rfl ?_
  have hPP := hPP0
  obtain ⟨th, sp, of', ba, go, dr, ki, up, dn, one, gof, dof, act, ik, h129, h130, h131, h132, h133, hk0, hk1, h134, h135, h136, h137, h138, h139, h140, h141, h142, h143, hsh⟩ := hPP
  refine ev_aload_n (i := 0) dX12_takes_0 rfl rfl ?_
  refine ev_c1 kX12_takes_1 (c13_isWell h129) (ev_rv_of (by assumption) rfl rfl) (by decide) (by decide) (Nat.le_of_ble_eq_true rfl) ?_
  refine ev_if_neb (tgt := 9) dX12_takes_4 (by decide) (fun h4 => ?_) (fun h4 => False.elim (by rw [hfa] at h4; exact absurd h4 (by decide)))
  refine ev_iload_n (i := 1) dX12_takes_9 rfl rfl ?_
  refine ev_if_ne (tgt := 23) dX12_takes_10 (by decide) (fun h10 => ?_) (fun h10 => False.elim (absurd h10 (by decide)))
  refine ev_aload_n (i := 0) dX12_takes_23 rfl rfl ?_
  refine ev_getf dX12_takes_24 flX12_93 (by assumption) (by rfl) ?_
  refine ev_istore_n (i := 2) dX12_takes_27 rfl (Nat.le_of_ble_eq_true rfl) rfl ?_
  refine ev_aload_n (i := 0) dX12_takes_28 rfl rfl ?_
  refine ev_d1 kX12_takes_29 (m_advances hn htx hp hPP0) (ev_rv_of h129 rfl rfl) (by decide) (by decide) (Nat.le_of_ble_eq_true rfl) ?_
  intro r M2 hr
  obtain ⟨rfl, ⟨tk2, va2, nxn, hok, hP2⟩, hf2⟩ := hr
  refine ev_iload_n (i := 2) dX12_takes_32 rfl rfl ?_
  exact ev_reti dX12_takes_33 rfl rfl (⟨rfl, ⟨_, _, _, _, _, hP2, hp, fun _ => ⟨hfa, rfl, nxn, rfl, hok⟩, fun z => by cases z⟩, hf2⟩)
theorem m_number_F {G : ev_G} {n : Nat} {M : ev_M} {tn c0 c1 c2 sh : Nat} {tx s kp bw ar tu : Nat → Int32} {k0 k1 : Bool} {tr : Int64} {d0 d1 d2 : Int32} {dS dB dA : Nat → Int32} (hn : tn ≤ 400) {f : Nat} (hps : md_ps M tn c0 c1 c2 sh tx s kp bw ar tu k0 k1 tr ((false, f)) d0 d1 d2 dS dB dA) {lo hi : Int32} : ev_Cal G mX12_number 6 0 0 [.ref 129, .int lo, .int hi] n M (fun r M1 => r = some (.int (nb_v tn tx (false, f) lo hi)) ∧ md_ps M1 tn c0 c1 c2 sh tx s kp bw ar tu k0 k1 tr (nb_s tn tx (false, f) lo hi) d0 d1 d2 dS dB dA ∧ ∀ k, k < 129 → M1 k = M k) := by
  refine ev_Cal_of (L := [some (.ref 129), some (.int lo), some (.int hi)]) (by decide +kernel) (Nat.le_of_ble_eq_true rfl) rfl ?_
  have hps0 := hps
  obtain ⟨nx, tk, pl, va, fa, hPP, hle, hT, hF⟩ := hps
  obtain ⟨th, sp, of', ba, go, dr, ki, up, dn, one, gof, dof, act, ik, h129, h130, h131, h132, h133, hk0, hk1, h134, h135, h136, h137, h138, h139, h140, h141, h142, h143, hsh⟩ := hPP
  refine ev_aload_n (i := 0) dX12_number_0 rfl rfl ?_
  refine ev_aload_n (i := 0) dX12_number_1 rfl rfl ?_
  refine ev_getf dX12_number_2 flX12_86 (by assumption) (by rfl) ?_
  refine ev_iconst (v := 2) dX12_number_5 cni_2 ?_
  refine ev_icmp_ne (tgt := 25) dX12_number_6 (by decide) (fun h6 => ?_) (fun h6 => ?_)
  · skip
    refine ev_iconst (v := 0) dX12_number_25 cni_0 ?_
    refine ev_d2 kX12_number_26 (m_takes_F hn hps0) (ev_rv_of h129 rfl rfl) (by decide) (by decide) (Nat.le_of_ble_eq_true rfl) ?_
    intro r M2 hr
    obtain ⟨rfl, hps2, hf2⟩ := hr
    exact ev_reti dX12_number_29 rfl rfl (⟨rfl, hps2, hf2⟩)
  · skip
    refine ev_aload_n (i := 0) dX12_number_9 rfl rfl ?_
    refine ev_getf dX12_number_10 flX12_93 (by assumption) (by rfl) ?_
    refine ev_iload_n (i := 1) dX12_number_13 rfl rfl ?_
    refine ev_iload_n (i := 2) dX12_number_14 rfl rfl ?_
    refine ev_c3 kX12_number_15 (c13_in) trivial (by decide) (by decide) (Nat.le_of_ble_eq_true rfl) ?_
    refine ev_if_eqb (tgt := 25) dX12_number_18 (by decide) (fun h18 => ?_) (fun h18 => ?_)
    · skip
      refine ev_iconst (v := 0) dX12_number_25 cni_0 ?_
      refine ev_d2 kX12_number_26 (m_takes_F hn hps0) (ev_rv_of h129 rfl rfl) (by decide) (by decide) (Nat.le_of_ble_eq_true rfl) ?_
      intro r M2 hr
      obtain ⟨rfl, hps2, hf2⟩ := hr
      exact ev_reti dX12_number_29 rfl rfl (⟨rfl, hps2, hf2⟩)
    · skip
      refine ev_iconst (v := 1) dX12_number_21 cni_1 ?_
      refine ev_goto (tgt := 26) dX12_number_22 (by decide) ?_
      refine ev_d2 kX12_number_26 (m_takes_F hn hps0) (ev_rv_of h129 rfl rfl) (by decide) (by decide) (Nat.le_of_ble_eq_true rfl) ?_
      intro r M2 hr
      obtain ⟨rfl, hps2, hf2⟩ := hr
      exact ev_reti dX12_number_29 rfl rfl (⟨rfl, hps2, hf2⟩)
theorem m_number_T {G : ev_G} {n : Nat} {M : ev_M} {tn c0 c1 c2 sh : Nat} {tx s kp bw ar tu : Nat → Int32} {k0 k1 : Bool} {tr : Int64} {d0 d1 d2 : Int32} {dS dB dA : Nat → Int32} (hn : tn ≤ 400) (htx : ∀ k, k < tn → 0 ≤ tx k) {p : Nat} (hps : md_ps M tn c0 c1 c2 sh tx s kp bw ar tu k0 k1 tr ((true, p)) d0 d1 d2 dS dB dA) {lo hi : Int32} (hhi : hi ≤ 999) : ev_Cal G mX12_number 6 0 0 [.ref 129, .int lo, .int hi] n M (fun r M1 => r = some (.int (nb_v tn tx (true, p) lo hi)) ∧ md_ps M1 tn c0 c1 c2 sh tx s kp bw ar tu k0 k1 tr (nb_s tn tx (true, p) lo hi) d0 d1 d2 dS dB dA ∧ ∀ k, k < 129 → M1 k = M k) := by
  refine ev_Cal_of (L := [some (.ref 129), some (.int lo), some (.int hi)]) (by decide +kernel) (Nat.le_of_ble_eq_true rfl) rfl ?_
  have hps0 := hps
  obtain ⟨nx, tk, pl, va, fa, hPP0, hle, hT, hF⟩ := hps
  have hle : p ≤ tn := hle
  obtain ⟨hfa, hpl, nxn, hnx, hok⟩ := hT rfl
  subst hnx
  have hok : tok_ok tn tx (rd_skip tn tx p) tk va nxn := hok
  have hPP := hPP0
  obtain ⟨th, sp, of', ba, go, dr, ki, up, dn, one, gof, dof, act, ik, h129, h130, h131, h132, h133, hk0, hk1, h134, h135, h136, h137, h138, h139, h140, h141, h142, h143, hsh⟩ := hPP
  refine ev_aload_n (i := 0) dX12_number_0 rfl rfl ?_
  refine ev_aload_n (i := 0) dX12_number_1 rfl rfl ?_
  refine ev_getf dX12_number_2 flX12_86 (by assumption) (by rfl) ?_
  refine ev_iconst (v := 2) dX12_number_5 cni_2 ?_
  refine ev_icmp_ne (tgt := 25) dX12_number_6 (by decide) (fun h6 => ?_) (fun h6 => ?_)
  · skip
    refine ev_iconst (v := 0) dX12_number_25 cni_0 ?_
    refine ev_d2 kX12_number_26 (m_takes_N hn hps0) (ev_rv_of h129 rfl rfl) (by decide) (by decide) (Nat.le_of_ble_eq_true rfl) ?_
    intro r M2 hr
    obtain ⟨rfl, hps2, hf2⟩ := hr
    exact ev_reti dX12_number_29 rfl rfl (⟨by rw [nb_v, if_neg (fun z => absurd ((hok.2.2.2.1 lo hi hhi).mpr z.2) (fun q => h6 q.1))], by rw [nb_s, if_pos rfl, if_neg (fun z => absurd ((hok.2.2.2.1 lo hi hhi).mpr z) (fun q => h6 q.1))]; exact hps2, hf2⟩)
  · skip
    refine ev_aload_n (i := 0) dX12_number_9 rfl rfl ?_
    refine ev_getf dX12_number_10 flX12_93 (by assumption) (by rfl) ?_
    refine ev_iload_n (i := 1) dX12_number_13 rfl rfl ?_
    refine ev_iload_n (i := 2) dX12_number_14 rfl rfl ?_
    refine ev_c3 kX12_number_15 (c13_in) trivial (by decide) (by decide) (Nat.le_of_ble_eq_true rfl) ?_
    refine ev_if_eqb (tgt := 25) dX12_number_18 (by decide) (fun h18 => ?_) (fun h18 => ?_)
    · skip
      refine ev_iconst (v := 0) dX12_number_25 cni_0 ?_
      refine ev_d2 kX12_number_26 (m_takes_N hn hps0) (ev_rv_of h129 rfl rfl) (by decide) (by decide) (Nat.le_of_ble_eq_true rfl) ?_
      intro r M2 hr
      obtain ⟨rfl, hps2, hf2⟩ := hr
      exact ev_reti dX12_number_29 rfl rfl (⟨by rw [nb_v, if_neg (fun z => absurd ((hok.2.2.2.1 lo hi hhi).mpr z.2) (fun q => Bool.false_ne_true (h18.symm.trans q.2)))], by rw [nb_s, if_pos rfl, if_neg (fun z => absurd ((hok.2.2.2.1 lo hi hhi).mpr z) (fun q => Bool.false_ne_true (h18.symm.trans q.2)))]; exact hps2, hf2⟩)
    · skip
      have hv := (hok.2.2.2.1 lo hi hhi).mp ⟨h6, h18⟩
      have hx := hok.2.2.2.2.1 lo hi hhi hv
      refine ev_iconst (v := 1) dX12_number_21 cni_1 ?_
      refine ev_goto (tgt := 26) dX12_number_22 (by decide) ?_
      refine ev_d2 kX12_number_26 (m_takes_Y hn htx hok.2.2.2.2.2.2.2.2 hPP0 hfa) (ev_rv_of h129 rfl rfl) (by decide) (by decide) (Nat.le_of_ble_eq_true rfl) ?_
      intro r M2 hr
      obtain ⟨rfl, hps2, hf2⟩ := hr
      exact ev_reti dX12_number_29 rfl rfl (⟨by rw [nb_v, if_pos ⟨rfl, hv⟩, hx.2], by rw [nb_s, if_pos rfl, if_pos hv, ← hx.1]; exact hps2, hf2⟩)
theorem m_number {G : ev_G} {n : Nat} {M : ev_M} {tn c0 c1 c2 sh : Nat} {tx s kp bw ar tu : Nat → Int32} {k0 k1 : Bool} {tr : Int64} {d0 d1 d2 : Int32} {dS dB dA : Nat → Int32} (hn : tn ≤ 400) (htx : ∀ k, k < tn → 0 ≤ tx k) {ps : Bool × Nat} (hps : md_ps M tn c0 c1 c2 sh tx s kp bw ar tu k0 k1 tr ps d0 d1 d2 dS dB dA) {lo hi : Int32} (hhi : hi ≤ 999) : ev_Cal G mX12_number 6 0 0 [.ref 129, .int lo, .int hi] n M (fun r M1 => r = some (.int (nb_v tn tx ps lo hi)) ∧ md_ps M1 tn c0 c1 c2 sh tx s kp bw ar tu k0 k1 tr (nb_s tn tx ps lo hi) d0 d1 d2 dS dB dA ∧ ∀ k, k < 129 → M1 k = M k) := by
  obtain ⟨b, p⟩ := ps
  cases b with
  | false => exact m_number_F hn hps
  | true => exact m_number_T hn htx hps hhi
theorem rs_chain {S : Nat → Int32} {c : Nat} {v : Nat → Int32} : upd (upd (upd (upd (upd (upd (upd S (7 * c + 0) (v 0)) (7 * c + 1) (v 1)) (7 * c + 2) (v 2)) (7 * c + 3) (v 3)) (7 * c + 4) (v 4)) (7 * c + 5) (v 5)) (7 * c + 6) 0 = rs_stk S c v := by
  funext q
  simp only [upd, rs_stk]
  by_cases h : 7 * c ≤ q ∧ q < 7 * c + 6
  · rw [if_pos h, if_neg (by omega)]
    obtain ⟨k, hk⟩ : ∃ k, q - 7 * c = k := ⟨_, rfl⟩
    rw [hk]
    have hq : q = 7 * c + k := by omega
    subst hq
    match k, (show k < 6 by omega) with
    | 5, _ => rw [if_pos rfl]
    | 4, _ => rw [if_neg (by omega), if_pos rfl]
    | 3, _ => rw [if_neg (by omega), if_neg (by omega), if_pos rfl]
    | 2, _ => rw [if_neg (by omega), if_neg (by omega), if_neg (by omega), if_pos rfl]
    | 1, _ => rw [if_neg (by omega), if_neg (by omega), if_neg (by omega), if_neg (by omega), if_pos rfl]
    | 0, _ => rw [if_neg (by omega), if_neg (by omega), if_neg (by omega), if_neg (by omega), if_neg (by omega), if_pos rfl]
  · rw [if_neg h]
    by_cases h2 : q = 7 * c + 6
    · rw [if_pos h2, if_pos h2]
    · rw [if_neg h2, if_neg h2, if_neg (by omega), if_neg (by omega), if_neg (by omega), if_neg (by omega), if_neg (by omega), if_neg (by omega)]
theorem m_item_S {G : ev_G} {n : Nat} {M : ev_M} {tn c0 c1 c2 sh : Nat} {tx s kp bw ar tu : Nat → Int32} {k0 k1 : Bool} {tr : Int64} {d1 d2 : Int32} {dS dB dA : Nat → Int32} (hn : tn ≤ 400) (htx : ∀ k, k < tn → 0 ≤ tx k) {c p : Nat} (hc : c < 12) (hps : md_ps M tn c0 c1 c2 sh tx s kp bw ar tu k0 k1 tr ((true, p)) (nI c) d1 d2 dS dB dA)  : ev_Cal G mX12_readsItem 7 0 0 [.ref 129, .int 0] n M (fun r M1 => r = none ∧ md_ps M1 tn c0 c1 c2 sh tx s kp bw ar tu k0 k1 tr (nb_p tn tx lo_S hi_S p 6) (nI (c + 1)) d1 d2 (rs_stk dS c (nb_w tn tx lo_S hi_S p)) dB dA ∧ ∀ k, k < 129 → M1 k = M k) := by
  refine ev_Cal_of (L := [some (.ref 129), some (.int 0), none, none]) (by decide +kernel) (Nat.le_of_ble_eq_true rfl) rfl ?_
  have hps0 := hps
  obtain ⟨nx, tk, pl, va, fa, hPP, hle, hT, hF⟩ := hps
  obtain ⟨th, sp, of', ba, go, dr, ki, up, dn, one, gof, dof, act, ik, h129, h130, h131, h132, h133, hk0, hk1, h134, h135, h136, h137, h138, h139, h140, h141, h142, h143, hsh⟩ := hPP
  refine ev_iload_n (i := 1) dX12_readsItem_0 rfl rfl ?_
  refine ev_if_ne (tgt := 135) dX12_readsItem_1 (by decide) (fun h1 => False.elim (absurd rfl h1)) (fun h1 => ?_)
  refine ev_bipush (v := 7) dX12_readsItem_4 cnb_7 ?_
  refine ev_aload_n (i := 0) dX12_readsItem_6 rfl rfl ?_
  refine ev_getf dX12_readsItem_7 flX12_110 (by assumption) (by rfl) ?_
  refine ev_imul dX12_readsItem_10 ?_
  refine ev_topi (nI_mul 7 c) ?_
  refine ev_istore_n (i := 2) dX12_readsItem_11 rfl (Nat.le_of_ble_eq_true rfl) rfl ?_
  refine ev_aload_n (i := 0) dX12_readsItem_12 rfl rfl ?_
  refine ev_getf dX12_readsItem_13 flX12_29 (by assumption) (by rfl) ?_
  refine ev_iload_n (i := 2) dX12_readsItem_16 rfl rfl ?_
  refine ev_iconst (v := 0) dX12_readsItem_17 cni_0 ?_
  refine ev_iadd dX12_readsItem_18 ?_
  refine ev_aload_n (i := 0) dX12_readsItem_19 rfl rfl ?_
  refine ev_bipush (v := 80) dX12_readsItem_20 cnb_80 ?_
  refine ev_sipush (v := 130) dX12_readsItem_22 cns_130 ?_
  refine ev_d3 kX12_readsItem_25 (m_number (lo := lo_S 0) (hi := hi_S 0) hn htx hps0 (by decide)) (ev_rv_of h129 rfl rfl) (by decide) (by decide) (Nat.le_of_ble_eq_true rfl) ?_
  intro r M1 hr
  obtain ⟨rfl, hps1, hf1⟩ := hr
  change md_ps M1 tn c0 c1 c2 sh tx s kp bw ar tu k0 k1 tr (nb_p tn tx lo_S hi_S p 1) (nI c) d1 d2 dS dB dA at hps1
  have hps := hps1
  obtain ⟨nx, tk, pl, va, fa, hPP, hle, hT, hF⟩ := hps
  obtain ⟨th, sp, of', ba, go, dr, ki, up, dn, one, gof, dof, act, ik, h129, h130, h131, h132, h133, hk0, hk1, h134, h135, h136, h137, h138, h139, h140, h141, h142, h143, hsh⟩ := hPP
  refine md_pt136 hps1 (j := 7 * c + 0) dX12_readsItem_28 (ev_ixa (7 * c) 0 (by omega)) (by omega) (fun M2 hps2 hf2 => ?_)
  have hps := hps2
  obtain ⟨nx, tk, pl, va, fa, hPP, hle, hT, hF⟩ := hps
  obtain ⟨th, sp, of', ba, go, dr, ki, up, dn, one, gof, dof, act, ik, h129, h130, h131, h132, h133, hk0, hk1, h134, h135, h136, h137, h138, h139, h140, h141, h142, h143, hsh⟩ := hPP
  refine ev_aload_n (i := 0) dX12_readsItem_29 rfl rfl ?_
  refine ev_getf dX12_readsItem_30 flX12_29 (by assumption) (by rfl) ?_
  refine ev_iload_n (i := 2) dX12_readsItem_33 rfl rfl ?_
  refine ev_iconst (v := 1) dX12_readsItem_34 cni_1 ?_
  refine ev_iadd dX12_readsItem_35 ?_
  refine ev_aload_n (i := 0) dX12_readsItem_36 rfl rfl ?_
  refine ev_sipush (v := 200) dX12_readsItem_37 cns_200 ?_
  refine ev_sipush (v := 600) dX12_readsItem_40 cns_600 ?_
  refine ev_d3 kX12_readsItem_43 (m_number (lo := lo_S 1) (hi := hi_S 1) hn htx hps2 (by decide)) (ev_rv_of h129 rfl rfl) (by decide) (by decide) (Nat.le_of_ble_eq_true rfl) ?_
  intro r M3 hr
  obtain ⟨rfl, hps3, hf3⟩ := hr
  change md_ps M3 tn c0 c1 c2 sh tx s kp bw ar tu k0 k1 tr (nb_p tn tx lo_S hi_S p 2) (nI c) d1 d2 ((upd dS (7 * c + 0) (nb_w tn tx lo_S hi_S p 0))) dB dA at hps3
  have hps := hps3
  obtain ⟨nx, tk, pl, va, fa, hPP, hle, hT, hF⟩ := hps
  obtain ⟨th, sp, of', ba, go, dr, ki, up, dn, one, gof, dof, act, ik, h129, h130, h131, h132, h133, hk0, hk1, h134, h135, h136, h137, h138, h139, h140, h141, h142, h143, hsh⟩ := hPP
  refine md_pt136 hps3 (j := 7 * c + 1) dX12_readsItem_46 (ev_ixa (7 * c) 1 (by omega)) (by omega) (fun M4 hps4 hf4 => ?_)
  have hps := hps4
  obtain ⟨nx, tk, pl, va, fa, hPP, hle, hT, hF⟩ := hps
  obtain ⟨th, sp, of', ba, go, dr, ki, up, dn, one, gof, dof, act, ik, h129, h130, h131, h132, h133, hk0, hk1, h134, h135, h136, h137, h138, h139, h140, h141, h142, h143, hsh⟩ := hPP
  refine ev_aload_n (i := 0) dX12_readsItem_47 rfl rfl ?_
  refine ev_getf dX12_readsItem_48 flX12_29 (by assumption) (by rfl) ?_
  refine ev_iload_n (i := 2) dX12_readsItem_51 rfl rfl ?_
  refine ev_iconst (v := 2) dX12_readsItem_52 cni_2 ?_
  refine ev_iadd dX12_readsItem_53 ?_
  refine ev_aload_n (i := 0) dX12_readsItem_54 rfl rfl ?_
  refine ev_bipush (v := 20) dX12_readsItem_55 cnb_20 ?_
  refine ev_bipush (v := 99) dX12_readsItem_57 cnb_99 ?_
  refine ev_d3 kX12_readsItem_59 (m_number (lo := lo_S 2) (hi := hi_S 2) hn htx hps4 (by decide)) (ev_rv_of h129 rfl rfl) (by decide) (by decide) (Nat.le_of_ble_eq_true rfl) ?_
  intro r M5 hr
  obtain ⟨rfl, hps5, hf5⟩ := hr
  change md_ps M5 tn c0 c1 c2 sh tx s kp bw ar tu k0 k1 tr (nb_p tn tx lo_S hi_S p 3) (nI c) d1 d2 ((upd (upd dS (7 * c + 0) (nb_w tn tx lo_S hi_S p 0)) (7 * c + 1) (nb_w tn tx lo_S hi_S p 1))) dB dA at hps5
  have hps := hps5
  obtain ⟨nx, tk, pl, va, fa, hPP, hle, hT, hF⟩ := hps
  obtain ⟨th, sp, of', ba, go, dr, ki, up, dn, one, gof, dof, act, ik, h129, h130, h131, h132, h133, hk0, hk1, h134, h135, h136, h137, h138, h139, h140, h141, h142, h143, hsh⟩ := hPP
  refine md_pt136 hps5 (j := 7 * c + 2) dX12_readsItem_62 (ev_ixa (7 * c) 2 (by omega)) (by omega) (fun M6 hps6 hf6 => ?_)
  have hps := hps6
  obtain ⟨nx, tk, pl, va, fa, hPP, hle, hT, hF⟩ := hps
  obtain ⟨th, sp, of', ba, go, dr, ki, up, dn, one, gof, dof, act, ik, h129, h130, h131, h132, h133, hk0, hk1, h134, h135, h136, h137, h138, h139, h140, h141, h142, h143, hsh⟩ := hPP
  refine ev_aload_n (i := 0) dX12_readsItem_63 rfl rfl ?_
  refine ev_getf dX12_readsItem_64 flX12_29 (by assumption) (by rfl) ?_
  refine ev_iload_n (i := 2) dX12_readsItem_67 rfl rfl ?_
  refine ev_iconst (v := 2) dX12_readsItem_68 cni_2 ?_
  refine ev_iadd dX12_readsItem_69 ?_
  refine ev_iconst (v := 1) dX12_readsItem_70 cni_1 ?_
  refine ev_iadd dX12_readsItem_71 ?_
  refine ev_aload_n (i := 0) dX12_readsItem_72 rfl rfl ?_
  refine ev_bipush (v := 20) dX12_readsItem_73 cnb_20 ?_
  refine ev_bipush (v := 99) dX12_readsItem_75 cnb_99 ?_
  refine ev_d3 kX12_readsItem_77 (m_number (lo := lo_S 3) (hi := hi_S 3) hn htx hps6 (by decide)) (ev_rv_of h129 rfl rfl) (by decide) (by decide) (Nat.le_of_ble_eq_true rfl) ?_
  intro r M7 hr
  obtain ⟨rfl, hps7, hf7⟩ := hr
  change md_ps M7 tn c0 c1 c2 sh tx s kp bw ar tu k0 k1 tr (nb_p tn tx lo_S hi_S p 4) (nI c) d1 d2 ((upd (upd (upd dS (7 * c + 0) (nb_w tn tx lo_S hi_S p 0)) (7 * c + 1) (nb_w tn tx lo_S hi_S p 1)) (7 * c + 2) (nb_w tn tx lo_S hi_S p 2))) dB dA at hps7
  have hps := hps7
  obtain ⟨nx, tk, pl, va, fa, hPP, hle, hT, hF⟩ := hps
  obtain ⟨th, sp, of', ba, go, dr, ki, up, dn, one, gof, dof, act, ik, h129, h130, h131, h132, h133, hk0, hk1, h134, h135, h136, h137, h138, h139, h140, h141, h142, h143, hsh⟩ := hPP
  refine md_pt136 hps7 (j := 7 * c + 3) dX12_readsItem_80 (ev_ixa3 (7 * c) (by omega)) (by omega) (fun M8 hps8 hf8 => ?_)
  have hps := hps8
  obtain ⟨nx, tk, pl, va, fa, hPP, hle, hT, hF⟩ := hps
  obtain ⟨th, sp, of', ba, go, dr, ki, up, dn, one, gof, dof, act, ik, h129, h130, h131, h132, h133, hk0, hk1, h134, h135, h136, h137, h138, h139, h140, h141, h142, h143, hsh⟩ := hPP
  refine ev_aload_n (i := 0) dX12_readsItem_81 rfl rfl ?_
  refine ev_getf dX12_readsItem_82 flX12_29 (by assumption) (by rfl) ?_
  refine ev_iload_n (i := 2) dX12_readsItem_85 rfl rfl ?_
  refine ev_iconst (v := 4) dX12_readsItem_86 cni_4 ?_
  refine ev_iadd dX12_readsItem_87 ?_
  refine ev_aload_n (i := 0) dX12_readsItem_88 rfl rfl ?_
  refine ev_iconst (v := 0) dX12_readsItem_89 cni_0 ?_
  refine ev_sipush (v := 200) dX12_readsItem_90 cns_200 ?_
  refine ev_d3 kX12_readsItem_93 (m_number (lo := lo_S 4) (hi := hi_S 4) hn htx hps8 (by decide)) (ev_rv_of h129 rfl rfl) (by decide) (by decide) (Nat.le_of_ble_eq_true rfl) ?_
  intro r M9 hr
  obtain ⟨rfl, hps9, hf9⟩ := hr
  change md_ps M9 tn c0 c1 c2 sh tx s kp bw ar tu k0 k1 tr (nb_p tn tx lo_S hi_S p 5) (nI c) d1 d2 ((upd (upd (upd (upd dS (7 * c + 0) (nb_w tn tx lo_S hi_S p 0)) (7 * c + 1) (nb_w tn tx lo_S hi_S p 1)) (7 * c + 2) (nb_w tn tx lo_S hi_S p 2)) (7 * c + 3) (nb_w tn tx lo_S hi_S p 3))) dB dA at hps9
  have hps := hps9
  obtain ⟨nx, tk, pl, va, fa, hPP, hle, hT, hF⟩ := hps
  obtain ⟨th, sp, of', ba, go, dr, ki, up, dn, one, gof, dof, act, ik, h129, h130, h131, h132, h133, hk0, hk1, h134, h135, h136, h137, h138, h139, h140, h141, h142, h143, hsh⟩ := hPP
  refine md_pt136 hps9 (j := 7 * c + 4) dX12_readsItem_96 (ev_ixa (7 * c) 4 (by omega)) (by omega) (fun M10 hps10 hf10 => ?_)
  have hps := hps10
  obtain ⟨nx, tk, pl, va, fa, hPP, hle, hT, hF⟩ := hps
  obtain ⟨th, sp, of', ba, go, dr, ki, up, dn, one, gof, dof, act, ik, h129, h130, h131, h132, h133, hk0, hk1, h134, h135, h136, h137, h138, h139, h140, h141, h142, h143, hsh⟩ := hPP
  refine ev_aload_n (i := 0) dX12_readsItem_97 rfl rfl ?_
  refine ev_getf dX12_readsItem_98 flX12_29 (by assumption) (by rfl) ?_
  refine ev_iload_n (i := 2) dX12_readsItem_101 rfl rfl ?_
  refine ev_iconst (v := 5) dX12_readsItem_102 cni_5 ?_
  refine ev_iadd dX12_readsItem_103 ?_
  refine ev_aload_n (i := 0) dX12_readsItem_104 rfl rfl ?_
  refine ev_iconst (v := 0) dX12_readsItem_105 cni_0 ?_
  refine ev_bipush (v := 9) dX12_readsItem_106 cnb_9 ?_
  refine ev_d3 kX12_readsItem_108 (m_number (lo := lo_S 5) (hi := hi_S 5) hn htx hps10 (by decide)) (ev_rv_of h129 rfl rfl) (by decide) (by decide) (Nat.le_of_ble_eq_true rfl) ?_
  intro r M11 hr
  obtain ⟨rfl, hps11, hf11⟩ := hr
  change md_ps M11 tn c0 c1 c2 sh tx s kp bw ar tu k0 k1 tr (nb_p tn tx lo_S hi_S p 6) (nI c) d1 d2 ((upd (upd (upd (upd (upd dS (7 * c + 0) (nb_w tn tx lo_S hi_S p 0)) (7 * c + 1) (nb_w tn tx lo_S hi_S p 1)) (7 * c + 2) (nb_w tn tx lo_S hi_S p 2)) (7 * c + 3) (nb_w tn tx lo_S hi_S p 3)) (7 * c + 4) (nb_w tn tx lo_S hi_S p 4))) dB dA at hps11
  have hps := hps11
  obtain ⟨nx, tk, pl, va, fa, hPP, hle, hT, hF⟩ := hps
  obtain ⟨th, sp, of', ba, go, dr, ki, up, dn, one, gof, dof, act, ik, h129, h130, h131, h132, h133, hk0, hk1, h134, h135, h136, h137, h138, h139, h140, h141, h142, h143, hsh⟩ := hPP
  refine md_pt136 hps11 (j := 7 * c + 5) dX12_readsItem_111 (ev_ixa (7 * c) 5 (by omega)) (by omega) (fun M12 hps12 hf12 => ?_)
  have hps := hps12
  obtain ⟨nx, tk, pl, va, fa, hPP, hle, hT, hF⟩ := hps
  obtain ⟨th, sp, of', ba, go, dr, ki, up, dn, one, gof, dof, act, ik, h129, h130, h131, h132, h133, hk0, hk1, h134, h135, h136, h137, h138, h139, h140, h141, h142, h143, hsh⟩ := hPP
  refine ev_aload_n (i := 0) dX12_readsItem_112 rfl rfl ?_
  refine ev_getf dX12_readsItem_113 flX12_29 (by assumption) (by rfl) ?_
  refine ev_iload_n (i := 2) dX12_readsItem_116 rfl rfl ?_
  refine ev_bipush (v := 6) dX12_readsItem_117 cnb_6 ?_
  refine ev_iadd dX12_readsItem_119 ?_
  refine ev_iconst (v := 0) dX12_readsItem_120 cni_0 ?_
  refine md_pt136 hps12 (j := 7 * c + 6) dX12_readsItem_121 (ev_ixa (7 * c) 6 (by omega)) (by omega) (fun M13 hps13 hf13 => ?_)
  have hps := hps13
  obtain ⟨nx, tk, pl, va, fa, hPP, hle, hT, hF⟩ := hps
  obtain ⟨th, sp, of', ba, go, dr, ki, up, dn, one, gof, dof, act, ik, h129, h130, h131, h132, h133, hk0, hk1, h134, h135, h136, h137, h138, h139, h140, h141, h142, h143, hsh⟩ := hPP
  refine ev_aload_n (i := 0) dX12_readsItem_122 rfl rfl ?_
  refine ev_dup dX12_readsItem_123 rfl ?_
  refine ev_getf dX12_readsItem_124 flX12_110 (by assumption) (by rfl) ?_
  refine ev_iconst (v := 1) dX12_readsItem_127 cni_1 ?_
  refine ev_iadd dX12_readsItem_128 ?_
  refine ev_topi (nI_1 c) ?_
  refine md_pt_d0 hps13 dX12_readsItem_129 rfl (fun M14 hps14 hf14 => ?_)
  have hps := hps14
  obtain ⟨nx, tk, pl, va, fa, hPP, hle, hT, hF⟩ := hps
  obtain ⟨th, sp, of', ba, go, dr, ki, up, dn, one, gof, dof, act, ik, h129, h130, h131, h132, h133, hk0, hk1, h134, h135, h136, h137, h138, h139, h140, h141, h142, h143, hsh⟩ := hPP
  refine ev_goto (tgt := 282) dX12_readsItem_132 (by decide) ?_
  exact ev_retv dX12_readsItem_282 rfl (⟨rfl, by have h : md_ps M14 tn c0 c1 c2 sh tx s kp bw ar tu k0 k1 tr (nb_p tn tx lo_S hi_S p 6) (nI (c + 1)) d1 d2 ((upd (upd (upd (upd (upd (upd (upd dS (7 * c + 0) (nb_w tn tx lo_S hi_S p 0)) (7 * c + 1) (nb_w tn tx lo_S hi_S p 1)) (7 * c + 2) (nb_w tn tx lo_S hi_S p 2)) (7 * c + 3) (nb_w tn tx lo_S hi_S p 3)) (7 * c + 4) (nb_w tn tx lo_S hi_S p 4)) (7 * c + 5) (nb_w tn tx lo_S hi_S p 5)) (7 * c + 6) 0)) dB dA := hps14; rw [rs_chain (S := dS) (c := c) (v := nb_w tn tx lo_S hi_S p)] at h; exact h, fun k hk => (hf14 k hk).trans ((hf13 k hk).trans ((hf12 k hk).trans ((hf11 k hk).trans ((hf10 k hk).trans ((hf9 k hk).trans ((hf8 k hk).trans ((hf7 k hk).trans ((hf6 k hk).trans ((hf5 k hk).trans ((hf4 k hk).trans ((hf3 k hk).trans ((hf2 k hk).trans (hf1 k hk)))))))))))))⟩)
theorem m_item_B {G : ev_G} {n : Nat} {M : ev_M} {tn c0 c1 c2 sh : Nat} {tx s kp bw ar tu : Nat → Int32} {k0 k1 : Bool} {tr : Int64} {d0 d2 : Int32} {dS dB dA : Nat → Int32} (hn : tn ≤ 400) (htx : ∀ k, k < tn → 0 ≤ tx k) {c p : Nat} (hc : c < 3) (hps : md_ps M tn c0 c1 c2 sh tx s kp bw ar tu k0 k1 tr ((true, p)) d0 (nI c) d2 dS dB dA)  : ev_Cal G mX12_readsItem 7 0 0 [.ref 129, .int 1] n M (fun r M1 => r = none ∧ md_ps M1 tn c0 c1 c2 sh tx s kp bw ar tu k0 k1 tr (nb_p tn tx lo_B hi_B p 2) d0 (nI (c + 1)) d2 dS (rs_two dB c (nb_w tn tx lo_B hi_B p 0) (nb_w tn tx lo_B hi_B p 1)) dA ∧ ∀ k, k < 129 → M1 k = M k) := by
  refine ev_Cal_of (L := [some (.ref 129), some (.int 1), none, none]) (by decide +kernel) (Nat.le_of_ble_eq_true rfl) rfl ?_
  have hps0 := hps
  obtain ⟨nx, tk, pl, va, fa, hPP, hle, hT, hF⟩ := hps
  obtain ⟨th, sp, of', ba, go, dr, ki, up, dn, one, gof, dof, act, ik, h129, h130, h131, h132, h133, hk0, hk1, h134, h135, h136, h137, h138, h139, h140, h141, h142, h143, hsh⟩ := hPP
  refine ev_iload_n (i := 1) dX12_readsItem_0 rfl rfl ?_
  refine ev_if_ne (tgt := 135) dX12_readsItem_1 (by decide) (fun h1 => ?_) (fun h1 => False.elim (absurd h1 (by decide)))
  refine ev_iload_n (i := 1) dX12_readsItem_135 rfl rfl ?_
  refine ev_iconst (v := 1) dX12_readsItem_136 cni_1 ?_
  refine ev_icmp_ne (tgt := 192) dX12_readsItem_137 (by decide) (fun h137 => False.elim (absurd rfl h137)) (fun h137 => ?_)
  refine ev_aload_n (i := 0) dX12_readsItem_140 rfl rfl ?_
  refine ev_getf dX12_readsItem_141 flX12_32 (by assumption) (by rfl) ?_
  refine ev_iconst (v := 2) dX12_readsItem_144 cni_2 ?_
  refine ev_aload_n (i := 0) dX12_readsItem_145 rfl rfl ?_
  refine ev_getf dX12_readsItem_146 flX12_117 (by assumption) (by rfl) ?_
  refine ev_imul dX12_readsItem_149 ?_
  refine ev_aload_n (i := 0) dX12_readsItem_150 rfl rfl ?_
  refine ev_bipush (v := 20) dX12_readsItem_151 cnb_20 ?_
  refine ev_bipush (v := 70) dX12_readsItem_153 cnb_70 ?_
  refine ev_d3 kX12_readsItem_155 (m_number (lo := lo_B 0) (hi := hi_B 0) hn htx hps0 (by decide)) (ev_rv_of h129 rfl rfl) (by decide) (by decide) (Nat.le_of_ble_eq_true rfl) ?_
  intro r M1 hr
  obtain ⟨rfl, hps1, hf1⟩ := hr
  change md_ps M1 tn c0 c1 c2 sh tx s kp bw ar tu k0 k1 tr (nb_p tn tx lo_B hi_B p 1) d0 (nI c) d2 dS dB dA at hps1
  have hps := hps1
  obtain ⟨nx, tk, pl, va, fa, hPP, hle, hT, hF⟩ := hps
  obtain ⟨th, sp, of', ba, go, dr, ki, up, dn, one, gof, dof, act, ik, h129, h130, h131, h132, h133, hk0, hk1, h134, h135, h136, h137, h138, h139, h140, h141, h142, h143, hsh⟩ := hPP
  refine md_pt137 hps1 (j := 2 * c) dX12_readsItem_158 (ev_ix20 c (by omega)) (by omega) (fun M2 hps2 hf2 => ?_)
  have hps := hps2
  obtain ⟨nx, tk, pl, va, fa, hPP, hle, hT, hF⟩ := hps
  obtain ⟨th, sp, of', ba, go, dr, ki, up, dn, one, gof, dof, act, ik, h129, h130, h131, h132, h133, hk0, hk1, h134, h135, h136, h137, h138, h139, h140, h141, h142, h143, hsh⟩ := hPP
  refine ev_aload_n (i := 0) dX12_readsItem_159 rfl rfl ?_
  refine ev_getf dX12_readsItem_160 flX12_32 (by assumption) (by rfl) ?_
  refine ev_iconst (v := 2) dX12_readsItem_163 cni_2 ?_
  refine ev_aload_n (i := 0) dX12_readsItem_164 rfl rfl ?_
  refine ev_getf dX12_readsItem_165 flX12_117 (by assumption) (by rfl) ?_
  refine ev_imul dX12_readsItem_168 ?_
  refine ev_iconst (v := 1) dX12_readsItem_169 cni_1 ?_
  refine ev_iadd dX12_readsItem_170 ?_
  refine ev_aload_n (i := 0) dX12_readsItem_171 rfl rfl ?_
  refine ev_iconst (v := 0) dX12_readsItem_172 cni_0 ?_
  refine ev_bipush (v := 9) dX12_readsItem_173 cnb_9 ?_
  refine ev_d3 kX12_readsItem_175 (m_number (lo := lo_B 1) (hi := hi_B 1) hn htx hps2 (by decide)) (ev_rv_of h129 rfl rfl) (by decide) (by decide) (Nat.le_of_ble_eq_true rfl) ?_
  intro r M3 hr
  obtain ⟨rfl, hps3, hf3⟩ := hr
  change md_ps M3 tn c0 c1 c2 sh tx s kp bw ar tu k0 k1 tr (nb_p tn tx lo_B hi_B p 2) d0 (nI c) d2 dS (upd dB (2 * c) (nb_w tn tx lo_B hi_B p 0)) dA at hps3
  have hps := hps3
  obtain ⟨nx, tk, pl, va, fa, hPP, hle, hT, hF⟩ := hps
  obtain ⟨th, sp, of', ba, go, dr, ki, up, dn, one, gof, dof, act, ik, h129, h130, h131, h132, h133, hk0, hk1, h134, h135, h136, h137, h138, h139, h140, h141, h142, h143, hsh⟩ := hPP
  refine md_pt137 hps3 (j := 2 * c + 1) dX12_readsItem_178 (ev_ix2 c 1 (by omega)) (by omega) (fun M4 hps4 hf4 => ?_)
  have hps := hps4
  obtain ⟨nx, tk, pl, va, fa, hPP, hle, hT, hF⟩ := hps
  obtain ⟨th, sp, of', ba, go, dr, ki, up, dn, one, gof, dof, act, ik, h129, h130, h131, h132, h133, hk0, hk1, h134, h135, h136, h137, h138, h139, h140, h141, h142, h143, hsh⟩ := hPP
  refine ev_aload_n (i := 0) dX12_readsItem_179 rfl rfl ?_
  refine ev_dup dX12_readsItem_180 rfl ?_
  refine ev_getf dX12_readsItem_181 flX12_117 (by assumption) (by rfl) ?_
  refine ev_iconst (v := 1) dX12_readsItem_184 cni_1 ?_
  refine ev_iadd dX12_readsItem_185 ?_
  refine ev_topi (nI_1 c) ?_
  refine md_pt_d1 hps4 dX12_readsItem_186 rfl (fun M5 hps5 hf5 => ?_)
  have hps := hps5
  obtain ⟨nx, tk, pl, va, fa, hPP, hle, hT, hF⟩ := hps
  obtain ⟨th, sp, of', ba, go, dr, ki, up, dn, one, gof, dof, act, ik, h129, h130, h131, h132, h133, hk0, hk1, h134, h135, h136, h137, h138, h139, h140, h141, h142, h143, hsh⟩ := hPP
  refine ev_goto (tgt := 282) dX12_readsItem_189 (by decide) ?_
  exact ev_retv dX12_readsItem_282 rfl (⟨rfl, hps5, fun k hk => (hf5 k hk).trans ((hf4 k hk).trans ((hf3 k hk).trans ((hf2 k hk).trans (hf1 k hk))))⟩)
theorem l_item_L {G : ev_G} {n : Nat} {M : ev_M} {tn c0 c1 c2 sh : Nat} {tx s kp bw ar tu : Nat → Int32} {k0 k1 : Bool} {tr : Int64} {d0 d1 : Int32} {dS dB dA : Nat → Int32} (hn : tn ≤ 400) (htx : ∀ k, k < tn → 0 ≤ tx k) {c p : Nat} (hc : c < 3) (hps : md_ps M tn c0 c1 c2 sh tx s kp bw ar tu k0 k1 tr ((true, p)) d0 d1 (nI c) dS dB dA) : ev_E G mX12_readsItem 7 0 0 n M 222 [some (.ref 129), some (.int 2), some (.int 3), none] [] (fun r M1 => r = none ∧ md_ps M1 tn c0 c1 c2 sh tx s kp bw ar tu k0 k1 tr (nb_p tn tx lo_A hi_A p 2) d0 d1 (nI (c + 1)) dS dB (rs_two dA c (-nb_w tn tx lo_A hi_A p 0) (nb_w tn tx lo_A hi_A p 1)) ∧ ∀ k, k < 129 → M1 k = M k) := by
  have hps0 := hps
  obtain ⟨nx, tk, pl, va, fa, hPP, hle, hT, hF⟩ := hps
  obtain ⟨th, sp, of', ba, go, dr, ki, up, dn, one, gof, dof, act, ik, h129, h130, h131, h132, h133, hk0, hk1, h134, h135, h136, h137, h138, h139, h140, h141, h142, h143, hsh⟩ := hPP
  refine ev_aload_n (i := 0) dX12_readsItem_222 rfl rfl ?_
  refine ev_iconst (v := 0) dX12_readsItem_223 cni_0 ?_
  refine ev_bipush (v := 30) dX12_readsItem_224 cnb_30 ?_
  refine ev_d3 kX12_readsItem_226 (m_number (lo := lo_A 0) (hi := hi_A 0) hn htx hps0 (by decide)) (ev_rv_of h129 rfl rfl) (by decide) (by decide) (Nat.le_of_ble_eq_true rfl) ?_
  intro r M1 hr
  obtain ⟨rfl, hps1, hf1⟩ := hr
  change md_ps M1 tn c0 c1 c2 sh tx s kp bw ar tu k0 k1 tr (nb_p tn tx lo_A hi_A p 1) d0 d1 (nI c) dS dB dA at hps1
  have hps := hps1
  obtain ⟨nx, tk, pl, va, fa, hPP, hle, hT, hF⟩ := hps
  obtain ⟨th, sp, of', ba, go, dr, ki, up, dn, one, gof, dof, act, ik, h129, h130, h131, h132, h133, hk0, hk1, h134, h135, h136, h137, h138, h139, h140, h141, h142, h143, hsh⟩ := hPP
  refine ev_istore_n (i := 3) dX12_readsItem_229 rfl (Nat.le_of_ble_eq_true rfl) rfl ?_
  refine ev_aload_n (i := 0) dX12_readsItem_230 rfl rfl ?_
  refine ev_getf dX12_readsItem_231 flX12_35 (by assumption) (by rfl) ?_
  refine ev_iconst (v := 2) dX12_readsItem_234 cni_2 ?_
  refine ev_aload_n (i := 0) dX12_readsItem_235 rfl rfl ?_
  refine ev_getf dX12_readsItem_236 flX12_120 (by assumption) (by rfl) ?_
  refine ev_imul dX12_readsItem_239 ?_
  refine ev_iload_n (i := 2) dX12_readsItem_240 rfl rfl ?_
  refine ev_iconst (v := 3) dX12_readsItem_241 cni_3 ?_
  refine ev_icmp_ne (tgt := 250) dX12_readsItem_242 (by decide) (fun h242 => False.elim (absurd rfl h242)) (fun h242 => ?_)
  refine ev_iload_n (i := 3) dX12_readsItem_245 rfl rfl ?_
  refine ev_ineg dX12_readsItem_246 ?_
  refine ev_goto (tgt := 251) dX12_readsItem_247 (by decide) ?_
  refine md_pt138 hps1 (j := 2 * c) dX12_readsItem_251 (ev_ix20 c (by omega)) (by omega) (fun M2 hps2 hf2 => ?_)
  have hps := hps2
  obtain ⟨nx, tk, pl, va, fa, hPP, hle, hT, hF⟩ := hps
  obtain ⟨th, sp, of', ba, go, dr, ki, up, dn, one, gof, dof, act, ik, h129, h130, h131, h132, h133, hk0, hk1, h134, h135, h136, h137, h138, h139, h140, h141, h142, h143, hsh⟩ := hPP
  refine ev_aload_n (i := 0) dX12_readsItem_252 rfl rfl ?_
  refine ev_getf dX12_readsItem_253 flX12_35 (by assumption) (by rfl) ?_
  refine ev_iconst (v := 2) dX12_readsItem_256 cni_2 ?_
  refine ev_aload_n (i := 0) dX12_readsItem_257 rfl rfl ?_
  refine ev_getf dX12_readsItem_258 flX12_120 (by assumption) (by rfl) ?_
  refine ev_imul dX12_readsItem_261 ?_
  refine ev_iconst (v := 1) dX12_readsItem_262 cni_1 ?_
  refine ev_iadd dX12_readsItem_263 ?_
  refine ev_aload_n (i := 0) dX12_readsItem_264 rfl rfl ?_
  refine ev_iconst (v := 0) dX12_readsItem_265 cni_0 ?_
  refine ev_bipush (v := 20) dX12_readsItem_266 cnb_20 ?_
  refine ev_d3 kX12_readsItem_268 (m_number (lo := lo_A 1) (hi := hi_A 1) hn htx hps2 (by decide)) (ev_rv_of h129 rfl rfl) (by decide) (by decide) (Nat.le_of_ble_eq_true rfl) ?_
  intro r M3 hr
  obtain ⟨rfl, hps3, hf3⟩ := hr
  change md_ps M3 tn c0 c1 c2 sh tx s kp bw ar tu k0 k1 tr (nb_p tn tx lo_A hi_A p 2) d0 d1 (nI c) dS dB (upd dA (2 * c) (-nb_w tn tx lo_A hi_A p 0)) at hps3
  have hps := hps3
  obtain ⟨nx, tk, pl, va, fa, hPP, hle, hT, hF⟩ := hps
  obtain ⟨th, sp, of', ba, go, dr, ki, up, dn, one, gof, dof, act, ik, h129, h130, h131, h132, h133, hk0, hk1, h134, h135, h136, h137, h138, h139, h140, h141, h142, h143, hsh⟩ := hPP
  refine md_pt138 hps3 (j := 2 * c + 1) dX12_readsItem_271 (ev_ix2 c 1 (by omega)) (by omega) (fun M4 hps4 hf4 => ?_)
  have hps := hps4
  obtain ⟨nx, tk, pl, va, fa, hPP, hle, hT, hF⟩ := hps
  obtain ⟨th, sp, of', ba, go, dr, ki, up, dn, one, gof, dof, act, ik, h129, h130, h131, h132, h133, hk0, hk1, h134, h135, h136, h137, h138, h139, h140, h141, h142, h143, hsh⟩ := hPP
  refine ev_aload_n (i := 0) dX12_readsItem_272 rfl rfl ?_
  refine ev_dup dX12_readsItem_273 rfl ?_
  refine ev_getf dX12_readsItem_274 flX12_120 (by assumption) (by rfl) ?_
  refine ev_iconst (v := 1) dX12_readsItem_277 cni_1 ?_
  refine ev_iadd dX12_readsItem_278 ?_
  refine ev_topi (nI_1 c) ?_
  refine md_pt_d2 hps4 dX12_readsItem_279 rfl (fun M5 hps5 hf5 => ?_)
  have hps := hps5
  obtain ⟨nx, tk, pl, va, fa, hPP, hle, hT, hF⟩ := hps
  obtain ⟨th, sp, of', ba, go, dr, ki, up, dn, one, gof, dof, act, ik, h129, h130, h131, h132, h133, hk0, hk1, h134, h135, h136, h137, h138, h139, h140, h141, h142, h143, hsh⟩ := hPP
  exact ev_retv dX12_readsItem_282 rfl (⟨rfl, hps5, fun k hk => (hf5 k hk).trans ((hf4 k hk).trans ((hf3 k hk).trans ((hf2 k hk).trans (hf1 k hk))))⟩)
theorem l_item_R {G : ev_G} {n : Nat} {M : ev_M} {tn c0 c1 c2 sh : Nat} {tx s kp bw ar tu : Nat → Int32} {k0 k1 : Bool} {tr : Int64} {d0 d1 : Int32} {dS dB dA : Nat → Int32} (hn : tn ≤ 400) (htx : ∀ k, k < tn → 0 ≤ tx k) {c p : Nat} (hc : c < 3) (hps : md_ps M tn c0 c1 c2 sh tx s kp bw ar tu k0 k1 tr ((true, p)) d0 d1 (nI c) dS dB dA) : ev_E G mX12_readsItem 7 0 0 n M 222 [some (.ref 129), some (.int 2), some (.int 4), none] [] (fun r M1 => r = none ∧ md_ps M1 tn c0 c1 c2 sh tx s kp bw ar tu k0 k1 tr (nb_p tn tx lo_A hi_A p 2) d0 d1 (nI (c + 1)) dS dB (rs_two dA c (nb_w tn tx lo_A hi_A p 0) (nb_w tn tx lo_A hi_A p 1)) ∧ ∀ k, k < 129 → M1 k = M k) := by
  have hps0 := hps
  obtain ⟨nx, tk, pl, va, fa, hPP, hle, hT, hF⟩ := hps
  obtain ⟨th, sp, of', ba, go, dr, ki, up, dn, one, gof, dof, act, ik, h129, h130, h131, h132, h133, hk0, hk1, h134, h135, h136, h137, h138, h139, h140, h141, h142, h143, hsh⟩ := hPP
  refine ev_aload_n (i := 0) dX12_readsItem_222 rfl rfl ?_
  refine ev_iconst (v := 0) dX12_readsItem_223 cni_0 ?_
  refine ev_bipush (v := 30) dX12_readsItem_224 cnb_30 ?_
  refine ev_d3 kX12_readsItem_226 (m_number (lo := lo_A 0) (hi := hi_A 0) hn htx hps0 (by decide)) (ev_rv_of h129 rfl rfl) (by decide) (by decide) (Nat.le_of_ble_eq_true rfl) ?_
  intro r M1 hr
  obtain ⟨rfl, hps1, hf1⟩ := hr
  change md_ps M1 tn c0 c1 c2 sh tx s kp bw ar tu k0 k1 tr (nb_p tn tx lo_A hi_A p 1) d0 d1 (nI c) dS dB dA at hps1
  have hps := hps1
  obtain ⟨nx, tk, pl, va, fa, hPP, hle, hT, hF⟩ := hps
  obtain ⟨th, sp, of', ba, go, dr, ki, up, dn, one, gof, dof, act, ik, h129, h130, h131, h132, h133, hk0, hk1, h134, h135, h136, h137, h138, h139, h140, h141, h142, h143, hsh⟩ := hPP
  refine ev_istore_n (i := 3) dX12_readsItem_229 rfl (Nat.le_of_ble_eq_true rfl) rfl ?_
  refine ev_aload_n (i := 0) dX12_readsItem_230 rfl rfl ?_
  refine ev_getf dX12_readsItem_231 flX12_35 (by assumption) (by rfl) ?_
  refine ev_iconst (v := 2) dX12_readsItem_234 cni_2 ?_
  refine ev_aload_n (i := 0) dX12_readsItem_235 rfl rfl ?_
  refine ev_getf dX12_readsItem_236 flX12_120 (by assumption) (by rfl) ?_
  refine ev_imul dX12_readsItem_239 ?_
  refine ev_iload_n (i := 2) dX12_readsItem_240 rfl rfl ?_
  refine ev_iconst (v := 3) dX12_readsItem_241 cni_3 ?_
  refine ev_icmp_ne (tgt := 250) dX12_readsItem_242 (by decide) (fun h242 => ?_) (fun h242 => False.elim (absurd h242 (by decide)))
  refine ev_iload_n (i := 3) dX12_readsItem_250 rfl rfl ?_
  refine md_pt138 hps1 (j := 2 * c) dX12_readsItem_251 (ev_ix20 c (by omega)) (by omega) (fun M2 hps2 hf2 => ?_)
  have hps := hps2
  obtain ⟨nx, tk, pl, va, fa, hPP, hle, hT, hF⟩ := hps
  obtain ⟨th, sp, of', ba, go, dr, ki, up, dn, one, gof, dof, act, ik, h129, h130, h131, h132, h133, hk0, hk1, h134, h135, h136, h137, h138, h139, h140, h141, h142, h143, hsh⟩ := hPP
  refine ev_aload_n (i := 0) dX12_readsItem_252 rfl rfl ?_
  refine ev_getf dX12_readsItem_253 flX12_35 (by assumption) (by rfl) ?_
  refine ev_iconst (v := 2) dX12_readsItem_256 cni_2 ?_
  refine ev_aload_n (i := 0) dX12_readsItem_257 rfl rfl ?_
  refine ev_getf dX12_readsItem_258 flX12_120 (by assumption) (by rfl) ?_
  refine ev_imul dX12_readsItem_261 ?_
  refine ev_iconst (v := 1) dX12_readsItem_262 cni_1 ?_
  refine ev_iadd dX12_readsItem_263 ?_
  refine ev_aload_n (i := 0) dX12_readsItem_264 rfl rfl ?_
  refine ev_iconst (v := 0) dX12_readsItem_265 cni_0 ?_
  refine ev_bipush (v := 20) dX12_readsItem_266 cnb_20 ?_
  refine ev_d3 kX12_readsItem_268 (m_number (lo := lo_A 1) (hi := hi_A 1) hn htx hps2 (by decide)) (ev_rv_of h129 rfl rfl) (by decide) (by decide) (Nat.le_of_ble_eq_true rfl) ?_
  intro r M3 hr
  obtain ⟨rfl, hps3, hf3⟩ := hr
  change md_ps M3 tn c0 c1 c2 sh tx s kp bw ar tu k0 k1 tr (nb_p tn tx lo_A hi_A p 2) d0 d1 (nI c) dS dB (upd dA (2 * c) (nb_w tn tx lo_A hi_A p 0)) at hps3
  have hps := hps3
  obtain ⟨nx, tk, pl, va, fa, hPP, hle, hT, hF⟩ := hps
  obtain ⟨th, sp, of', ba, go, dr, ki, up, dn, one, gof, dof, act, ik, h129, h130, h131, h132, h133, hk0, hk1, h134, h135, h136, h137, h138, h139, h140, h141, h142, h143, hsh⟩ := hPP
  refine md_pt138 hps3 (j := 2 * c + 1) dX12_readsItem_271 (ev_ix2 c 1 (by omega)) (by omega) (fun M4 hps4 hf4 => ?_)
  have hps := hps4
  obtain ⟨nx, tk, pl, va, fa, hPP, hle, hT, hF⟩ := hps
  obtain ⟨th, sp, of', ba, go, dr, ki, up, dn, one, gof, dof, act, ik, h129, h130, h131, h132, h133, hk0, hk1, h134, h135, h136, h137, h138, h139, h140, h141, h142, h143, hsh⟩ := hPP
  refine ev_aload_n (i := 0) dX12_readsItem_272 rfl rfl ?_
  refine ev_dup dX12_readsItem_273 rfl ?_
  refine ev_getf dX12_readsItem_274 flX12_120 (by assumption) (by rfl) ?_
  refine ev_iconst (v := 1) dX12_readsItem_277 cni_1 ?_
  refine ev_iadd dX12_readsItem_278 ?_
  refine ev_topi (nI_1 c) ?_
  refine md_pt_d2 hps4 dX12_readsItem_279 rfl (fun M5 hps5 hf5 => ?_)
  have hps := hps5
  obtain ⟨nx, tk, pl, va, fa, hPP, hle, hT, hF⟩ := hps
  obtain ⟨th, sp, of', ba, go, dr, ki, up, dn, one, gof, dof, act, ik, h129, h130, h131, h132, h133, hk0, hk1, h134, h135, h136, h137, h138, h139, h140, h141, h142, h143, hsh⟩ := hPP
  exact ev_retv dX12_readsItem_282 rfl (⟨rfl, hps5, fun k hk => (hf5 k hk).trans ((hf4 k hk).trans ((hf3 k hk).trans ((hf2 k hk).trans (hf1 k hk))))⟩)
theorem l_item_F {G : ev_G} {n : Nat} {M : ev_M} {tn c0 c1 c2 sh : Nat} {tx s kp bw ar tu : Nat → Int32} {k0 k1 : Bool} {tr : Int64} {d0 d1 : Int32} {dS dB dA : Nat → Int32} (hn : tn ≤ 400) (htx : ∀ k, k < tn → 0 ≤ tx k) {c f : Nat} (hc : c < 3) (hps : md_ps M tn c0 c1 c2 sh tx s kp bw ar tu k0 k1 tr ((false, f)) d0 d1 (nI c) dS dB dA) : ev_E G mX12_readsItem 7 0 0 n M 222 [some (.ref 129), some (.int 2), some (.int 0), none] [] (fun r M1 => r = none ∧ (∃ dA2 : Nat → Int32, md_ps M1 tn c0 c1 c2 sh tx s kp bw ar tu k0 k1 tr ((false, f)) d0 d1 (nI (c + 1)) dS dB dA2) ∧ ∀ k, k < 129 → M1 k = M k) := by
  have hps0 := hps
  obtain ⟨nx, tk, pl, va, fa, hPP, hle, hT, hF⟩ := hps
  obtain ⟨th, sp, of', ba, go, dr, ki, up, dn, one, gof, dof, act, ik, h129, h130, h131, h132, h133, hk0, hk1, h134, h135, h136, h137, h138, h139, h140, h141, h142, h143, hsh⟩ := hPP
  refine ev_aload_n (i := 0) dX12_readsItem_222 rfl rfl ?_
  refine ev_iconst (v := 0) dX12_readsItem_223 cni_0 ?_
  refine ev_bipush (v := 30) dX12_readsItem_224 cnb_30 ?_
  refine ev_d3 kX12_readsItem_226 (m_number (lo := 0) (hi := 30) hn htx hps0 (by decide)) (ev_rv_of h129 rfl rfl) (by decide) (by decide) (Nat.le_of_ble_eq_true rfl) ?_
  intro r M1 hr
  obtain ⟨rfl, hps1, hf1⟩ := hr
  have hps := hps1
  obtain ⟨nx, tk, pl, va, fa, hPP, hle, hT, hF⟩ := hps
  obtain ⟨th, sp, of', ba, go, dr, ki, up, dn, one, gof, dof, act, ik, h129, h130, h131, h132, h133, hk0, hk1, h134, h135, h136, h137, h138, h139, h140, h141, h142, h143, hsh⟩ := hPP
  refine ev_istore_n (i := 3) dX12_readsItem_229 rfl (Nat.le_of_ble_eq_true rfl) rfl ?_
  refine ev_aload_n (i := 0) dX12_readsItem_230 rfl rfl ?_
  refine ev_getf dX12_readsItem_231 flX12_35 (by assumption) (by rfl) ?_
  refine ev_iconst (v := 2) dX12_readsItem_234 cni_2 ?_
  refine ev_aload_n (i := 0) dX12_readsItem_235 rfl rfl ?_
  refine ev_getf dX12_readsItem_236 flX12_120 (by assumption) (by rfl) ?_
  refine ev_imul dX12_readsItem_239 ?_
  refine ev_iload_n (i := 2) dX12_readsItem_240 rfl rfl ?_
  refine ev_iconst (v := 3) dX12_readsItem_241 cni_3 ?_
  refine ev_icmp_ne (tgt := 250) dX12_readsItem_242 (by decide) (fun h242 => ?_) (fun h242 => False.elim (absurd h242 (by decide)))
  refine ev_iload_n (i := 3) dX12_readsItem_250 rfl rfl ?_
  refine md_pt138 hps1 (j := 2 * c) dX12_readsItem_251 (ev_ix20 c (by omega)) (by omega) (fun M2 hps2 hf2 => ?_)
  have hps := hps2
  obtain ⟨nx, tk, pl, va, fa, hPP, hle, hT, hF⟩ := hps
  obtain ⟨th, sp, of', ba, go, dr, ki, up, dn, one, gof, dof, act, ik, h129, h130, h131, h132, h133, hk0, hk1, h134, h135, h136, h137, h138, h139, h140, h141, h142, h143, hsh⟩ := hPP
  refine ev_aload_n (i := 0) dX12_readsItem_252 rfl rfl ?_
  refine ev_getf dX12_readsItem_253 flX12_35 (by assumption) (by rfl) ?_
  refine ev_iconst (v := 2) dX12_readsItem_256 cni_2 ?_
  refine ev_aload_n (i := 0) dX12_readsItem_257 rfl rfl ?_
  refine ev_getf dX12_readsItem_258 flX12_120 (by assumption) (by rfl) ?_
  refine ev_imul dX12_readsItem_261 ?_
  refine ev_iconst (v := 1) dX12_readsItem_262 cni_1 ?_
  refine ev_iadd dX12_readsItem_263 ?_
  refine ev_aload_n (i := 0) dX12_readsItem_264 rfl rfl ?_
  refine ev_iconst (v := 0) dX12_readsItem_265 cni_0 ?_
  refine ev_bipush (v := 20) dX12_readsItem_266 cnb_20 ?_
  refine ev_d3 kX12_readsItem_268 (m_number (lo := 0) (hi := 20) hn htx hps2 (by decide)) (ev_rv_of h129 rfl rfl) (by decide) (by decide) (Nat.le_of_ble_eq_true rfl) ?_
  intro r M3 hr
  obtain ⟨rfl, hps3, hf3⟩ := hr
  have hps := hps3
  obtain ⟨nx, tk, pl, va, fa, hPP, hle, hT, hF⟩ := hps
  obtain ⟨th, sp, of', ba, go, dr, ki, up, dn, one, gof, dof, act, ik, h129, h130, h131, h132, h133, hk0, hk1, h134, h135, h136, h137, h138, h139, h140, h141, h142, h143, hsh⟩ := hPP
  refine md_pt138 hps3 (j := 2 * c + 1) dX12_readsItem_271 (ev_ix2 c 1 (by omega)) (by omega) (fun M4 hps4 hf4 => ?_)
  have hps := hps4
  obtain ⟨nx, tk, pl, va, fa, hPP, hle, hT, hF⟩ := hps
  obtain ⟨th, sp, of', ba, go, dr, ki, up, dn, one, gof, dof, act, ik, h129, h130, h131, h132, h133, hk0, hk1, h134, h135, h136, h137, h138, h139, h140, h141, h142, h143, hsh⟩ := hPP
  refine ev_aload_n (i := 0) dX12_readsItem_272 rfl rfl ?_
  refine ev_dup dX12_readsItem_273 rfl ?_
  refine ev_getf dX12_readsItem_274 flX12_120 (by assumption) (by rfl) ?_
  refine ev_iconst (v := 1) dX12_readsItem_277 cni_1 ?_
  refine ev_iadd dX12_readsItem_278 ?_
  refine ev_topi (nI_1 c) ?_
  refine md_pt_d2 hps4 dX12_readsItem_279 rfl (fun M5 hps5 hf5 => ?_)
  have hps := hps5
  obtain ⟨nx, tk, pl, va, fa, hPP, hle, hT, hF⟩ := hps
  obtain ⟨th, sp, of', ba, go, dr, ki, up, dn, one, gof, dof, act, ik, h129, h130, h131, h132, h133, hk0, hk1, h134, h135, h136, h137, h138, h139, h140, h141, h142, h143, hsh⟩ := hPP
  exact ev_retv dX12_readsItem_282 rfl (⟨rfl, ⟨_, hps5⟩, fun k hk => (hf5 k hk).trans ((hf4 k hk).trans ((hf3 k hk).trans ((hf2 k hk).trans (hf1 k hk))))⟩)
theorem m_item_AL {G : ev_G} {n : Nat} {M : ev_M} {tn c0 c1 c2 sh : Nat} {tx s kp bw ar tu : Nat → Int32} {k0 k1 : Bool} {tr : Int64} {d0 d1 : Int32} {dS dB dA : Nat → Int32} (hn : tn ≤ 400) (htx : ∀ k, k < tn → 0 ≤ tx k) {c p : Nat} (hc : c < 3) (hps : md_ps M tn c0 c1 c2 sh tx s kp bw ar tu k0 k1 tr ((true, p)) d0 d1 (nI c) dS dB dA) (hW : rd_W tn tx 3 (rd_skip tn tx p)) : ev_Cal G mX12_readsItem 7 0 0 [.ref 129, .int 2] n M (fun r M1 => r = none ∧ md_ps M1 tn c0 c1 c2 sh tx s kp bw ar tu k0 k1 tr (nb_p tn tx lo_A hi_A ((rd_skip tn tx p) + 4) 2) d0 d1 (nI (c + 1)) dS dB (rs_two dA c (-nb_w tn tx lo_A hi_A ((rd_skip tn tx p) + 4) 0) (nb_w tn tx lo_A hi_A ((rd_skip tn tx p) + 4) 1)) ∧ ∀ k, k < 129 → M1 k = M k) := by
  refine ev_Cal_of (L := [some (.ref 129), some (.int 2), none, none]) (by decide +kernel) (Nat.le_of_ble_eq_true rfl) rfl ?_
  have hps0 := hps
  obtain ⟨nx, tk, pl, va, fa, hPP0, hle, hT, hF⟩ := hps
  have hle : p ≤ tn := hle
  obtain ⟨hfa, hpl, nxn, hnx, hok⟩ := hT rfl
  subst hnx
  have hok : tok_ok tn tx (rd_skip tn tx p) tk va nxn := hok
  have hPP := hPP0
  obtain ⟨th, sp, of', ba, go, dr, ki, up, dn, one, gof, dof, act, ik, h129, h130, h131, h132, h133, hk0, hk1, h134, h135, h136, h137, h138, h139, h140, h141, h142, h143, hsh⟩ := hPP
  have ht := (hok.2.1 3 (by decide)).mpr hW
  have hx : nxn = (rd_skip tn tx p) + 4 := hok.2.2.1 3 (by decide) hW
  refine ev_iload_n (i := 1) dX12_readsItem_0 rfl rfl ?_
  refine ev_if_ne (tgt := 135) dX12_readsItem_1 (by decide) (fun h1 => ?_) (fun h1 => False.elim (absurd h1 (by decide)))
  refine ev_iload_n (i := 1) dX12_readsItem_135 rfl rfl ?_
  refine ev_iconst (v := 1) dX12_readsItem_136 cni_1 ?_
  refine ev_icmp_ne (tgt := 192) dX12_readsItem_137 (by decide) (fun h137 => ?_) (fun h137 => False.elim (absurd h137 (by decide)))
  refine ev_aload_n (i := 0) dX12_readsItem_192 rfl rfl ?_
  refine ev_aload_n (i := 0) dX12_readsItem_193 rfl rfl ?_
  refine ev_getf dX12_readsItem_194 flX12_86 (by assumption) (by rfl) ?_
  refine ev_iconst (v := 1) dX12_readsItem_197 cni_1 ?_
  refine ev_icmp_ne (tgt := 217) dX12_readsItem_198 (by decide) (fun h198 => False.elim (h198 ht.1)) (fun h198 => ?_)
  refine ev_aload_n (i := 0) dX12_readsItem_201 rfl rfl ?_
  refine ev_getf dX12_readsItem_202 flX12_93 (by assumption) (by rfl) ?_
  refine ev_iconst (v := 3) dX12_readsItem_205 cni_3 ?_
  refine ev_iconst (v := 4) dX12_readsItem_206 cni_4 ?_
  refine ev_c3 kX12_readsItem_207 (c13_in) trivial (by decide) (by decide) (Nat.le_of_ble_eq_true rfl) ?_
  refine ev_if_eqb (tgt := 217) dX12_readsItem_210 (by decide) (fun h210 => False.elim (by rw [ht.2] at h210; exact absurd h210 (by decide))) (fun h210 => ?_)
  refine ev_iconst (v := 1) dX12_readsItem_213 cni_1 ?_
  refine ev_goto (tgt := 218) dX12_readsItem_214 (by decide) ?_
  refine ev_d2 kX12_readsItem_218 (m_takes_Y hn htx hok.2.2.2.2.2.2.2.2 hPP0 hfa) (ev_rv_of h129 rfl rfl) (by decide) (by decide) (Nat.le_of_ble_eq_true rfl) ?_
  intro r M2 hr
  obtain ⟨rfl, hps2, hf2⟩ := hr
  rw [hx] at hps2
  refine ev_topi (x2 := 3) ht.2 ?_
  refine ev_istore_n (i := 2) dX12_readsItem_221 rfl (Nat.le_of_ble_eq_true rfl) rfl ?_
  refine ev_post (fun r M1 z => ⟨z.1, z.2.1, fun k hk => (z.2.2 k hk).trans (hf2 k hk)⟩) (l_item_L hn htx hc hps2)
theorem m_item_AR {G : ev_G} {n : Nat} {M : ev_M} {tn c0 c1 c2 sh : Nat} {tx s kp bw ar tu : Nat → Int32} {k0 k1 : Bool} {tr : Int64} {d0 d1 : Int32} {dS dB dA : Nat → Int32} (hn : tn ≤ 400) (htx : ∀ k, k < tn → 0 ≤ tx k) {c p : Nat} (hc : c < 3) (hps : md_ps M tn c0 c1 c2 sh tx s kp bw ar tu k0 k1 tr ((true, p)) d0 d1 (nI c) dS dB dA) (hW : rd_W tn tx 4 (rd_skip tn tx p)) : ev_Cal G mX12_readsItem 7 0 0 [.ref 129, .int 2] n M (fun r M1 => r = none ∧ md_ps M1 tn c0 c1 c2 sh tx s kp bw ar tu k0 k1 tr (nb_p tn tx lo_A hi_A ((rd_skip tn tx p) + 5) 2) d0 d1 (nI (c + 1)) dS dB (rs_two dA c (nb_w tn tx lo_A hi_A ((rd_skip tn tx p) + 5) 0) (nb_w tn tx lo_A hi_A ((rd_skip tn tx p) + 5) 1)) ∧ ∀ k, k < 129 → M1 k = M k) := by
  refine ev_Cal_of (L := [some (.ref 129), some (.int 2), none, none]) (by decide +kernel) (Nat.le_of_ble_eq_true rfl) rfl ?_
  have hps0 := hps
  obtain ⟨nx, tk, pl, va, fa, hPP0, hle, hT, hF⟩ := hps
  have hle : p ≤ tn := hle
  obtain ⟨hfa, hpl, nxn, hnx, hok⟩ := hT rfl
  subst hnx
  have hok : tok_ok tn tx (rd_skip tn tx p) tk va nxn := hok
  have hPP := hPP0
  obtain ⟨th, sp, of', ba, go, dr, ki, up, dn, one, gof, dof, act, ik, h129, h130, h131, h132, h133, hk0, hk1, h134, h135, h136, h137, h138, h139, h140, h141, h142, h143, hsh⟩ := hPP
  have ht := (hok.2.1 4 (by decide)).mpr hW
  have hx : nxn = (rd_skip tn tx p) + 5 := hok.2.2.1 4 (by decide) hW
  refine ev_iload_n (i := 1) dX12_readsItem_0 rfl rfl ?_
  refine ev_if_ne (tgt := 135) dX12_readsItem_1 (by decide) (fun h1 => ?_) (fun h1 => False.elim (absurd h1 (by decide)))
  refine ev_iload_n (i := 1) dX12_readsItem_135 rfl rfl ?_
  refine ev_iconst (v := 1) dX12_readsItem_136 cni_1 ?_
  refine ev_icmp_ne (tgt := 192) dX12_readsItem_137 (by decide) (fun h137 => ?_) (fun h137 => False.elim (absurd h137 (by decide)))
  refine ev_aload_n (i := 0) dX12_readsItem_192 rfl rfl ?_
  refine ev_aload_n (i := 0) dX12_readsItem_193 rfl rfl ?_
  refine ev_getf dX12_readsItem_194 flX12_86 (by assumption) (by rfl) ?_
  refine ev_iconst (v := 1) dX12_readsItem_197 cni_1 ?_
  refine ev_icmp_ne (tgt := 217) dX12_readsItem_198 (by decide) (fun h198 => False.elim (h198 ht.1)) (fun h198 => ?_)
  refine ev_aload_n (i := 0) dX12_readsItem_201 rfl rfl ?_
  refine ev_getf dX12_readsItem_202 flX12_93 (by assumption) (by rfl) ?_
  refine ev_iconst (v := 3) dX12_readsItem_205 cni_3 ?_
  refine ev_iconst (v := 4) dX12_readsItem_206 cni_4 ?_
  refine ev_c3 kX12_readsItem_207 (c13_in) trivial (by decide) (by decide) (Nat.le_of_ble_eq_true rfl) ?_
  refine ev_if_eqb (tgt := 217) dX12_readsItem_210 (by decide) (fun h210 => False.elim (by rw [ht.2] at h210; exact absurd h210 (by decide))) (fun h210 => ?_)
  refine ev_iconst (v := 1) dX12_readsItem_213 cni_1 ?_
  refine ev_goto (tgt := 218) dX12_readsItem_214 (by decide) ?_
  refine ev_d2 kX12_readsItem_218 (m_takes_Y hn htx hok.2.2.2.2.2.2.2.2 hPP0 hfa) (ev_rv_of h129 rfl rfl) (by decide) (by decide) (Nat.le_of_ble_eq_true rfl) ?_
  intro r M2 hr
  obtain ⟨rfl, hps2, hf2⟩ := hr
  rw [hx] at hps2
  refine ev_topi (x2 := 4) ht.2 ?_
  refine ev_istore_n (i := 2) dX12_readsItem_221 rfl (Nat.le_of_ble_eq_true rfl) rfl ?_
  refine ev_post (fun r M1 z => ⟨z.1, z.2.1, fun k hk => (z.2.2 k hk).trans (hf2 k hk)⟩) (l_item_R hn htx hc hps2)
theorem al_way {tn : Nat} {tx : Nat → Int32} {q nxn : Nat} {tk va : Int32} (hok : tok_ok tn tx q tk va nxn) (h1 : tk = 1) (h2 : sp_in va 3 4 = true) (hW3 : ¬ rd_W tn tx 3 q) (hW4 : ¬ rd_W tn tx 4 q) : False := by
  obtain ⟨i, hi, e⟩ := hok.2.2.2.2.2.2.2.1 h1
  have := sp_in_to h2 (a := 3) (b := 4) (by decide +kernel) (by decide +kernel)
  rw [e, nI_toInt (by omega)] at this
  have h34 : i = 3 ∨ i = 4 := by omega
  rcases h34 with h | h
  · subst h; exact hW3 ((hok.2.1 3 (by decide)).mp ⟨h1, e⟩)
  · subst h; exact hW4 ((hok.2.1 4 (by decide)).mp ⟨h1, e⟩)
theorem m_item_AF {G : ev_G} {n : Nat} {M : ev_M} {tn c0 c1 c2 sh : Nat} {tx s kp bw ar tu : Nat → Int32} {k0 k1 : Bool} {tr : Int64} {d0 d1 : Int32} {dS dB dA : Nat → Int32} (hn : tn ≤ 400) (htx : ∀ k, k < tn → 0 ≤ tx k) {c p : Nat} (hc : c < 3) (hps : md_ps M tn c0 c1 c2 sh tx s kp bw ar tu k0 k1 tr ((true, p)) d0 d1 (nI c) dS dB dA) (hW3 : ¬ rd_W tn tx 3 (rd_skip tn tx p)) (hW4 : ¬ rd_W tn tx 4 (rd_skip tn tx p)) : ev_Cal G mX12_readsItem 7 0 0 [.ref 129, .int 2] n M (fun r M1 => r = none ∧ (∃ dA2 : Nat → Int32, md_ps M1 tn c0 c1 c2 sh tx s kp bw ar tu k0 k1 tr ((false, (rd_skip tn tx p))) d0 d1 (nI (c + 1)) dS dB dA2) ∧ ∀ k, k < 129 → M1 k = M k) := by
  refine ev_Cal_of (L := [some (.ref 129), some (.int 2), none, none]) (by decide +kernel) (Nat.le_of_ble_eq_true rfl) rfl ?_
  have hps0 := hps
  obtain ⟨nx, tk, pl, va, fa, hPP0, hle, hT, hF⟩ := hps
  have hle : p ≤ tn := hle
  obtain ⟨hfa, hpl, nxn, hnx, hok⟩ := hT rfl
  subst hnx
  have hok : tok_ok tn tx (rd_skip tn tx p) tk va nxn := hok
  have hPP := hPP0
  obtain ⟨th, sp, of', ba, go, dr, ki, up, dn, one, gof, dof, act, ik, h129, h130, h131, h132, h133, hk0, hk1, h134, h135, h136, h137, h138, h139, h140, h141, h142, h143, hsh⟩ := hPP
  refine ev_iload_n (i := 1) dX12_readsItem_0 rfl rfl ?_
  refine ev_if_ne (tgt := 135) dX12_readsItem_1 (by decide) (fun h1 => ?_) (fun h1 => False.elim (absurd h1 (by decide)))
  refine ev_iload_n (i := 1) dX12_readsItem_135 rfl rfl ?_
  refine ev_iconst (v := 1) dX12_readsItem_136 cni_1 ?_
  refine ev_icmp_ne (tgt := 192) dX12_readsItem_137 (by decide) (fun h137 => ?_) (fun h137 => False.elim (absurd h137 (by decide)))
  refine ev_aload_n (i := 0) dX12_readsItem_192 rfl rfl ?_
  refine ev_aload_n (i := 0) dX12_readsItem_193 rfl rfl ?_
  refine ev_getf dX12_readsItem_194 flX12_86 (by assumption) (by rfl) ?_
  refine ev_iconst (v := 1) dX12_readsItem_197 cni_1 ?_
  refine ev_icmp_ne (tgt := 217) dX12_readsItem_198 (by decide) (fun h198 => ?_) (fun h198 => ?_)
  · skip
    refine ev_iconst (v := 0) dX12_readsItem_217 cni_0 ?_
    refine ev_d2 kX12_readsItem_218 (m_takes_N hn hps0) (ev_rv_of h129 rfl rfl) (by decide) (by decide) (Nat.le_of_ble_eq_true rfl) ?_
    intro r M2 hr
    obtain ⟨rfl, hps2, hf2⟩ := hr
    refine ev_istore_n (i := 2) dX12_readsItem_221 rfl (Nat.le_of_ble_eq_true rfl) rfl ?_
    refine ev_post (fun r M1 z => ⟨z.1, z.2.1, fun k hk => (z.2.2 k hk).trans (hf2 k hk)⟩) (l_item_F hn htx hc hps2)
  · skip
    refine ev_aload_n (i := 0) dX12_readsItem_201 rfl rfl ?_
    refine ev_getf dX12_readsItem_202 flX12_93 (by assumption) (by rfl) ?_
    refine ev_iconst (v := 3) dX12_readsItem_205 cni_3 ?_
    refine ev_iconst (v := 4) dX12_readsItem_206 cni_4 ?_
    refine ev_c3 kX12_readsItem_207 (c13_in) trivial (by decide) (by decide) (Nat.le_of_ble_eq_true rfl) ?_
    refine ev_if_eqb (tgt := 217) dX12_readsItem_210 (by decide) (fun h210 => ?_) (fun h210 => False.elim (al_way hok h198 h210 hW3 hW4))
    refine ev_iconst (v := 0) dX12_readsItem_217 cni_0 ?_
    refine ev_d2 kX12_readsItem_218 (m_takes_N hn hps0) (ev_rv_of h129 rfl rfl) (by decide) (by decide) (Nat.le_of_ble_eq_true rfl) ?_
    intro r M2 hr
    obtain ⟨rfl, hps2, hf2⟩ := hr
    refine ev_istore_n (i := 2) dX12_readsItem_221 rfl (Nat.le_of_ble_eq_true rfl) rfl ?_
    refine ev_post (fun r M1 z => ⟨z.1, z.2.1, fun k hk => (z.2.2 k hk).trans (hf2 k hk)⟩) (l_item_F hn htx hc hps2)
