/-! ===== contracts: the model, reading ===== -/
/-- the model's state, with what the reading goes by named -/
def md_P (M : ev_M) (tn c0 c1 c2 sh : Nat) (tx s kp bw ar tu : Nat → Int32) (k0 k1 : Bool) (tr : Int64) (nx tk pl va fa d0 d1 d2 : Int32) (dS dB dA : Nat → Int32) : Prop := ∃ (th sp of' ba go dr ki : Int32) (up dn : Int64) (one gof dof act ik : Nat → Int32), M 129 = md_o th tr (nI tn) nx tk pl va fa (nI c0) (nI c1) (nI c2) d0 d1 d2 sp of' ba go dr ki up dn ∧ M 130 = .inl (0, 400, .inl tx) ∧ M 131 = .inl (0, 386, .inl s) ∧ M 132 = .inl (0, 772, .inl kp) ∧ M 133 = .inl (1, 2, .inl ik) ∧ ik 0 = ev_b k0 ∧ ik 1 = ev_b k1 ∧ M 134 = .inl (0, 6, .inl bw) ∧ M 135 = .inl (0, 6, .inl ar) ∧ M 136 = .inl (0, 84, .inl dS) ∧ M 137 = .inl (0, 6, .inl dB) ∧ M 138 = .inl (0, 6, .inl dA) ∧ M 139 = .inl (0, 4, .inl tu) ∧ M 140 = .inl (0, 7, .inl one) ∧ M 141 = .inl (0, 24, .inl gof) ∧ M 142 = .inl (0, 12, .inl dof) ∧ M 143 = .inl (0, 5, .inl act) ∧ s 85 = nI sh
theorem md_SP {M : ev_M} {tn c0 c1 c2 sh : Nat} {tx s kp bw ar tu : Nat → Int32} {k0 k1 : Bool} {tr : Int64} (hM : md_S M tn c0 c1 c2 sh tx s kp bw ar tu k0 k1 tr) : ∃ (nx tk pl va fa d0 d1 d2 : Int32) (dS dB dA : Nat → Int32), md_P M tn c0 c1 c2 sh tx s kp bw ar tu k0 k1 tr nx tk pl va fa d0 d1 d2 dS dB dA := by
  obtain ⟨th, nx, tk, pl, va, fa, d0, d1, d2, sp, of', ba, go, dr, ki, up, dn, dS, dB, dA, one, gof, dof, act, ik, h129, h130, h131, h132, h133, hk0, hk1, h134, h135, h136, h137, h138, h139, h140, h141, h142, h143, hsh⟩ := hM
  exact ⟨nx, tk, pl, va, fa, d0, d1, d2, dS, dB, dA, th, sp, of', ba, go, dr, ki, up, dn, one, gof, dof, act, ik, h129, h130, h131, h132, h133, hk0, hk1, h134, h135, h136, h137, h138, h139, h140, h141, h142, h143, hsh⟩
theorem md_PS {M : ev_M} {tn c0 c1 c2 sh : Nat} {tx s kp bw ar tu : Nat → Int32} {k0 k1 : Bool} {tr : Int64} {nx tk pl va fa d0 d1 d2 : Int32} {dS dB dA : Nat → Int32} (hPP : md_P M tn c0 c1 c2 sh tx s kp bw ar tu k0 k1 tr nx tk pl va fa d0 d1 d2 dS dB dA) : md_S M tn c0 c1 c2 sh tx s kp bw ar tu k0 k1 tr := by
  obtain ⟨th, sp, of', ba, go, dr, ki, up, dn, one, gof, dof, act, ik, h129, h130, h131, h132, h133, hk0, hk1, h134, h135, h136, h137, h138, h139, h140, h141, h142, h143, hsh⟩ := hPP
  exact ⟨th, nx, tk, pl, va, fa, d0, d1, d2, sp, of', ba, go, dr, ki, up, dn, dS, dB, dA, one, gof, dof, act, ik, h129, h130, h131, h132, h133, hk0, hk1, h134, h135, h136, h137, h138, h139, h140, h141, h142, h143, hsh⟩
/-- well at a place, or faulted at one -/
def md_ps (M : ev_M) (tn c0 c1 c2 sh : Nat) (tx s kp bw ar tu : Nat → Int32) (k0 k1 : Bool) (tr : Int64) (ps : Bool × Nat) (d0 d1 d2 : Int32) (dS dB dA : Nat → Int32) : Prop := ∃ (nx tk pl va fa : Int32), md_P M tn c0 c1 c2 sh tx s kp bw ar tu k0 k1 tr nx tk pl va fa d0 d1 d2 dS dB dA ∧ ps.2 ≤ tn ∧ (ps.1 = true → fa = -1 ∧ pl = nI (rd_skip tn tx ps.2) ∧ ∃ nxn : Nat, nx = nI nxn ∧ tok_ok tn tx (rd_skip tn tx ps.2) tk va nxn) ∧ (ps.1 = false → fa = nI ps.2)
theorem md_pf_nx {G : ev_G} {y : ev_MI} {f rc ru n pc : Nat} {M : ev_M} {L : List (Option Value)} {st : List Value} {Post : Option Value → ev_M → Prop} {tn c0 c1 c2 sh : Nat} {tx s kp bw ar tu : Nat → Int32} {k0 k1 : Bool} {tr : Int64} {nx tk pl va fa d0 d1 d2 : Int32} {dS dB dA : Nat → Int32} (hPP : md_P M tn c0 c1 c2 sh tx s kp bw ar tu k0 k1 tr nx tk pl va fa d0 d1 d2 dS dB dA) {x : Int32} (hd : decode y.2.1 pc = .ok (.putfield 76, 3)) (hy : y.1.cls = RX12)
    (k : ∀ M1 : ev_M, md_P M1 tn c0 c1 c2 sh tx s kp bw ar tu k0 k1 tr x tk pl va fa d0 d1 d2 dS dB dA → (∀ k, k < 129 → M1 k = M k) → ev_E G y f rc ru n M1 (pc + 3) L st Post) : ev_E G y f rc ru n M pc L (.int x :: .ref 129 :: st) Post := by
  obtain ⟨th, sp, of', ba, go, dr, ki, up, dn, one, gof, dof, act, ik, h129, h130, h131, h132, h133, hk0, hk1, h134, h135, h136, h137, h138, h139, h140, h141, h142, h143, hsh⟩ := hPP
  refine ev_puti hd (by rw [hy]; exact fpX12_76) h129 (Nat.le_of_ble_eq_true rfl) ?_
  exact k _ ⟨th, sp, of', ba, go, dr, ki, up, dn, one, gof, dof, act, ik, ev_set_eq, (ev_set_ne (by decide)).trans h130, (ev_set_ne (by decide)).trans h131, (ev_set_ne (by decide)).trans h132, (ev_set_ne (by decide)).trans h133, hk0, hk1, (ev_set_ne (by decide)).trans h134, (ev_set_ne (by decide)).trans h135, (ev_set_ne (by decide)).trans h136, (ev_set_ne (by decide)).trans h137, (ev_set_ne (by decide)).trans h138, (ev_set_ne (by decide)).trans h139, (ev_set_ne (by decide)).trans h140, (ev_set_ne (by decide)).trans h141, (ev_set_ne (by decide)).trans h142, (ev_set_ne (by decide)).trans h143, hsh⟩ (fun k hk => ev_set_ne (by omega))
theorem md_pf_tk {G : ev_G} {y : ev_MI} {f rc ru n pc : Nat} {M : ev_M} {L : List (Option Value)} {st : List Value} {Post : Option Value → ev_M → Prop} {tn c0 c1 c2 sh : Nat} {tx s kp bw ar tu : Nat → Int32} {k0 k1 : Bool} {tr : Int64} {nx tk pl va fa d0 d1 d2 : Int32} {dS dB dA : Nat → Int32} (hPP : md_P M tn c0 c1 c2 sh tx s kp bw ar tu k0 k1 tr nx tk pl va fa d0 d1 d2 dS dB dA) {x : Int32} (hd : decode y.2.1 pc = .ok (.putfield 86, 3)) (hy : y.1.cls = RX12)
    (k : ∀ M1 : ev_M, md_P M1 tn c0 c1 c2 sh tx s kp bw ar tu k0 k1 tr nx x pl va fa d0 d1 d2 dS dB dA → (∀ k, k < 129 → M1 k = M k) → ev_E G y f rc ru n M1 (pc + 3) L st Post) : ev_E G y f rc ru n M pc L (.int x :: .ref 129 :: st) Post := by
  obtain ⟨th, sp, of', ba, go, dr, ki, up, dn, one, gof, dof, act, ik, h129, h130, h131, h132, h133, hk0, hk1, h134, h135, h136, h137, h138, h139, h140, h141, h142, h143, hsh⟩ := hPP
  refine ev_puti hd (by rw [hy]; exact fpX12_86) h129 (Nat.le_of_ble_eq_true rfl) ?_
  exact k _ ⟨th, sp, of', ba, go, dr, ki, up, dn, one, gof, dof, act, ik, ev_set_eq, (ev_set_ne (by decide)).trans h130, (ev_set_ne (by decide)).trans h131, (ev_set_ne (by decide)).trans h132, (ev_set_ne (by decide)).trans h133, hk0, hk1, (ev_set_ne (by decide)).trans h134, (ev_set_ne (by decide)).trans h135, (ev_set_ne (by decide)).trans h136, (ev_set_ne (by decide)).trans h137, (ev_set_ne (by decide)).trans h138, (ev_set_ne (by decide)).trans h139, (ev_set_ne (by decide)).trans h140, (ev_set_ne (by decide)).trans h141, (ev_set_ne (by decide)).trans h142, (ev_set_ne (by decide)).trans h143, hsh⟩ (fun k hk => ev_set_ne (by omega))
theorem md_pf_pl {G : ev_G} {y : ev_MI} {f rc ru n pc : Nat} {M : ev_M} {L : List (Option Value)} {st : List Value} {Post : Option Value → ev_M → Prop} {tn c0 c1 c2 sh : Nat} {tx s kp bw ar tu : Nat → Int32} {k0 k1 : Bool} {tr : Int64} {nx tk pl va fa d0 d1 d2 : Int32} {dS dB dA : Nat → Int32} (hPP : md_P M tn c0 c1 c2 sh tx s kp bw ar tu k0 k1 tr nx tk pl va fa d0 d1 d2 dS dB dA) {x : Int32} (hd : decode y.2.1 pc = .ok (.putfield 83, 3)) (hy : y.1.cls = RX12)
    (k : ∀ M1 : ev_M, md_P M1 tn c0 c1 c2 sh tx s kp bw ar tu k0 k1 tr nx tk x va fa d0 d1 d2 dS dB dA → (∀ k, k < 129 → M1 k = M k) → ev_E G y f rc ru n M1 (pc + 3) L st Post) : ev_E G y f rc ru n M pc L (.int x :: .ref 129 :: st) Post := by
  obtain ⟨th, sp, of', ba, go, dr, ki, up, dn, one, gof, dof, act, ik, h129, h130, h131, h132, h133, hk0, hk1, h134, h135, h136, h137, h138, h139, h140, h141, h142, h143, hsh⟩ := hPP
  refine ev_puti hd (by rw [hy]; exact fpX12_83) h129 (Nat.le_of_ble_eq_true rfl) ?_
  exact k _ ⟨th, sp, of', ba, go, dr, ki, up, dn, one, gof, dof, act, ik, ev_set_eq, (ev_set_ne (by decide)).trans h130, (ev_set_ne (by decide)).trans h131, (ev_set_ne (by decide)).trans h132, (ev_set_ne (by decide)).trans h133, hk0, hk1, (ev_set_ne (by decide)).trans h134, (ev_set_ne (by decide)).trans h135, (ev_set_ne (by decide)).trans h136, (ev_set_ne (by decide)).trans h137, (ev_set_ne (by decide)).trans h138, (ev_set_ne (by decide)).trans h139, (ev_set_ne (by decide)).trans h140, (ev_set_ne (by decide)).trans h141, (ev_set_ne (by decide)).trans h142, (ev_set_ne (by decide)).trans h143, hsh⟩ (fun k hk => ev_set_ne (by omega))
theorem md_pf_va {G : ev_G} {y : ev_MI} {f rc ru n pc : Nat} {M : ev_M} {L : List (Option Value)} {st : List Value} {Post : Option Value → ev_M → Prop} {tn c0 c1 c2 sh : Nat} {tx s kp bw ar tu : Nat → Int32} {k0 k1 : Bool} {tr : Int64} {nx tk pl va fa d0 d1 d2 : Int32} {dS dB dA : Nat → Int32} (hPP : md_P M tn c0 c1 c2 sh tx s kp bw ar tu k0 k1 tr nx tk pl va fa d0 d1 d2 dS dB dA) {x : Int32} (hd : decode y.2.1 pc = .ok (.putfield 93, 3)) (hy : y.1.cls = RX12)
    (k : ∀ M1 : ev_M, md_P M1 tn c0 c1 c2 sh tx s kp bw ar tu k0 k1 tr nx tk pl x fa d0 d1 d2 dS dB dA → (∀ k, k < 129 → M1 k = M k) → ev_E G y f rc ru n M1 (pc + 3) L st Post) : ev_E G y f rc ru n M pc L (.int x :: .ref 129 :: st) Post := by
  obtain ⟨th, sp, of', ba, go, dr, ki, up, dn, one, gof, dof, act, ik, h129, h130, h131, h132, h133, hk0, hk1, h134, h135, h136, h137, h138, h139, h140, h141, h142, h143, hsh⟩ := hPP
  refine ev_puti hd (by rw [hy]; exact fpX12_93) h129 (Nat.le_of_ble_eq_true rfl) ?_
  exact k _ ⟨th, sp, of', ba, go, dr, ki, up, dn, one, gof, dof, act, ik, ev_set_eq, (ev_set_ne (by decide)).trans h130, (ev_set_ne (by decide)).trans h131, (ev_set_ne (by decide)).trans h132, (ev_set_ne (by decide)).trans h133, hk0, hk1, (ev_set_ne (by decide)).trans h134, (ev_set_ne (by decide)).trans h135, (ev_set_ne (by decide)).trans h136, (ev_set_ne (by decide)).trans h137, (ev_set_ne (by decide)).trans h138, (ev_set_ne (by decide)).trans h139, (ev_set_ne (by decide)).trans h140, (ev_set_ne (by decide)).trans h141, (ev_set_ne (by decide)).trans h142, (ev_set_ne (by decide)).trans h143, hsh⟩ (fun k hk => ev_set_ne (by omega))
theorem md_pf_fa {G : ev_G} {y : ev_MI} {f rc ru n pc : Nat} {M : ev_M} {L : List (Option Value)} {st : List Value} {Post : Option Value → ev_M → Prop} {tn c0 c1 c2 sh : Nat} {tx s kp bw ar tu : Nat → Int32} {k0 k1 : Bool} {tr : Int64} {nx tk pl va fa d0 d1 d2 : Int32} {dS dB dA : Nat → Int32} (hPP : md_P M tn c0 c1 c2 sh tx s kp bw ar tu k0 k1 tr nx tk pl va fa d0 d1 d2 dS dB dA) {x : Int32} (hd : decode y.2.1 pc = .ok (.putfield 96, 3)) (hy : y.1.cls = RX12)
    (k : ∀ M1 : ev_M, md_P M1 tn c0 c1 c2 sh tx s kp bw ar tu k0 k1 tr nx tk pl va x d0 d1 d2 dS dB dA → (∀ k, k < 129 → M1 k = M k) → ev_E G y f rc ru n M1 (pc + 3) L st Post) : ev_E G y f rc ru n M pc L (.int x :: .ref 129 :: st) Post := by
  obtain ⟨th, sp, of', ba, go, dr, ki, up, dn, one, gof, dof, act, ik, h129, h130, h131, h132, h133, hk0, hk1, h134, h135, h136, h137, h138, h139, h140, h141, h142, h143, hsh⟩ := hPP
  refine ev_puti hd (by rw [hy]; exact fpX12_96) h129 (Nat.le_of_ble_eq_true rfl) ?_
  exact k _ ⟨th, sp, of', ba, go, dr, ki, up, dn, one, gof, dof, act, ik, ev_set_eq, (ev_set_ne (by decide)).trans h130, (ev_set_ne (by decide)).trans h131, (ev_set_ne (by decide)).trans h132, (ev_set_ne (by decide)).trans h133, hk0, hk1, (ev_set_ne (by decide)).trans h134, (ev_set_ne (by decide)).trans h135, (ev_set_ne (by decide)).trans h136, (ev_set_ne (by decide)).trans h137, (ev_set_ne (by decide)).trans h138, (ev_set_ne (by decide)).trans h139, (ev_set_ne (by decide)).trans h140, (ev_set_ne (by decide)).trans h141, (ev_set_ne (by decide)).trans h142, (ev_set_ne (by decide)).trans h143, hsh⟩ (fun k hk => ev_set_ne (by omega))
theorem md_pf_d0 {G : ev_G} {y : ev_MI} {f rc ru n pc : Nat} {M : ev_M} {L : List (Option Value)} {st : List Value} {Post : Option Value → ev_M → Prop} {tn c0 c1 c2 sh : Nat} {tx s kp bw ar tu : Nat → Int32} {k0 k1 : Bool} {tr : Int64} {nx tk pl va fa d0 d1 d2 : Int32} {dS dB dA : Nat → Int32} (hPP : md_P M tn c0 c1 c2 sh tx s kp bw ar tu k0 k1 tr nx tk pl va fa d0 d1 d2 dS dB dA) {x : Int32} (hd : decode y.2.1 pc = .ok (.putfield 110, 3)) (hy : y.1.cls = RX12)
    (k : ∀ M1 : ev_M, md_P M1 tn c0 c1 c2 sh tx s kp bw ar tu k0 k1 tr nx tk pl va fa x d1 d2 dS dB dA → (∀ k, k < 129 → M1 k = M k) → ev_E G y f rc ru n M1 (pc + 3) L st Post) : ev_E G y f rc ru n M pc L (.int x :: .ref 129 :: st) Post := by
  obtain ⟨th, sp, of', ba, go, dr, ki, up, dn, one, gof, dof, act, ik, h129, h130, h131, h132, h133, hk0, hk1, h134, h135, h136, h137, h138, h139, h140, h141, h142, h143, hsh⟩ := hPP
  refine ev_puti hd (by rw [hy]; exact fpX12_110) h129 (Nat.le_of_ble_eq_true rfl) ?_
  exact k _ ⟨th, sp, of', ba, go, dr, ki, up, dn, one, gof, dof, act, ik, ev_set_eq, (ev_set_ne (by decide)).trans h130, (ev_set_ne (by decide)).trans h131, (ev_set_ne (by decide)).trans h132, (ev_set_ne (by decide)).trans h133, hk0, hk1, (ev_set_ne (by decide)).trans h134, (ev_set_ne (by decide)).trans h135, (ev_set_ne (by decide)).trans h136, (ev_set_ne (by decide)).trans h137, (ev_set_ne (by decide)).trans h138, (ev_set_ne (by decide)).trans h139, (ev_set_ne (by decide)).trans h140, (ev_set_ne (by decide)).trans h141, (ev_set_ne (by decide)).trans h142, (ev_set_ne (by decide)).trans h143, hsh⟩ (fun k hk => ev_set_ne (by omega))
theorem md_pf_d1 {G : ev_G} {y : ev_MI} {f rc ru n pc : Nat} {M : ev_M} {L : List (Option Value)} {st : List Value} {Post : Option Value → ev_M → Prop} {tn c0 c1 c2 sh : Nat} {tx s kp bw ar tu : Nat → Int32} {k0 k1 : Bool} {tr : Int64} {nx tk pl va fa d0 d1 d2 : Int32} {dS dB dA : Nat → Int32} (hPP : md_P M tn c0 c1 c2 sh tx s kp bw ar tu k0 k1 tr nx tk pl va fa d0 d1 d2 dS dB dA) {x : Int32} (hd : decode y.2.1 pc = .ok (.putfield 117, 3)) (hy : y.1.cls = RX12)
    (k : ∀ M1 : ev_M, md_P M1 tn c0 c1 c2 sh tx s kp bw ar tu k0 k1 tr nx tk pl va fa d0 x d2 dS dB dA → (∀ k, k < 129 → M1 k = M k) → ev_E G y f rc ru n M1 (pc + 3) L st Post) : ev_E G y f rc ru n M pc L (.int x :: .ref 129 :: st) Post := by
  obtain ⟨th, sp, of', ba, go, dr, ki, up, dn, one, gof, dof, act, ik, h129, h130, h131, h132, h133, hk0, hk1, h134, h135, h136, h137, h138, h139, h140, h141, h142, h143, hsh⟩ := hPP
  refine ev_puti hd (by rw [hy]; exact fpX12_117) h129 (Nat.le_of_ble_eq_true rfl) ?_
  exact k _ ⟨th, sp, of', ba, go, dr, ki, up, dn, one, gof, dof, act, ik, ev_set_eq, (ev_set_ne (by decide)).trans h130, (ev_set_ne (by decide)).trans h131, (ev_set_ne (by decide)).trans h132, (ev_set_ne (by decide)).trans h133, hk0, hk1, (ev_set_ne (by decide)).trans h134, (ev_set_ne (by decide)).trans h135, (ev_set_ne (by decide)).trans h136, (ev_set_ne (by decide)).trans h137, (ev_set_ne (by decide)).trans h138, (ev_set_ne (by decide)).trans h139, (ev_set_ne (by decide)).trans h140, (ev_set_ne (by decide)).trans h141, (ev_set_ne (by decide)).trans h142, (ev_set_ne (by decide)).trans h143, hsh⟩ (fun k hk => ev_set_ne (by omega))
theorem md_pf_d2 {G : ev_G} {y : ev_MI} {f rc ru n pc : Nat} {M : ev_M} {L : List (Option Value)} {st : List Value} {Post : Option Value → ev_M → Prop} {tn c0 c1 c2 sh : Nat} {tx s kp bw ar tu : Nat → Int32} {k0 k1 : Bool} {tr : Int64} {nx tk pl va fa d0 d1 d2 : Int32} {dS dB dA : Nat → Int32} (hPP : md_P M tn c0 c1 c2 sh tx s kp bw ar tu k0 k1 tr nx tk pl va fa d0 d1 d2 dS dB dA) {x : Int32} (hd : decode y.2.1 pc = .ok (.putfield 120, 3)) (hy : y.1.cls = RX12)
    (k : ∀ M1 : ev_M, md_P M1 tn c0 c1 c2 sh tx s kp bw ar tu k0 k1 tr nx tk pl va fa d0 d1 x dS dB dA → (∀ k, k < 129 → M1 k = M k) → ev_E G y f rc ru n M1 (pc + 3) L st Post) : ev_E G y f rc ru n M pc L (.int x :: .ref 129 :: st) Post := by
  obtain ⟨th, sp, of', ba, go, dr, ki, up, dn, one, gof, dof, act, ik, h129, h130, h131, h132, h133, hk0, hk1, h134, h135, h136, h137, h138, h139, h140, h141, h142, h143, hsh⟩ := hPP
  refine ev_puti hd (by rw [hy]; exact fpX12_120) h129 (Nat.le_of_ble_eq_true rfl) ?_
  exact k _ ⟨th, sp, of', ba, go, dr, ki, up, dn, one, gof, dof, act, ik, ev_set_eq, (ev_set_ne (by decide)).trans h130, (ev_set_ne (by decide)).trans h131, (ev_set_ne (by decide)).trans h132, (ev_set_ne (by decide)).trans h133, hk0, hk1, (ev_set_ne (by decide)).trans h134, (ev_set_ne (by decide)).trans h135, (ev_set_ne (by decide)).trans h136, (ev_set_ne (by decide)).trans h137, (ev_set_ne (by decide)).trans h138, (ev_set_ne (by decide)).trans h139, (ev_set_ne (by decide)).trans h140, (ev_set_ne (by decide)).trans h141, (ev_set_ne (by decide)).trans h142, (ev_set_ne (by decide)).trans h143, hsh⟩ (fun k hk => ev_set_ne (by omega))
theorem md_pf_c0 {G : ev_G} {y : ev_MI} {f rc ru n pc : Nat} {M : ev_M} {L : List (Option Value)} {st : List Value} {Post : Option Value → ev_M → Prop} {tn c0 c1 c2 sh : Nat} {tx s kp bw ar tu : Nat → Int32} {k0 k1 : Bool} {tr : Int64} {nx tk pl va fa d0 d1 d2 : Int32} {dS dB dA : Nat → Int32} (hPP : md_P M tn c0 c1 c2 sh tx s kp bw ar tu k0 k1 tr nx tk pl va fa d0 d1 d2 dS dB dA) {x : Nat} (hd : decode y.2.1 pc = .ok (.putfield 127, 3)) (hy : y.1.cls = RX12)
    (k : ∀ M1 : ev_M, md_P M1 tn x c1 c2 sh tx s kp bw ar tu k0 k1 tr nx tk pl va fa d0 d1 d2 dS dB dA → (∀ k, k < 129 → M1 k = M k) → ev_E G y f rc ru n M1 (pc + 3) L st Post) : ev_E G y f rc ru n M pc L (.int (nI x) :: .ref 129 :: st) Post := by
  obtain ⟨th, sp, of', ba, go, dr, ki, up, dn, one, gof, dof, act, ik, h129, h130, h131, h132, h133, hk0, hk1, h134, h135, h136, h137, h138, h139, h140, h141, h142, h143, hsh⟩ := hPP
  refine ev_puti hd (by rw [hy]; exact fpX12_127) h129 (Nat.le_of_ble_eq_true rfl) ?_
  exact k _ ⟨th, sp, of', ba, go, dr, ki, up, dn, one, gof, dof, act, ik, ev_set_eq, (ev_set_ne (by decide)).trans h130, (ev_set_ne (by decide)).trans h131, (ev_set_ne (by decide)).trans h132, (ev_set_ne (by decide)).trans h133, hk0, hk1, (ev_set_ne (by decide)).trans h134, (ev_set_ne (by decide)).trans h135, (ev_set_ne (by decide)).trans h136, (ev_set_ne (by decide)).trans h137, (ev_set_ne (by decide)).trans h138, (ev_set_ne (by decide)).trans h139, (ev_set_ne (by decide)).trans h140, (ev_set_ne (by decide)).trans h141, (ev_set_ne (by decide)).trans h142, (ev_set_ne (by decide)).trans h143, hsh⟩ (fun k hk => ev_set_ne (by omega))
theorem md_pf_c1 {G : ev_G} {y : ev_MI} {f rc ru n pc : Nat} {M : ev_M} {L : List (Option Value)} {st : List Value} {Post : Option Value → ev_M → Prop} {tn c0 c1 c2 sh : Nat} {tx s kp bw ar tu : Nat → Int32} {k0 k1 : Bool} {tr : Int64} {nx tk pl va fa d0 d1 d2 : Int32} {dS dB dA : Nat → Int32} (hPP : md_P M tn c0 c1 c2 sh tx s kp bw ar tu k0 k1 tr nx tk pl va fa d0 d1 d2 dS dB dA) {x : Nat} (hd : decode y.2.1 pc = .ok (.putfield 130, 3)) (hy : y.1.cls = RX12)
    (k : ∀ M1 : ev_M, md_P M1 tn c0 x c2 sh tx s kp bw ar tu k0 k1 tr nx tk pl va fa d0 d1 d2 dS dB dA → (∀ k, k < 129 → M1 k = M k) → ev_E G y f rc ru n M1 (pc + 3) L st Post) : ev_E G y f rc ru n M pc L (.int (nI x) :: .ref 129 :: st) Post := by
  obtain ⟨th, sp, of', ba, go, dr, ki, up, dn, one, gof, dof, act, ik, h129, h130, h131, h132, h133, hk0, hk1, h134, h135, h136, h137, h138, h139, h140, h141, h142, h143, hsh⟩ := hPP
  refine ev_puti hd (by rw [hy]; exact fpX12_130) h129 (Nat.le_of_ble_eq_true rfl) ?_
  exact k _ ⟨th, sp, of', ba, go, dr, ki, up, dn, one, gof, dof, act, ik, ev_set_eq, (ev_set_ne (by decide)).trans h130, (ev_set_ne (by decide)).trans h131, (ev_set_ne (by decide)).trans h132, (ev_set_ne (by decide)).trans h133, hk0, hk1, (ev_set_ne (by decide)).trans h134, (ev_set_ne (by decide)).trans h135, (ev_set_ne (by decide)).trans h136, (ev_set_ne (by decide)).trans h137, (ev_set_ne (by decide)).trans h138, (ev_set_ne (by decide)).trans h139, (ev_set_ne (by decide)).trans h140, (ev_set_ne (by decide)).trans h141, (ev_set_ne (by decide)).trans h142, (ev_set_ne (by decide)).trans h143, hsh⟩ (fun k hk => ev_set_ne (by omega))
theorem md_pf_c2 {G : ev_G} {y : ev_MI} {f rc ru n pc : Nat} {M : ev_M} {L : List (Option Value)} {st : List Value} {Post : Option Value → ev_M → Prop} {tn c0 c1 c2 sh : Nat} {tx s kp bw ar tu : Nat → Int32} {k0 k1 : Bool} {tr : Int64} {nx tk pl va fa d0 d1 d2 : Int32} {dS dB dA : Nat → Int32} (hPP : md_P M tn c0 c1 c2 sh tx s kp bw ar tu k0 k1 tr nx tk pl va fa d0 d1 d2 dS dB dA) {x : Nat} (hd : decode y.2.1 pc = .ok (.putfield 133, 3)) (hy : y.1.cls = RX12)
    (k : ∀ M1 : ev_M, md_P M1 tn c0 c1 x sh tx s kp bw ar tu k0 k1 tr nx tk pl va fa d0 d1 d2 dS dB dA → (∀ k, k < 129 → M1 k = M k) → ev_E G y f rc ru n M1 (pc + 3) L st Post) : ev_E G y f rc ru n M pc L (.int (nI x) :: .ref 129 :: st) Post := by
  obtain ⟨th, sp, of', ba, go, dr, ki, up, dn, one, gof, dof, act, ik, h129, h130, h131, h132, h133, hk0, hk1, h134, h135, h136, h137, h138, h139, h140, h141, h142, h143, hsh⟩ := hPP
  refine ev_puti hd (by rw [hy]; exact fpX12_133) h129 (Nat.le_of_ble_eq_true rfl) ?_
  exact k _ ⟨th, sp, of', ba, go, dr, ki, up, dn, one, gof, dof, act, ik, ev_set_eq, (ev_set_ne (by decide)).trans h130, (ev_set_ne (by decide)).trans h131, (ev_set_ne (by decide)).trans h132, (ev_set_ne (by decide)).trans h133, hk0, hk1, (ev_set_ne (by decide)).trans h134, (ev_set_ne (by decide)).trans h135, (ev_set_ne (by decide)).trans h136, (ev_set_ne (by decide)).trans h137, (ev_set_ne (by decide)).trans h138, (ev_set_ne (by decide)).trans h139, (ev_set_ne (by decide)).trans h140, (ev_set_ne (by decide)).trans h141, (ev_set_ne (by decide)).trans h142, (ev_set_ne (by decide)).trans h143, hsh⟩ (fun k hk => ev_set_ne (by omega))
theorem md_pf_tn {G : ev_G} {y : ev_MI} {f rc ru n pc : Nat} {M : ev_M} {L : List (Option Value)} {st : List Value} {Post : Option Value → ev_M → Prop} {tn c0 c1 c2 sh : Nat} {tx s kp bw ar tu : Nat → Int32} {k0 k1 : Bool} {tr : Int64} {nx tk pl va fa d0 d1 d2 : Int32} {dS dB dA : Nat → Int32} (hPP : md_P M tn c0 c1 c2 sh tx s kp bw ar tu k0 k1 tr nx tk pl va fa d0 d1 d2 dS dB dA) {x : Nat} (hd : decode y.2.1 pc = .ok (.putfield 61, 3)) (hy : y.1.cls = RX12)
    (k : ∀ M1 : ev_M, md_P M1 x c0 c1 c2 sh tx s kp bw ar tu k0 k1 tr nx tk pl va fa d0 d1 d2 dS dB dA → (∀ k, k < 129 → M1 k = M k) → ev_E G y f rc ru n M1 (pc + 3) L st Post) : ev_E G y f rc ru n M pc L (.int (nI x) :: .ref 129 :: st) Post := by
  obtain ⟨th, sp, of', ba, go, dr, ki, up, dn, one, gof, dof, act, ik, h129, h130, h131, h132, h133, hk0, hk1, h134, h135, h136, h137, h138, h139, h140, h141, h142, h143, hsh⟩ := hPP
  refine ev_puti hd (by rw [hy]; exact fpX12_61) h129 (Nat.le_of_ble_eq_true rfl) ?_
  exact k _ ⟨th, sp, of', ba, go, dr, ki, up, dn, one, gof, dof, act, ik, ev_set_eq, (ev_set_ne (by decide)).trans h130, (ev_set_ne (by decide)).trans h131, (ev_set_ne (by decide)).trans h132, (ev_set_ne (by decide)).trans h133, hk0, hk1, (ev_set_ne (by decide)).trans h134, (ev_set_ne (by decide)).trans h135, (ev_set_ne (by decide)).trans h136, (ev_set_ne (by decide)).trans h137, (ev_set_ne (by decide)).trans h138, (ev_set_ne (by decide)).trans h139, (ev_set_ne (by decide)).trans h140, (ev_set_ne (by decide)).trans h141, (ev_set_ne (by decide)).trans h142, (ev_set_ne (by decide)).trans h143, hsh⟩ (fun k hk => ev_set_ne (by omega))
theorem md_ps131 {G : ev_G} {y : ev_MI} {f rc ru n pc : Nat} {M : ev_M} {L : List (Option Value)} {st : List Value} {Post : Option Value → ev_M → Prop} {tn c0 c1 c2 sh : Nat} {tx s kp bw ar tu : Nat → Int32} {k0 k1 : Bool} {tr : Int64} {nx tk pl va fa d0 d1 d2 : Int32} {dS dB dA : Nat → Int32} (hPP : md_P M tn c0 c1 c2 sh tx s kp bw ar tu k0 k1 tr nx tk pl va fa d0 d1 d2 dS dB dA) {j : Nat} {i x : Int32} {sh2 : Nat} (hd : decode y.2.1 pc = .ok (.iastore, 1)) (hx : ev_ix i j) (hj : j < 386) (h85 : upd s j x 85 = nI sh2)
    (k : ∀ M1 : ev_M, md_P M1 tn c0 c1 c2 sh2 tx (upd s j x) kp bw ar tu k0 k1 tr nx tk pl va fa d0 d1 d2 dS dB dA → (∀ k, k < 129 → M1 k = M k) → ev_E G y f rc ru n M1 (pc + 1) L st Post) : ev_E G y f rc ru n M pc L (.int x :: .int i :: .ref 131 :: st) Post := by
  obtain ⟨th, sp, of', ba, go, dr, ki, up, dn, one, gof, dof, act, ik, h129, h130, h131, h132, h133, hk0, hk1, h134, h135, h136, h137, h138, h139, h140, h141, h142, h143, hsh⟩ := hPP
  refine ev_iast hd h131 hx hj ?_
  exact k _ ⟨th, sp, of', ba, go, dr, ki, up, dn, one, gof, dof, act, ik, (ev_set_ne (by decide)).trans h129, (ev_set_ne (by decide)).trans h130, ev_set_eq, (ev_set_ne (by decide)).trans h132, (ev_set_ne (by decide)).trans h133, hk0, hk1, (ev_set_ne (by decide)).trans h134, (ev_set_ne (by decide)).trans h135, (ev_set_ne (by decide)).trans h136, (ev_set_ne (by decide)).trans h137, (ev_set_ne (by decide)).trans h138, (ev_set_ne (by decide)).trans h139, (ev_set_ne (by decide)).trans h140, (ev_set_ne (by decide)).trans h141, (ev_set_ne (by decide)).trans h142, (ev_set_ne (by decide)).trans h143, h85⟩ (fun k hk => ev_set_ne (by omega))
theorem md_ps134 {G : ev_G} {y : ev_MI} {f rc ru n pc : Nat} {M : ev_M} {L : List (Option Value)} {st : List Value} {Post : Option Value → ev_M → Prop} {tn c0 c1 c2 sh : Nat} {tx s kp bw ar tu : Nat → Int32} {k0 k1 : Bool} {tr : Int64} {nx tk pl va fa d0 d1 d2 : Int32} {dS dB dA : Nat → Int32} (hPP : md_P M tn c0 c1 c2 sh tx s kp bw ar tu k0 k1 tr nx tk pl va fa d0 d1 d2 dS dB dA) {j : Nat} {i x : Int32} (hd : decode y.2.1 pc = .ok (.iastore, 1)) (hx : ev_ix i j) (hj : j < 6) 
    (k : ∀ M1 : ev_M, md_P M1 tn c0 c1 c2 sh tx s kp (upd bw j x) ar tu k0 k1 tr nx tk pl va fa d0 d1 d2 dS dB dA → (∀ k, k < 129 → M1 k = M k) → ev_E G y f rc ru n M1 (pc + 1) L st Post) : ev_E G y f rc ru n M pc L (.int x :: .int i :: .ref 134 :: st) Post := by
  obtain ⟨th, sp, of', ba, go, dr, ki, up, dn, one, gof, dof, act, ik, h129, h130, h131, h132, h133, hk0, hk1, h134, h135, h136, h137, h138, h139, h140, h141, h142, h143, hsh⟩ := hPP
  refine ev_iast hd h134 hx hj ?_
  exact k _ ⟨th, sp, of', ba, go, dr, ki, up, dn, one, gof, dof, act, ik, (ev_set_ne (by decide)).trans h129, (ev_set_ne (by decide)).trans h130, (ev_set_ne (by decide)).trans h131, (ev_set_ne (by decide)).trans h132, (ev_set_ne (by decide)).trans h133, hk0, hk1, ev_set_eq, (ev_set_ne (by decide)).trans h135, (ev_set_ne (by decide)).trans h136, (ev_set_ne (by decide)).trans h137, (ev_set_ne (by decide)).trans h138, (ev_set_ne (by decide)).trans h139, (ev_set_ne (by decide)).trans h140, (ev_set_ne (by decide)).trans h141, (ev_set_ne (by decide)).trans h142, (ev_set_ne (by decide)).trans h143, hsh⟩ (fun k hk => ev_set_ne (by omega))
theorem md_ps135 {G : ev_G} {y : ev_MI} {f rc ru n pc : Nat} {M : ev_M} {L : List (Option Value)} {st : List Value} {Post : Option Value → ev_M → Prop} {tn c0 c1 c2 sh : Nat} {tx s kp bw ar tu : Nat → Int32} {k0 k1 : Bool} {tr : Int64} {nx tk pl va fa d0 d1 d2 : Int32} {dS dB dA : Nat → Int32} (hPP : md_P M tn c0 c1 c2 sh tx s kp bw ar tu k0 k1 tr nx tk pl va fa d0 d1 d2 dS dB dA) {j : Nat} {i x : Int32} (hd : decode y.2.1 pc = .ok (.iastore, 1)) (hx : ev_ix i j) (hj : j < 6) 
    (k : ∀ M1 : ev_M, md_P M1 tn c0 c1 c2 sh tx s kp bw (upd ar j x) tu k0 k1 tr nx tk pl va fa d0 d1 d2 dS dB dA → (∀ k, k < 129 → M1 k = M k) → ev_E G y f rc ru n M1 (pc + 1) L st Post) : ev_E G y f rc ru n M pc L (.int x :: .int i :: .ref 135 :: st) Post := by
  obtain ⟨th, sp, of', ba, go, dr, ki, up, dn, one, gof, dof, act, ik, h129, h130, h131, h132, h133, hk0, hk1, h134, h135, h136, h137, h138, h139, h140, h141, h142, h143, hsh⟩ := hPP
  refine ev_iast hd h135 hx hj ?_
  exact k _ ⟨th, sp, of', ba, go, dr, ki, up, dn, one, gof, dof, act, ik, (ev_set_ne (by decide)).trans h129, (ev_set_ne (by decide)).trans h130, (ev_set_ne (by decide)).trans h131, (ev_set_ne (by decide)).trans h132, (ev_set_ne (by decide)).trans h133, hk0, hk1, (ev_set_ne (by decide)).trans h134, ev_set_eq, (ev_set_ne (by decide)).trans h136, (ev_set_ne (by decide)).trans h137, (ev_set_ne (by decide)).trans h138, (ev_set_ne (by decide)).trans h139, (ev_set_ne (by decide)).trans h140, (ev_set_ne (by decide)).trans h141, (ev_set_ne (by decide)).trans h142, (ev_set_ne (by decide)).trans h143, hsh⟩ (fun k hk => ev_set_ne (by omega))
theorem md_ps136 {G : ev_G} {y : ev_MI} {f rc ru n pc : Nat} {M : ev_M} {L : List (Option Value)} {st : List Value} {Post : Option Value → ev_M → Prop} {tn c0 c1 c2 sh : Nat} {tx s kp bw ar tu : Nat → Int32} {k0 k1 : Bool} {tr : Int64} {nx tk pl va fa d0 d1 d2 : Int32} {dS dB dA : Nat → Int32} (hPP : md_P M tn c0 c1 c2 sh tx s kp bw ar tu k0 k1 tr nx tk pl va fa d0 d1 d2 dS dB dA) {j : Nat} {i x : Int32} (hd : decode y.2.1 pc = .ok (.iastore, 1)) (hx : ev_ix i j) (hj : j < 84) 
    (k : ∀ M1 : ev_M, md_P M1 tn c0 c1 c2 sh tx s kp bw ar tu k0 k1 tr nx tk pl va fa d0 d1 d2 (upd dS j x) dB dA → (∀ k, k < 129 → M1 k = M k) → ev_E G y f rc ru n M1 (pc + 1) L st Post) : ev_E G y f rc ru n M pc L (.int x :: .int i :: .ref 136 :: st) Post := by
  obtain ⟨th, sp, of', ba, go, dr, ki, up, dn, one, gof, dof, act, ik, h129, h130, h131, h132, h133, hk0, hk1, h134, h135, h136, h137, h138, h139, h140, h141, h142, h143, hsh⟩ := hPP
  refine ev_iast hd h136 hx hj ?_
  exact k _ ⟨th, sp, of', ba, go, dr, ki, up, dn, one, gof, dof, act, ik, (ev_set_ne (by decide)).trans h129, (ev_set_ne (by decide)).trans h130, (ev_set_ne (by decide)).trans h131, (ev_set_ne (by decide)).trans h132, (ev_set_ne (by decide)).trans h133, hk0, hk1, (ev_set_ne (by decide)).trans h134, (ev_set_ne (by decide)).trans h135, ev_set_eq, (ev_set_ne (by decide)).trans h137, (ev_set_ne (by decide)).trans h138, (ev_set_ne (by decide)).trans h139, (ev_set_ne (by decide)).trans h140, (ev_set_ne (by decide)).trans h141, (ev_set_ne (by decide)).trans h142, (ev_set_ne (by decide)).trans h143, hsh⟩ (fun k hk => ev_set_ne (by omega))
theorem md_ps137 {G : ev_G} {y : ev_MI} {f rc ru n pc : Nat} {M : ev_M} {L : List (Option Value)} {st : List Value} {Post : Option Value → ev_M → Prop} {tn c0 c1 c2 sh : Nat} {tx s kp bw ar tu : Nat → Int32} {k0 k1 : Bool} {tr : Int64} {nx tk pl va fa d0 d1 d2 : Int32} {dS dB dA : Nat → Int32} (hPP : md_P M tn c0 c1 c2 sh tx s kp bw ar tu k0 k1 tr nx tk pl va fa d0 d1 d2 dS dB dA) {j : Nat} {i x : Int32} (hd : decode y.2.1 pc = .ok (.iastore, 1)) (hx : ev_ix i j) (hj : j < 6) 
    (k : ∀ M1 : ev_M, md_P M1 tn c0 c1 c2 sh tx s kp bw ar tu k0 k1 tr nx tk pl va fa d0 d1 d2 dS (upd dB j x) dA → (∀ k, k < 129 → M1 k = M k) → ev_E G y f rc ru n M1 (pc + 1) L st Post) : ev_E G y f rc ru n M pc L (.int x :: .int i :: .ref 137 :: st) Post := by
  obtain ⟨th, sp, of', ba, go, dr, ki, up, dn, one, gof, dof, act, ik, h129, h130, h131, h132, h133, hk0, hk1, h134, h135, h136, h137, h138, h139, h140, h141, h142, h143, hsh⟩ := hPP
  refine ev_iast hd h137 hx hj ?_
  exact k _ ⟨th, sp, of', ba, go, dr, ki, up, dn, one, gof, dof, act, ik, (ev_set_ne (by decide)).trans h129, (ev_set_ne (by decide)).trans h130, (ev_set_ne (by decide)).trans h131, (ev_set_ne (by decide)).trans h132, (ev_set_ne (by decide)).trans h133, hk0, hk1, (ev_set_ne (by decide)).trans h134, (ev_set_ne (by decide)).trans h135, (ev_set_ne (by decide)).trans h136, ev_set_eq, (ev_set_ne (by decide)).trans h138, (ev_set_ne (by decide)).trans h139, (ev_set_ne (by decide)).trans h140, (ev_set_ne (by decide)).trans h141, (ev_set_ne (by decide)).trans h142, (ev_set_ne (by decide)).trans h143, hsh⟩ (fun k hk => ev_set_ne (by omega))
theorem md_ps138 {G : ev_G} {y : ev_MI} {f rc ru n pc : Nat} {M : ev_M} {L : List (Option Value)} {st : List Value} {Post : Option Value → ev_M → Prop} {tn c0 c1 c2 sh : Nat} {tx s kp bw ar tu : Nat → Int32} {k0 k1 : Bool} {tr : Int64} {nx tk pl va fa d0 d1 d2 : Int32} {dS dB dA : Nat → Int32} (hPP : md_P M tn c0 c1 c2 sh tx s kp bw ar tu k0 k1 tr nx tk pl va fa d0 d1 d2 dS dB dA) {j : Nat} {i x : Int32} (hd : decode y.2.1 pc = .ok (.iastore, 1)) (hx : ev_ix i j) (hj : j < 6) 
    (k : ∀ M1 : ev_M, md_P M1 tn c0 c1 c2 sh tx s kp bw ar tu k0 k1 tr nx tk pl va fa d0 d1 d2 dS dB (upd dA j x) → (∀ k, k < 129 → M1 k = M k) → ev_E G y f rc ru n M1 (pc + 1) L st Post) : ev_E G y f rc ru n M pc L (.int x :: .int i :: .ref 138 :: st) Post := by
  obtain ⟨th, sp, of', ba, go, dr, ki, up, dn, one, gof, dof, act, ik, h129, h130, h131, h132, h133, hk0, hk1, h134, h135, h136, h137, h138, h139, h140, h141, h142, h143, hsh⟩ := hPP
  refine ev_iast hd h138 hx hj ?_
  exact k _ ⟨th, sp, of', ba, go, dr, ki, up, dn, one, gof, dof, act, ik, (ev_set_ne (by decide)).trans h129, (ev_set_ne (by decide)).trans h130, (ev_set_ne (by decide)).trans h131, (ev_set_ne (by decide)).trans h132, (ev_set_ne (by decide)).trans h133, hk0, hk1, (ev_set_ne (by decide)).trans h134, (ev_set_ne (by decide)).trans h135, (ev_set_ne (by decide)).trans h136, (ev_set_ne (by decide)).trans h137, ev_set_eq, (ev_set_ne (by decide)).trans h139, (ev_set_ne (by decide)).trans h140, (ev_set_ne (by decide)).trans h141, (ev_set_ne (by decide)).trans h142, (ev_set_ne (by decide)).trans h143, hsh⟩ (fun k hk => ev_set_ne (by omega))
theorem md_ps133_0 {G : ev_G} {y : ev_MI} {f rc ru n pc : Nat} {M : ev_M} {L : List (Option Value)} {st : List Value} {Post : Option Value → ev_M → Prop} {tn c0 c1 c2 sh : Nat} {tx s kp bw ar tu : Nat → Int32} {k0 k1 : Bool} {tr : Int64} {nx tk pl va fa d0 d1 d2 : Int32} {dS dB dA : Nat → Int32} (hPP : md_P M tn c0 c1 c2 sh tx s kp bw ar tu k0 k1 tr nx tk pl va fa d0 d1 d2 dS dB dA) (hd : decode y.2.1 pc = .ok (.bastore, 1))
    (k : ∀ M1 : ev_M, md_P M1 tn c0 c1 c2 sh tx s kp bw ar tu false k1 tr nx tk pl va fa d0 d1 d2 dS dB dA → (∀ k, k < 129 → M1 k = M k) → ev_E G y f rc ru n M1 (pc + 1) L st Post) : ev_E G y f rc ru n M pc L (.int 0 :: .int 0 :: .ref 133 :: st) Post := by
  obtain ⟨th, sp, of', ba, go, dr, ki, up, dn, one, gof, dof, act, ik, h129, h130, h131, h132, h133, hk0, hk1, h134, h135, h136, h137, h138, h139, h140, h141, h142, h143, hsh⟩ := hPP
  refine ev_zast (x := false) (j := 0) hd h133 (ev_ixc (j := 0) rfl (by decide)) (by decide) ?_
  exact k _ ⟨th, sp, of', ba, go, dr, ki, up, dn, one, gof, dof, act, _, (ev_set_ne (by decide)).trans h129, (ev_set_ne (by decide)).trans h130, (ev_set_ne (by decide)).trans h131, (ev_set_ne (by decide)).trans h132, ev_set_eq, rfl, hk1, (ev_set_ne (by decide)).trans h134, (ev_set_ne (by decide)).trans h135, (ev_set_ne (by decide)).trans h136, (ev_set_ne (by decide)).trans h137, (ev_set_ne (by decide)).trans h138, (ev_set_ne (by decide)).trans h139, (ev_set_ne (by decide)).trans h140, (ev_set_ne (by decide)).trans h141, (ev_set_ne (by decide)).trans h142, (ev_set_ne (by decide)).trans h143, hsh⟩ (fun k hk => ev_set_ne (by omega))
theorem md_ps133_1 {G : ev_G} {y : ev_MI} {f rc ru n pc : Nat} {M : ev_M} {L : List (Option Value)} {st : List Value} {Post : Option Value → ev_M → Prop} {tn c0 c1 c2 sh : Nat} {tx s kp bw ar tu : Nat → Int32} {k0 k1 : Bool} {tr : Int64} {nx tk pl va fa d0 d1 d2 : Int32} {dS dB dA : Nat → Int32} (hPP : md_P M tn c0 c1 c2 sh tx s kp bw ar tu k0 k1 tr nx tk pl va fa d0 d1 d2 dS dB dA) (hd : decode y.2.1 pc = .ok (.bastore, 1))
    (k : ∀ M1 : ev_M, md_P M1 tn c0 c1 c2 sh tx s kp bw ar tu k0 false tr nx tk pl va fa d0 d1 d2 dS dB dA → (∀ k, k < 129 → M1 k = M k) → ev_E G y f rc ru n M1 (pc + 1) L st Post) : ev_E G y f rc ru n M pc L (.int 0 :: .int 1 :: .ref 133 :: st) Post := by
  obtain ⟨th, sp, of', ba, go, dr, ki, up, dn, one, gof, dof, act, ik, h129, h130, h131, h132, h133, hk0, hk1, h134, h135, h136, h137, h138, h139, h140, h141, h142, h143, hsh⟩ := hPP
  refine ev_zast (x := false) (j := 1) hd h133 (ev_ixc (j := 1) rfl (by decide)) (by decide) ?_
  exact k _ ⟨th, sp, of', ba, go, dr, ki, up, dn, one, gof, dof, act, _, (ev_set_ne (by decide)).trans h129, (ev_set_ne (by decide)).trans h130, (ev_set_ne (by decide)).trans h131, (ev_set_ne (by decide)).trans h132, ev_set_eq, hk0, rfl, (ev_set_ne (by decide)).trans h134, (ev_set_ne (by decide)).trans h135, (ev_set_ne (by decide)).trans h136, (ev_set_ne (by decide)).trans h137, (ev_set_ne (by decide)).trans h138, (ev_set_ne (by decide)).trans h139, (ev_set_ne (by decide)).trans h140, (ev_set_ne (by decide)).trans h141, (ev_set_ne (by decide)).trans h142, (ev_set_ne (by decide)).trans h143, hsh⟩ (fun k hk => ev_set_ne (by omega))
theorem md_pt_d0 {G : ev_G} {y : ev_MI} {f rc ru n pc : Nat} {M : ev_M} {L : List (Option Value)} {st : List Value} {Post : Option Value → ev_M → Prop} {tn c0 c1 c2 sh : Nat} {tx s kp bw ar tu : Nat → Int32} {k0 k1 : Bool} {tr : Int64} {d0 d1 d2 : Int32} {dS dB dA : Nat → Int32} {ps : Bool × Nat} (hps : md_ps M tn c0 c1 c2 sh tx s kp bw ar tu k0 k1 tr ps d0 d1 d2 dS dB dA) {x : Int32} (hd : decode y.2.1 pc = .ok (.putfield 110, 3)) (hy : y.1.cls = RX12)
    (k : ∀ M1 : ev_M, md_ps M1 tn c0 c1 c2 sh tx s kp bw ar tu k0 k1 tr ps x d1 d2 dS dB dA → (∀ k, k < 129 → M1 k = M k) → ev_E G y f rc ru n M1 (pc + 3) L st Post) : ev_E G y f rc ru n M pc L (.int x :: .ref 129 :: st) Post := by
  obtain ⟨nx, tk, pl, va, fa, hPP, hq⟩ := hps
  exact md_pf_d0 hPP hd hy (fun M1 h hf => k M1 ⟨nx, tk, pl, va, fa, h, hq⟩ hf)
theorem md_pt_d1 {G : ev_G} {y : ev_MI} {f rc ru n pc : Nat} {M : ev_M} {L : List (Option Value)} {st : List Value} {Post : Option Value → ev_M → Prop} {tn c0 c1 c2 sh : Nat} {tx s kp bw ar tu : Nat → Int32} {k0 k1 : Bool} {tr : Int64} {d0 d1 d2 : Int32} {dS dB dA : Nat → Int32} {ps : Bool × Nat} (hps : md_ps M tn c0 c1 c2 sh tx s kp bw ar tu k0 k1 tr ps d0 d1 d2 dS dB dA) {x : Int32} (hd : decode y.2.1 pc = .ok (.putfield 117, 3)) (hy : y.1.cls = RX12)
    (k : ∀ M1 : ev_M, md_ps M1 tn c0 c1 c2 sh tx s kp bw ar tu k0 k1 tr ps d0 x d2 dS dB dA → (∀ k, k < 129 → M1 k = M k) → ev_E G y f rc ru n M1 (pc + 3) L st Post) : ev_E G y f rc ru n M pc L (.int x :: .ref 129 :: st) Post := by
  obtain ⟨nx, tk, pl, va, fa, hPP, hq⟩ := hps
  exact md_pf_d1 hPP hd hy (fun M1 h hf => k M1 ⟨nx, tk, pl, va, fa, h, hq⟩ hf)
theorem md_pt_d2 {G : ev_G} {y : ev_MI} {f rc ru n pc : Nat} {M : ev_M} {L : List (Option Value)} {st : List Value} {Post : Option Value → ev_M → Prop} {tn c0 c1 c2 sh : Nat} {tx s kp bw ar tu : Nat → Int32} {k0 k1 : Bool} {tr : Int64} {d0 d1 d2 : Int32} {dS dB dA : Nat → Int32} {ps : Bool × Nat} (hps : md_ps M tn c0 c1 c2 sh tx s kp bw ar tu k0 k1 tr ps d0 d1 d2 dS dB dA) {x : Int32} (hd : decode y.2.1 pc = .ok (.putfield 120, 3)) (hy : y.1.cls = RX12)
    (k : ∀ M1 : ev_M, md_ps M1 tn c0 c1 c2 sh tx s kp bw ar tu k0 k1 tr ps d0 d1 x dS dB dA → (∀ k, k < 129 → M1 k = M k) → ev_E G y f rc ru n M1 (pc + 3) L st Post) : ev_E G y f rc ru n M pc L (.int x :: .ref 129 :: st) Post := by
  obtain ⟨nx, tk, pl, va, fa, hPP, hq⟩ := hps
  exact md_pf_d2 hPP hd hy (fun M1 h hf => k M1 ⟨nx, tk, pl, va, fa, h, hq⟩ hf)
theorem md_pt136 {G : ev_G} {y : ev_MI} {f rc ru n pc : Nat} {M : ev_M} {L : List (Option Value)} {st : List Value} {Post : Option Value → ev_M → Prop} {tn c0 c1 c2 sh : Nat} {tx s kp bw ar tu : Nat → Int32} {k0 k1 : Bool} {tr : Int64} {d0 d1 d2 : Int32} {dS dB dA : Nat → Int32} {ps : Bool × Nat} (hps : md_ps M tn c0 c1 c2 sh tx s kp bw ar tu k0 k1 tr ps d0 d1 d2 dS dB dA) {j : Nat} {i x : Int32} (hd : decode y.2.1 pc = .ok (.iastore, 1)) (hx : ev_ix i j) (hj : j < 84)
    (k : ∀ M1 : ev_M, md_ps M1 tn c0 c1 c2 sh tx s kp bw ar tu k0 k1 tr ps d0 d1 d2 (upd dS j x) dB dA → (∀ k, k < 129 → M1 k = M k) → ev_E G y f rc ru n M1 (pc + 1) L st Post) : ev_E G y f rc ru n M pc L (.int x :: .int i :: .ref 136 :: st) Post := by
  obtain ⟨nx, tk, pl, va, fa, hPP, hq⟩ := hps
  exact md_ps136 hPP hd hx hj (fun M1 h hf => k M1 ⟨nx, tk, pl, va, fa, h, hq⟩ hf)
theorem md_pt137 {G : ev_G} {y : ev_MI} {f rc ru n pc : Nat} {M : ev_M} {L : List (Option Value)} {st : List Value} {Post : Option Value → ev_M → Prop} {tn c0 c1 c2 sh : Nat} {tx s kp bw ar tu : Nat → Int32} {k0 k1 : Bool} {tr : Int64} {d0 d1 d2 : Int32} {dS dB dA : Nat → Int32} {ps : Bool × Nat} (hps : md_ps M tn c0 c1 c2 sh tx s kp bw ar tu k0 k1 tr ps d0 d1 d2 dS dB dA) {j : Nat} {i x : Int32} (hd : decode y.2.1 pc = .ok (.iastore, 1)) (hx : ev_ix i j) (hj : j < 6)
    (k : ∀ M1 : ev_M, md_ps M1 tn c0 c1 c2 sh tx s kp bw ar tu k0 k1 tr ps d0 d1 d2 dS (upd dB j x) dA → (∀ k, k < 129 → M1 k = M k) → ev_E G y f rc ru n M1 (pc + 1) L st Post) : ev_E G y f rc ru n M pc L (.int x :: .int i :: .ref 137 :: st) Post := by
  obtain ⟨nx, tk, pl, va, fa, hPP, hq⟩ := hps
  exact md_ps137 hPP hd hx hj (fun M1 h hf => k M1 ⟨nx, tk, pl, va, fa, h, hq⟩ hf)
theorem md_pt138 {G : ev_G} {y : ev_MI} {f rc ru n pc : Nat} {M : ev_M} {L : List (Option Value)} {st : List Value} {Post : Option Value → ev_M → Prop} {tn c0 c1 c2 sh : Nat} {tx s kp bw ar tu : Nat → Int32} {k0 k1 : Bool} {tr : Int64} {d0 d1 d2 : Int32} {dS dB dA : Nat → Int32} {ps : Bool × Nat} (hps : md_ps M tn c0 c1 c2 sh tx s kp bw ar tu k0 k1 tr ps d0 d1 d2 dS dB dA) {j : Nat} {i x : Int32} (hd : decode y.2.1 pc = .ok (.iastore, 1)) (hx : ev_ix i j) (hj : j < 6)
    (k : ∀ M1 : ev_M, md_ps M1 tn c0 c1 c2 sh tx s kp bw ar tu k0 k1 tr ps d0 d1 d2 dS dB (upd dA j x) → (∀ k, k < 129 → M1 k = M k) → ev_E G y f rc ru n M1 (pc + 1) L st Post) : ev_E G y f rc ru n M pc L (.int x :: .int i :: .ref 138 :: st) Post := by
  obtain ⟨nx, tk, pl, va, fa, hPP, hq⟩ := hps
  exact md_ps138 hPP hd hx hj (fun M1 h hf => k M1 ⟨nx, tk, pl, va, fa, h, hq⟩ hf)
theorem c13_byteAt {G : ev_G} {n : Nat} {M : ev_M} {th nx tk pl va fa c0 c1 c2 d0 d1 d2 sp of ba go dr ki : Int32} {tr up dn : Int64} {tn : Nat} (h129 : M 129 = md_o th tr (nI tn) nx tk pl va fa c0 c1 c2 d0 d1 d2 sp of ba go dr ki up dn) {tx : Nat → Int32} (h130 : M 130 = .inl (0, 400, .inl tx)) (hn : tn ≤ 400) {i : Nat} (hi : i < 1000) : ev_Cal G mX12_byteAt 1 0 0 [.ref 129, .int (nI i)] n M (ev_is (some (.int (rd_at tn tx i))) M) := by
  refine ev_Cal_of (L := [some (.ref 129), some (.int (nI i))]) (by decide +kernel) (Nat.le_of_ble_eq_true rfl) rfl ?_
  refine ev_iload_n (i := 1) dX12_byteAt_0 rfl rfl ?_
  refine ev_aload_n (i := 0) dX12_byteAt_1 rfl rfl ?_
  refine ev_getf dX12_byteAt_2 flX12_61 (by assumption) (by rfl) ?_
  refine ev_icmp_ge (tgt := 17) dX12_byteAt_5 (by decide) (fun h5 => ?_) (fun h5 => ?_)
  · skip
    refine ev_iconst (v := (-1)) dX12_byteAt_17 cni_m1 ?_
    exact ev_reti dX12_byteAt_18 rfl rfl (⟨by first | rw [rd_at_in ((nI_ltI (a := i) (b := tn) (by omega) (by omega)).mp h5)] | rw [rd_at_out ((nI_leI (a := tn) (b := i) (by omega) (by omega)).mp h5)], rfl⟩)
  · skip
    refine ev_aload_n (i := 0) dX12_byteAt_8 rfl rfl ?_
    refine ev_getf dX12_byteAt_9 flX12_7 (by assumption) (by rfl) ?_
    refine ev_iload_n (i := 1) dX12_byteAt_12 rfl rfl ?_
    refine ev_iald (j := i) dX12_byteAt_13 (by assumption) (ev_ix_nI (by omega)) (by have := (nI_ltI (a := i) (b := tn) (by omega) (by omega)).mp h5; omega) ?_
    refine ev_goto (tgt := 18) dX12_byteAt_14 (by decide) ?_
    exact ev_reti dX12_byteAt_18 rfl rfl (⟨by first | rw [rd_at_in ((nI_ltI (a := i) (b := tn) (by omega) (by omega)).mp h5)] | rw [rd_at_out ((nI_leI (a := tn) (b := i) (by omega) (by omega)).mp h5)], rfl⟩)
def ad_v (x : Int64) (c : Int32) : Int64 := if c = 0 then x else 256 * x + c.toInt64
def ad_n (a b c d e f : Int32) : Int64 := ad_v (ad_v (ad_v (ad_v (ad_v (ad_v 0 a) b) c) d) e) f
theorem ad_0 : ad_n 115 116 105 99 107 0 = lN (ch_N 0) := by decide +kernel
theorem ad_1 : ad_n 98 111 119 0 0 0 = lN (ch_N 1) := by decide +kernel
theorem ad_2 : ad_n 97 114 99 104 101 114 = lN (ch_N 2) := by decide +kernel
theorem ad_3 : ad_n 108 101 102 116 0 0 = lN (ch_N 3) := by decide +kernel
theorem ad_4 : ad_n 114 105 103 104 116 0 = lN (ch_N 4) := by decide +kernel
theorem wd_step {tn : Nat} {tb : Nat → Int32} {q j : Nat} (hq : q + j < tn) (h : sp_in (rd_at tn tb (q + j)) 97 122 = true) (hj : j < 7) : ad_v (lN (wd_N tb q j)) (rd_at tn tb (q + j)) = lN (wd_N tb q (j + 1)) := by
  rw [rd_at_in hq] at h ⊢
  have h1 := is_l_n h
  unfold ad_v
  rw [if_neg (fun e => by rw [e] at h; exact absurd h (by decide)), wd_N, if_pos hj, h1.2.2, nI_l (by omega), show (256 : Int64) = lN 256 from rfl, lN_mul, lN_add]
theorem wd_stay {tb : Nat → Int32} {q j : Nat} (hj : 7 ≤ j) : lN (wd_N tb q j) = lN (wd_N tb q (j + 1)) := by rw [show wd_N tb q (j + 1) = wd_N tb q j by rw [wd_N, if_neg (by omega)]]
theorem c13_add {G : ev_G} {n : Nat} {M : ev_M} {x : Int64} {c : Int32} : ev_Cal G mX12_add 1 0 0 [.long x, .int c] n M (ev_is (some (.long (ad_v x c))) M) := by
  refine ev_Cal_of (L := [some (.long x), none, some (.int c)]) (by decide +kernel) (Nat.le_of_ble_eq_true rfl) rfl ?_
  refine ev_iload_n (i := 2) dX12_add_0 rfl rfl ?_
  refine ev_if_ne (tgt := 8) dX12_add_1 (by decide) (fun h1 => ?_) (fun h1 => ?_)
  · skip
    refine ev_ldc2 dX12_add_8 coX12_66 ?_
    refine ev_lload_n (i := 0) dX12_add_11 rfl rfl ?_
    refine ev_lmul dX12_add_12 ?_
    refine ev_iload_n (i := 2) dX12_add_13 rfl rfl ?_
    refine ev_i2l dX12_add_14 ?_
    refine ev_ladd dX12_add_15 ?_
    exact ev_retl dX12_add_16 rfl (⟨by first | rw [ad_v, if_pos h1] | rw [ad_v, if_neg h1], rfl⟩)
  · skip
    refine ev_lload_n (i := 0) dX12_add_4 rfl rfl ?_
    refine ev_goto (tgt := 16) dX12_add_5 (by decide) ?_
    exact ev_retl dX12_add_16 rfl (⟨by first | rw [ad_v, if_pos h1] | rw [ad_v, if_neg h1], rfl⟩)
theorem c13_named {G : ev_G} {n : Nat} {M : ev_M} {a b c d e f : Int32} : ev_Cal G mX12_named 2 0 0 [.int a, .int b, .int c, .int d, .int e, .int f] n M (ev_is (some (.long (ad_n a b c d e f))) M) := by
  refine ev_Cal_of (L := [some (.int a), some (.int b), some (.int c), some (.int d), some (.int e), some (.int f)]) (by decide +kernel) (Nat.le_of_ble_eq_true rfl) rfl ?_
  refine ev_lconst (v := 0) dX12_named_0 rfl ?_
  refine ev_iload_n (i := 0) dX12_named_1 rfl rfl ?_
  refine ev_c2 kX12_named_2 (c13_add) trivial (by decide) (by decide) (Nat.le_of_ble_eq_true rfl) ?_
  refine ev_iload_n (i := 1) dX12_named_5 rfl rfl ?_
  refine ev_c2 kX12_named_6 (c13_add) trivial (by decide) (by decide) (Nat.le_of_ble_eq_true rfl) ?_
  refine ev_iload_n (i := 2) dX12_named_9 rfl rfl ?_
  refine ev_c2 kX12_named_10 (c13_add) trivial (by decide) (by decide) (Nat.le_of_ble_eq_true rfl) ?_
  refine ev_iload_n (i := 3) dX12_named_13 rfl rfl ?_
  refine ev_c2 kX12_named_14 (c13_add) trivial (by decide) (by decide) (Nat.le_of_ble_eq_true rfl) ?_
  refine ev_iload dX12_named_17 rfl ?_
  refine ev_c2 kX12_named_19 (c13_add) trivial (by decide) (by decide) (Nat.le_of_ble_eq_true rfl) ?_
  refine ev_iload dX12_named_22 rfl ?_
  refine ev_c2 kX12_named_24 (c13_add) trivial (by decide) (by decide) (Nat.le_of_ble_eq_true rfl) ?_
  exact ev_retl dX12_named_27 rfl (⟨rfl, rfl⟩)
theorem c13_wordOf {G : ev_G} {n : Nat} {M : ev_M} {v : Int64} : ev_Cal G mX12_wordOf 3 0 0 [.long v] n M (ev_is (some (.int (wo_v v))) M) := by
  refine ev_Cal_of (L := [some (.long v), none, none]) (by decide +kernel) (Nat.le_of_ble_eq_true rfl) rfl ?_
  refine ev_lload_n (i := 0) dX12_wordOf_0 rfl rfl ?_
  refine ev_bipush (v := 115) dX12_wordOf_1 cnb_115 ?_
  refine ev_bipush (v := 116) dX12_wordOf_3 cnb_116 ?_
  refine ev_bipush (v := 105) dX12_wordOf_5 cnb_105 ?_
  refine ev_bipush (v := 99) dX12_wordOf_7 cnb_99 ?_
  refine ev_bipush (v := 107) dX12_wordOf_9 cnb_107 ?_
  refine ev_iconst (v := 0) dX12_wordOf_11 cni_0 ?_
  refine ev_c6 kX12_wordOf_12 (c13_named) trivial (by decide) (by decide) (Nat.le_of_ble_eq_true rfl) ?_
  refine ev_topl ad_0 ?_
  refine ev_lcmp dX12_wordOf_15 ?_
  refine ev_if_ne (tgt := 23) dX12_wordOf_16 (by decide) (fun h16 => ?_) (fun h16 => ?_)
  · skip
    refine ev_lload_n (i := 0) dX12_wordOf_23 rfl rfl ?_
    refine ev_bipush (v := 98) dX12_wordOf_24 cnb_98 ?_
    refine ev_bipush (v := 111) dX12_wordOf_26 cnb_111 ?_
    refine ev_bipush (v := 119) dX12_wordOf_28 cnb_119 ?_
    refine ev_iconst (v := 0) dX12_wordOf_30 cni_0 ?_
    refine ev_iconst (v := 0) dX12_wordOf_31 cni_0 ?_
    refine ev_iconst (v := 0) dX12_wordOf_32 cni_0 ?_
    refine ev_c6 kX12_wordOf_33 (c13_named) trivial (by decide) (by decide) (Nat.le_of_ble_eq_true rfl) ?_
    refine ev_topl ad_1 ?_
    refine ev_lcmp dX12_wordOf_36 ?_
    refine ev_if_ne (tgt := 44) dX12_wordOf_37 (by decide) (fun h37 => ?_) (fun h37 => ?_)
    · skip
      refine ev_lload_n (i := 0) dX12_wordOf_44 rfl rfl ?_
      refine ev_bipush (v := 97) dX12_wordOf_45 cnb_97 ?_
      refine ev_bipush (v := 114) dX12_wordOf_47 cnb_114 ?_
      refine ev_bipush (v := 99) dX12_wordOf_49 cnb_99 ?_
      refine ev_bipush (v := 104) dX12_wordOf_51 cnb_104 ?_
      refine ev_bipush (v := 101) dX12_wordOf_53 cnb_101 ?_
      refine ev_bipush (v := 114) dX12_wordOf_55 cnb_114 ?_
      refine ev_c6 kX12_wordOf_57 (c13_named) trivial (by decide) (by decide) (Nat.le_of_ble_eq_true rfl) ?_
      refine ev_topl ad_2 ?_
      refine ev_lcmp dX12_wordOf_60 ?_
      refine ev_if_ne (tgt := 68) dX12_wordOf_61 (by decide) (fun h61 => ?_) (fun h61 => ?_)
      · skip
        refine ev_bipush (v := (-9)) dX12_wordOf_68 cnb_m9 ?_
        refine ev_istore_n (i := 2) dX12_wordOf_70 rfl (Nat.le_of_ble_eq_true rfl) rfl ?_
        refine ev_iload_n (i := 2) dX12_wordOf_71 rfl rfl ?_
        refine ev_bipush (v := (-9)) dX12_wordOf_72 cnb_m9 ?_
        refine ev_icmp_eq (tgt := 81) dX12_wordOf_74 (by decide) (fun h74 => ?_) (fun h74 => False.elim (absurd rfl h74))
        refine ev_lload_n (i := 0) dX12_wordOf_81 rfl rfl ?_
        refine ev_bipush (v := 108) dX12_wordOf_82 cnb_108 ?_
        refine ev_bipush (v := 101) dX12_wordOf_84 cnb_101 ?_
        refine ev_bipush (v := 102) dX12_wordOf_86 cnb_102 ?_
        refine ev_bipush (v := 116) dX12_wordOf_88 cnb_116 ?_
        refine ev_iconst (v := 0) dX12_wordOf_90 cni_0 ?_
        refine ev_iconst (v := 0) dX12_wordOf_91 cni_0 ?_
        refine ev_c6 kX12_wordOf_92 (c13_named) trivial (by decide) (by decide) (Nat.le_of_ble_eq_true rfl) ?_
        refine ev_topl ad_3 ?_
        refine ev_lcmp dX12_wordOf_95 ?_
        refine ev_if_ne (tgt := 103) dX12_wordOf_96 (by decide) (fun h96 => ?_) (fun h96 => ?_)
        · skip
          refine ev_lload_n (i := 0) dX12_wordOf_103 rfl rfl ?_
          refine ev_bipush (v := 114) dX12_wordOf_104 cnb_114 ?_
          refine ev_bipush (v := 105) dX12_wordOf_106 cnb_105 ?_
          refine ev_bipush (v := 103) dX12_wordOf_108 cnb_103 ?_
          refine ev_bipush (v := 104) dX12_wordOf_110 cnb_104 ?_
          refine ev_bipush (v := 116) dX12_wordOf_112 cnb_116 ?_
          refine ev_iconst (v := 0) dX12_wordOf_114 cni_0 ?_
          refine ev_c6 kX12_wordOf_115 (c13_named) trivial (by decide) (by decide) (Nat.le_of_ble_eq_true rfl) ?_
          refine ev_topl ad_4 ?_
          refine ev_lcmp dX12_wordOf_118 ?_
          refine ev_if_ne (tgt := 126) dX12_wordOf_119 (by decide) (fun h119 => ?_) (fun h119 => ?_)
          · skip
            refine ev_bipush (v := (-9)) dX12_wordOf_126 cnb_m9 ?_
            exact ev_reti dX12_wordOf_128 rfl rfl (⟨by unfold wo_v; rw [if_neg (fun z => h16 ((lg_cmp_eq _ _).mpr z)), if_neg (fun z => h37 ((lg_cmp_eq _ _).mpr z)), if_neg (fun z => h61 ((lg_cmp_eq _ _).mpr z)), if_neg (fun z => h96 ((lg_cmp_eq _ _).mpr z)), if_neg (fun z => h119 ((lg_cmp_eq _ _).mpr z))], rfl⟩)
          · skip
            refine ev_iconst (v := 4) dX12_wordOf_122 cni_4 ?_
            refine ev_goto (tgt := 128) dX12_wordOf_123 (by decide) ?_
            exact ev_reti dX12_wordOf_128 rfl rfl (⟨by unfold wo_v; rw [if_neg (fun z => h16 ((lg_cmp_eq _ _).mpr z)), if_neg (fun z => h37 ((lg_cmp_eq _ _).mpr z)), if_neg (fun z => h61 ((lg_cmp_eq _ _).mpr z)), if_neg (fun z => h96 ((lg_cmp_eq _ _).mpr z)), if_pos ((lg_cmp_eq _ _).mp h119)], rfl⟩)
        · skip
          refine ev_iconst (v := 3) dX12_wordOf_99 cni_3 ?_
          refine ev_goto (tgt := 128) dX12_wordOf_100 (by decide) ?_
          exact ev_reti dX12_wordOf_128 rfl rfl (⟨by unfold wo_v; rw [if_neg (fun z => h16 ((lg_cmp_eq _ _).mpr z)), if_neg (fun z => h37 ((lg_cmp_eq _ _).mpr z)), if_neg (fun z => h61 ((lg_cmp_eq _ _).mpr z)), if_pos ((lg_cmp_eq _ _).mp h96)], rfl⟩)
      · skip
        refine ev_iconst (v := 2) dX12_wordOf_64 cni_2 ?_
        refine ev_goto (tgt := 70) dX12_wordOf_65 (by decide) ?_
        refine ev_istore_n (i := 2) dX12_wordOf_70 rfl (Nat.le_of_ble_eq_true rfl) rfl ?_
        refine ev_iload_n (i := 2) dX12_wordOf_71 rfl rfl ?_
        refine ev_bipush (v := (-9)) dX12_wordOf_72 cnb_m9 ?_
        refine ev_icmp_eq (tgt := 81) dX12_wordOf_74 (by decide) (fun h74 => False.elim (absurd h74 (by decide))) (fun h74 => ?_)
        refine ev_iload_n (i := 2) dX12_wordOf_77 rfl rfl ?_
        refine ev_goto (tgt := 128) dX12_wordOf_78 (by decide) ?_
        exact ev_reti dX12_wordOf_128 rfl rfl (⟨by unfold wo_v; rw [if_neg (fun z => h16 ((lg_cmp_eq _ _).mpr z)), if_neg (fun z => h37 ((lg_cmp_eq _ _).mpr z)), if_pos ((lg_cmp_eq _ _).mp h61)], rfl⟩)
    · skip
      refine ev_iconst (v := 1) dX12_wordOf_40 cni_1 ?_
      refine ev_goto (tgt := 70) dX12_wordOf_41 (by decide) ?_
      refine ev_istore_n (i := 2) dX12_wordOf_70 rfl (Nat.le_of_ble_eq_true rfl) rfl ?_
      refine ev_iload_n (i := 2) dX12_wordOf_71 rfl rfl ?_
      refine ev_bipush (v := (-9)) dX12_wordOf_72 cnb_m9 ?_
      refine ev_icmp_eq (tgt := 81) dX12_wordOf_74 (by decide) (fun h74 => False.elim (absurd h74 (by decide))) (fun h74 => ?_)
      refine ev_iload_n (i := 2) dX12_wordOf_77 rfl rfl ?_
      refine ev_goto (tgt := 128) dX12_wordOf_78 (by decide) ?_
      exact ev_reti dX12_wordOf_128 rfl rfl (⟨by unfold wo_v; rw [if_neg (fun z => h16 ((lg_cmp_eq _ _).mpr z)), if_pos ((lg_cmp_eq _ _).mp h37)], rfl⟩)
  · skip
    refine ev_iconst (v := 0) dX12_wordOf_19 cni_0 ?_
    refine ev_goto (tgt := 70) dX12_wordOf_20 (by decide) ?_
    refine ev_istore_n (i := 2) dX12_wordOf_70 rfl (Nat.le_of_ble_eq_true rfl) rfl ?_
    refine ev_iload_n (i := 2) dX12_wordOf_71 rfl rfl ?_
    refine ev_bipush (v := (-9)) dX12_wordOf_72 cnb_m9 ?_
    refine ev_icmp_eq (tgt := 81) dX12_wordOf_74 (by decide) (fun h74 => False.elim (absurd h74 (by decide))) (fun h74 => ?_)
    refine ev_iload_n (i := 2) dX12_wordOf_77 rfl rfl ?_
    refine ev_goto (tgt := 128) dX12_wordOf_78 (by decide) ?_
    exact ev_reti dX12_wordOf_128 rfl rfl (⟨by unfold wo_v; rw [if_pos ((lg_cmp_eq _ _).mp h16)], rfl⟩)
theorem c13_isWell {G : ev_G} {n : Nat} {M : ev_M} {th tn nx tk pl va fa c0 c1 c2 d0 d1 d2 sp of ba go dr ki : Int32} {tr up dn : Int64} (h129 : M 129 = md_o th tr tn nx tk pl va fa c0 c1 c2 d0 d1 d2 sp of ba go dr ki up dn)  : ev_Cal G mX12_isWell 1 0 0 [.ref 129] n M (ev_is (some (.int (ev_b (decide (fa < 0))))) M) := by
  refine ev_Cal_of (L := [some (.ref 129)]) (by decide +kernel) (Nat.le_of_ble_eq_true rfl) rfl ?_
  refine ev_aload_n (i := 0) dX12_isWell_0 rfl rfl ?_
  refine ev_getf dX12_isWell_1 flX12_96 (by assumption) (by rfl) ?_
  refine ev_if_ge (tgt := 11) dX12_isWell_4 (by decide) (fun h4 => ?_) (fun h4 => ?_)
  · skip
    refine ev_iconst (v := 0) dX12_isWell_11 cni_0 ?_
    exact ev_reti dX12_isWell_12 rfl rfl (⟨by first | (rw [decide_eq_true h4]; rfl) | (rw [decide_eq_false (Int32.not_lt.mpr h4)]; rfl), rfl⟩)
  · skip
    refine ev_iconst (v := 1) dX12_isWell_7 cni_1 ?_
    refine ev_goto (tgt := 12) dX12_isWell_8 (by decide) ?_
    exact ev_reti dX12_isWell_12 rfl rfl (⟨by first | (rw [decide_eq_true h4]; rfl) | (rw [decide_eq_false (Int32.not_lt.mpr h4)]; rfl), rfl⟩)
theorem l_adv_b {G : ev_G} {n : Nat} {M : ev_M} {tn c0 c1 c2 sh : Nat} {tx s kp bw ar tu : Nat → Int32} {k0 k1 : Bool} {tr : Int64} {tk pl va fa d0 d1 d2 : Int32} {dS dB dA : Nat → Int32} (hn : tn ≤ 400) {z1 z2 z3 : Option Value} {Post : Option Value → ev_M → Prop} : ∀ (m p : Nat) (M1 : ev_M), tn - p ≤ m → p ≤ tn → md_P M1 tn c0 c1 c2 sh tx s kp bw ar tu k0 k1 tr (nI p) tk pl va fa d0 d1 d2 dS dB dA → (∀ k, k < 129 → M1 k = M k) → (∀ M2 : ev_M, md_P M2 tn c0 c1 c2 sh tx s kp bw ar tu k0 k1 tr (nI (rd_sk tx (tn - p) p)) tk pl va fa d0 d1 d2 dS dB dA → (∀ k, k < 129 → M2 k = M k) → ev_E G mX12_advances 4 0 0 n M2 26 [some (.ref 129), z1, z2, z3] [] Post) → ev_E G mX12_advances 4 0 0 n M1 0 [some (.ref 129), z1, z2, z3] [] Post := by
  intro m
  induction m with
  | zero =>
    intro p M1 hm hpt hP1 hf1 K
    have hPP := hP1
    obtain ⟨th, sp, of', ba, go, dr, ki, up, dn, one, gof, dof, act, ik, h129, h130, h131, h132, h133, hk0, hk1, h134, h135, h136, h137, h138, h139, h140, h141, h142, h143, hsh⟩ := hPP
    refine ev_aload_n (i := 0) dX12_advances_0 rfl rfl ?_
    refine ev_aload_n (i := 0) dX12_advances_1 rfl rfl ?_
    refine ev_getf dX12_advances_2 flX12_76 (by assumption) (by rfl) ?_
    refine ev_c2 kX12_advances_5 (c13_byteAt (i := p) h129 h130 hn (by omega)) (ev_rv_of (by assumption) rfl rfl) (by decide) (by decide) (Nat.le_of_ble_eq_true rfl) ?_
    refine ev_bipush (v := 32) dX12_advances_8 cnb_32 ?_
    have hpp : p = tn := by omega
    refine ev_icmp_ne (tgt := 26) dX12_advances_10 (by decide) (fun h10 => ?_) (fun h10 => False.elim (by rw [rd_at_out (Nat.le_of_eq hpp.symm)] at h10; exact absurd h10 (by decide)))
    have e : rd_sk tx (tn - p) p = p := by rw [show tn - p = 0 by omega]; rfl
    have hfin := hP1
    rw [← e] at hfin
    exact K M1 hfin hf1
  | succ m ih =>
    intro p M1 hm hpt hP1 hf1 K
    have hPP := hP1
    obtain ⟨th, sp, of', ba, go, dr, ki, up, dn, one, gof, dof, act, ik, h129, h130, h131, h132, h133, hk0, hk1, h134, h135, h136, h137, h138, h139, h140, h141, h142, h143, hsh⟩ := hPP
    refine ev_aload_n (i := 0) dX12_advances_0 rfl rfl ?_
    refine ev_aload_n (i := 0) dX12_advances_1 rfl rfl ?_
    refine ev_getf dX12_advances_2 flX12_76 (by assumption) (by rfl) ?_
    refine ev_c2 kX12_advances_5 (c13_byteAt (i := p) h129 h130 hn (by omega)) (ev_rv_of (by assumption) rfl rfl) (by decide) (by decide) (Nat.le_of_ble_eq_true rfl) ?_
    refine ev_bipush (v := 32) dX12_advances_8 cnb_32 ?_
    refine ev_icmp_ne (tgt := 26) dX12_advances_10 (by decide) (fun h10 => ?_) (fun h10 => ?_)
    · skip
      have e : rd_sk tx (tn - p) p = p := by
        by_cases hp : p < tn
        · obtain ⟨q, hq⟩ : ∃ q, tn - p = q + 1 := ⟨tn - p - 1, by omega⟩
          rw [rd_at_in hp] at h10
          rw [hq, rd_sk_0 h10]
        · rw [show tn - p = 0 by omega]; rfl
      have hfin := hP1
      rw [← e] at hfin
      exact K M1 hfin hf1
    · skip
      have hp : p < tn := by
        rcases Nat.lt_or_ge p tn with h | h
        · exact h
        · rw [rd_at_out h] at h10; exact absurd h10 (by decide)
      rw [rd_at_in hp] at h10
      have e : rd_sk tx (tn - p) p = rd_sk tx (tn - (p + 1)) (p + 1) := by
        obtain ⟨q, hq⟩ : ∃ q, tn - p = q + 1 := ⟨tn - p - 1, by omega⟩
        rw [hq, rd_sk_1 h10, show tn - (p + 1) = q by omega]
      rw [e] at K
      refine ev_aload_n (i := 0) dX12_advances_13 rfl rfl ?_
      refine ev_dup dX12_advances_14 rfl ?_
      refine ev_getf dX12_advances_15 flX12_76 (by assumption) (by rfl) ?_
      refine ev_iconst (v := 1) dX12_advances_18 cni_1 ?_
      refine ev_iadd dX12_advances_19 ?_
      refine ev_topi (nI_1 p) ?_
      refine md_pf_nx hP1 dX12_advances_20 rfl (fun M2 hPP hf2 => ?_)
      have hP2 := hPP
      obtain ⟨th, sp, of', ba, go, dr, ki, up, dn, one, gof, dof, act, ik, h129, h130, h131, h132, h133, hk0, hk1, h134, h135, h136, h137, h138, h139, h140, h141, h142, h143, hsh⟩ := hPP
      refine ev_goto (tgt := 0) dX12_advances_23 (by decide) ?_
      exact ih (p + 1) M2 (by omega) (by omega) hP2 (fun k hk => (hf2 k hk).trans (hf1 k hk)) K
theorem l_adv_l {G : ev_G} {n : Nat} {M : ev_M} {tn c0 c1 c2 sh : Nat} {tx s kp bw ar tu : Nat → Int32} {k0 k1 : Bool} {tr : Int64} {tk va fa d0 d1 d2 : Int32} {dS dB dA : Nat → Int32} (hn : tn ≤ 400) {q : Nat} {c : Int32} {Post : Option Value → ev_M → Prop} : ∀ (m j : Nat) (M1 : ev_M), tn - (q + j) ≤ m → q + j ≤ tn → (∀ k, k < j → sp_in (tx (q + k)) 97 122 = true) → md_P M1 tn c0 c1 c2 sh tx s kp bw ar tu k0 k1 tr (nI (q + j)) tk (nI q) va fa d0 d1 d2 dS dB dA → (∀ k, k < 129 → M1 k = M k) → (∀ (L : Nat) (M2 : ev_M), lt_run tn tx q L → j ≤ L → md_P M2 tn c0 c1 c2 sh tx s kp bw ar tu k0 k1 tr (nI (q + L)) tk (nI q) va fa d0 d1 d2 dS dB dA → (∀ k, k < 129 → M2 k = M k) → ev_E G mX12_advances 4 0 0 n M2 130 [some (.ref 129), some (.int c), some (.long (lN (wd_N tx q L))), none] [] Post) → ev_E G mX12_advances 4 0 0 n M1 68 [some (.ref 129), some (.int c), some (.long (lN (wd_N tx q j))), none] [] Post := by
  intro m
  induction m with
  | zero =>
    intro j M1 hm hqj hlt hP1 hf1 K
    have hPP := hP1
    obtain ⟨th, sp, of', ba, go, dr, ki, up, dn, one, gof, dof, act, ik, h129, h130, h131, h132, h133, hk0, hk1, h134, h135, h136, h137, h138, h139, h140, h141, h142, h143, hsh⟩ := hPP
    refine ev_aload_n (i := 0) dX12_advances_68 rfl rfl ?_
    refine ev_aload_n (i := 0) dX12_advances_69 rfl rfl ?_
    refine ev_getf dX12_advances_70 flX12_76 (by assumption) (by rfl) ?_
    refine ev_c2 kX12_advances_73 (c13_byteAt (i := q + j) h129 h130 hn (by omega)) (ev_rv_of (by assumption) rfl rfl) (by decide) (by decide) (Nat.le_of_ble_eq_true rfl) ?_
    refine ev_bipush (v := 97) dX12_advances_76 cnb_97 ?_
    refine ev_bipush (v := 122) dX12_advances_78 cnb_122 ?_
    refine ev_c3 kX12_advances_80 (c13_in) trivial (by decide) (by decide) (Nat.le_of_ble_eq_true rfl) ?_
    refine ev_if_eqb (tgt := 130) dX12_advances_83 (by decide) (fun h83 => ?_) (fun h83 => False.elim (by rw [rd_at_out (by omega)] at h83; exact absurd h83 (by decide)))
    exact K j M1 ⟨hqj, hlt, h83⟩ (Nat.le_refl _) hP1 hf1
  | succ m ih =>
    intro j M1 hm hqj hlt hP1 hf1 K
    have hPP := hP1
    obtain ⟨th, sp, of', ba, go, dr, ki, up, dn, one, gof, dof, act, ik, h129, h130, h131, h132, h133, hk0, hk1, h134, h135, h136, h137, h138, h139, h140, h141, h142, h143, hsh⟩ := hPP
    refine ev_aload_n (i := 0) dX12_advances_68 rfl rfl ?_
    refine ev_aload_n (i := 0) dX12_advances_69 rfl rfl ?_
    refine ev_getf dX12_advances_70 flX12_76 (by assumption) (by rfl) ?_
    refine ev_c2 kX12_advances_73 (c13_byteAt (i := q + j) h129 h130 hn (by omega)) (ev_rv_of (by assumption) rfl rfl) (by decide) (by decide) (Nat.le_of_ble_eq_true rfl) ?_
    refine ev_bipush (v := 97) dX12_advances_76 cnb_97 ?_
    refine ev_bipush (v := 122) dX12_advances_78 cnb_122 ?_
    refine ev_c3 kX12_advances_80 (c13_in) trivial (by decide) (by decide) (Nat.le_of_ble_eq_true rfl) ?_
    refine ev_if_eqb (tgt := 130) dX12_advances_83 (by decide) (fun h83 => ?_) (fun h83 => ?_)
    · skip
      exact K j M1 ⟨hqj, hlt, h83⟩ (Nat.le_refl _) hP1 hf1
    · skip
      have hjt : q + j < tn := by
        rcases Nat.lt_or_ge (q + j) tn with h | h
        · exact h
        · rw [rd_at_out h] at h83; exact absurd h83 (by decide)
      refine ev_aload_n (i := 0) dX12_advances_86 rfl rfl ?_
      refine ev_getf dX12_advances_87 flX12_76 (by assumption) (by rfl) ?_
      refine ev_aload_n (i := 0) dX12_advances_90 rfl rfl ?_
      refine ev_getf dX12_advances_91 flX12_83 (by assumption) (by rfl) ?_
      refine ev_isub dX12_advances_94 ?_
      refine ev_topi (x2 := nI j) (by rw [rd_sub (by omega), Nat.add_sub_cancel_left]) ?_
      refine ev_bipush (v := 7) dX12_advances_95 cnb_7 ?_
      refine ev_icmp_ge (tgt := 115) dX12_advances_97 (by decide) (fun h97 => ?_) (fun h97 => ?_)
      · skip
        refine ev_lload_n (i := 2) dX12_advances_115 rfl rfl ?_
        refine ev_topl (wd_stay ((nI_leI (a := 7) (b := j) (by omega) (by omega)).mp h97)) ?_
        refine ev_lstore_n (i := 2) dX12_advances_116 rfl (Nat.le_of_ble_eq_true rfl) rfl ?_
        refine ev_aload_n (i := 0) dX12_advances_117 rfl rfl ?_
        refine ev_dup dX12_advances_118 rfl ?_
        refine ev_getf dX12_advances_119 flX12_76 (by assumption) (by rfl) ?_
        refine ev_iconst (v := 1) dX12_advances_122 cni_1 ?_
        refine ev_iadd dX12_advances_123 ?_
        refine ev_topi (nI_1 (q + j)) ?_
        refine md_pf_nx hP1 dX12_advances_124 rfl (fun M2 hPP hf2 => ?_)
        have hP2 := hPP
        obtain ⟨th, sp, of', ba, go, dr, ki, up, dn, one, gof, dof, act, ik, h129, h130, h131, h132, h133, hk0, hk1, h134, h135, h136, h137, h138, h139, h140, h141, h142, h143, hsh⟩ := hPP
        refine ev_goto (tgt := 68) dX12_advances_127 (by decide) ?_
        exact ih (j + 1) M2 (by omega) (by omega) (fun k hk => by
          by_cases e : k = j
          · subst e; rw [rd_at_in hjt] at h83; exact h83
          · exact hlt k (by omega)) hP2 (fun k hk => (hf2 k hk).trans (hf1 k hk)) (fun L M2 h1 h2 => K L M2 h1 (by omega))
      · skip
        refine ev_lload_n (i := 2) dX12_advances_100 rfl rfl ?_
        refine ev_aload_n (i := 0) dX12_advances_101 rfl rfl ?_
        refine ev_aload_n (i := 0) dX12_advances_102 rfl rfl ?_
        refine ev_getf dX12_advances_103 flX12_76 (by assumption) (by rfl) ?_
        refine ev_c2 kX12_advances_106 (c13_byteAt (i := q + j) h129 h130 hn (by omega)) (ev_rv_of (by assumption) rfl rfl) (by decide) (by decide) (Nat.le_of_ble_eq_true rfl) ?_
        refine ev_c2 kX12_advances_109 (c13_add) trivial (by decide) (by decide) (Nat.le_of_ble_eq_true rfl) ?_
        refine ev_topl (wd_step hjt h83 ((nI_ltI (a := j) (b := 7) (by omega) (by omega)).mp h97)) ?_
        refine ev_goto (tgt := 116) dX12_advances_112 (by decide) ?_
        refine ev_lstore_n (i := 2) dX12_advances_116 rfl (Nat.le_of_ble_eq_true rfl) rfl ?_
        refine ev_aload_n (i := 0) dX12_advances_117 rfl rfl ?_
        refine ev_dup dX12_advances_118 rfl ?_
        refine ev_getf dX12_advances_119 flX12_76 (by assumption) (by rfl) ?_
        refine ev_iconst (v := 1) dX12_advances_122 cni_1 ?_
        refine ev_iadd dX12_advances_123 ?_
        refine ev_topi (nI_1 (q + j)) ?_
        refine md_pf_nx hP1 dX12_advances_124 rfl (fun M2 hPP hf2 => ?_)
        have hP2 := hPP
        obtain ⟨th, sp, of', ba, go, dr, ki, up, dn, one, gof, dof, act, ik, h129, h130, h131, h132, h133, hk0, hk1, h134, h135, h136, h137, h138, h139, h140, h141, h142, h143, hsh⟩ := hPP
        refine ev_goto (tgt := 68) dX12_advances_127 (by decide) ?_
        exact ih (j + 1) M2 (by omega) (by omega) (fun k hk => by
          by_cases e : k = j
          · subst e; rw [rd_at_in hjt] at h83; exact h83
          · exact hlt k (by omega)) hP2 (fun k hk => (hf2 k hk).trans (hf1 k hk)) (fun L M2 h1 h2 => K L M2 h1 (by omega))
theorem l_adv_d {G : ev_G} {n : Nat} {M : ev_M} {tn c0 c1 c2 sh : Nat} {tx s kp bw ar tu : Nat → Int32} {k0 k1 : Bool} {tr : Int64} {tk fa d0 d1 d2 : Int32} {dS dB dA : Nat → Int32} (hn : tn ≤ 400) {q : Nat} {c : Int32} {z2 z3 : Option Value} {Post : Option Value → ev_M → Prop} : ∀ (m j : Nat) (M1 : ev_M), tn - (q + j) ≤ m → q + j ≤ tn → (∀ k, k < j → sp_in (tx (q + k)) 48 57 = true) → md_P M1 tn c0 c1 c2 sh tx s kp bw ar tu k0 k1 tr (nI (q + j)) tk (nI q) (dm_v tx q j) fa d0 d1 d2 dS dB dA → (∀ k, k < 129 → M1 k = M k) → (∀ (L : Nat) (M2 : ev_M), dg_run tn tx q L → j ≤ L → md_P M2 tn c0 c1 c2 sh tx s kp bw ar tu k0 k1 tr (nI (q + L)) tk (nI q) (dm_v tx q L) fa d0 d1 d2 dS dB dA → (∀ k, k < 129 → M2 k = M k) → ev_E G mX12_advances 4 0 0 n M2 246 [some (.ref 129), some (.int c), z2, z3] [] Post) → ev_E G mX12_advances 4 0 0 n M1 175 [some (.ref 129), some (.int c), z2, z3] [] Post := by
  intro m
  induction m with
  | zero =>
    intro j M1 hm hqj hlt hP1 hf1 K
    have hPP := hP1
    obtain ⟨th, sp, of', ba, go, dr, ki, up, dn, one, gof, dof, act, ik, h129, h130, h131, h132, h133, hk0, hk1, h134, h135, h136, h137, h138, h139, h140, h141, h142, h143, hsh⟩ := hPP
    refine ev_aload_n (i := 0) dX12_advances_175 rfl rfl ?_
    refine ev_aload_n (i := 0) dX12_advances_176 rfl rfl ?_
    refine ev_getf dX12_advances_177 flX12_76 (by assumption) (by rfl) ?_
    refine ev_c2 kX12_advances_180 (c13_byteAt (i := q + j) h129 h130 hn (by omega)) (ev_rv_of (by assumption) rfl rfl) (by decide) (by decide) (Nat.le_of_ble_eq_true rfl) ?_
    refine ev_bipush (v := 48) dX12_advances_183 cnb_48 ?_
    refine ev_bipush (v := 57) dX12_advances_185 cnb_57 ?_
    refine ev_c3 kX12_advances_187 (c13_in) trivial (by decide) (by decide) (Nat.le_of_ble_eq_true rfl) ?_
    refine ev_if_eqb (tgt := 246) dX12_advances_190 (by decide) (fun h190 => ?_) (fun h190 => False.elim (by rw [rd_at_out (by omega)] at h190; exact absurd h190 (by decide)))
    exact K j M1 ⟨hqj, hlt, h190⟩ (Nat.le_refl _) hP1 hf1
  | succ m ih =>
    intro j M1 hm hqj hlt hP1 hf1 K
    have hPP := hP1
    obtain ⟨th, sp, of', ba, go, dr, ki, up, dn, one, gof, dof, act, ik, h129, h130, h131, h132, h133, hk0, hk1, h134, h135, h136, h137, h138, h139, h140, h141, h142, h143, hsh⟩ := hPP
    refine ev_aload_n (i := 0) dX12_advances_175 rfl rfl ?_
    refine ev_aload_n (i := 0) dX12_advances_176 rfl rfl ?_
    refine ev_getf dX12_advances_177 flX12_76 (by assumption) (by rfl) ?_
    refine ev_c2 kX12_advances_180 (c13_byteAt (i := q + j) h129 h130 hn (by omega)) (ev_rv_of (by assumption) rfl rfl) (by decide) (by decide) (Nat.le_of_ble_eq_true rfl) ?_
    refine ev_bipush (v := 48) dX12_advances_183 cnb_48 ?_
    refine ev_bipush (v := 57) dX12_advances_185 cnb_57 ?_
    refine ev_c3 kX12_advances_187 (c13_in) trivial (by decide) (by decide) (Nat.le_of_ble_eq_true rfl) ?_
    refine ev_if_eqb (tgt := 246) dX12_advances_190 (by decide) (fun h190 => ?_) (fun h190 => ?_)
    · skip
      exact K j M1 ⟨hqj, hlt, h190⟩ (Nat.le_refl _) hP1 hf1
    · skip
      have hjt : q + j < tn := by
        rcases Nat.lt_or_ge (q + j) tn with h | h
        · exact h
        · rw [rd_at_out h] at h190; exact absurd h190 (by decide)
      refine ev_aload_n (i := 0) dX12_advances_193 rfl rfl ?_
      refine ev_aload_n (i := 0) dX12_advances_194 rfl rfl ?_
      refine ev_getf dX12_advances_195 flX12_93 (by assumption) (by rfl) ?_
      refine ev_sipush (v := 999) dX12_advances_198 cns_999 ?_
      refine ev_icmp_le (tgt := 211) dX12_advances_201 (by decide) (fun h201 => ?_) (fun h201 => ?_)
      · skip
        refine ev_bipush (v := 10) dX12_advances_211 cnb_10 ?_
        refine ev_aload_n (i := 0) dX12_advances_213 rfl rfl ?_
        refine ev_getf dX12_advances_214 flX12_93 (by assumption) (by rfl) ?_
        refine ev_imul dX12_advances_217 ?_
        refine ev_aload_n (i := 0) dX12_advances_218 rfl rfl ?_
        refine ev_aload_n (i := 0) dX12_advances_219 rfl rfl ?_
        refine ev_getf dX12_advances_220 flX12_76 (by assumption) (by rfl) ?_
        refine ev_c2 kX12_advances_223 (c13_byteAt (i := q + j) h129 h130 hn (by omega)) (ev_rv_of (by assumption) rfl rfl) (by decide) (by decide) (Nat.le_of_ble_eq_true rfl) ?_
        refine ev_iadd dX12_advances_226 ?_
        refine ev_bipush (v := 48) dX12_advances_227 cnb_48 ?_
        refine ev_isub dX12_advances_229 ?_
        refine ev_topi (x2 := dm_v tx q (j + 1)) (by rw [dm_v, if_neg (Int32.not_lt.mpr h201), rd_at_in hjt]) ?_
        refine md_pf_va hP1 dX12_advances_230 rfl (fun M2 hPP hf2 => ?_)
        have hP2 := hPP
        obtain ⟨th, sp, of', ba, go, dr, ki, up, dn, one, gof, dof, act, ik, h129, h130, h131, h132, h133, hk0, hk1, h134, h135, h136, h137, h138, h139, h140, h141, h142, h143, hsh⟩ := hPP
        refine ev_aload_n (i := 0) dX12_advances_233 rfl rfl ?_
        refine ev_dup dX12_advances_234 rfl ?_
        refine ev_getf dX12_advances_235 flX12_76 (by assumption) (by rfl) ?_
        refine ev_iconst (v := 1) dX12_advances_238 cni_1 ?_
        refine ev_iadd dX12_advances_239 ?_
        refine ev_topi (nI_1 (q + j)) ?_
        refine md_pf_nx hP2 dX12_advances_240 rfl (fun M3 hPP hf3 => ?_)
        have hP3 := hPP
        obtain ⟨th, sp, of', ba, go, dr, ki, up, dn, one, gof, dof, act, ik, h129, h130, h131, h132, h133, hk0, hk1, h134, h135, h136, h137, h138, h139, h140, h141, h142, h143, hsh⟩ := hPP
        refine ev_goto (tgt := 175) dX12_advances_243 (by decide) ?_
        exact ih (j + 1) M3 (by omega) (by omega) (fun k hk => by
          by_cases e : k = j
          · subst e; rw [rd_at_in hjt] at h190; exact h190
          · exact hlt k (by omega)) hP3 (fun k hk => (hf3 k hk).trans ((hf2 k hk).trans (hf1 k hk))) (fun L M2 h1 h2 => K L M2 h1 (by omega))
      · skip
        refine ev_aload_n (i := 0) dX12_advances_204 rfl rfl ?_
        refine ev_getf dX12_advances_205 flX12_93 (by assumption) (by rfl) ?_
        refine ev_goto (tgt := 230) dX12_advances_208 (by decide) ?_
        refine ev_topi (x2 := dm_v tx q (j + 1)) (by rw [dm_v, if_pos h201]) ?_
        refine md_pf_va hP1 dX12_advances_230 rfl (fun M2 hPP hf2 => ?_)
        have hP2 := hPP
        obtain ⟨th, sp, of', ba, go, dr, ki, up, dn, one, gof, dof, act, ik, h129, h130, h131, h132, h133, hk0, hk1, h134, h135, h136, h137, h138, h139, h140, h141, h142, h143, hsh⟩ := hPP
        refine ev_aload_n (i := 0) dX12_advances_233 rfl rfl ?_
        refine ev_dup dX12_advances_234 rfl ?_
        refine ev_getf dX12_advances_235 flX12_76 (by assumption) (by rfl) ?_
        refine ev_iconst (v := 1) dX12_advances_238 cni_1 ?_
        refine ev_iadd dX12_advances_239 ?_
        refine ev_topi (nI_1 (q + j)) ?_
        refine md_pf_nx hP2 dX12_advances_240 rfl (fun M3 hPP hf3 => ?_)
        have hP3 := hPP
        obtain ⟨th, sp, of', ba, go, dr, ki, up, dn, one, gof, dof, act, ik, h129, h130, h131, h132, h133, hk0, hk1, h134, h135, h136, h137, h138, h139, h140, h141, h142, h143, hsh⟩ := hPP
        refine ev_goto (tgt := 175) dX12_advances_243 (by decide) ?_
        exact ih (j + 1) M3 (by omega) (by omega) (fun k hk => by
          by_cases e : k = j
          · subst e; rw [rd_at_in hjt] at h190; exact h190
          · exact hlt k (by omega)) hP3 (fun k hk => (hf3 k hk).trans ((hf2 k hk).trans (hf1 k hk))) (fun L M2 h1 h2 => K L M2 h1 (by omega))
theorem m_advances {G : ev_G} {n : Nat} {M : ev_M} {tn c0 c1 c2 sh : Nat} {tx s kp bw ar tu : Nat → Int32} {k0 k1 : Bool} {tr : Int64} {tk pl va fa d0 d1 d2 : Int32} {dS dB dA : Nat → Int32} (hn : tn ≤ 400) (htx : ∀ k, k < tn → 0 ≤ tx k) {p : Nat} (hp : p ≤ tn) (hP0 : md_P M tn c0 c1 c2 sh tx s kp bw ar tu k0 k1 tr (nI p) tk pl va fa d0 d1 d2 dS dB dA) : ev_Cal G mX12_advances 4 0 0 [.ref 129] n M (fun r M1 => r = none ∧ (∃ (tk2 va2 : Int32) (nxn : Nat), tok_ok tn tx (rd_skip tn tx p) tk2 va2 nxn ∧ md_P M1 tn c0 c1 c2 sh tx s kp bw ar tu k0 k1 tr (nI nxn) tk2 (nI (rd_skip tn tx p)) va2 fa d0 d1 d2 dS dB dA) ∧ ∀ k, k < 129 → M1 k = M k) := by
  refine ev_Cal_of (L := [some (.ref 129), none, none, none]) (by decide +kernel) (Nat.le_of_ble_eq_true rfl) rfl ?_
  refine l_adv_b hn tn p M (by omega) hp hP0 (fun _ _ => rfl) (fun M1 hPP hf1 => ?_)
  have hq := rd_skip_le (tb := tx) hp
  change md_P M1 tn c0 c1 c2 sh tx s kp bw ar tu k0 k1 tr (nI (rd_skip tn tx p)) tk pl va fa d0 d1 d2 dS dB dA at hPP
  have hP1 := hPP
  generalize hqe : rd_skip tn tx p = q at hPP hP1 hq ⊢
  obtain ⟨th, sp, of', ba, go, dr, ki, up, dn, one, gof, dof, act, ik, h129, h130, h131, h132, h133, hk0, hk1, h134, h135, h136, h137, h138, h139, h140, h141, h142, h143, hsh⟩ := hPP
  refine ev_aload_n (i := 0) dX12_advances_26 rfl rfl ?_
  refine ev_aload_n (i := 0) dX12_advances_27 rfl rfl ?_
  refine ev_getf dX12_advances_28 flX12_76 (by assumption) (by rfl) ?_
  refine md_pf_pl hP1 dX12_advances_31 rfl (fun M2 hPP hf2 => ?_)
  have hP2 := hPP
  obtain ⟨th, sp, of', ba, go, dr, ki, up, dn, one, gof, dof, act, ik, h129, h130, h131, h132, h133, hk0, hk1, h134, h135, h136, h137, h138, h139, h140, h141, h142, h143, hsh⟩ := hPP
  refine ev_aload_n (i := 0) dX12_advances_34 rfl rfl ?_
  refine ev_aload_n (i := 0) dX12_advances_35 rfl rfl ?_
  refine ev_getf dX12_advances_36 flX12_76 (by assumption) (by rfl) ?_
  refine ev_c2 kX12_advances_39 (c13_byteAt (i := q) h129 h130 hn (by omega)) (ev_rv_of (by assumption) rfl rfl) (by decide) (by decide) (Nat.le_of_ble_eq_true rfl) ?_
  refine ev_istore_n (i := 1) dX12_advances_42 rfl (Nat.le_of_ble_eq_true rfl) rfl ?_
  refine ev_iload_n (i := 1) dX12_advances_43 rfl rfl ?_
  refine ev_if_ge (tgt := 55) dX12_advances_44 (by decide) (fun h44 => ?_) (fun h44 => ?_)
  · skip
    have hqt : q < tn := by
      rcases Nat.lt_or_ge q tn with h | h
      · exact h
      · rw [rd_at_out h] at h44; exact absurd h44 (by decide)
    have hat := rd_at_in (tb := tx) hqt
    refine ev_iload_n (i := 1) dX12_advances_55 rfl rfl ?_
    refine ev_bipush (v := 97) dX12_advances_56 cnb_97 ?_
    refine ev_bipush (v := 122) dX12_advances_58 cnb_122 ?_
    refine ev_c3 kX12_advances_60 (c13_in) trivial (by decide) (by decide) (Nat.le_of_ble_eq_true rfl) ?_
    refine ev_if_eqb (tgt := 159) dX12_advances_63 (by decide) (fun h63 => ?_) (fun h63 => ?_)
    · skip
      refine ev_iload_n (i := 1) dX12_advances_159 rfl rfl ?_
      refine ev_bipush (v := 48) dX12_advances_160 cnb_48 ?_
      refine ev_bipush (v := 57) dX12_advances_162 cnb_57 ?_
      refine ev_c3 kX12_advances_164 (c13_in) trivial (by decide) (by decide) (Nat.le_of_ble_eq_true rfl) ?_
      refine ev_if_eqb (tgt := 287) dX12_advances_167 (by decide) (fun h167 => ?_) (fun h167 => ?_)
      · skip
        refine ev_aload_n (i := 0) dX12_advances_287 rfl rfl ?_
        refine ev_dup dX12_advances_288 rfl ?_
        refine ev_getf dX12_advances_289 flX12_76 (by assumption) (by rfl) ?_
        refine ev_iconst (v := 1) dX12_advances_292 cni_1 ?_
        refine ev_iadd dX12_advances_293 ?_
        refine ev_topi (nI_1 q) ?_
        refine md_pf_nx hP2 dX12_advances_294 rfl (fun M3 hPP hf3 => ?_)
        have hP3 := hPP
        obtain ⟨th, sp, of', ba, go, dr, ki, up, dn, one, gof, dof, act, ik, h129, h130, h131, h132, h133, hk0, hk1, h134, h135, h136, h137, h138, h139, h140, h141, h142, h143, hsh⟩ := hPP
        refine ev_aload_n (i := 0) dX12_advances_297 rfl rfl ?_
        refine ev_iload_n (i := 1) dX12_advances_298 rfl rfl ?_
        refine ev_bipush (v := 59) dX12_advances_299 cnb_59 ?_
        rw [hat] at h63 h167
        refine ev_icmp_ne (tgt := 308) dX12_advances_301 (by decide) (fun h301 => ?_) (fun h301 => ?_)
        · skip
          refine ev_iconst (v := 4) dX12_advances_308 cni_4 ?_
          refine md_pf_tk hP3 dX12_advances_309 rfl (fun M4 hPP hf4 => ?_)
          have hP4 := hPP
          obtain ⟨th, sp, of', ba, go, dr, ki, up, dn, one, gof, dof, act, ik, h129, h130, h131, h132, h133, hk0, hk1, h134, h135, h136, h137, h138, h139, h140, h141, h142, h143, hsh⟩ := hPP
          exact ev_retv dX12_advances_312 rfl (⟨rfl, ⟨_, _, q + 1, tok_sign hqt h63 h167 (fun e => absurd (hat.trans e) h301) (fun _ => rfl), hP4⟩, (fun k hk => (hf4 k hk).trans ((hf3 k hk).trans ((hf2 k hk).trans (hf1 k hk))))⟩)
        · skip
          refine ev_iconst (v := 3) dX12_advances_304 cni_3 ?_
          refine ev_goto (tgt := 309) dX12_advances_305 (by decide) ?_
          refine md_pf_tk hP3 dX12_advances_309 rfl (fun M4 hPP hf4 => ?_)
          have hP4 := hPP
          obtain ⟨th, sp, of', ba, go, dr, ki, up, dn, one, gof, dof, act, ik, h129, h130, h131, h132, h133, hk0, hk1, h134, h135, h136, h137, h138, h139, h140, h141, h142, h143, hsh⟩ := hPP
          exact ev_retv dX12_advances_312 rfl (⟨rfl, ⟨_, _, q + 1, tok_sign hqt h63 h167 (fun _ => rfl) (fun e => absurd (hat.symm.trans h301) e), hP4⟩, (fun k hk => (hf4 k hk).trans ((hf3 k hk).trans ((hf2 k hk).trans (hf1 k hk))))⟩)
      · skip
        refine ev_aload_n (i := 0) dX12_advances_170 rfl rfl ?_
        refine ev_iconst (v := 0) dX12_advances_171 cni_0 ?_
        refine md_pf_va hP2 dX12_advances_172 rfl (fun M3 hPP hf3 => ?_)
        have hP3 := hPP
        obtain ⟨th, sp, of', ba, go, dr, ki, up, dn, one, gof, dof, act, ik, h129, h130, h131, h132, h133, hk0, hk1, h134, h135, h136, h137, h138, h139, h140, h141, h142, h143, hsh⟩ := hPP
        refine l_adv_d hn tn 0 M3 (by omega) (by omega) (fun k hk => absurd hk (by omega)) hP3 (fun k hk => (hf3 k hk).trans ((hf2 k hk).trans (hf1 k hk))) (fun L M4 hrun _ hPP hf4 => ?_)
        have hL0 : 0 < L := by
          rcases Nat.eq_zero_or_pos L with h | h
          · have := hrun.2.2; rw [h, Nat.add_zero] at this; exact absurd (this.symm.trans h167) (by decide)
          · exact h
        have hLt := hrun.1
        have hP4 := hPP
        obtain ⟨th, sp, of', ba, go, dr, ki, up, dn, one, gof, dof, act, ik, h129, h130, h131, h132, h133, hk0, hk1, h134, h135, h136, h137, h138, h139, h140, h141, h142, h143, hsh⟩ := hPP
        rw [hat] at h63 h167
        refine ev_aload_n (i := 0) dX12_advances_246 rfl rfl ?_
        refine ev_aload_n (i := 0) dX12_advances_247 rfl rfl ?_
        refine ev_getf dX12_advances_248 flX12_93 (by assumption) (by rfl) ?_
        refine ev_sipush (v := 999) dX12_advances_251 cns_999 ?_
        refine ev_icmp_gt (tgt := 276) dX12_advances_254 (by decide) (fun h254 => ?_) (fun h254 => ?_)
        · skip
          refine ev_iconst (v := 4) dX12_advances_276 cni_4 ?_
          refine ev_goto (tgt := 281) dX12_advances_277 (by decide) ?_
          refine md_pf_tk hP4 dX12_advances_281 rfl (fun M5 hPP hf5 => ?_)
          have hP5 := hPP
          obtain ⟨th, sp, of', ba, go, dr, ki, up, dn, one, gof, dof, act, ik, h129, h130, h131, h132, h133, hk0, hk1, h134, h135, h136, h137, h138, h139, h140, h141, h142, h143, hsh⟩ := hPP
          refine ev_goto (tgt := 312) dX12_advances_284 (by decide) ?_
          exact ev_retv dX12_advances_312 rfl (⟨rfl, ⟨_, _, q + L, tok_num hrun hL0 (fun _ => rfl) (fun z => absurd (Or.inl h254) z), hP5⟩, (fun k hk => (hf5 k hk).trans (hf4 k hk))⟩)
        · skip
          refine ev_iload_n (i := 1) dX12_advances_257 rfl rfl ?_
          refine ev_bipush (v := 48) dX12_advances_258 cnb_48 ?_
          refine ev_icmp_ne (tgt := 280) dX12_advances_260 (by decide) (fun h260 => ?_) (fun h260 => ?_)
          · skip
            refine ev_iconst (v := 2) dX12_advances_280 cni_2 ?_
            refine md_pf_tk hP4 dX12_advances_281 rfl (fun M5 hPP hf5 => ?_)
            have hP5 := hPP
            obtain ⟨th, sp, of', ba, go, dr, ki, up, dn, one, gof, dof, act, ik, h129, h130, h131, h132, h133, hk0, hk1, h134, h135, h136, h137, h138, h139, h140, h141, h142, h143, hsh⟩ := hPP
            refine ev_goto (tgt := 312) dX12_advances_284 (by decide) ?_
            exact ev_retv dX12_advances_312 rfl (⟨rfl, ⟨_, _, q + L, tok_num hrun hL0 (fun z => z.elim (fun a => absurd a (Int32.not_lt.mpr h254)) (fun a => absurd (hat.trans a.1) h260)) (fun _ => rfl), hP5⟩, (fun k hk => (hf5 k hk).trans (hf4 k hk))⟩)
          · skip
            refine ev_aload_n (i := 0) dX12_advances_263 rfl rfl ?_
            refine ev_getf dX12_advances_264 flX12_76 (by assumption) (by rfl) ?_
            refine ev_aload_n (i := 0) dX12_advances_267 rfl rfl ?_
            refine ev_getf dX12_advances_268 flX12_83 (by assumption) (by rfl) ?_
            refine ev_isub dX12_advances_271 ?_
            refine ev_topi (x2 := nI L) (by rw [rd_sub (by omega), Nat.add_sub_cancel_left]) ?_
            refine ev_iconst (v := 1) dX12_advances_272 cni_1 ?_
            refine ev_icmp_le (tgt := 280) dX12_advances_273 (by decide) (fun h273 => ?_) (fun h273 => ?_)
            · skip
              refine ev_iconst (v := 2) dX12_advances_280 cni_2 ?_
              refine md_pf_tk hP4 dX12_advances_281 rfl (fun M5 hPP hf5 => ?_)
              have hP5 := hPP
              obtain ⟨th, sp, of', ba, go, dr, ki, up, dn, one, gof, dof, act, ik, h129, h130, h131, h132, h133, hk0, hk1, h134, h135, h136, h137, h138, h139, h140, h141, h142, h143, hsh⟩ := hPP
              refine ev_goto (tgt := 312) dX12_advances_284 (by decide) ?_
              exact ev_retv dX12_advances_312 rfl (⟨rfl, ⟨_, _, q + L, tok_num hrun hL0 (fun z => z.elim (fun a => absurd a (Int32.not_lt.mpr h254)) (fun a => absurd a.2 (Nat.not_lt.mpr ((nI_leI (a := L) (b := 1) (by omega) (by omega)).mp h273)))) (fun _ => rfl), hP5⟩, (fun k hk => (hf5 k hk).trans (hf4 k hk))⟩)
            · skip
              refine ev_iconst (v := 4) dX12_advances_276 cni_4 ?_
              refine ev_goto (tgt := 281) dX12_advances_277 (by decide) ?_
              refine md_pf_tk hP4 dX12_advances_281 rfl (fun M5 hPP hf5 => ?_)
              have hP5 := hPP
              obtain ⟨th, sp, of', ba, go, dr, ki, up, dn, one, gof, dof, act, ik, h129, h130, h131, h132, h133, hk0, hk1, h134, h135, h136, h137, h138, h139, h140, h141, h142, h143, hsh⟩ := hPP
              refine ev_goto (tgt := 312) dX12_advances_284 (by decide) ?_
              exact ev_retv dX12_advances_312 rfl (⟨rfl, ⟨_, _, q + L, tok_num hrun hL0 (fun _ => rfl) (fun z => absurd (Or.inr ⟨hat.symm.trans h260, (nI_ltI (a := 1) (b := L) (by omega) (by omega)).mp h273⟩) z), hP5⟩, (fun k hk => (hf5 k hk).trans (hf4 k hk))⟩)
    · skip
      refine ev_lconst (v := 0) dX12_advances_66 rfl ?_
      refine ev_lstore_n (i := 2) dX12_advances_67 rfl (Nat.le_of_ble_eq_true rfl) rfl ?_
      refine l_adv_l hn tn 0 M2 (by omega) (by omega) (fun k hk => absurd hk (by omega)) hP2 (fun k hk => (hf2 k hk).trans (hf1 k hk)) (fun L M4 hrun _ hPP hf4 => ?_)
      have hL0 : 0 < L := by
        rcases Nat.eq_zero_or_pos L with h | h
        · have := hrun.2.2; rw [h, Nat.add_zero] at this; exact absurd (this.symm.trans h63) (by decide)
        · exact h
      have hLt := hrun.1
      have hP4 := hPP
      obtain ⟨th, sp, of', ba, go, dr, ki, up, dn, one, gof, dof, act, ik, h129, h130, h131, h132, h133, hk0, hk1, h134, h135, h136, h137, h138, h139, h140, h141, h142, h143, hsh⟩ := hPP
      refine ev_aload_n (i := 0) dX12_advances_130 rfl rfl ?_
      refine ev_lload_n (i := 2) dX12_advances_131 rfl rfl ?_
      refine ev_c1 kX12_advances_132 (c13_wordOf) trivial (by decide) (by decide) (Nat.le_of_ble_eq_true rfl) ?_
      refine md_pf_va hP4 dX12_advances_135 rfl (fun M5 hPP hf5 => ?_)
      have hP5 := hPP
      obtain ⟨th, sp, of', ba, go, dr, ki, up, dn, one, gof, dof, act, ik, h129, h130, h131, h132, h133, hk0, hk1, h134, h135, h136, h137, h138, h139, h140, h141, h142, h143, hsh⟩ := hPP
      refine ev_aload_n (i := 0) dX12_advances_138 rfl rfl ?_
      refine ev_aload_n (i := 0) dX12_advances_139 rfl rfl ?_
      refine ev_getf dX12_advances_140 flX12_93 (by assumption) (by rfl) ?_
      refine ev_bipush (v := (-9)) dX12_advances_143 cnb_m9 ?_
      refine ev_icmp_ne (tgt := 152) dX12_advances_145 (by decide) (fun h145 => ?_) (fun h145 => ?_)
      · skip
        refine ev_iconst (v := 1) dX12_advances_152 cni_1 ?_
        refine md_pf_tk hP5 dX12_advances_153 rfl (fun M6 hPP hf6 => ?_)
        have hP6 := hPP
        obtain ⟨th, sp, of', ba, go, dr, ki, up, dn, one, gof, dof, act, ik, h129, h130, h131, h132, h133, hk0, hk1, h134, h135, h136, h137, h138, h139, h140, h141, h142, h143, hsh⟩ := hPP
        refine ev_goto (tgt := 312) dX12_advances_156 (by decide) ?_
        exact ev_retv dX12_advances_312 rfl (⟨rfl, ⟨_, _, q + L, tok_word hrun hL0 (fun e => absurd e h145) (fun _ => rfl), hP6⟩, (fun k hk => (hf6 k hk).trans ((hf5 k hk).trans (hf4 k hk)))⟩)
      · skip
        refine ev_iconst (v := 4) dX12_advances_148 cni_4 ?_
        refine ev_goto (tgt := 153) dX12_advances_149 (by decide) ?_
        refine md_pf_tk hP5 dX12_advances_153 rfl (fun M6 hPP hf6 => ?_)
        have hP6 := hPP
        obtain ⟨th, sp, of', ba, go, dr, ki, up, dn, one, gof, dof, act, ik, h129, h130, h131, h132, h133, hk0, hk1, h134, h135, h136, h137, h138, h139, h140, h141, h142, h143, hsh⟩ := hPP
        refine ev_goto (tgt := 312) dX12_advances_156 (by decide) ?_
        exact ev_retv dX12_advances_312 rfl (⟨rfl, ⟨_, _, q + L, tok_word hrun hL0 (fun _ => rfl) (fun e => absurd h145 e), hP6⟩, (fun k hk => (hf6 k hk).trans ((hf5 k hk).trans (hf4 k hk)))⟩)
  · skip
    have hqt : q = tn := by
      rcases Nat.lt_or_ge q tn with h | h
      · rw [rd_at_in h] at h44; exact absurd (htx q h) (Int32.not_le.mpr h44)
      · omega
    refine ev_aload_n (i := 0) dX12_advances_47 rfl rfl ?_
    refine ev_iconst (v := 0) dX12_advances_48 cni_0 ?_
    refine md_pf_tk hP2 dX12_advances_49 rfl (fun M3 hPP hf3 => ?_)
    have hP3 := hPP
    obtain ⟨th, sp, of', ba, go, dr, ki, up, dn, one, gof, dof, act, ik, h129, h130, h131, h132, h133, hk0, hk1, h134, h135, h136, h137, h138, h139, h140, h141, h142, h143, hsh⟩ := hPP
    refine ev_goto (tgt := 312) dX12_advances_52 (by decide) ?_
    exact ev_retv dX12_advances_312 rfl (⟨rfl, ⟨0, va, q, by rw [hqt]; exact tok_end, hP3⟩, (fun k hk => (hf3 k hk).trans ((hf2 k hk).trans (hf1 k hk)))⟩)
