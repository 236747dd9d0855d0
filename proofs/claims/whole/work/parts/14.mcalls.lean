/-! ===== contracts: the model's simple calls ===== -/
def md_is (M : ev_M) (v : Value) (tn c0 c1 c2 sh : Nat) (tx s kp bw ar tu : Nat → Int32) (k0 k1 : Bool) (tr : Int64) : Option Value → ev_M → Prop := fun r M1 => r = some v ∧ md_S M1 tn c0 c1 c2 sh tx s kp bw ar tu k0 k1 tr ∧ ∀ k, k < 129 → M1 k = M k
theorem md_fin {M : ev_M} {tn c0 c1 c2 sh : Nat} {tx s kp bw ar tu : Nat → Int32} {k0 k1 : Bool} {tr : Int64} {th nx tk pl va fa d0 d1 d2 sp of' ba go dr ki : Int32} {up dn : Int64} {dS dB dA one gof dof act ik : Nat → Int32} (hk0 : ik 0 = ev_b k0) (hk1 : ik 1 = ev_b k1) (hsh : s 85 = nI sh) : md_S (ev_ml M [(129, md_o th tr (nI tn) nx tk pl va fa (nI c0) (nI c1) (nI c2) d0 d1 d2 sp of' ba go dr ki up dn), (130, .inl (0, 400, .inl tx)), (131, .inl (0, 386, .inl s)), (132, .inl (0, 772, .inl kp)), (133, .inl (1, 2, .inl ik)), (134, .inl (0, 6, .inl bw)), (135, .inl (0, 6, .inl ar)), (136, .inl (0, 84, .inl dS)), (137, .inl (0, 6, .inl dB)), (138, .inl (0, 6, .inl dA)), (139, .inl (0, 4, .inl tu)), (140, .inl (0, 7, .inl one)), (141, .inl (0, 24, .inl gof)), (142, .inl (0, 12, .inl dof)), (143, .inl (0, 5, .inl act))]) tn c0 c1 c2 sh tx s kp bw ar tu k0 k1 tr ∧ ∀ k, k < 129 → ev_ml M [(129, md_o th tr (nI tn) nx tk pl va fa (nI c0) (nI c1) (nI c2) d0 d1 d2 sp of' ba go dr ki up dn), (130, .inl (0, 400, .inl tx)), (131, .inl (0, 386, .inl s)), (132, .inl (0, 772, .inl kp)), (133, .inl (1, 2, .inl ik)), (134, .inl (0, 6, .inl bw)), (135, .inl (0, 6, .inl ar)), (136, .inl (0, 84, .inl dS)), (137, .inl (0, 6, .inl dB)), (138, .inl (0, 6, .inl dA)), (139, .inl (0, 4, .inl tu)), (140, .inl (0, 7, .inl one)), (141, .inl (0, 24, .inl gof)), (142, .inl (0, 12, .inl dof)), (143, .inl (0, 5, .inl act))] k = M k :=
  ⟨⟨th, nx, tk, pl, va, fa, d0, d1, d2, sp, of', ba, go, dr, ki, up, dn, dS, dB, dA, one, gof, dof, act, ik, rfl, rfl, rfl, rfl, rfl, hk0, hk1, rfl, rfl, rfl, rfl, rfl, rfl, rfl, rfl, rfl, rfl, hsh⟩, fun k hk => ev_ml_out _ (by simp only [List.map_cons, List.map_nil, List.mem_cons, List.not_mem_nil, or_false]; omega)⟩
theorem m_clear {G : ev_G} {n : Nat} {M : ev_M} {tn c0 c1 c2 sh : Nat} {tx s kp bw ar tu : Nat → Int32} {k0 k1 : Bool} {tr : Int64} (hM : md_S M tn c0 c1 c2 sh tx s kp bw ar tu k0 k1 tr)  : ev_Cal G mX12_clear 1 0 0 [.ref 129] n M (md_is M (.int (nI tn)) 0 c0 c1 c2 sh tx s kp bw ar tu k0 k1 tr) := by
  refine ev_Cal_of (L := [some (.ref 129), none]) (by decide +kernel) (Nat.le_of_ble_eq_true rfl) rfl ?_
  obtain ⟨th, nx, tk, pl, va, fa, d0, d1, d2, sp, of', ba, go, dr, ki, up, dn, dS, dB, dA, one, gof, dof, act, ik, h129, h130, h131, h132, h133, hk0, hk1, h134, h135, h136, h137, h138, h139, h140, h141, h142, h143, hsh⟩ := hM
  refine ev_track (l := [(129, md_o th tr (nI tn) nx tk pl va fa (nI c0) (nI c1) (nI c2) d0 d1 d2 sp of' ba go dr ki up dn), (130, .inl (0, 400, .inl tx)), (131, .inl (0, 386, .inl s)), (132, .inl (0, 772, .inl kp)), (133, .inl (1, 2, .inl ik)), (134, .inl (0, 6, .inl bw)), (135, .inl (0, 6, .inl ar)), (136, .inl (0, 84, .inl dS)), (137, .inl (0, 6, .inl dB)), (138, .inl (0, 6, .inl dA)), (139, .inl (0, 4, .inl tu)), (140, .inl (0, 7, .inl one)), (141, .inl (0, 24, .inl gof)), (142, .inl (0, 12, .inl dof)), (143, .inl (0, 5, .inl act))]) (ev_fa1 h129 (ev_fa1 h130 (ev_fa1 h131 (ev_fa1 h132 (ev_fa1 h133 (ev_fa1 h134 (ev_fa1 h135 (ev_fa1 h136 (ev_fa1 h137 (ev_fa1 h138 (ev_fa1 h139 (ev_fa1 h140 (ev_fa1 h141 (ev_fa1 h142 (ev_fa1 h143 (ev_fa0)))))))))))))))) ?_
  refine ev_aload_n (i := 0) dX12_clear_0 rfl rfl ?_
  refine ev_iconst (v := 0) dX12_clear_1 cni_0 ?_
  refine ev_putiP 0 dX12_clear_2 fpX12_53 (by rfl) (by rfl) (Nat.le_of_ble_eq_true rfl) (by rfl) (by rfl) ?_
  refine ev_aload_n (i := 0) dX12_clear_5 rfl rfl ?_
  refine ev_getf dX12_clear_6 flX12_61 (by rfl) (by rfl) ?_
  refine ev_istore_n (i := 1) dX12_clear_9 rfl (Nat.le_of_ble_eq_true rfl) rfl ?_
  refine ev_aload_n (i := 0) dX12_clear_10 rfl rfl ?_
  refine ev_iconst (v := 0) dX12_clear_11 cni_0 ?_
  refine ev_putiP 0 dX12_clear_12 fpX12_61 (by rfl) (by rfl) (Nat.le_of_ble_eq_true rfl) (by rfl) (by rfl) ?_
  refine ev_iload_n (i := 1) dX12_clear_15 rfl rfl ?_
  exact ev_reti dX12_clear_16 rfl rfl (⟨rfl, (md_fin hk0 hk1 hsh)⟩)
theorem m_lot {G : ev_G} {n : Nat} {M : ev_M} {tn c0 c1 c2 sh : Nat} {tx s kp bw ar tu : Nat → Int32} {k0 k1 : Bool} {tr : Int64} (hM : md_S M tn c0 c1 c2 sh tx s kp bw ar tu k0 k1 tr) {v : Int32}  : ev_Cal G mX12_lot 1 0 0 [.ref 129, .int v] n M (md_is M (.int (s 84)) tn c0 c1 c2 sh tx (upd s 84 v) kp bw ar tu k0 k1 tr) := by
  refine ev_Cal_of (L := [some (.ref 129), some (.int v), none]) (by decide +kernel) (Nat.le_of_ble_eq_true rfl) rfl ?_
  obtain ⟨th, nx, tk, pl, va, fa, d0, d1, d2, sp, of', ba, go, dr, ki, up, dn, dS, dB, dA, one, gof, dof, act, ik, h129, h130, h131, h132, h133, hk0, hk1, h134, h135, h136, h137, h138, h139, h140, h141, h142, h143, hsh⟩ := hM
  refine ev_track (l := [(129, md_o th tr (nI tn) nx tk pl va fa (nI c0) (nI c1) (nI c2) d0 d1 d2 sp of' ba go dr ki up dn), (130, .inl (0, 400, .inl tx)), (131, .inl (0, 386, .inl s)), (132, .inl (0, 772, .inl kp)), (133, .inl (1, 2, .inl ik)), (134, .inl (0, 6, .inl bw)), (135, .inl (0, 6, .inl ar)), (136, .inl (0, 84, .inl dS)), (137, .inl (0, 6, .inl dB)), (138, .inl (0, 6, .inl dA)), (139, .inl (0, 4, .inl tu)), (140, .inl (0, 7, .inl one)), (141, .inl (0, 24, .inl gof)), (142, .inl (0, 12, .inl dof)), (143, .inl (0, 5, .inl act))]) (ev_fa1 h129 (ev_fa1 h130 (ev_fa1 h131 (ev_fa1 h132 (ev_fa1 h133 (ev_fa1 h134 (ev_fa1 h135 (ev_fa1 h136 (ev_fa1 h137 (ev_fa1 h138 (ev_fa1 h139 (ev_fa1 h140 (ev_fa1 h141 (ev_fa1 h142 (ev_fa1 h143 (ev_fa0)))))))))))))))) ?_
  refine ev_aload_n (i := 0) dX12_lot_0 rfl rfl ?_
  refine ev_iconst (v := 0) dX12_lot_1 cni_0 ?_
  refine ev_putiP 0 dX12_lot_2 fpX12_53 (by rfl) (by rfl) (Nat.le_of_ble_eq_true rfl) (by rfl) (by rfl) ?_
  refine ev_aload_n (i := 0) dX12_lot_5 rfl rfl ?_
  refine ev_getf dX12_lot_6 flX12_13 (by rfl) (by rfl) ?_
  refine ev_bipush (v := 84) dX12_lot_9 cnb_84 ?_
  refine ev_iald (j := 84) dX12_lot_11 (by rfl) (by decide) (by decide) ?_
  refine ev_istore_n (i := 2) dX12_lot_12 rfl (Nat.le_of_ble_eq_true rfl) rfl ?_
  refine ev_aload_n (i := 0) dX12_lot_13 rfl rfl ?_
  refine ev_getf dX12_lot_14 flX12_13 (by rfl) (by rfl) ?_
  refine ev_bipush (v := 84) dX12_lot_17 cnb_84 ?_
  refine ev_iload_n (i := 1) dX12_lot_19 rfl rfl ?_
  refine ev_iastP 2 (j := 84) dX12_lot_20 (by rfl) (by rfl) (by decide) (by decide) (by rfl) (by rfl) ?_
  refine ev_iload_n (i := 2) dX12_lot_21 rfl rfl ?_
  exact ev_reti dX12_lot_22 rfl rfl (⟨rfl, md_fin hk0 hk1 ((show upd s 84 v 85 = s 85 from if_neg (by decide)).trans hsh)⟩)
theorem m_wipe {G : ev_G} {n : Nat} {M : ev_M} {tn c0 c1 c2 sh : Nat} {tx s kp bw ar tu : Nat → Int32} {k0 k1 : Bool} {tr : Int64} (hM : md_S M tn c0 c1 c2 sh tx s kp bw ar tu k0 k1 tr)  : ev_Cal G mX12_wipe 1 0 0 [.ref 129] n M (md_is M (.int (nI sh)) tn c0 c1 c2 0 tx (upd s 85 0) kp bw ar tu k0 k1 tr) := by
  refine ev_Cal_of (L := [some (.ref 129), none]) (by decide +kernel) (Nat.le_of_ble_eq_true rfl) rfl ?_
  obtain ⟨th, nx, tk, pl, va, fa, d0, d1, d2, sp, of', ba, go, dr, ki, up, dn, dS, dB, dA, one, gof, dof, act, ik, h129, h130, h131, h132, h133, hk0, hk1, h134, h135, h136, h137, h138, h139, h140, h141, h142, h143, hsh⟩ := hM
  refine ev_track (l := [(129, md_o th tr (nI tn) nx tk pl va fa (nI c0) (nI c1) (nI c2) d0 d1 d2 sp of' ba go dr ki up dn), (130, .inl (0, 400, .inl tx)), (131, .inl (0, 386, .inl s)), (132, .inl (0, 772, .inl kp)), (133, .inl (1, 2, .inl ik)), (134, .inl (0, 6, .inl bw)), (135, .inl (0, 6, .inl ar)), (136, .inl (0, 84, .inl dS)), (137, .inl (0, 6, .inl dB)), (138, .inl (0, 6, .inl dA)), (139, .inl (0, 4, .inl tu)), (140, .inl (0, 7, .inl one)), (141, .inl (0, 24, .inl gof)), (142, .inl (0, 12, .inl dof)), (143, .inl (0, 5, .inl act))]) (ev_fa1 h129 (ev_fa1 h130 (ev_fa1 h131 (ev_fa1 h132 (ev_fa1 h133 (ev_fa1 h134 (ev_fa1 h135 (ev_fa1 h136 (ev_fa1 h137 (ev_fa1 h138 (ev_fa1 h139 (ev_fa1 h140 (ev_fa1 h141 (ev_fa1 h142 (ev_fa1 h143 (ev_fa0)))))))))))))))) ?_
  refine ev_aload_n (i := 0) dX12_wipe_0 rfl rfl ?_
  refine ev_iconst (v := 0) dX12_wipe_1 cni_0 ?_
  refine ev_putiP 0 dX12_wipe_2 fpX12_53 (by rfl) (by rfl) (Nat.le_of_ble_eq_true rfl) (by rfl) (by rfl) ?_
  refine ev_aload_n (i := 0) dX12_wipe_5 rfl rfl ?_
  refine ev_getf dX12_wipe_6 flX12_13 (by rfl) (by rfl) ?_
  refine ev_bipush (v := 85) dX12_wipe_9 cnb_85 ?_
  refine ev_iald (j := 85) dX12_wipe_11 (by rfl) (by decide) (by decide) ?_
  refine ev_istore_n (i := 1) dX12_wipe_12 rfl (Nat.le_of_ble_eq_true rfl) rfl ?_
  refine ev_aload_n (i := 0) dX12_wipe_13 rfl rfl ?_
  refine ev_getf dX12_wipe_14 flX12_13 (by rfl) (by rfl) ?_
  refine ev_bipush (v := 85) dX12_wipe_17 cnb_85 ?_
  refine ev_iconst (v := 0) dX12_wipe_19 cni_0 ?_
  refine ev_iastP 2 (j := 85) dX12_wipe_20 (by rfl) (by rfl) (by decide) (by decide) (by rfl) (by rfl) ?_
  refine ev_iload_n (i := 1) dX12_wipe_21 rfl rfl ?_
  exact ev_reti dX12_wipe_22 rfl rfl (⟨congrArg (fun z => some (Value.int z)) hsh, md_fin hk0 hk1 (show upd s 85 0 85 = nI 0 from if_pos rfl)⟩)
theorem m_trace {G : ev_G} {n : Nat} {M : ev_M} {tn c0 c1 c2 sh : Nat} {tx s kp bw ar tu : Nat → Int32} {k0 k1 : Bool} {tr : Int64} (hM : md_S M tn c0 c1 c2 sh tx s kp bw ar tu k0 k1 tr)  : ev_Cal G mX12_trace 1 0 0 [.ref 129] n M (md_is M (.long tr) tn c0 c1 c2 sh tx s kp bw ar tu k0 k1 tr) := by
  refine ev_Cal_of (L := [some (.ref 129)]) (by decide +kernel) (Nat.le_of_ble_eq_true rfl) rfl ?_
  obtain ⟨th, nx, tk, pl, va, fa, d0, d1, d2, sp, of', ba, go, dr, ki, up, dn, dS, dB, dA, one, gof, dof, act, ik, h129, h130, h131, h132, h133, hk0, hk1, h134, h135, h136, h137, h138, h139, h140, h141, h142, h143, hsh⟩ := hM
  refine ev_track (l := [(129, md_o th tr (nI tn) nx tk pl va fa (nI c0) (nI c1) (nI c2) d0 d1 d2 sp of' ba go dr ki up dn), (130, .inl (0, 400, .inl tx)), (131, .inl (0, 386, .inl s)), (132, .inl (0, 772, .inl kp)), (133, .inl (1, 2, .inl ik)), (134, .inl (0, 6, .inl bw)), (135, .inl (0, 6, .inl ar)), (136, .inl (0, 84, .inl dS)), (137, .inl (0, 6, .inl dB)), (138, .inl (0, 6, .inl dA)), (139, .inl (0, 4, .inl tu)), (140, .inl (0, 7, .inl one)), (141, .inl (0, 24, .inl gof)), (142, .inl (0, 12, .inl dof)), (143, .inl (0, 5, .inl act))]) (ev_fa1 h129 (ev_fa1 h130 (ev_fa1 h131 (ev_fa1 h132 (ev_fa1 h133 (ev_fa1 h134 (ev_fa1 h135 (ev_fa1 h136 (ev_fa1 h137 (ev_fa1 h138 (ev_fa1 h139 (ev_fa1 h140 (ev_fa1 h141 (ev_fa1 h142 (ev_fa1 h143 (ev_fa0)))))))))))))))) ?_
  refine ev_aload_n (i := 0) dX12_trace_0 rfl rfl ?_
  refine ev_iconst (v := 0) dX12_trace_1 cni_0 ?_
  refine ev_putiP 0 dX12_trace_2 fpX12_53 (by rfl) (by rfl) (Nat.le_of_ble_eq_true rfl) (by rfl) (by rfl) ?_
  refine ev_aload_n (i := 0) dX12_trace_5 rfl rfl ?_
  refine ev_getf dX12_trace_6 flX12_225 (by rfl) (by rfl) ?_
  exact ev_retl dX12_trace_9 rfl (⟨rfl, (md_fin hk0 hk1 hsh)⟩)
theorem m_count_0 {G : ev_G} {n : Nat} {M : ev_M} {tn c0 c1 c2 sh : Nat} {tx s kp bw ar tu : Nat → Int32} {k0 k1 : Bool} {tr : Int64} (hM : md_S M tn c0 c1 c2 sh tx s kp bw ar tu k0 k1 tr)  : ev_Cal G mX12_count 1 0 0 [.ref 129, .int 0] n M (md_is M (.int (nI c0)) tn c0 c1 c2 sh tx s kp bw ar tu k0 k1 tr) := by
  refine ev_Cal_of (L := [some (.ref 129), some (.int 0)]) (by decide +kernel) (Nat.le_of_ble_eq_true rfl) rfl ?_
  obtain ⟨th, nx, tk, pl, va, fa, d0, d1, d2, sp, of', ba, go, dr, ki, up, dn, dS, dB, dA, one, gof, dof, act, ik, h129, h130, h131, h132, h133, hk0, hk1, h134, h135, h136, h137, h138, h139, h140, h141, h142, h143, hsh⟩ := hM
  refine ev_track (l := [(129, md_o th tr (nI tn) nx tk pl va fa (nI c0) (nI c1) (nI c2) d0 d1 d2 sp of' ba go dr ki up dn), (130, .inl (0, 400, .inl tx)), (131, .inl (0, 386, .inl s)), (132, .inl (0, 772, .inl kp)), (133, .inl (1, 2, .inl ik)), (134, .inl (0, 6, .inl bw)), (135, .inl (0, 6, .inl ar)), (136, .inl (0, 84, .inl dS)), (137, .inl (0, 6, .inl dB)), (138, .inl (0, 6, .inl dA)), (139, .inl (0, 4, .inl tu)), (140, .inl (0, 7, .inl one)), (141, .inl (0, 24, .inl gof)), (142, .inl (0, 12, .inl dof)), (143, .inl (0, 5, .inl act))]) (ev_fa1 h129 (ev_fa1 h130 (ev_fa1 h131 (ev_fa1 h132 (ev_fa1 h133 (ev_fa1 h134 (ev_fa1 h135 (ev_fa1 h136 (ev_fa1 h137 (ev_fa1 h138 (ev_fa1 h139 (ev_fa1 h140 (ev_fa1 h141 (ev_fa1 h142 (ev_fa1 h143 (ev_fa0)))))))))))))))) ?_
  refine ev_aload_n (i := 0) dX12_count_0 rfl rfl ?_
  refine ev_iconst (v := 0) dX12_count_1 cni_0 ?_
  refine ev_putiP 0 dX12_count_2 fpX12_53 (by rfl) (by rfl) (Nat.le_of_ble_eq_true rfl) (by rfl) (by rfl) ?_
  refine ev_iload_n (i := 1) dX12_count_5 rfl rfl ?_
  refine ev_if_ne (tgt := 16) dX12_count_6 (by decide) (fun h6 => False.elim (absurd rfl h6)) (fun h6 => ?_)
  refine ev_aload_n (i := 0) dX12_count_9 rfl rfl ?_
  refine ev_getf dX12_count_10 flX12_127 (by rfl) (by rfl) ?_
  refine ev_goto (tgt := 68) dX12_count_13 (by decide) ?_
  exact ev_reti dX12_count_68 rfl rfl (⟨rfl, (md_fin hk0 hk1 hsh)⟩)
theorem m_count_1 {G : ev_G} {n : Nat} {M : ev_M} {tn c0 c1 c2 sh : Nat} {tx s kp bw ar tu : Nat → Int32} {k0 k1 : Bool} {tr : Int64} (hM : md_S M tn c0 c1 c2 sh tx s kp bw ar tu k0 k1 tr)  : ev_Cal G mX12_count 1 0 0 [.ref 129, .int 1] n M (md_is M (.int (nI c1)) tn c0 c1 c2 sh tx s kp bw ar tu k0 k1 tr) := by
  refine ev_Cal_of (L := [some (.ref 129), some (.int 1)]) (by decide +kernel) (Nat.le_of_ble_eq_true rfl) rfl ?_
  obtain ⟨th, nx, tk, pl, va, fa, d0, d1, d2, sp, of', ba, go, dr, ki, up, dn, dS, dB, dA, one, gof, dof, act, ik, h129, h130, h131, h132, h133, hk0, hk1, h134, h135, h136, h137, h138, h139, h140, h141, h142, h143, hsh⟩ := hM
  refine ev_track (l := [(129, md_o th tr (nI tn) nx tk pl va fa (nI c0) (nI c1) (nI c2) d0 d1 d2 sp of' ba go dr ki up dn), (130, .inl (0, 400, .inl tx)), (131, .inl (0, 386, .inl s)), (132, .inl (0, 772, .inl kp)), (133, .inl (1, 2, .inl ik)), (134, .inl (0, 6, .inl bw)), (135, .inl (0, 6, .inl ar)), (136, .inl (0, 84, .inl dS)), (137, .inl (0, 6, .inl dB)), (138, .inl (0, 6, .inl dA)), (139, .inl (0, 4, .inl tu)), (140, .inl (0, 7, .inl one)), (141, .inl (0, 24, .inl gof)), (142, .inl (0, 12, .inl dof)), (143, .inl (0, 5, .inl act))]) (ev_fa1 h129 (ev_fa1 h130 (ev_fa1 h131 (ev_fa1 h132 (ev_fa1 h133 (ev_fa1 h134 (ev_fa1 h135 (ev_fa1 h136 (ev_fa1 h137 (ev_fa1 h138 (ev_fa1 h139 (ev_fa1 h140 (ev_fa1 h141 (ev_fa1 h142 (ev_fa1 h143 (ev_fa0)))))))))))))))) ?_
  refine ev_aload_n (i := 0) dX12_count_0 rfl rfl ?_
  refine ev_iconst (v := 0) dX12_count_1 cni_0 ?_
  refine ev_putiP 0 dX12_count_2 fpX12_53 (by rfl) (by rfl) (Nat.le_of_ble_eq_true rfl) (by rfl) (by rfl) ?_
  refine ev_iload_n (i := 1) dX12_count_5 rfl rfl ?_
  refine ev_if_ne (tgt := 16) dX12_count_6 (by decide) (fun h6 => ?_) (fun h6 => False.elim (absurd h6 (by decide)))
  refine ev_iload_n (i := 1) dX12_count_16 rfl rfl ?_
  refine ev_iconst (v := 1) dX12_count_17 cni_1 ?_
  refine ev_icmp_ne (tgt := 28) dX12_count_18 (by decide) (fun h18 => False.elim (absurd rfl h18)) (fun h18 => ?_)
  refine ev_aload_n (i := 0) dX12_count_21 rfl rfl ?_
  refine ev_getf dX12_count_22 flX12_130 (by rfl) (by rfl) ?_
  refine ev_goto (tgt := 68) dX12_count_25 (by decide) ?_
  exact ev_reti dX12_count_68 rfl rfl (⟨rfl, (md_fin hk0 hk1 hsh)⟩)
theorem m_count_2 {G : ev_G} {n : Nat} {M : ev_M} {tn c0 c1 c2 sh : Nat} {tx s kp bw ar tu : Nat → Int32} {k0 k1 : Bool} {tr : Int64} (hM : md_S M tn c0 c1 c2 sh tx s kp bw ar tu k0 k1 tr)  : ev_Cal G mX12_count 1 0 0 [.ref 129, .int 2] n M (md_is M (.int (nI c2)) tn c0 c1 c2 sh tx s kp bw ar tu k0 k1 tr) := by
  refine ev_Cal_of (L := [some (.ref 129), some (.int 2)]) (by decide +kernel) (Nat.le_of_ble_eq_true rfl) rfl ?_
  obtain ⟨th, nx, tk, pl, va, fa, d0, d1, d2, sp, of', ba, go, dr, ki, up, dn, dS, dB, dA, one, gof, dof, act, ik, h129, h130, h131, h132, h133, hk0, hk1, h134, h135, h136, h137, h138, h139, h140, h141, h142, h143, hsh⟩ := hM
  refine ev_track (l := [(129, md_o th tr (nI tn) nx tk pl va fa (nI c0) (nI c1) (nI c2) d0 d1 d2 sp of' ba go dr ki up dn), (130, .inl (0, 400, .inl tx)), (131, .inl (0, 386, .inl s)), (132, .inl (0, 772, .inl kp)), (133, .inl (1, 2, .inl ik)), (134, .inl (0, 6, .inl bw)), (135, .inl (0, 6, .inl ar)), (136, .inl (0, 84, .inl dS)), (137, .inl (0, 6, .inl dB)), (138, .inl (0, 6, .inl dA)), (139, .inl (0, 4, .inl tu)), (140, .inl (0, 7, .inl one)), (141, .inl (0, 24, .inl gof)), (142, .inl (0, 12, .inl dof)), (143, .inl (0, 5, .inl act))]) (ev_fa1 h129 (ev_fa1 h130 (ev_fa1 h131 (ev_fa1 h132 (ev_fa1 h133 (ev_fa1 h134 (ev_fa1 h135 (ev_fa1 h136 (ev_fa1 h137 (ev_fa1 h138 (ev_fa1 h139 (ev_fa1 h140 (ev_fa1 h141 (ev_fa1 h142 (ev_fa1 h143 (ev_fa0)))))))))))))))) ?_
  refine ev_aload_n (i := 0) dX12_count_0 rfl rfl ?_
  refine ev_iconst (v := 0) dX12_count_1 cni_0 ?_
  refine ev_putiP 0 dX12_count_2 fpX12_53 (by rfl) (by rfl) (Nat.le_of_ble_eq_true rfl) (by rfl) (by rfl) ?_
  refine ev_iload_n (i := 1) dX12_count_5 rfl rfl ?_
  refine ev_if_ne (tgt := 16) dX12_count_6 (by decide) (fun h6 => ?_) (fun h6 => False.elim (absurd h6 (by decide)))
  refine ev_iload_n (i := 1) dX12_count_16 rfl rfl ?_
  refine ev_iconst (v := 1) dX12_count_17 cni_1 ?_
  refine ev_icmp_ne (tgt := 28) dX12_count_18 (by decide) (fun h18 => ?_) (fun h18 => False.elim (absurd h18 (by decide)))
  refine ev_iload_n (i := 1) dX12_count_28 rfl rfl ?_
  refine ev_iconst (v := 2) dX12_count_29 cni_2 ?_
  refine ev_icmp_ne (tgt := 40) dX12_count_30 (by decide) (fun h30 => False.elim (absurd rfl h30)) (fun h30 => ?_)
  refine ev_aload_n (i := 0) dX12_count_33 rfl rfl ?_
  refine ev_getf dX12_count_34 flX12_133 (by rfl) (by rfl) ?_
  refine ev_goto (tgt := 68) dX12_count_37 (by decide) ?_
  exact ev_reti dX12_count_68 rfl rfl (⟨rfl, (md_fin hk0 hk1 hsh)⟩)
theorem m_count_3 {G : ev_G} {n : Nat} {M : ev_M} {tn c0 c1 c2 sh : Nat} {tx s kp bw ar tu : Nat → Int32} {k0 k1 : Bool} {tr : Int64} (hM : md_S M tn c0 c1 c2 sh tx s kp bw ar tu k0 k1 tr)  : ev_Cal G mX12_count 1 0 0 [.ref 129, .int 3] n M (md_is M (.int (nI sh)) tn c0 c1 c2 sh tx s kp bw ar tu k0 k1 tr) := by
  refine ev_Cal_of (L := [some (.ref 129), some (.int 3)]) (by decide +kernel) (Nat.le_of_ble_eq_true rfl) rfl ?_
  obtain ⟨th, nx, tk, pl, va, fa, d0, d1, d2, sp, of', ba, go, dr, ki, up, dn, dS, dB, dA, one, gof, dof, act, ik, h129, h130, h131, h132, h133, hk0, hk1, h134, h135, h136, h137, h138, h139, h140, h141, h142, h143, hsh⟩ := hM
  refine ev_track (l := [(129, md_o th tr (nI tn) nx tk pl va fa (nI c0) (nI c1) (nI c2) d0 d1 d2 sp of' ba go dr ki up dn), (130, .inl (0, 400, .inl tx)), (131, .inl (0, 386, .inl s)), (132, .inl (0, 772, .inl kp)), (133, .inl (1, 2, .inl ik)), (134, .inl (0, 6, .inl bw)), (135, .inl (0, 6, .inl ar)), (136, .inl (0, 84, .inl dS)), (137, .inl (0, 6, .inl dB)), (138, .inl (0, 6, .inl dA)), (139, .inl (0, 4, .inl tu)), (140, .inl (0, 7, .inl one)), (141, .inl (0, 24, .inl gof)), (142, .inl (0, 12, .inl dof)), (143, .inl (0, 5, .inl act))]) (ev_fa1 h129 (ev_fa1 h130 (ev_fa1 h131 (ev_fa1 h132 (ev_fa1 h133 (ev_fa1 h134 (ev_fa1 h135 (ev_fa1 h136 (ev_fa1 h137 (ev_fa1 h138 (ev_fa1 h139 (ev_fa1 h140 (ev_fa1 h141 (ev_fa1 h142 (ev_fa1 h143 (ev_fa0)))))))))))))))) ?_
  refine ev_aload_n (i := 0) dX12_count_0 rfl rfl ?_
  refine ev_iconst (v := 0) dX12_count_1 cni_0 ?_
  refine ev_putiP 0 dX12_count_2 fpX12_53 (by rfl) (by rfl) (Nat.le_of_ble_eq_true rfl) (by rfl) (by rfl) ?_
  refine ev_iload_n (i := 1) dX12_count_5 rfl rfl ?_
  refine ev_if_ne (tgt := 16) dX12_count_6 (by decide) (fun h6 => ?_) (fun h6 => False.elim (absurd h6 (by decide)))
  refine ev_iload_n (i := 1) dX12_count_16 rfl rfl ?_
  refine ev_iconst (v := 1) dX12_count_17 cni_1 ?_
  refine ev_icmp_ne (tgt := 28) dX12_count_18 (by decide) (fun h18 => ?_) (fun h18 => False.elim (absurd h18 (by decide)))
  refine ev_iload_n (i := 1) dX12_count_28 rfl rfl ?_
  refine ev_iconst (v := 2) dX12_count_29 cni_2 ?_
  refine ev_icmp_ne (tgt := 40) dX12_count_30 (by decide) (fun h30 => ?_) (fun h30 => False.elim (absurd h30 (by decide)))
  refine ev_iload_n (i := 1) dX12_count_40 rfl rfl ?_
  refine ev_iconst (v := 3) dX12_count_41 cni_3 ?_
  refine ev_icmp_ne (tgt := 55) dX12_count_42 (by decide) (fun h42 => False.elim (absurd rfl h42)) (fun h42 => ?_)
  refine ev_aload_n (i := 0) dX12_count_45 rfl rfl ?_
  refine ev_getf dX12_count_46 flX12_13 (by rfl) (by rfl) ?_
  refine ev_bipush (v := 85) dX12_count_49 cnb_85 ?_
  refine ev_iald (j := 85) dX12_count_51 (by rfl) (by decide) (by decide) ?_
  refine ev_goto (tgt := 68) dX12_count_52 (by decide) ?_
  exact ev_reti dX12_count_68 rfl rfl (⟨congrArg (fun z => some (Value.int z)) hsh, (md_fin hk0 hk1 hsh)⟩)
theorem m_count_4 {G : ev_G} {n : Nat} {M : ev_M} {tn c0 c1 c2 sh : Nat} {tx s kp bw ar tu : Nat → Int32} {k0 k1 : Bool} {tr : Int64} (hM : md_S M tn c0 c1 c2 sh tx s kp bw ar tu k0 k1 tr)  : ev_Cal G mX12_count 1 0 0 [.ref 129, .int 4] n M (md_is M (.int (nI tn)) tn c0 c1 c2 sh tx s kp bw ar tu k0 k1 tr) := by
  refine ev_Cal_of (L := [some (.ref 129), some (.int 4)]) (by decide +kernel) (Nat.le_of_ble_eq_true rfl) rfl ?_
  obtain ⟨th, nx, tk, pl, va, fa, d0, d1, d2, sp, of', ba, go, dr, ki, up, dn, dS, dB, dA, one, gof, dof, act, ik, h129, h130, h131, h132, h133, hk0, hk1, h134, h135, h136, h137, h138, h139, h140, h141, h142, h143, hsh⟩ := hM
  refine ev_track (l := [(129, md_o th tr (nI tn) nx tk pl va fa (nI c0) (nI c1) (nI c2) d0 d1 d2 sp of' ba go dr ki up dn), (130, .inl (0, 400, .inl tx)), (131, .inl (0, 386, .inl s)), (132, .inl (0, 772, .inl kp)), (133, .inl (1, 2, .inl ik)), (134, .inl (0, 6, .inl bw)), (135, .inl (0, 6, .inl ar)), (136, .inl (0, 84, .inl dS)), (137, .inl (0, 6, .inl dB)), (138, .inl (0, 6, .inl dA)), (139, .inl (0, 4, .inl tu)), (140, .inl (0, 7, .inl one)), (141, .inl (0, 24, .inl gof)), (142, .inl (0, 12, .inl dof)), (143, .inl (0, 5, .inl act))]) (ev_fa1 h129 (ev_fa1 h130 (ev_fa1 h131 (ev_fa1 h132 (ev_fa1 h133 (ev_fa1 h134 (ev_fa1 h135 (ev_fa1 h136 (ev_fa1 h137 (ev_fa1 h138 (ev_fa1 h139 (ev_fa1 h140 (ev_fa1 h141 (ev_fa1 h142 (ev_fa1 h143 (ev_fa0)))))))))))))))) ?_
  refine ev_aload_n (i := 0) dX12_count_0 rfl rfl ?_
  refine ev_iconst (v := 0) dX12_count_1 cni_0 ?_
  refine ev_putiP 0 dX12_count_2 fpX12_53 (by rfl) (by rfl) (Nat.le_of_ble_eq_true rfl) (by rfl) (by rfl) ?_
  refine ev_iload_n (i := 1) dX12_count_5 rfl rfl ?_
  refine ev_if_ne (tgt := 16) dX12_count_6 (by decide) (fun h6 => ?_) (fun h6 => False.elim (absurd h6 (by decide)))
  refine ev_iload_n (i := 1) dX12_count_16 rfl rfl ?_
  refine ev_iconst (v := 1) dX12_count_17 cni_1 ?_
  refine ev_icmp_ne (tgt := 28) dX12_count_18 (by decide) (fun h18 => ?_) (fun h18 => False.elim (absurd h18 (by decide)))
  refine ev_iload_n (i := 1) dX12_count_28 rfl rfl ?_
  refine ev_iconst (v := 2) dX12_count_29 cni_2 ?_
  refine ev_icmp_ne (tgt := 40) dX12_count_30 (by decide) (fun h30 => ?_) (fun h30 => False.elim (absurd h30 (by decide)))
  refine ev_iload_n (i := 1) dX12_count_40 rfl rfl ?_
  refine ev_iconst (v := 3) dX12_count_41 cni_3 ?_
  refine ev_icmp_ne (tgt := 55) dX12_count_42 (by decide) (fun h42 => ?_) (fun h42 => False.elim (absurd h42 (by decide)))
  refine ev_iload_n (i := 1) dX12_count_55 rfl rfl ?_
  refine ev_iconst (v := 4) dX12_count_56 cni_4 ?_
  refine ev_icmp_ne (tgt := 67) dX12_count_57 (by decide) (fun h57 => False.elim (absurd rfl h57)) (fun h57 => ?_)
  refine ev_aload_n (i := 0) dX12_count_60 rfl rfl ?_
  refine ev_getf dX12_count_61 flX12_61 (by rfl) (by rfl) ?_
  refine ev_goto (tgt := 68) dX12_count_64 (by decide) ?_
  exact ev_reti dX12_count_68 rfl rfl (⟨rfl, (md_fin hk0 hk1 hsh)⟩)
theorem m_count_w {G : ev_G} {n : Nat} {M : ev_M} {tn c0 c1 c2 sh : Nat} {tx s kp bw ar tu : Nat → Int32} {k0 k1 : Bool} {tr : Int64} (hM : md_S M tn c0 c1 c2 sh tx s kp bw ar tu k0 k1 tr) {w : Int32} (h0 : ¬ w = 0) (h1 : ¬ w = 1) (h2 : ¬ w = 2) (h3 : ¬ w = 3) (h4 : ¬ w = 4)  : ev_Cal G mX12_count 1 0 0 [.ref 129, .int w] n M (md_is M (.int (-1)) tn c0 c1 c2 sh tx s kp bw ar tu k0 k1 tr) := by
  refine ev_Cal_of (L := [some (.ref 129), some (.int w)]) (by decide +kernel) (Nat.le_of_ble_eq_true rfl) rfl ?_
  obtain ⟨th, nx, tk, pl, va, fa, d0, d1, d2, sp, of', ba, go, dr, ki, up, dn, dS, dB, dA, one, gof, dof, act, ik, h129, h130, h131, h132, h133, hk0, hk1, h134, h135, h136, h137, h138, h139, h140, h141, h142, h143, hsh⟩ := hM
  refine ev_track (l := [(129, md_o th tr (nI tn) nx tk pl va fa (nI c0) (nI c1) (nI c2) d0 d1 d2 sp of' ba go dr ki up dn), (130, .inl (0, 400, .inl tx)), (131, .inl (0, 386, .inl s)), (132, .inl (0, 772, .inl kp)), (133, .inl (1, 2, .inl ik)), (134, .inl (0, 6, .inl bw)), (135, .inl (0, 6, .inl ar)), (136, .inl (0, 84, .inl dS)), (137, .inl (0, 6, .inl dB)), (138, .inl (0, 6, .inl dA)), (139, .inl (0, 4, .inl tu)), (140, .inl (0, 7, .inl one)), (141, .inl (0, 24, .inl gof)), (142, .inl (0, 12, .inl dof)), (143, .inl (0, 5, .inl act))]) (ev_fa1 h129 (ev_fa1 h130 (ev_fa1 h131 (ev_fa1 h132 (ev_fa1 h133 (ev_fa1 h134 (ev_fa1 h135 (ev_fa1 h136 (ev_fa1 h137 (ev_fa1 h138 (ev_fa1 h139 (ev_fa1 h140 (ev_fa1 h141 (ev_fa1 h142 (ev_fa1 h143 (ev_fa0)))))))))))))))) ?_
  refine ev_aload_n (i := 0) dX12_count_0 rfl rfl ?_
  refine ev_iconst (v := 0) dX12_count_1 cni_0 ?_
  refine ev_putiP 0 dX12_count_2 fpX12_53 (by rfl) (by rfl) (Nat.le_of_ble_eq_true rfl) (by rfl) (by rfl) ?_
  refine ev_iload_n (i := 1) dX12_count_5 rfl rfl ?_
  refine ev_if_ne (tgt := 16) dX12_count_6 (by decide) (fun h6 => ?_) (fun h6 => False.elim (h0 h6))
  refine ev_iload_n (i := 1) dX12_count_16 rfl rfl ?_
  refine ev_iconst (v := 1) dX12_count_17 cni_1 ?_
  refine ev_icmp_ne (tgt := 28) dX12_count_18 (by decide) (fun h18 => ?_) (fun h18 => False.elim (h1 h18))
  refine ev_iload_n (i := 1) dX12_count_28 rfl rfl ?_
  refine ev_iconst (v := 2) dX12_count_29 cni_2 ?_
  refine ev_icmp_ne (tgt := 40) dX12_count_30 (by decide) (fun h30 => ?_) (fun h30 => False.elim (h2 h30))
  refine ev_iload_n (i := 1) dX12_count_40 rfl rfl ?_
  refine ev_iconst (v := 3) dX12_count_41 cni_3 ?_
  refine ev_icmp_ne (tgt := 55) dX12_count_42 (by decide) (fun h42 => ?_) (fun h42 => False.elim (h3 h42))
  refine ev_iload_n (i := 1) dX12_count_55 rfl rfl ?_
  refine ev_iconst (v := 4) dX12_count_56 cni_4 ?_
  refine ev_icmp_ne (tgt := 67) dX12_count_57 (by decide) (fun h57 => ?_) (fun h57 => False.elim (h4 h57))
  refine ev_iconst (v := (-1)) dX12_count_67 cni_m1 ?_
  exact ev_reti dX12_count_68 rfl rfl (⟨rfl, (md_fin hk0 hk1 hsh)⟩)
theorem m_stick {G : ev_G} {n : Nat} {M : ev_M} {tn c0 c1 c2 sh : Nat} {tx s kp bw ar tu : Nat → Int32} {k0 k1 : Bool} {tr : Int64} (hM : md_S M tn c0 c1 c2 sh tx s kp bw ar tu k0 k1 tr) (hc : c0 ≤ 12) {j k : Nat} (hj : j < c0) (hk : k < 7)  : ev_Cal G mX12_stick 3 0 0 [.ref 129, .int (nI j), .int (nI k)] n M (md_is M (.int (s (7 * j + k))) tn c0 c1 c2 sh tx s kp bw ar tu k0 k1 tr) := by
  refine ev_Cal_of (L := [some (.ref 129), some (.int (nI j)), some (.int (nI k))]) (by decide +kernel) (Nat.le_of_ble_eq_true rfl) rfl ?_
  obtain ⟨th, nx, tk, pl, va, fa, d0, d1, d2, sp, of', ba, go, dr, ki, up, dn, dS, dB, dA, one, gof, dof, act, ik, h129, h130, h131, h132, h133, hk0, hk1, h134, h135, h136, h137, h138, h139, h140, h141, h142, h143, hsh⟩ := hM
  refine ev_track (l := [(129, md_o th tr (nI tn) nx tk pl va fa (nI c0) (nI c1) (nI c2) d0 d1 d2 sp of' ba go dr ki up dn), (130, .inl (0, 400, .inl tx)), (131, .inl (0, 386, .inl s)), (132, .inl (0, 772, .inl kp)), (133, .inl (1, 2, .inl ik)), (134, .inl (0, 6, .inl bw)), (135, .inl (0, 6, .inl ar)), (136, .inl (0, 84, .inl dS)), (137, .inl (0, 6, .inl dB)), (138, .inl (0, 6, .inl dA)), (139, .inl (0, 4, .inl tu)), (140, .inl (0, 7, .inl one)), (141, .inl (0, 24, .inl gof)), (142, .inl (0, 12, .inl dof)), (143, .inl (0, 5, .inl act))]) (ev_fa1 h129 (ev_fa1 h130 (ev_fa1 h131 (ev_fa1 h132 (ev_fa1 h133 (ev_fa1 h134 (ev_fa1 h135 (ev_fa1 h136 (ev_fa1 h137 (ev_fa1 h138 (ev_fa1 h139 (ev_fa1 h140 (ev_fa1 h141 (ev_fa1 h142 (ev_fa1 h143 (ev_fa0)))))))))))))))) ?_
  refine ev_aload_n (i := 0) dX12_stick_0 rfl rfl ?_
  refine ev_iconst (v := 0) dX12_stick_1 cni_0 ?_
  refine ev_putiP 0 dX12_stick_2 fpX12_53 (by rfl) (by rfl) (Nat.le_of_ble_eq_true rfl) (by rfl) (by rfl) ?_
  refine ev_aload_n (i := 0) dX12_stick_5 rfl rfl ?_
  refine ev_iload_n (i := 1) dX12_stick_6 rfl rfl ?_
  refine ev_c2 kX12_stick_7 (c13_isStick rfl) (ev_rv_of (by rfl) rfl rfl) (by decide) (by decide) (Nat.le_of_ble_eq_true rfl) ?_
  refine ev_if_eqb (tgt := 37) dX12_stick_10 (by decide) (fun h10 => False.elim (Bool.false_ne_true (h10.symm.trans (sp_in_ix hj (by omega))))) (fun h10 => ?_)
  refine ev_iload_n (i := 2) dX12_stick_13 rfl rfl ?_
  refine ev_iconst (v := 0) dX12_stick_14 cni_0 ?_
  refine ev_bipush (v := 6) dX12_stick_15 cnb_6 ?_
  refine ev_c3 kX12_stick_17 (c13_in) trivial (by decide) (by decide) (Nat.le_of_ble_eq_true rfl) ?_
  refine ev_if_eqb (tgt := 37) dX12_stick_20 (by decide) (fun h20 => False.elim (Bool.false_ne_true (h20.symm.trans (sp_in_t (nI_pos' (by omega)) (nI_le (a := k) (b := 6) (by omega) (by decide)))))) (fun h20 => ?_)
  refine ev_aload_n (i := 0) dX12_stick_23 rfl rfl ?_
  refine ev_getf dX12_stick_24 flX12_13 (by rfl) (by rfl) ?_
  refine ev_bipush (v := 7) dX12_stick_27 cnb_7 ?_
  refine ev_iload_n (i := 1) dX12_stick_29 rfl rfl ?_
  refine ev_imul dX12_stick_30 ?_
  refine ev_iload_n (i := 2) dX12_stick_31 rfl rfl ?_
  refine ev_iadd dX12_stick_32 ?_
  refine ev_iald (j := 7 * j + k) dX12_stick_33 (by rfl) (ev_ix7 j k (by omega)) (by omega) ?_
  refine ev_goto (tgt := 38) dX12_stick_34 (by decide) ?_
  exact ev_reti dX12_stick_38 rfl rfl (⟨rfl, (md_fin hk0 hk1 hsh)⟩)
theorem m_stick_i {G : ev_G} {n : Nat} {M : ev_M} {tn c0 c1 c2 sh : Nat} {tx s kp bw ar tu : Nat → Int32} {k0 k1 : Bool} {tr : Int64} (hM : md_S M tn c0 c1 c2 sh tx s kp bw ar tu k0 k1 tr) (hc : c0 ≤ 12) {x : Int32} (hx : x < 0 ∨ nI c0 ≤ x) {w : Int32}  : ev_Cal G mX12_stick 3 0 0 [.ref 129, .int x, .int w] n M (md_is M (.int (-1)) tn c0 c1 c2 sh tx s kp bw ar tu k0 k1 tr) := by
  refine ev_Cal_of (L := [some (.ref 129), some (.int x), some (.int w)]) (by decide +kernel) (Nat.le_of_ble_eq_true rfl) rfl ?_
  obtain ⟨th, nx, tk, pl, va, fa, d0, d1, d2, sp, of', ba, go, dr, ki, up, dn, dS, dB, dA, one, gof, dof, act, ik, h129, h130, h131, h132, h133, hk0, hk1, h134, h135, h136, h137, h138, h139, h140, h141, h142, h143, hsh⟩ := hM
  refine ev_track (l := [(129, md_o th tr (nI tn) nx tk pl va fa (nI c0) (nI c1) (nI c2) d0 d1 d2 sp of' ba go dr ki up dn), (130, .inl (0, 400, .inl tx)), (131, .inl (0, 386, .inl s)), (132, .inl (0, 772, .inl kp)), (133, .inl (1, 2, .inl ik)), (134, .inl (0, 6, .inl bw)), (135, .inl (0, 6, .inl ar)), (136, .inl (0, 84, .inl dS)), (137, .inl (0, 6, .inl dB)), (138, .inl (0, 6, .inl dA)), (139, .inl (0, 4, .inl tu)), (140, .inl (0, 7, .inl one)), (141, .inl (0, 24, .inl gof)), (142, .inl (0, 12, .inl dof)), (143, .inl (0, 5, .inl act))]) (ev_fa1 h129 (ev_fa1 h130 (ev_fa1 h131 (ev_fa1 h132 (ev_fa1 h133 (ev_fa1 h134 (ev_fa1 h135 (ev_fa1 h136 (ev_fa1 h137 (ev_fa1 h138 (ev_fa1 h139 (ev_fa1 h140 (ev_fa1 h141 (ev_fa1 h142 (ev_fa1 h143 (ev_fa0)))))))))))))))) ?_
  refine ev_aload_n (i := 0) dX12_stick_0 rfl rfl ?_
  refine ev_iconst (v := 0) dX12_stick_1 cni_0 ?_
  refine ev_putiP 0 dX12_stick_2 fpX12_53 (by rfl) (by rfl) (Nat.le_of_ble_eq_true rfl) (by rfl) (by rfl) ?_
  refine ev_aload_n (i := 0) dX12_stick_5 rfl rfl ?_
  refine ev_iload_n (i := 1) dX12_stick_6 rfl rfl ?_
  refine ev_c2 kX12_stick_7 (c13_isStick rfl) (ev_rv_of (by rfl) rfl rfl) (by decide) (by decide) (Nat.le_of_ble_eq_true rfl) ?_
  refine ev_if_eqb (tgt := 37) dX12_stick_10 (by decide) (fun h10 => ?_) (fun h10 => False.elim (Bool.false_ne_true ((sp_in_out (by omega) hx).symm.trans h10)))
  refine ev_iconst (v := (-1)) dX12_stick_37 cni_m1 ?_
  exact ev_reti dX12_stick_38 rfl rfl (⟨rfl, (md_fin hk0 hk1 hsh)⟩)
theorem m_stick_w {G : ev_G} {n : Nat} {M : ev_M} {tn c0 c1 c2 sh : Nat} {tx s kp bw ar tu : Nat → Int32} {k0 k1 : Bool} {tr : Int64} (hM : md_S M tn c0 c1 c2 sh tx s kp bw ar tu k0 k1 tr) (hc : c0 ≤ 12) {j : Nat} (hj : j < c0) {w : Int32} (hw : w < 0 ∨ 6 < w)  : ev_Cal G mX12_stick 3 0 0 [.ref 129, .int (nI j), .int w] n M (md_is M (.int (-1)) tn c0 c1 c2 sh tx s kp bw ar tu k0 k1 tr) := by
  refine ev_Cal_of (L := [some (.ref 129), some (.int (nI j)), some (.int w)]) (by decide +kernel) (Nat.le_of_ble_eq_true rfl) rfl ?_
  obtain ⟨th, nx, tk, pl, va, fa, d0, d1, d2, sp, of', ba, go, dr, ki, up, dn, dS, dB, dA, one, gof, dof, act, ik, h129, h130, h131, h132, h133, hk0, hk1, h134, h135, h136, h137, h138, h139, h140, h141, h142, h143, hsh⟩ := hM
  refine ev_track (l := [(129, md_o th tr (nI tn) nx tk pl va fa (nI c0) (nI c1) (nI c2) d0 d1 d2 sp of' ba go dr ki up dn), (130, .inl (0, 400, .inl tx)), (131, .inl (0, 386, .inl s)), (132, .inl (0, 772, .inl kp)), (133, .inl (1, 2, .inl ik)), (134, .inl (0, 6, .inl bw)), (135, .inl (0, 6, .inl ar)), (136, .inl (0, 84, .inl dS)), (137, .inl (0, 6, .inl dB)), (138, .inl (0, 6, .inl dA)), (139, .inl (0, 4, .inl tu)), (140, .inl (0, 7, .inl one)), (141, .inl (0, 24, .inl gof)), (142, .inl (0, 12, .inl dof)), (143, .inl (0, 5, .inl act))]) (ev_fa1 h129 (ev_fa1 h130 (ev_fa1 h131 (ev_fa1 h132 (ev_fa1 h133 (ev_fa1 h134 (ev_fa1 h135 (ev_fa1 h136 (ev_fa1 h137 (ev_fa1 h138 (ev_fa1 h139 (ev_fa1 h140 (ev_fa1 h141 (ev_fa1 h142 (ev_fa1 h143 (ev_fa0)))))))))))))))) ?_
  refine ev_aload_n (i := 0) dX12_stick_0 rfl rfl ?_
  refine ev_iconst (v := 0) dX12_stick_1 cni_0 ?_
  refine ev_putiP 0 dX12_stick_2 fpX12_53 (by rfl) (by rfl) (Nat.le_of_ble_eq_true rfl) (by rfl) (by rfl) ?_
  refine ev_aload_n (i := 0) dX12_stick_5 rfl rfl ?_
  refine ev_iload_n (i := 1) dX12_stick_6 rfl rfl ?_
  refine ev_c2 kX12_stick_7 (c13_isStick rfl) (ev_rv_of (by rfl) rfl rfl) (by decide) (by decide) (Nat.le_of_ble_eq_true rfl) ?_
  refine ev_if_eqb (tgt := 37) dX12_stick_10 (by decide) (fun h10 => False.elim (Bool.false_ne_true (h10.symm.trans (sp_in_ix hj (by omega))))) (fun h10 => ?_)
  refine ev_iload_n (i := 2) dX12_stick_13 rfl rfl ?_
  refine ev_iconst (v := 0) dX12_stick_14 cni_0 ?_
  refine ev_bipush (v := 6) dX12_stick_15 cnb_6 ?_
  refine ev_c3 kX12_stick_17 (c13_in) trivial (by decide) (by decide) (Nat.le_of_ble_eq_true rfl) ?_
  refine ev_if_eqb (tgt := 37) dX12_stick_20 (by decide) (fun h20 => ?_) (fun h20 => False.elim (Bool.false_ne_true ((hw.elim sp_in_1 sp_in_2).symm.trans h20)))
  refine ev_iconst (v := (-1)) dX12_stick_37 cni_m1 ?_
  exact ev_reti dX12_stick_38 rfl rfl (⟨rfl, (md_fin hk0 hk1 hsh)⟩)
theorem m_bow {G : ev_G} {n : Nat} {M : ev_M} {tn c0 c1 c2 sh : Nat} {tx s kp bw ar tu : Nat → Int32} {k0 k1 : Bool} {tr : Int64} (hM : md_S M tn c0 c1 c2 sh tx s kp bw ar tu k0 k1 tr) {b : Nat} (hb : b < c1) (hc1 : c1 ≤ 3) {k : Nat} (hk : k < 2)  : ev_Cal G mX12_bow 3 0 0 [.ref 129, .int (nI b), .int (nI k)] n M (md_is M (.int (bw (2 * b + k))) tn c0 c1 c2 sh tx s kp bw ar tu k0 k1 tr) := by
  refine ev_Cal_of (L := [some (.ref 129), some (.int (nI b)), some (.int (nI k))]) (by decide +kernel) (Nat.le_of_ble_eq_true rfl) rfl ?_
  obtain ⟨th, nx, tk, pl, va, fa, d0, d1, d2, sp, of', ba, go, dr, ki, up, dn, dS, dB, dA, one, gof, dof, act, ik, h129, h130, h131, h132, h133, hk0, hk1, h134, h135, h136, h137, h138, h139, h140, h141, h142, h143, hsh⟩ := hM
  refine ev_track (l := [(129, md_o th tr (nI tn) nx tk pl va fa (nI c0) (nI c1) (nI c2) d0 d1 d2 sp of' ba go dr ki up dn), (130, .inl (0, 400, .inl tx)), (131, .inl (0, 386, .inl s)), (132, .inl (0, 772, .inl kp)), (133, .inl (1, 2, .inl ik)), (134, .inl (0, 6, .inl bw)), (135, .inl (0, 6, .inl ar)), (136, .inl (0, 84, .inl dS)), (137, .inl (0, 6, .inl dB)), (138, .inl (0, 6, .inl dA)), (139, .inl (0, 4, .inl tu)), (140, .inl (0, 7, .inl one)), (141, .inl (0, 24, .inl gof)), (142, .inl (0, 12, .inl dof)), (143, .inl (0, 5, .inl act))]) (ev_fa1 h129 (ev_fa1 h130 (ev_fa1 h131 (ev_fa1 h132 (ev_fa1 h133 (ev_fa1 h134 (ev_fa1 h135 (ev_fa1 h136 (ev_fa1 h137 (ev_fa1 h138 (ev_fa1 h139 (ev_fa1 h140 (ev_fa1 h141 (ev_fa1 h142 (ev_fa1 h143 (ev_fa0)))))))))))))))) ?_
  refine ev_aload_n (i := 0) dX12_bow_0 rfl rfl ?_
  refine ev_iconst (v := 0) dX12_bow_1 cni_0 ?_
  refine ev_putiP 0 dX12_bow_2 fpX12_53 (by rfl) (by rfl) (Nat.le_of_ble_eq_true rfl) (by rfl) (by rfl) ?_
  refine ev_aload_n (i := 0) dX12_bow_5 rfl rfl ?_
  refine ev_iload_n (i := 1) dX12_bow_6 rfl rfl ?_
  refine ev_c2 kX12_bow_7 (c13_isBow rfl) (ev_rv_of (by rfl) rfl rfl) (by decide) (by decide) (Nat.le_of_ble_eq_true rfl) ?_
  refine ev_if_eqb (tgt := 22) dX12_bow_10 (by decide) (fun h10 => False.elim (Bool.false_ne_true (h10.symm.trans (sp_in_ix hb (by omega))))) (fun h10 => ?_)
  refine ev_iload_n (i := 2) dX12_bow_13 rfl rfl ?_
  refine ev_iconst (v := 0) dX12_bow_14 cni_0 ?_
  refine ev_iconst (v := 2) dX12_bow_15 cni_2 ?_
  refine ev_c3 kX12_bow_16 (c13_in) trivial (by decide) (by decide) (Nat.le_of_ble_eq_true rfl) ?_
  refine ev_if_neb (tgt := 26) dX12_bow_19 (by decide) (fun h19 => ?_) (fun h19 => False.elim (Bool.false_ne_true (h19.symm.trans (sp_in_t (nI_pos' (by omega)) (nI_le (a := k) (b := 2) (by omega) (by decide))))))
  refine ev_iload_n (i := 2) dX12_bow_26 rfl rfl ?_
  refine ev_iconst (v := 2) dX12_bow_27 cni_2 ?_
  refine ev_icmp_ge (tgt := 44) dX12_bow_28 (by decide) (fun h28 => False.elim (Int32.not_le.mpr (nI_lt (a := k) (b := 2) hk (by decide)) h28)) (fun h28 => ?_)
  refine ev_aload_n (i := 0) dX12_bow_31 rfl rfl ?_
  refine ev_getf dX12_bow_32 flX12_23 (by rfl) (by rfl) ?_
  refine ev_iconst (v := 2) dX12_bow_35 cni_2 ?_
  refine ev_iload_n (i := 1) dX12_bow_36 rfl rfl ?_
  refine ev_imul dX12_bow_37 ?_
  refine ev_iload_n (i := 2) dX12_bow_38 rfl rfl ?_
  refine ev_iadd dX12_bow_39 ?_
  refine ev_iald (j := 2 * b + k) dX12_bow_40 (by rfl) (ev_ix2 b k (by omega)) (by omega) ?_
  refine ev_goto (tgt := 65) dX12_bow_41 (by decide) ?_
  exact ev_reti dX12_bow_65 rfl rfl (⟨rfl, (md_fin hk0 hk1 hsh)⟩)
theorem m_bow_2 {G : ev_G} {n : Nat} {M : ev_M} {tn c0 c1 c2 sh : Nat} {tx s kp bw ar tu : Nat → Int32} {k0 k1 : Bool} {tr : Int64} (hM : md_S M tn c0 c1 c2 sh tx s kp bw ar tu k0 k1 tr) {b : Nat} (hb : b < c1) (hc1 : c1 ≤ 3)  : ev_Cal G mX12_bow 3 0 0 [.ref 129, .int (nI b), .int 2] n M (md_is M (.int (sp_need (bw (2 * b)) (bw (2 * b + 1)))) tn c0 c1 c2 sh tx s kp bw ar tu k0 k1 tr) := by
  refine ev_Cal_of (L := [some (.ref 129), some (.int (nI b)), some (.int 2)]) (by decide +kernel) (Nat.le_of_ble_eq_true rfl) rfl ?_
  obtain ⟨th, nx, tk, pl, va, fa, d0, d1, d2, sp, of', ba, go, dr, ki, up, dn, dS, dB, dA, one, gof, dof, act, ik, h129, h130, h131, h132, h133, hk0, hk1, h134, h135, h136, h137, h138, h139, h140, h141, h142, h143, hsh⟩ := hM
  refine ev_track (l := [(129, md_o th tr (nI tn) nx tk pl va fa (nI c0) (nI c1) (nI c2) d0 d1 d2 sp of' ba go dr ki up dn), (130, .inl (0, 400, .inl tx)), (131, .inl (0, 386, .inl s)), (132, .inl (0, 772, .inl kp)), (133, .inl (1, 2, .inl ik)), (134, .inl (0, 6, .inl bw)), (135, .inl (0, 6, .inl ar)), (136, .inl (0, 84, .inl dS)), (137, .inl (0, 6, .inl dB)), (138, .inl (0, 6, .inl dA)), (139, .inl (0, 4, .inl tu)), (140, .inl (0, 7, .inl one)), (141, .inl (0, 24, .inl gof)), (142, .inl (0, 12, .inl dof)), (143, .inl (0, 5, .inl act))]) (ev_fa1 h129 (ev_fa1 h130 (ev_fa1 h131 (ev_fa1 h132 (ev_fa1 h133 (ev_fa1 h134 (ev_fa1 h135 (ev_fa1 h136 (ev_fa1 h137 (ev_fa1 h138 (ev_fa1 h139 (ev_fa1 h140 (ev_fa1 h141 (ev_fa1 h142 (ev_fa1 h143 (ev_fa0)))))))))))))))) ?_
  refine ev_aload_n (i := 0) dX12_bow_0 rfl rfl ?_
  refine ev_iconst (v := 0) dX12_bow_1 cni_0 ?_
  refine ev_putiP 0 dX12_bow_2 fpX12_53 (by rfl) (by rfl) (Nat.le_of_ble_eq_true rfl) (by rfl) (by rfl) ?_
  refine ev_aload_n (i := 0) dX12_bow_5 rfl rfl ?_
  refine ev_iload_n (i := 1) dX12_bow_6 rfl rfl ?_
  refine ev_c2 kX12_bow_7 (c13_isBow rfl) (ev_rv_of (by rfl) rfl rfl) (by decide) (by decide) (Nat.le_of_ble_eq_true rfl) ?_
  refine ev_if_eqb (tgt := 22) dX12_bow_10 (by decide) (fun h10 => False.elim (Bool.false_ne_true (h10.symm.trans (sp_in_ix hb (by omega))))) (fun h10 => ?_)
  refine ev_iload_n (i := 2) dX12_bow_13 rfl rfl ?_
  refine ev_iconst (v := 0) dX12_bow_14 cni_0 ?_
  refine ev_iconst (v := 2) dX12_bow_15 cni_2 ?_
  refine ev_c3 kX12_bow_16 (c13_in) trivial (by decide) (by decide) (Nat.le_of_ble_eq_true rfl) ?_
  refine ev_if_neb (tgt := 26) dX12_bow_19 (by decide) (fun h19 => ?_) (fun h19 => False.elim (Bool.false_ne_true (h19.symm.trans (by decide))))
  refine ev_iload_n (i := 2) dX12_bow_26 rfl rfl ?_
  refine ev_iconst (v := 2) dX12_bow_27 cni_2 ?_
  refine ev_icmp_ge (tgt := 44) dX12_bow_28 (by decide) (fun h28 => ?_) (fun h28 => False.elim (absurd h28 (by decide)))
  refine ev_aload_n (i := 0) dX12_bow_44 rfl rfl ?_
  refine ev_getf dX12_bow_45 flX12_23 (by rfl) (by rfl) ?_
  refine ev_iconst (v := 2) dX12_bow_48 cni_2 ?_
  refine ev_iload_n (i := 1) dX12_bow_49 rfl rfl ?_
  refine ev_imul dX12_bow_50 ?_
  refine ev_iald (j := 2 * b) dX12_bow_51 (by rfl) (ev_ix20 b (by omega)) (by omega) ?_
  refine ev_iconst (v := 2) dX12_bow_52 cni_2 ?_
  refine ev_aload_n (i := 0) dX12_bow_53 rfl rfl ?_
  refine ev_getf dX12_bow_54 flX12_23 (by rfl) (by rfl) ?_
  refine ev_iconst (v := 2) dX12_bow_57 cni_2 ?_
  refine ev_iload_n (i := 1) dX12_bow_58 rfl rfl ?_
  refine ev_imul dX12_bow_59 ?_
  refine ev_iconst (v := 1) dX12_bow_60 cni_1 ?_
  refine ev_iadd dX12_bow_61 ?_
  refine ev_iald (j := 2 * b + 1) dX12_bow_62 (by rfl) (ev_ix2 b 1 (by omega)) (by omega) ?_
  refine ev_imul dX12_bow_63 ?_
  refine ev_iadd dX12_bow_64 ?_
  exact ev_reti dX12_bow_65 rfl rfl (⟨rfl, (md_fin hk0 hk1 hsh)⟩)
theorem m_bow_b {G : ev_G} {n : Nat} {M : ev_M} {tn c0 c1 c2 sh : Nat} {tx s kp bw ar tu : Nat → Int32} {k0 k1 : Bool} {tr : Int64} (hM : md_S M tn c0 c1 c2 sh tx s kp bw ar tu k0 k1 tr) (hc1 : c1 ≤ 3) {xb : Int32} (hxb : xb < 0 ∨ nI c1 ≤ xb) {w : Int32}  : ev_Cal G mX12_bow 3 0 0 [.ref 129, .int xb, .int w] n M (md_is M (.int (-1)) tn c0 c1 c2 sh tx s kp bw ar tu k0 k1 tr) := by
  refine ev_Cal_of (L := [some (.ref 129), some (.int xb), some (.int w)]) (by decide +kernel) (Nat.le_of_ble_eq_true rfl) rfl ?_
  obtain ⟨th, nx, tk, pl, va, fa, d0, d1, d2, sp, of', ba, go, dr, ki, up, dn, dS, dB, dA, one, gof, dof, act, ik, h129, h130, h131, h132, h133, hk0, hk1, h134, h135, h136, h137, h138, h139, h140, h141, h142, h143, hsh⟩ := hM
  refine ev_track (l := [(129, md_o th tr (nI tn) nx tk pl va fa (nI c0) (nI c1) (nI c2) d0 d1 d2 sp of' ba go dr ki up dn), (130, .inl (0, 400, .inl tx)), (131, .inl (0, 386, .inl s)), (132, .inl (0, 772, .inl kp)), (133, .inl (1, 2, .inl ik)), (134, .inl (0, 6, .inl bw)), (135, .inl (0, 6, .inl ar)), (136, .inl (0, 84, .inl dS)), (137, .inl (0, 6, .inl dB)), (138, .inl (0, 6, .inl dA)), (139, .inl (0, 4, .inl tu)), (140, .inl (0, 7, .inl one)), (141, .inl (0, 24, .inl gof)), (142, .inl (0, 12, .inl dof)), (143, .inl (0, 5, .inl act))]) (ev_fa1 h129 (ev_fa1 h130 (ev_fa1 h131 (ev_fa1 h132 (ev_fa1 h133 (ev_fa1 h134 (ev_fa1 h135 (ev_fa1 h136 (ev_fa1 h137 (ev_fa1 h138 (ev_fa1 h139 (ev_fa1 h140 (ev_fa1 h141 (ev_fa1 h142 (ev_fa1 h143 (ev_fa0)))))))))))))))) ?_
  refine ev_aload_n (i := 0) dX12_bow_0 rfl rfl ?_
  refine ev_iconst (v := 0) dX12_bow_1 cni_0 ?_
  refine ev_putiP 0 dX12_bow_2 fpX12_53 (by rfl) (by rfl) (Nat.le_of_ble_eq_true rfl) (by rfl) (by rfl) ?_
  refine ev_aload_n (i := 0) dX12_bow_5 rfl rfl ?_
  refine ev_iload_n (i := 1) dX12_bow_6 rfl rfl ?_
  refine ev_c2 kX12_bow_7 (c13_isBow rfl) (ev_rv_of (by rfl) rfl rfl) (by decide) (by decide) (Nat.le_of_ble_eq_true rfl) ?_
  refine ev_if_eqb (tgt := 22) dX12_bow_10 (by decide) (fun h10 => ?_) (fun h10 => False.elim (Bool.false_ne_true ((sp_in_out (by omega) hxb).symm.trans h10)))
  refine ev_iconst (v := (-1)) dX12_bow_22 cni_m1 ?_
  refine ev_goto (tgt := 65) dX12_bow_23 (by decide) ?_
  exact ev_reti dX12_bow_65 rfl rfl (⟨rfl, (md_fin hk0 hk1 hsh)⟩)
theorem m_bow_w {G : ev_G} {n : Nat} {M : ev_M} {tn c0 c1 c2 sh : Nat} {tx s kp bw ar tu : Nat → Int32} {k0 k1 : Bool} {tr : Int64} (hM : md_S M tn c0 c1 c2 sh tx s kp bw ar tu k0 k1 tr) {b : Nat} (hb : b < c1) (hc1 : c1 ≤ 3) {w : Int32} (hw : w < 0 ∨ 2 < w)  : ev_Cal G mX12_bow 3 0 0 [.ref 129, .int (nI b), .int w] n M (md_is M (.int (-1)) tn c0 c1 c2 sh tx s kp bw ar tu k0 k1 tr) := by
  refine ev_Cal_of (L := [some (.ref 129), some (.int (nI b)), some (.int w)]) (by decide +kernel) (Nat.le_of_ble_eq_true rfl) rfl ?_
  obtain ⟨th, nx, tk, pl, va, fa, d0, d1, d2, sp, of', ba, go, dr, ki, up, dn, dS, dB, dA, one, gof, dof, act, ik, h129, h130, h131, h132, h133, hk0, hk1, h134, h135, h136, h137, h138, h139, h140, h141, h142, h143, hsh⟩ := hM
  refine ev_track (l := [(129, md_o th tr (nI tn) nx tk pl va fa (nI c0) (nI c1) (nI c2) d0 d1 d2 sp of' ba go dr ki up dn), (130, .inl (0, 400, .inl tx)), (131, .inl (0, 386, .inl s)), (132, .inl (0, 772, .inl kp)), (133, .inl (1, 2, .inl ik)), (134, .inl (0, 6, .inl bw)), (135, .inl (0, 6, .inl ar)), (136, .inl (0, 84, .inl dS)), (137, .inl (0, 6, .inl dB)), (138, .inl (0, 6, .inl dA)), (139, .inl (0, 4, .inl tu)), (140, .inl (0, 7, .inl one)), (141, .inl (0, 24, .inl gof)), (142, .inl (0, 12, .inl dof)), (143, .inl (0, 5, .inl act))]) (ev_fa1 h129 (ev_fa1 h130 (ev_fa1 h131 (ev_fa1 h132 (ev_fa1 h133 (ev_fa1 h134 (ev_fa1 h135 (ev_fa1 h136 (ev_fa1 h137 (ev_fa1 h138 (ev_fa1 h139 (ev_fa1 h140 (ev_fa1 h141 (ev_fa1 h142 (ev_fa1 h143 (ev_fa0)))))))))))))))) ?_
  refine ev_aload_n (i := 0) dX12_bow_0 rfl rfl ?_
  refine ev_iconst (v := 0) dX12_bow_1 cni_0 ?_
  refine ev_putiP 0 dX12_bow_2 fpX12_53 (by rfl) (by rfl) (Nat.le_of_ble_eq_true rfl) (by rfl) (by rfl) ?_
  refine ev_aload_n (i := 0) dX12_bow_5 rfl rfl ?_
  refine ev_iload_n (i := 1) dX12_bow_6 rfl rfl ?_
  refine ev_c2 kX12_bow_7 (c13_isBow rfl) (ev_rv_of (by rfl) rfl rfl) (by decide) (by decide) (Nat.le_of_ble_eq_true rfl) ?_
  refine ev_if_eqb (tgt := 22) dX12_bow_10 (by decide) (fun h10 => False.elim (Bool.false_ne_true (h10.symm.trans (sp_in_ix hb (by omega))))) (fun h10 => ?_)
  refine ev_iload_n (i := 2) dX12_bow_13 rfl rfl ?_
  refine ev_iconst (v := 0) dX12_bow_14 cni_0 ?_
  refine ev_iconst (v := 2) dX12_bow_15 cni_2 ?_
  refine ev_c3 kX12_bow_16 (c13_in) trivial (by decide) (by decide) (Nat.le_of_ble_eq_true rfl) ?_
  refine ev_if_neb (tgt := 26) dX12_bow_19 (by decide) (fun h19 => False.elim (Bool.false_ne_true ((hw.elim sp_in_1 sp_in_2).symm.trans h19))) (fun h19 => ?_)
  refine ev_iconst (v := (-1)) dX12_bow_22 cni_m1 ?_
  refine ev_goto (tgt := 65) dX12_bow_23 (by decide) ?_
  exact ev_reti dX12_bow_65 rfl rfl (⟨rfl, (md_fin hk0 hk1 hsh)⟩)
theorem m_archer {G : ev_G} {n : Nat} {M : ev_M} {tn c0 c1 c2 sh : Nat} {tx s kp bw ar tu : Nat → Int32} {k0 k1 : Bool} {tr : Int64} (hM : md_S M tn c0 c1 c2 sh tx s kp bw ar tu k0 k1 tr) {a : Nat} (ha : a < c2) (hc2 : c2 ≤ 3) {k : Nat} (hk : k < 2)  : ev_Cal G mX12_archer 2 0 0 [.ref 129, .int (nI a), .int (nI k)] n M (md_is M (.int (ar (2 * a + k))) tn c0 c1 c2 sh tx s kp bw ar tu k0 k1 tr) := by
  refine ev_Cal_of (L := [some (.ref 129), some (.int (nI a)), some (.int (nI k))]) (by decide +kernel) (Nat.le_of_ble_eq_true rfl) rfl ?_
  obtain ⟨th, nx, tk, pl, va, fa, d0, d1, d2, sp, of', ba, go, dr, ki, up, dn, dS, dB, dA, one, gof, dof, act, ik, h129, h130, h131, h132, h133, hk0, hk1, h134, h135, h136, h137, h138, h139, h140, h141, h142, h143, hsh⟩ := hM
  refine ev_track (l := [(129, md_o th tr (nI tn) nx tk pl va fa (nI c0) (nI c1) (nI c2) d0 d1 d2 sp of' ba go dr ki up dn), (130, .inl (0, 400, .inl tx)), (131, .inl (0, 386, .inl s)), (132, .inl (0, 772, .inl kp)), (133, .inl (1, 2, .inl ik)), (134, .inl (0, 6, .inl bw)), (135, .inl (0, 6, .inl ar)), (136, .inl (0, 84, .inl dS)), (137, .inl (0, 6, .inl dB)), (138, .inl (0, 6, .inl dA)), (139, .inl (0, 4, .inl tu)), (140, .inl (0, 7, .inl one)), (141, .inl (0, 24, .inl gof)), (142, .inl (0, 12, .inl dof)), (143, .inl (0, 5, .inl act))]) (ev_fa1 h129 (ev_fa1 h130 (ev_fa1 h131 (ev_fa1 h132 (ev_fa1 h133 (ev_fa1 h134 (ev_fa1 h135 (ev_fa1 h136 (ev_fa1 h137 (ev_fa1 h138 (ev_fa1 h139 (ev_fa1 h140 (ev_fa1 h141 (ev_fa1 h142 (ev_fa1 h143 (ev_fa0)))))))))))))))) ?_
  refine ev_aload_n (i := 0) dX12_archer_0 rfl rfl ?_
  refine ev_iconst (v := 0) dX12_archer_1 cni_0 ?_
  refine ev_putiP 0 dX12_archer_2 fpX12_53 (by rfl) (by rfl) (Nat.le_of_ble_eq_true rfl) (by rfl) (by rfl) ?_
  refine ev_iload_n (i := 1) dX12_archer_5 rfl rfl ?_
  refine ev_iconst (v := 0) dX12_archer_6 cni_0 ?_
  refine ev_aload_n (i := 0) dX12_archer_7 rfl rfl ?_
  refine ev_getf dX12_archer_8 flX12_133 (by rfl) (by rfl) ?_
  refine ev_iconst (v := 1) dX12_archer_11 cni_1 ?_
  refine ev_isub dX12_archer_12 ?_
  refine ev_c3 kX12_archer_13 (c13_in) trivial (by decide) (by decide) (Nat.le_of_ble_eq_true rfl) ?_
  refine ev_if_eqb (tgt := 41) dX12_archer_16 (by decide) (fun h16 => False.elim (Bool.false_ne_true (h16.symm.trans (sp_in_ix ha (by omega))))) (fun h16 => ?_)
  refine ev_iload_n (i := 2) dX12_archer_19 rfl rfl ?_
  refine ev_iconst (v := 0) dX12_archer_20 cni_0 ?_
  refine ev_iconst (v := 1) dX12_archer_21 cni_1 ?_
  refine ev_c3 kX12_archer_22 (c13_in) trivial (by decide) (by decide) (Nat.le_of_ble_eq_true rfl) ?_
  refine ev_if_eqb (tgt := 41) dX12_archer_25 (by decide) (fun h25 => False.elim (Bool.false_ne_true (h25.symm.trans (sp_in_t (nI_pos' (by omega)) (nI_le (a := k) (b := 1) (by omega) (by decide)))))) (fun h25 => ?_)
  refine ev_aload_n (i := 0) dX12_archer_28 rfl rfl ?_
  refine ev_getf dX12_archer_29 flX12_26 (by rfl) (by rfl) ?_
  refine ev_iconst (v := 2) dX12_archer_32 cni_2 ?_
  refine ev_iload_n (i := 1) dX12_archer_33 rfl rfl ?_
  refine ev_imul dX12_archer_34 ?_
  refine ev_iload_n (i := 2) dX12_archer_35 rfl rfl ?_
  refine ev_iadd dX12_archer_36 ?_
  refine ev_iald (j := 2 * a + k) dX12_archer_37 (by rfl) (ev_ix2 a k (by omega)) (by omega) ?_
  refine ev_goto (tgt := 43) dX12_archer_38 (by decide) ?_
  exact ev_reti dX12_archer_43 rfl rfl (⟨rfl, (md_fin hk0 hk1 hsh)⟩)
theorem m_archer_a {G : ev_G} {n : Nat} {M : ev_M} {tn c0 c1 c2 sh : Nat} {tx s kp bw ar tu : Nat → Int32} {k0 k1 : Bool} {tr : Int64} (hM : md_S M tn c0 c1 c2 sh tx s kp bw ar tu k0 k1 tr) (hc2 : c2 ≤ 3) {xa : Int32} (hxa : xa < 0 ∨ nI c2 ≤ xa) {w : Int32}  : ev_Cal G mX12_archer 2 0 0 [.ref 129, .int xa, .int w] n M (md_is M (.int (-1000000)) tn c0 c1 c2 sh tx s kp bw ar tu k0 k1 tr) := by
  refine ev_Cal_of (L := [some (.ref 129), some (.int xa), some (.int w)]) (by decide +kernel) (Nat.le_of_ble_eq_true rfl) rfl ?_
  obtain ⟨th, nx, tk, pl, va, fa, d0, d1, d2, sp, of', ba, go, dr, ki, up, dn, dS, dB, dA, one, gof, dof, act, ik, h129, h130, h131, h132, h133, hk0, hk1, h134, h135, h136, h137, h138, h139, h140, h141, h142, h143, hsh⟩ := hM
  refine ev_track (l := [(129, md_o th tr (nI tn) nx tk pl va fa (nI c0) (nI c1) (nI c2) d0 d1 d2 sp of' ba go dr ki up dn), (130, .inl (0, 400, .inl tx)), (131, .inl (0, 386, .inl s)), (132, .inl (0, 772, .inl kp)), (133, .inl (1, 2, .inl ik)), (134, .inl (0, 6, .inl bw)), (135, .inl (0, 6, .inl ar)), (136, .inl (0, 84, .inl dS)), (137, .inl (0, 6, .inl dB)), (138, .inl (0, 6, .inl dA)), (139, .inl (0, 4, .inl tu)), (140, .inl (0, 7, .inl one)), (141, .inl (0, 24, .inl gof)), (142, .inl (0, 12, .inl dof)), (143, .inl (0, 5, .inl act))]) (ev_fa1 h129 (ev_fa1 h130 (ev_fa1 h131 (ev_fa1 h132 (ev_fa1 h133 (ev_fa1 h134 (ev_fa1 h135 (ev_fa1 h136 (ev_fa1 h137 (ev_fa1 h138 (ev_fa1 h139 (ev_fa1 h140 (ev_fa1 h141 (ev_fa1 h142 (ev_fa1 h143 (ev_fa0)))))))))))))))) ?_
  refine ev_aload_n (i := 0) dX12_archer_0 rfl rfl ?_
  refine ev_iconst (v := 0) dX12_archer_1 cni_0 ?_
  refine ev_putiP 0 dX12_archer_2 fpX12_53 (by rfl) (by rfl) (Nat.le_of_ble_eq_true rfl) (by rfl) (by rfl) ?_
  refine ev_iload_n (i := 1) dX12_archer_5 rfl rfl ?_
  refine ev_iconst (v := 0) dX12_archer_6 cni_0 ?_
  refine ev_aload_n (i := 0) dX12_archer_7 rfl rfl ?_
  refine ev_getf dX12_archer_8 flX12_133 (by rfl) (by rfl) ?_
  refine ev_iconst (v := 1) dX12_archer_11 cni_1 ?_
  refine ev_isub dX12_archer_12 ?_
  refine ev_c3 kX12_archer_13 (c13_in) trivial (by decide) (by decide) (Nat.le_of_ble_eq_true rfl) ?_
  refine ev_if_eqb (tgt := 41) dX12_archer_16 (by decide) (fun h16 => ?_) (fun h16 => False.elim (Bool.false_ne_true ((sp_in_out (by omega) hxa).symm.trans h16)))
  refine ev_ldc dX12_archer_41 coX12_143 ?_
  exact ev_reti dX12_archer_43 rfl rfl (⟨rfl, (md_fin hk0 hk1 hsh)⟩)
theorem m_archer_w {G : ev_G} {n : Nat} {M : ev_M} {tn c0 c1 c2 sh : Nat} {tx s kp bw ar tu : Nat → Int32} {k0 k1 : Bool} {tr : Int64} (hM : md_S M tn c0 c1 c2 sh tx s kp bw ar tu k0 k1 tr) {a : Nat} (ha : a < c2) (hc2 : c2 ≤ 3) {w : Int32} (hw : w < 0 ∨ 1 < w)  : ev_Cal G mX12_archer 2 0 0 [.ref 129, .int (nI a), .int w] n M (md_is M (.int (-1000000)) tn c0 c1 c2 sh tx s kp bw ar tu k0 k1 tr) := by
  refine ev_Cal_of (L := [some (.ref 129), some (.int (nI a)), some (.int w)]) (by decide +kernel) (Nat.le_of_ble_eq_true rfl) rfl ?_
  obtain ⟨th, nx, tk, pl, va, fa, d0, d1, d2, sp, of', ba, go, dr, ki, up, dn, dS, dB, dA, one, gof, dof, act, ik, h129, h130, h131, h132, h133, hk0, hk1, h134, h135, h136, h137, h138, h139, h140, h141, h142, h143, hsh⟩ := hM
  refine ev_track (l := [(129, md_o th tr (nI tn) nx tk pl va fa (nI c0) (nI c1) (nI c2) d0 d1 d2 sp of' ba go dr ki up dn), (130, .inl (0, 400, .inl tx)), (131, .inl (0, 386, .inl s)), (132, .inl (0, 772, .inl kp)), (133, .inl (1, 2, .inl ik)), (134, .inl (0, 6, .inl bw)), (135, .inl (0, 6, .inl ar)), (136, .inl (0, 84, .inl dS)), (137, .inl (0, 6, .inl dB)), (138, .inl (0, 6, .inl dA)), (139, .inl (0, 4, .inl tu)), (140, .inl (0, 7, .inl one)), (141, .inl (0, 24, .inl gof)), (142, .inl (0, 12, .inl dof)), (143, .inl (0, 5, .inl act))]) (ev_fa1 h129 (ev_fa1 h130 (ev_fa1 h131 (ev_fa1 h132 (ev_fa1 h133 (ev_fa1 h134 (ev_fa1 h135 (ev_fa1 h136 (ev_fa1 h137 (ev_fa1 h138 (ev_fa1 h139 (ev_fa1 h140 (ev_fa1 h141 (ev_fa1 h142 (ev_fa1 h143 (ev_fa0)))))))))))))))) ?_
  refine ev_aload_n (i := 0) dX12_archer_0 rfl rfl ?_
  refine ev_iconst (v := 0) dX12_archer_1 cni_0 ?_
  refine ev_putiP 0 dX12_archer_2 fpX12_53 (by rfl) (by rfl) (Nat.le_of_ble_eq_true rfl) (by rfl) (by rfl) ?_
  refine ev_iload_n (i := 1) dX12_archer_5 rfl rfl ?_
  refine ev_iconst (v := 0) dX12_archer_6 cni_0 ?_
  refine ev_aload_n (i := 0) dX12_archer_7 rfl rfl ?_
  refine ev_getf dX12_archer_8 flX12_133 (by rfl) (by rfl) ?_
  refine ev_iconst (v := 1) dX12_archer_11 cni_1 ?_
  refine ev_isub dX12_archer_12 ?_
  refine ev_c3 kX12_archer_13 (c13_in) trivial (by decide) (by decide) (Nat.le_of_ble_eq_true rfl) ?_
  refine ev_if_eqb (tgt := 41) dX12_archer_16 (by decide) (fun h16 => False.elim (Bool.false_ne_true (h16.symm.trans (sp_in_ix ha (by omega))))) (fun h16 => ?_)
  refine ev_iload_n (i := 2) dX12_archer_19 rfl rfl ?_
  refine ev_iconst (v := 0) dX12_archer_20 cni_0 ?_
  refine ev_iconst (v := 1) dX12_archer_21 cni_1 ?_
  refine ev_c3 kX12_archer_22 (c13_in) trivial (by decide) (by decide) (Nat.le_of_ble_eq_true rfl) ?_
  refine ev_if_eqb (tgt := 41) dX12_archer_25 (by decide) (fun h25 => ?_) (fun h25 => False.elim (Bool.false_ne_true ((hw.elim sp_in_1 sp_in_2).symm.trans h25)))
  refine ev_ldc dX12_archer_41 coX12_143 ?_
  exact ev_reti dX12_archer_43 rfl rfl (⟨rfl, (md_fin hk0 hk1 hsh)⟩)
theorem m_cut {G : ev_G} {n : Nat} {M : ev_M} {tn c0 c1 c2 sh : Nat} {tx s kp bw ar tu : Nat → Int32} {k0 k1 : Bool} {tr : Int64} (hM : md_S M tn c0 c1 c2 sh tx s kp bw ar tu k0 k1 tr) {j : Nat} (hj : j < c0) (hc : c0 ≤ 12) (h80 : ¬ s (7 * j) = 80)  : ev_Cal G mX12_cut 3 0 0 [.ref 129, .int (nI j)] n M (md_is M (.int (s (7 * j) - 1)) tn c0 c1 c2 sh tx (upd s (7 * j) (s (7 * j) - 1)) kp bw ar tu k0 k1 tr) := by
  refine ev_Cal_of (L := [some (.ref 129), some (.int (nI j))]) (by decide +kernel) (Nat.le_of_ble_eq_true rfl) rfl ?_
  obtain ⟨th, nx, tk, pl, va, fa, d0, d1, d2, sp, of', ba, go, dr, ki, up, dn, dS, dB, dA, one, gof, dof, act, ik, h129, h130, h131, h132, h133, hk0, hk1, h134, h135, h136, h137, h138, h139, h140, h141, h142, h143, hsh⟩ := hM
  refine ev_track (l := [(129, md_o th tr (nI tn) nx tk pl va fa (nI c0) (nI c1) (nI c2) d0 d1 d2 sp of' ba go dr ki up dn), (130, .inl (0, 400, .inl tx)), (131, .inl (0, 386, .inl s)), (132, .inl (0, 772, .inl kp)), (133, .inl (1, 2, .inl ik)), (134, .inl (0, 6, .inl bw)), (135, .inl (0, 6, .inl ar)), (136, .inl (0, 84, .inl dS)), (137, .inl (0, 6, .inl dB)), (138, .inl (0, 6, .inl dA)), (139, .inl (0, 4, .inl tu)), (140, .inl (0, 7, .inl one)), (141, .inl (0, 24, .inl gof)), (142, .inl (0, 12, .inl dof)), (143, .inl (0, 5, .inl act))]) (ev_fa1 h129 (ev_fa1 h130 (ev_fa1 h131 (ev_fa1 h132 (ev_fa1 h133 (ev_fa1 h134 (ev_fa1 h135 (ev_fa1 h136 (ev_fa1 h137 (ev_fa1 h138 (ev_fa1 h139 (ev_fa1 h140 (ev_fa1 h141 (ev_fa1 h142 (ev_fa1 h143 (ev_fa0)))))))))))))))) ?_
  refine ev_aload_n (i := 0) dX12_cut_0 rfl rfl ?_
  refine ev_iconst (v := 0) dX12_cut_1 cni_0 ?_
  refine ev_putiP 0 dX12_cut_2 fpX12_53 (by rfl) (by rfl) (Nat.le_of_ble_eq_true rfl) (by rfl) (by rfl) ?_
  refine ev_aload_n (i := 0) dX12_cut_5 rfl rfl ?_
  refine ev_iload_n (i := 1) dX12_cut_6 rfl rfl ?_
  refine ev_c2 kX12_cut_7 (c13_isStick rfl) (ev_rv_of (by rfl) rfl rfl) (by decide) (by decide) (Nat.le_of_ble_eq_true rfl) ?_
  refine ev_if_neb (tgt := 15) dX12_cut_10 (by decide) (fun h10 => ?_) (fun h10 => False.elim (Bool.false_ne_true (h10.symm.trans (sp_in_ix hj (by omega)))))
  refine ev_aload_n (i := 0) dX12_cut_15 rfl rfl ?_
  refine ev_getf dX12_cut_16 flX12_13 (by rfl) (by rfl) ?_
  refine ev_bipush (v := 7) dX12_cut_19 cnb_7 ?_
  refine ev_iload_n (i := 1) dX12_cut_21 rfl rfl ?_
  refine ev_imul dX12_cut_22 ?_
  refine ev_iconst (v := 0) dX12_cut_23 cni_0 ?_
  refine ev_iadd dX12_cut_24 ?_
  refine ev_iald (j := 7 * j) dX12_cut_25 (by rfl) (ev_ix7 j 0 (by omega)) (by omega) ?_
  refine ev_bipush (v := 80) dX12_cut_26 cnb_80 ?_
  refine ev_icmp_ne (tgt := 34) dX12_cut_28 (by decide) (fun h28 => ?_) (fun h28 => False.elim (h80 h28))
  refine ev_aload_n (i := 0) dX12_cut_34 rfl rfl ?_
  refine ev_getf dX12_cut_35 flX12_13 (by rfl) (by rfl) ?_
  refine ev_bipush (v := 7) dX12_cut_38 cnb_7 ?_
  refine ev_iload_n (i := 1) dX12_cut_40 rfl rfl ?_
  refine ev_imul dX12_cut_41 ?_
  refine ev_iconst (v := 0) dX12_cut_42 cni_0 ?_
  refine ev_iadd dX12_cut_43 ?_
  refine ev_dup2 dX12_cut_44 rfl rfl ?_
  refine ev_iald (j := 7 * j) dX12_cut_45 (by rfl) (ev_ix7 j 0 (by omega)) (by omega) ?_
  refine ev_iconst (v := 1) dX12_cut_46 cni_1 ?_
  refine ev_isub dX12_cut_47 ?_
  refine ev_iastP 2 (j := 7 * j) dX12_cut_48 (by rfl) (by rfl) (ev_ix7 j 0 (by omega)) (by omega) (by rfl) (by rfl) ?_
  refine ev_aload_n (i := 0) dX12_cut_49 rfl rfl ?_
  refine ev_getf dX12_cut_50 flX12_13 (by rfl) (by rfl) ?_
  refine ev_bipush (v := 7) dX12_cut_53 cnb_7 ?_
  refine ev_iload_n (i := 1) dX12_cut_55 rfl rfl ?_
  refine ev_imul dX12_cut_56 ?_
  refine ev_iconst (v := 0) dX12_cut_57 cni_0 ?_
  refine ev_iadd dX12_cut_58 ?_
  refine ev_iald (j := 7 * j) dX12_cut_59 (by rfl) (ev_ix7 j 0 (by omega)) (by omega) ?_
  exact ev_reti dX12_cut_60 rfl rfl (⟨congrArg (fun z => some (Value.int z)) (if_pos rfl), md_fin hk0 hk1 ((show upd s (7 * j) (s (7 * j) - 1) 85 = s 85 from by simp only [upd]; repeat rw [if_neg (by omega)]).trans hsh)⟩)
theorem m_cut_no {G : ev_G} {n : Nat} {M : ev_M} {tn c0 c1 c2 sh : Nat} {tx s kp bw ar tu : Nat → Int32} {k0 k1 : Bool} {tr : Int64} (hM : md_S M tn c0 c1 c2 sh tx s kp bw ar tu k0 k1 tr) {j : Nat} (hj : j < c0) (hc : c0 ≤ 12) (h80 : s (7 * j) = 80)  : ev_Cal G mX12_cut 3 0 0 [.ref 129, .int (nI j)] n M (md_is M (.int (-2)) tn c0 c1 c2 sh tx s kp bw ar tu k0 k1 tr) := by
  refine ev_Cal_of (L := [some (.ref 129), some (.int (nI j))]) (by decide +kernel) (Nat.le_of_ble_eq_true rfl) rfl ?_
  obtain ⟨th, nx, tk, pl, va, fa, d0, d1, d2, sp, of', ba, go, dr, ki, up, dn, dS, dB, dA, one, gof, dof, act, ik, h129, h130, h131, h132, h133, hk0, hk1, h134, h135, h136, h137, h138, h139, h140, h141, h142, h143, hsh⟩ := hM
  refine ev_track (l := [(129, md_o th tr (nI tn) nx tk pl va fa (nI c0) (nI c1) (nI c2) d0 d1 d2 sp of' ba go dr ki up dn), (130, .inl (0, 400, .inl tx)), (131, .inl (0, 386, .inl s)), (132, .inl (0, 772, .inl kp)), (133, .inl (1, 2, .inl ik)), (134, .inl (0, 6, .inl bw)), (135, .inl (0, 6, .inl ar)), (136, .inl (0, 84, .inl dS)), (137, .inl (0, 6, .inl dB)), (138, .inl (0, 6, .inl dA)), (139, .inl (0, 4, .inl tu)), (140, .inl (0, 7, .inl one)), (141, .inl (0, 24, .inl gof)), (142, .inl (0, 12, .inl dof)), (143, .inl (0, 5, .inl act))]) (ev_fa1 h129 (ev_fa1 h130 (ev_fa1 h131 (ev_fa1 h132 (ev_fa1 h133 (ev_fa1 h134 (ev_fa1 h135 (ev_fa1 h136 (ev_fa1 h137 (ev_fa1 h138 (ev_fa1 h139 (ev_fa1 h140 (ev_fa1 h141 (ev_fa1 h142 (ev_fa1 h143 (ev_fa0)))))))))))))))) ?_
  refine ev_aload_n (i := 0) dX12_cut_0 rfl rfl ?_
  refine ev_iconst (v := 0) dX12_cut_1 cni_0 ?_
  refine ev_putiP 0 dX12_cut_2 fpX12_53 (by rfl) (by rfl) (Nat.le_of_ble_eq_true rfl) (by rfl) (by rfl) ?_
  refine ev_aload_n (i := 0) dX12_cut_5 rfl rfl ?_
  refine ev_iload_n (i := 1) dX12_cut_6 rfl rfl ?_
  refine ev_c2 kX12_cut_7 (c13_isStick rfl) (ev_rv_of (by rfl) rfl rfl) (by decide) (by decide) (Nat.le_of_ble_eq_true rfl) ?_
  refine ev_if_neb (tgt := 15) dX12_cut_10 (by decide) (fun h10 => ?_) (fun h10 => False.elim (Bool.false_ne_true (h10.symm.trans (sp_in_ix hj (by omega)))))
  refine ev_aload_n (i := 0) dX12_cut_15 rfl rfl ?_
  refine ev_getf dX12_cut_16 flX12_13 (by rfl) (by rfl) ?_
  refine ev_bipush (v := 7) dX12_cut_19 cnb_7 ?_
  refine ev_iload_n (i := 1) dX12_cut_21 rfl rfl ?_
  refine ev_imul dX12_cut_22 ?_
  refine ev_iconst (v := 0) dX12_cut_23 cni_0 ?_
  refine ev_iadd dX12_cut_24 ?_
  refine ev_iald (j := 7 * j) dX12_cut_25 (by rfl) (ev_ix7 j 0 (by omega)) (by omega) ?_
  refine ev_bipush (v := 80) dX12_cut_26 cnb_80 ?_
  refine ev_icmp_ne (tgt := 34) dX12_cut_28 (by decide) (fun h28 => False.elim (h28 h80)) (fun h28 => ?_)
  refine ev_bipush (v := (-2)) dX12_cut_31 cnb_m2 ?_
  exact ev_reti dX12_cut_33 rfl rfl (⟨rfl, (md_fin hk0 hk1 hsh)⟩)
theorem m_cut_i {G : ev_G} {n : Nat} {M : ev_M} {tn c0 c1 c2 sh : Nat} {tx s kp bw ar tu : Nat → Int32} {k0 k1 : Bool} {tr : Int64} (hM : md_S M tn c0 c1 c2 sh tx s kp bw ar tu k0 k1 tr) (hc : c0 ≤ 12) {x : Int32} (hx : x < 0 ∨ nI c0 ≤ x)  : ev_Cal G mX12_cut 3 0 0 [.ref 129, .int x] n M (md_is M (.int (-1)) tn c0 c1 c2 sh tx s kp bw ar tu k0 k1 tr) := by
  refine ev_Cal_of (L := [some (.ref 129), some (.int x)]) (by decide +kernel) (Nat.le_of_ble_eq_true rfl) rfl ?_
  obtain ⟨th, nx, tk, pl, va, fa, d0, d1, d2, sp, of', ba, go, dr, ki, up, dn, dS, dB, dA, one, gof, dof, act, ik, h129, h130, h131, h132, h133, hk0, hk1, h134, h135, h136, h137, h138, h139, h140, h141, h142, h143, hsh⟩ := hM
  refine ev_track (l := [(129, md_o th tr (nI tn) nx tk pl va fa (nI c0) (nI c1) (nI c2) d0 d1 d2 sp of' ba go dr ki up dn), (130, .inl (0, 400, .inl tx)), (131, .inl (0, 386, .inl s)), (132, .inl (0, 772, .inl kp)), (133, .inl (1, 2, .inl ik)), (134, .inl (0, 6, .inl bw)), (135, .inl (0, 6, .inl ar)), (136, .inl (0, 84, .inl dS)), (137, .inl (0, 6, .inl dB)), (138, .inl (0, 6, .inl dA)), (139, .inl (0, 4, .inl tu)), (140, .inl (0, 7, .inl one)), (141, .inl (0, 24, .inl gof)), (142, .inl (0, 12, .inl dof)), (143, .inl (0, 5, .inl act))]) (ev_fa1 h129 (ev_fa1 h130 (ev_fa1 h131 (ev_fa1 h132 (ev_fa1 h133 (ev_fa1 h134 (ev_fa1 h135 (ev_fa1 h136 (ev_fa1 h137 (ev_fa1 h138 (ev_fa1 h139 (ev_fa1 h140 (ev_fa1 h141 (ev_fa1 h142 (ev_fa1 h143 (ev_fa0)))))))))))))))) ?_
  refine ev_aload_n (i := 0) dX12_cut_0 rfl rfl ?_
  refine ev_iconst (v := 0) dX12_cut_1 cni_0 ?_
  refine ev_putiP 0 dX12_cut_2 fpX12_53 (by rfl) (by rfl) (Nat.le_of_ble_eq_true rfl) (by rfl) (by rfl) ?_
  refine ev_aload_n (i := 0) dX12_cut_5 rfl rfl ?_
  refine ev_iload_n (i := 1) dX12_cut_6 rfl rfl ?_
  refine ev_c2 kX12_cut_7 (c13_isStick rfl) (ev_rv_of (by rfl) rfl rfl) (by decide) (by decide) (Nat.le_of_ble_eq_true rfl) ?_
  refine ev_if_neb (tgt := 15) dX12_cut_10 (by decide) (fun h10 => False.elim (Bool.false_ne_true ((sp_in_out (by omega) hx).symm.trans h10))) (fun h10 => ?_)
  refine ev_iconst (v := (-1)) dX12_cut_13 cni_m1 ?_
  exact ev_reti dX12_cut_14 rfl rfl (⟨rfl, (md_fin hk0 hk1 hsh)⟩)
theorem m_scrape_i {G : ev_G} {n : Nat} {M : ev_M} {tn c0 c1 c2 sh : Nat} {tx s kp bw ar tu : Nat → Int32} {k0 k1 : Bool} {tr : Int64} (hM : md_S M tn c0 c1 c2 sh tx s kp bw ar tu k0 k1 tr) (hc : c0 ≤ 12) {x : Int32} (hx : x < 0 ∨ nI c0 ≤ x)  : ev_Cal G mX12_scrape 3 0 0 [.ref 129, .int x] n M (md_is M (.int (-1)) tn c0 c1 c2 sh tx s kp bw ar tu k0 k1 tr) := by
  refine ev_Cal_of (L := [some (.ref 129), some (.int x), none]) (by decide +kernel) (Nat.le_of_ble_eq_true rfl) rfl ?_
  obtain ⟨th, nx, tk, pl, va, fa, d0, d1, d2, sp, of', ba, go, dr, ki, up, dn, dS, dB, dA, one, gof, dof, act, ik, h129, h130, h131, h132, h133, hk0, hk1, h134, h135, h136, h137, h138, h139, h140, h141, h142, h143, hsh⟩ := hM
  refine ev_track (l := [(129, md_o th tr (nI tn) nx tk pl va fa (nI c0) (nI c1) (nI c2) d0 d1 d2 sp of' ba go dr ki up dn), (130, .inl (0, 400, .inl tx)), (131, .inl (0, 386, .inl s)), (132, .inl (0, 772, .inl kp)), (133, .inl (1, 2, .inl ik)), (134, .inl (0, 6, .inl bw)), (135, .inl (0, 6, .inl ar)), (136, .inl (0, 84, .inl dS)), (137, .inl (0, 6, .inl dB)), (138, .inl (0, 6, .inl dA)), (139, .inl (0, 4, .inl tu)), (140, .inl (0, 7, .inl one)), (141, .inl (0, 24, .inl gof)), (142, .inl (0, 12, .inl dof)), (143, .inl (0, 5, .inl act))]) (ev_fa1 h129 (ev_fa1 h130 (ev_fa1 h131 (ev_fa1 h132 (ev_fa1 h133 (ev_fa1 h134 (ev_fa1 h135 (ev_fa1 h136 (ev_fa1 h137 (ev_fa1 h138 (ev_fa1 h139 (ev_fa1 h140 (ev_fa1 h141 (ev_fa1 h142 (ev_fa1 h143 (ev_fa0)))))))))))))))) ?_
  refine ev_aload_n (i := 0) dX12_scrape_0 rfl rfl ?_
  refine ev_iconst (v := 0) dX12_scrape_1 cni_0 ?_
  refine ev_putiP 0 dX12_scrape_2 fpX12_53 (by rfl) (by rfl) (Nat.le_of_ble_eq_true rfl) (by rfl) (by rfl) ?_
  refine ev_aload_n (i := 0) dX12_scrape_5 rfl rfl ?_
  refine ev_iload_n (i := 1) dX12_scrape_6 rfl rfl ?_
  refine ev_c2 kX12_scrape_7 (c13_isStick rfl) (ev_rv_of (by rfl) rfl rfl) (by decide) (by decide) (Nat.le_of_ble_eq_true rfl) ?_
  refine ev_if_neb (tgt := 15) dX12_scrape_10 (by decide) (fun h10 => False.elim (Bool.false_ne_true ((sp_in_out (by omega) hx).symm.trans h10))) (fun h10 => ?_)
  refine ev_iconst (v := (-1)) dX12_scrape_13 cni_m1 ?_
  exact ev_reti dX12_scrape_14 rfl rfl (⟨rfl, (md_fin hk0 hk1 hsh)⟩)
theorem m_load_i {G : ev_G} {n : Nat} {M : ev_M} {tn c0 c1 c2 sh : Nat} {tx s kp bw ar tu : Nat → Int32} {k0 k1 : Bool} {tr : Int64} (hM : md_S M tn c0 c1 c2 sh tx s kp bw ar tu k0 k1 tr) (hc : c0 ≤ 12) {x : Int32} (hx : x < 0 ∨ nI c0 ≤ x)  : ev_Cal G mX12_load 3 0 0 [.ref 129, .int x] n M (md_is M (.int (-1)) tn c0 c1 c2 sh tx s kp bw ar tu k0 k1 tr) := by
  refine ev_Cal_of (L := [some (.ref 129), some (.int x)]) (by decide +kernel) (Nat.le_of_ble_eq_true rfl) rfl ?_
  obtain ⟨th, nx, tk, pl, va, fa, d0, d1, d2, sp, of', ba, go, dr, ki, up, dn, dS, dB, dA, one, gof, dof, act, ik, h129, h130, h131, h132, h133, hk0, hk1, h134, h135, h136, h137, h138, h139, h140, h141, h142, h143, hsh⟩ := hM
  refine ev_track (l := [(129, md_o th tr (nI tn) nx tk pl va fa (nI c0) (nI c1) (nI c2) d0 d1 d2 sp of' ba go dr ki up dn), (130, .inl (0, 400, .inl tx)), (131, .inl (0, 386, .inl s)), (132, .inl (0, 772, .inl kp)), (133, .inl (1, 2, .inl ik)), (134, .inl (0, 6, .inl bw)), (135, .inl (0, 6, .inl ar)), (136, .inl (0, 84, .inl dS)), (137, .inl (0, 6, .inl dB)), (138, .inl (0, 6, .inl dA)), (139, .inl (0, 4, .inl tu)), (140, .inl (0, 7, .inl one)), (141, .inl (0, 24, .inl gof)), (142, .inl (0, 12, .inl dof)), (143, .inl (0, 5, .inl act))]) (ev_fa1 h129 (ev_fa1 h130 (ev_fa1 h131 (ev_fa1 h132 (ev_fa1 h133 (ev_fa1 h134 (ev_fa1 h135 (ev_fa1 h136 (ev_fa1 h137 (ev_fa1 h138 (ev_fa1 h139 (ev_fa1 h140 (ev_fa1 h141 (ev_fa1 h142 (ev_fa1 h143 (ev_fa0)))))))))))))))) ?_
  refine ev_aload_n (i := 0) dX12_load_0 rfl rfl ?_
  refine ev_iconst (v := 0) dX12_load_1 cni_0 ?_
  refine ev_putiP 0 dX12_load_2 fpX12_53 (by rfl) (by rfl) (Nat.le_of_ble_eq_true rfl) (by rfl) (by rfl) ?_
  refine ev_aload_n (i := 0) dX12_load_5 rfl rfl ?_
  refine ev_iload_n (i := 1) dX12_load_6 rfl rfl ?_
  refine ev_c2 kX12_load_7 (c13_isStick rfl) (ev_rv_of (by rfl) rfl rfl) (by decide) (by decide) (Nat.le_of_ble_eq_true rfl) ?_
  refine ev_if_neb (tgt := 15) dX12_load_10 (by decide) (fun h10 => False.elim (Bool.false_ne_true ((sp_in_out (by omega) hx).symm.trans h10))) (fun h10 => ?_)
  refine ev_iconst (v := (-1)) dX12_load_13 cni_m1 ?_
  exact ev_reti dX12_load_14 rfl rfl (⟨rfl, (md_fin hk0 hk1 hsh)⟩)
theorem m_turn_i {G : ev_G} {n : Nat} {M : ev_M} {tn c0 c1 c2 sh : Nat} {tx s kp bw ar tu : Nat → Int32} {k0 k1 : Bool} {tr : Int64} (hM : md_S M tn c0 c1 c2 sh tx s kp bw ar tu k0 k1 tr) (hc : c0 ≤ 12) {x : Int32} (hx : x < 0 ∨ nI c0 ≤ x)  : ev_Cal G mX12_turn 3 0 0 [.ref 129, .int x] n M (md_is M (.int (-1)) tn c0 c1 c2 sh tx s kp bw ar tu k0 k1 tr) := by
  refine ev_Cal_of (L := [some (.ref 129), some (.int x)]) (by decide +kernel) (Nat.le_of_ble_eq_true rfl) rfl ?_
  obtain ⟨th, nx, tk, pl, va, fa, d0, d1, d2, sp, of', ba, go, dr, ki, up, dn, dS, dB, dA, one, gof, dof, act, ik, h129, h130, h131, h132, h133, hk0, hk1, h134, h135, h136, h137, h138, h139, h140, h141, h142, h143, hsh⟩ := hM
  refine ev_track (l := [(129, md_o th tr (nI tn) nx tk pl va fa (nI c0) (nI c1) (nI c2) d0 d1 d2 sp of' ba go dr ki up dn), (130, .inl (0, 400, .inl tx)), (131, .inl (0, 386, .inl s)), (132, .inl (0, 772, .inl kp)), (133, .inl (1, 2, .inl ik)), (134, .inl (0, 6, .inl bw)), (135, .inl (0, 6, .inl ar)), (136, .inl (0, 84, .inl dS)), (137, .inl (0, 6, .inl dB)), (138, .inl (0, 6, .inl dA)), (139, .inl (0, 4, .inl tu)), (140, .inl (0, 7, .inl one)), (141, .inl (0, 24, .inl gof)), (142, .inl (0, 12, .inl dof)), (143, .inl (0, 5, .inl act))]) (ev_fa1 h129 (ev_fa1 h130 (ev_fa1 h131 (ev_fa1 h132 (ev_fa1 h133 (ev_fa1 h134 (ev_fa1 h135 (ev_fa1 h136 (ev_fa1 h137 (ev_fa1 h138 (ev_fa1 h139 (ev_fa1 h140 (ev_fa1 h141 (ev_fa1 h142 (ev_fa1 h143 (ev_fa0)))))))))))))))) ?_
  refine ev_aload_n (i := 0) dX12_turn_0 rfl rfl ?_
  refine ev_iconst (v := 0) dX12_turn_1 cni_0 ?_
  refine ev_putiP 0 dX12_turn_2 fpX12_53 (by rfl) (by rfl) (Nat.le_of_ble_eq_true rfl) (by rfl) (by rfl) ?_
  refine ev_aload_n (i := 0) dX12_turn_5 rfl rfl ?_
  refine ev_iload_n (i := 1) dX12_turn_6 rfl rfl ?_
  refine ev_c2 kX12_turn_7 (c13_isStick rfl) (ev_rv_of (by rfl) rfl rfl) (by decide) (by decide) (Nat.le_of_ble_eq_true rfl) ?_
  refine ev_if_neb (tgt := 15) dX12_turn_10 (by decide) (fun h10 => False.elim (Bool.false_ne_true ((sp_in_out (by omega) hx).symm.trans h10))) (fun h10 => ?_)
  refine ev_iconst (v := (-1)) dX12_turn_13 cni_m1 ?_
  exact ev_reti dX12_turn_14 rfl rfl (⟨rfl, (md_fin hk0 hk1 hsh)⟩)
theorem m_load {G : ev_G} {n : Nat} {M : ev_M} {tn c0 c1 c2 sh : Nat} {tx s kp bw ar tu : Nat → Int32} {k0 k1 : Bool} {tr : Int64} (hM : md_S M tn c0 c1 c2 sh tx s kp bw ar tu k0 k1 tr) {j : Nat} (hj : j < c0) (hc : c0 ≤ 12) (h5 : s (7 * j + 4) + 5 ≤ 200)  : ev_Cal G mX12_load 3 0 0 [.ref 129, .int (nI j)] n M (md_is M (.int (s (7 * j + 4) + 5)) tn c0 c1 c2 sh tx (upd s (7 * j + 4) (s (7 * j + 4) + 5)) kp bw ar tu k0 k1 tr) := by
  refine ev_Cal_of (L := [some (.ref 129), some (.int (nI j))]) (by decide +kernel) (Nat.le_of_ble_eq_true rfl) rfl ?_
  obtain ⟨th, nx, tk, pl, va, fa, d0, d1, d2, sp, of', ba, go, dr, ki, up, dn, dS, dB, dA, one, gof, dof, act, ik, h129, h130, h131, h132, h133, hk0, hk1, h134, h135, h136, h137, h138, h139, h140, h141, h142, h143, hsh⟩ := hM
  refine ev_track (l := [(129, md_o th tr (nI tn) nx tk pl va fa (nI c0) (nI c1) (nI c2) d0 d1 d2 sp of' ba go dr ki up dn), (130, .inl (0, 400, .inl tx)), (131, .inl (0, 386, .inl s)), (132, .inl (0, 772, .inl kp)), (133, .inl (1, 2, .inl ik)), (134, .inl (0, 6, .inl bw)), (135, .inl (0, 6, .inl ar)), (136, .inl (0, 84, .inl dS)), (137, .inl (0, 6, .inl dB)), (138, .inl (0, 6, .inl dA)), (139, .inl (0, 4, .inl tu)), (140, .inl (0, 7, .inl one)), (141, .inl (0, 24, .inl gof)), (142, .inl (0, 12, .inl dof)), (143, .inl (0, 5, .inl act))]) (ev_fa1 h129 (ev_fa1 h130 (ev_fa1 h131 (ev_fa1 h132 (ev_fa1 h133 (ev_fa1 h134 (ev_fa1 h135 (ev_fa1 h136 (ev_fa1 h137 (ev_fa1 h138 (ev_fa1 h139 (ev_fa1 h140 (ev_fa1 h141 (ev_fa1 h142 (ev_fa1 h143 (ev_fa0)))))))))))))))) ?_
  refine ev_aload_n (i := 0) dX12_load_0 rfl rfl ?_
  refine ev_iconst (v := 0) dX12_load_1 cni_0 ?_
  refine ev_putiP 0 dX12_load_2 fpX12_53 (by rfl) (by rfl) (Nat.le_of_ble_eq_true rfl) (by rfl) (by rfl) ?_
  refine ev_aload_n (i := 0) dX12_load_5 rfl rfl ?_
  refine ev_iload_n (i := 1) dX12_load_6 rfl rfl ?_
  refine ev_c2 kX12_load_7 (c13_isStick rfl) (ev_rv_of (by rfl) rfl rfl) (by decide) (by decide) (Nat.le_of_ble_eq_true rfl) ?_
  refine ev_if_neb (tgt := 15) dX12_load_10 (by decide) (fun h10 => ?_) (fun h10 => False.elim (Bool.false_ne_true (h10.symm.trans (sp_in_ix hj (by omega)))))
  refine ev_aload_n (i := 0) dX12_load_15 rfl rfl ?_
  refine ev_getf dX12_load_16 flX12_13 (by rfl) (by rfl) ?_
  refine ev_bipush (v := 7) dX12_load_19 cnb_7 ?_
  refine ev_iload_n (i := 1) dX12_load_21 rfl rfl ?_
  refine ev_imul dX12_load_22 ?_
  refine ev_iconst (v := 4) dX12_load_23 cni_4 ?_
  refine ev_iadd dX12_load_24 ?_
  refine ev_iald (j := 7 * j + 4) dX12_load_25 (by rfl) (ev_ix7 j 4 (by omega)) (by omega) ?_
  refine ev_iconst (v := 5) dX12_load_26 cni_5 ?_
  refine ev_iadd dX12_load_27 ?_
  refine ev_sipush (v := 200) dX12_load_28 cns_200 ?_
  refine ev_icmp_le (tgt := 37) dX12_load_31 (by decide) (fun h31 => ?_) (fun h31 => False.elim (Int32.not_le.mpr h31 h5))
  refine ev_aload_n (i := 0) dX12_load_37 rfl rfl ?_
  refine ev_getf dX12_load_38 flX12_13 (by rfl) (by rfl) ?_
  refine ev_bipush (v := 7) dX12_load_41 cnb_7 ?_
  refine ev_iload_n (i := 1) dX12_load_43 rfl rfl ?_
  refine ev_imul dX12_load_44 ?_
  refine ev_iconst (v := 4) dX12_load_45 cni_4 ?_
  refine ev_iadd dX12_load_46 ?_
  refine ev_dup2 dX12_load_47 rfl rfl ?_
  refine ev_iald (j := 7 * j + 4) dX12_load_48 (by rfl) (ev_ix7 j 4 (by omega)) (by omega) ?_
  refine ev_iconst (v := 5) dX12_load_49 cni_5 ?_
  refine ev_iadd dX12_load_50 ?_
  refine ev_iastP 2 (j := 7 * j + 4) dX12_load_51 (by rfl) (by rfl) (ev_ix7 j 4 (by omega)) (by omega) (by rfl) (by rfl) ?_
  refine ev_aload_n (i := 0) dX12_load_52 rfl rfl ?_
  refine ev_getf dX12_load_53 flX12_13 (by rfl) (by rfl) ?_
  refine ev_bipush (v := 7) dX12_load_56 cnb_7 ?_
  refine ev_iload_n (i := 1) dX12_load_58 rfl rfl ?_
  refine ev_imul dX12_load_59 ?_
  refine ev_iconst (v := 4) dX12_load_60 cni_4 ?_
  refine ev_iadd dX12_load_61 ?_
  refine ev_iald (j := 7 * j + 4) dX12_load_62 (by rfl) (ev_ix7 j 4 (by omega)) (by omega) ?_
  exact ev_reti dX12_load_63 rfl rfl (⟨congrArg (fun z => some (Value.int z)) (if_pos rfl), md_fin hk0 hk1 ((show upd s (7 * j + 4) (s (7 * j + 4) + 5) 85 = s 85 from by simp only [upd]; repeat rw [if_neg (by omega)]).trans hsh)⟩)
theorem m_load_no {G : ev_G} {n : Nat} {M : ev_M} {tn c0 c1 c2 sh : Nat} {tx s kp bw ar tu : Nat → Int32} {k0 k1 : Bool} {tr : Int64} (hM : md_S M tn c0 c1 c2 sh tx s kp bw ar tu k0 k1 tr) {j : Nat} (hj : j < c0) (hc : c0 ≤ 12) (h5 : 200 < s (7 * j + 4) + 5)  : ev_Cal G mX12_load 3 0 0 [.ref 129, .int (nI j)] n M (md_is M (.int (-2)) tn c0 c1 c2 sh tx s kp bw ar tu k0 k1 tr) := by
  refine ev_Cal_of (L := [some (.ref 129), some (.int (nI j))]) (by decide +kernel) (Nat.le_of_ble_eq_true rfl) rfl ?_
  obtain ⟨th, nx, tk, pl, va, fa, d0, d1, d2, sp, of', ba, go, dr, ki, up, dn, dS, dB, dA, one, gof, dof, act, ik, h129, h130, h131, h132, h133, hk0, hk1, h134, h135, h136, h137, h138, h139, h140, h141, h142, h143, hsh⟩ := hM
  refine ev_track (l := [(129, md_o th tr (nI tn) nx tk pl va fa (nI c0) (nI c1) (nI c2) d0 d1 d2 sp of' ba go dr ki up dn), (130, .inl (0, 400, .inl tx)), (131, .inl (0, 386, .inl s)), (132, .inl (0, 772, .inl kp)), (133, .inl (1, 2, .inl ik)), (134, .inl (0, 6, .inl bw)), (135, .inl (0, 6, .inl ar)), (136, .inl (0, 84, .inl dS)), (137, .inl (0, 6, .inl dB)), (138, .inl (0, 6, .inl dA)), (139, .inl (0, 4, .inl tu)), (140, .inl (0, 7, .inl one)), (141, .inl (0, 24, .inl gof)), (142, .inl (0, 12, .inl dof)), (143, .inl (0, 5, .inl act))]) (ev_fa1 h129 (ev_fa1 h130 (ev_fa1 h131 (ev_fa1 h132 (ev_fa1 h133 (ev_fa1 h134 (ev_fa1 h135 (ev_fa1 h136 (ev_fa1 h137 (ev_fa1 h138 (ev_fa1 h139 (ev_fa1 h140 (ev_fa1 h141 (ev_fa1 h142 (ev_fa1 h143 (ev_fa0)))))))))))))))) ?_
  refine ev_aload_n (i := 0) dX12_load_0 rfl rfl ?_
  refine ev_iconst (v := 0) dX12_load_1 cni_0 ?_
  refine ev_putiP 0 dX12_load_2 fpX12_53 (by rfl) (by rfl) (Nat.le_of_ble_eq_true rfl) (by rfl) (by rfl) ?_
  refine ev_aload_n (i := 0) dX12_load_5 rfl rfl ?_
  refine ev_iload_n (i := 1) dX12_load_6 rfl rfl ?_
  refine ev_c2 kX12_load_7 (c13_isStick rfl) (ev_rv_of (by rfl) rfl rfl) (by decide) (by decide) (Nat.le_of_ble_eq_true rfl) ?_
  refine ev_if_neb (tgt := 15) dX12_load_10 (by decide) (fun h10 => ?_) (fun h10 => False.elim (Bool.false_ne_true (h10.symm.trans (sp_in_ix hj (by omega)))))
  refine ev_aload_n (i := 0) dX12_load_15 rfl rfl ?_
  refine ev_getf dX12_load_16 flX12_13 (by rfl) (by rfl) ?_
  refine ev_bipush (v := 7) dX12_load_19 cnb_7 ?_
  refine ev_iload_n (i := 1) dX12_load_21 rfl rfl ?_
  refine ev_imul dX12_load_22 ?_
  refine ev_iconst (v := 4) dX12_load_23 cni_4 ?_
  refine ev_iadd dX12_load_24 ?_
  refine ev_iald (j := 7 * j + 4) dX12_load_25 (by rfl) (ev_ix7 j 4 (by omega)) (by omega) ?_
  refine ev_iconst (v := 5) dX12_load_26 cni_5 ?_
  refine ev_iadd dX12_load_27 ?_
  refine ev_sipush (v := 200) dX12_load_28 cns_200 ?_
  refine ev_icmp_le (tgt := 37) dX12_load_31 (by decide) (fun h31 => False.elim (Int32.not_le.mpr h5 h31)) (fun h31 => ?_)
  refine ev_bipush (v := (-2)) dX12_load_34 cnb_m2 ?_
  exact ev_reti dX12_load_36 rfl rfl (⟨rfl, (md_fin hk0 hk1 hsh)⟩)
theorem m_turn {G : ev_G} {n : Nat} {M : ev_M} {tn c0 c1 c2 sh : Nat} {tx s kp bw ar tu : Nat → Int32} {k0 k1 : Bool} {tr : Int64} (hM : md_S M tn c0 c1 c2 sh tx s kp bw ar tu k0 k1 tr) {j : Nat} (hj : j < c0) (hc : c0 ≤ 12)  : ev_Cal G mX12_turn 3 0 0 [.ref 129, .int (nI j)] n M (md_is M (.int (1 - s (7 * j + 6))) tn c0 c1 c2 sh tx (upd s (7 * j + 6) (1 - s (7 * j + 6))) kp bw ar tu k0 k1 tr) := by
  refine ev_Cal_of (L := [some (.ref 129), some (.int (nI j))]) (by decide +kernel) (Nat.le_of_ble_eq_true rfl) rfl ?_
  obtain ⟨th, nx, tk, pl, va, fa, d0, d1, d2, sp, of', ba, go, dr, ki, up, dn, dS, dB, dA, one, gof, dof, act, ik, h129, h130, h131, h132, h133, hk0, hk1, h134, h135, h136, h137, h138, h139, h140, h141, h142, h143, hsh⟩ := hM
  refine ev_track (l := [(129, md_o th tr (nI tn) nx tk pl va fa (nI c0) (nI c1) (nI c2) d0 d1 d2 sp of' ba go dr ki up dn), (130, .inl (0, 400, .inl tx)), (131, .inl (0, 386, .inl s)), (132, .inl (0, 772, .inl kp)), (133, .inl (1, 2, .inl ik)), (134, .inl (0, 6, .inl bw)), (135, .inl (0, 6, .inl ar)), (136, .inl (0, 84, .inl dS)), (137, .inl (0, 6, .inl dB)), (138, .inl (0, 6, .inl dA)), (139, .inl (0, 4, .inl tu)), (140, .inl (0, 7, .inl one)), (141, .inl (0, 24, .inl gof)), (142, .inl (0, 12, .inl dof)), (143, .inl (0, 5, .inl act))]) (ev_fa1 h129 (ev_fa1 h130 (ev_fa1 h131 (ev_fa1 h132 (ev_fa1 h133 (ev_fa1 h134 (ev_fa1 h135 (ev_fa1 h136 (ev_fa1 h137 (ev_fa1 h138 (ev_fa1 h139 (ev_fa1 h140 (ev_fa1 h141 (ev_fa1 h142 (ev_fa1 h143 (ev_fa0)))))))))))))))) ?_
  refine ev_aload_n (i := 0) dX12_turn_0 rfl rfl ?_
  refine ev_iconst (v := 0) dX12_turn_1 cni_0 ?_
  refine ev_putiP 0 dX12_turn_2 fpX12_53 (by rfl) (by rfl) (Nat.le_of_ble_eq_true rfl) (by rfl) (by rfl) ?_
  refine ev_aload_n (i := 0) dX12_turn_5 rfl rfl ?_
  refine ev_iload_n (i := 1) dX12_turn_6 rfl rfl ?_
  refine ev_c2 kX12_turn_7 (c13_isStick rfl) (ev_rv_of (by rfl) rfl rfl) (by decide) (by decide) (Nat.le_of_ble_eq_true rfl) ?_
  refine ev_if_neb (tgt := 15) dX12_turn_10 (by decide) (fun h10 => ?_) (fun h10 => False.elim (Bool.false_ne_true (h10.symm.trans (sp_in_ix hj (by omega)))))
  refine ev_aload_n (i := 0) dX12_turn_15 rfl rfl ?_
  refine ev_getf dX12_turn_16 flX12_13 (by rfl) (by rfl) ?_
  refine ev_bipush (v := 7) dX12_turn_19 cnb_7 ?_
  refine ev_iload_n (i := 1) dX12_turn_21 rfl rfl ?_
  refine ev_imul dX12_turn_22 ?_
  refine ev_bipush (v := 6) dX12_turn_23 cnb_6 ?_
  refine ev_iadd dX12_turn_25 ?_
  refine ev_iconst (v := 1) dX12_turn_26 cni_1 ?_
  refine ev_aload_n (i := 0) dX12_turn_27 rfl rfl ?_
  refine ev_getf dX12_turn_28 flX12_13 (by rfl) (by rfl) ?_
  refine ev_bipush (v := 7) dX12_turn_31 cnb_7 ?_
  refine ev_iload_n (i := 1) dX12_turn_33 rfl rfl ?_
  refine ev_imul dX12_turn_34 ?_
  refine ev_bipush (v := 6) dX12_turn_35 cnb_6 ?_
  refine ev_iadd dX12_turn_37 ?_
  refine ev_iald (j := 7 * j + 6) dX12_turn_38 (by rfl) (ev_ix7 j 6 (by omega)) (by omega) ?_
  refine ev_isub dX12_turn_39 ?_
  refine ev_iastP 2 (j := 7 * j + 6) dX12_turn_40 (by rfl) (by rfl) (ev_ix7 j 6 (by omega)) (by omega) (by rfl) (by rfl) ?_
  refine ev_aload_n (i := 0) dX12_turn_41 rfl rfl ?_
  refine ev_getf dX12_turn_42 flX12_13 (by rfl) (by rfl) ?_
  refine ev_bipush (v := 7) dX12_turn_45 cnb_7 ?_
  refine ev_iload_n (i := 1) dX12_turn_47 rfl rfl ?_
  refine ev_imul dX12_turn_48 ?_
  refine ev_bipush (v := 6) dX12_turn_49 cnb_6 ?_
  refine ev_iadd dX12_turn_51 ?_
  refine ev_iald (j := 7 * j + 6) dX12_turn_52 (by rfl) (ev_ix7 j 6 (by omega)) (by omega) ?_
  exact ev_reti dX12_turn_53 rfl rfl (⟨congrArg (fun z => some (Value.int z)) (if_pos rfl), md_fin hk0 hk1 ((show upd s (7 * j + 6) (1 - s (7 * j + 6)) 85 = s 85 from by simp only [upd]; repeat rw [if_neg (by omega)]).trans hsh)⟩)
theorem m_scrape {G : ev_G} {n : Nat} {M : ev_M} {tn c0 c1 c2 sh : Nat} {tx s kp bw ar tu : Nat → Int32} {k0 k1 : Bool} {tr : Int64} (hM : md_S M tn c0 c1 c2 sh tx s kp bw ar tu k0 k1 tr) {j : Nat} (hj : j < c0) (hc : c0 ≤ 12) (hm : (20 ≤ s (7 * j + 2) - 1 ∧ 20 ≤ s (7 * j + 3) - 1) ∧ 200 ≤ s (7 * j + 1) - 2 * 1)  : ev_Cal G mX12_scrape 3 0 0 [.ref 129, .int (nI j)] n M (md_is M (.int (s (7 * j + 1) - 2)) tn c0 c1 c2 sh tx (upd (upd (upd s (7 * j + 2) (s (7 * j + 2) - 1)) (7 * j + 3) (s (7 * j + 3) - 1)) (7 * j + 1) (s (7 * j + 1) - 2)) kp bw ar tu k0 k1 tr) := by
  refine ev_Cal_of (L := [some (.ref 129), some (.int (nI j)), none]) (by decide +kernel) (Nat.le_of_ble_eq_true rfl) rfl ?_
  obtain ⟨th, nx, tk, pl, va, fa, d0, d1, d2, sp, of', ba, go, dr, ki, up, dn, dS, dB, dA, one, gof, dof, act, ik, h129, h130, h131, h132, h133, hk0, hk1, h134, h135, h136, h137, h138, h139, h140, h141, h142, h143, hsh⟩ := hM
  refine ev_track (l := [(129, md_o th tr (nI tn) nx tk pl va fa (nI c0) (nI c1) (nI c2) d0 d1 d2 sp of' ba go dr ki up dn), (130, .inl (0, 400, .inl tx)), (131, .inl (0, 386, .inl s)), (132, .inl (0, 772, .inl kp)), (133, .inl (1, 2, .inl ik)), (134, .inl (0, 6, .inl bw)), (135, .inl (0, 6, .inl ar)), (136, .inl (0, 84, .inl dS)), (137, .inl (0, 6, .inl dB)), (138, .inl (0, 6, .inl dA)), (139, .inl (0, 4, .inl tu)), (140, .inl (0, 7, .inl one)), (141, .inl (0, 24, .inl gof)), (142, .inl (0, 12, .inl dof)), (143, .inl (0, 5, .inl act))]) (ev_fa1 h129 (ev_fa1 h130 (ev_fa1 h131 (ev_fa1 h132 (ev_fa1 h133 (ev_fa1 h134 (ev_fa1 h135 (ev_fa1 h136 (ev_fa1 h137 (ev_fa1 h138 (ev_fa1 h139 (ev_fa1 h140 (ev_fa1 h141 (ev_fa1 h142 (ev_fa1 h143 (ev_fa0)))))))))))))))) ?_
  refine ev_aload_n (i := 0) dX12_scrape_0 rfl rfl ?_
  refine ev_iconst (v := 0) dX12_scrape_1 cni_0 ?_
  refine ev_putiP 0 dX12_scrape_2 fpX12_53 (by rfl) (by rfl) (Nat.le_of_ble_eq_true rfl) (by rfl) (by rfl) ?_
  refine ev_aload_n (i := 0) dX12_scrape_5 rfl rfl ?_
  refine ev_iload_n (i := 1) dX12_scrape_6 rfl rfl ?_
  refine ev_c2 kX12_scrape_7 (c13_isStick rfl) (ev_rv_of (by rfl) rfl rfl) (by decide) (by decide) (Nat.le_of_ble_eq_true rfl) ?_
  refine ev_if_neb (tgt := 15) dX12_scrape_10 (by decide) (fun h10 => ?_) (fun h10 => False.elim (Bool.false_ne_true (h10.symm.trans (sp_in_ix hj (by omega)))))
  refine ev_bipush (v := 7) dX12_scrape_15 cnb_7 ?_
  refine ev_iload_n (i := 1) dX12_scrape_17 rfl rfl ?_
  refine ev_imul dX12_scrape_18 ?_
  refine ev_topi (nI_mul 7 j) ?_
  refine ev_istore_n (i := 2) dX12_scrape_19 rfl (Nat.le_of_ble_eq_true rfl) rfl ?_
  refine ev_aload_n (i := 0) dX12_scrape_20 rfl rfl ?_
  refine ev_aload_n (i := 0) dX12_scrape_21 rfl rfl ?_
  refine ev_getf dX12_scrape_22 flX12_13 (by rfl) (by rfl) ?_
  refine ev_iload_n (i := 2) dX12_scrape_25 rfl rfl ?_
  refine ev_iconst (v := 1) dX12_scrape_26 cni_1 ?_
  refine ev_c4 kX12_scrape_27 (c13_mayScrape rfl (by omega)) (ev_rv_of (by rfl) rfl rfl) (by decide) (by decide) (Nat.le_of_ble_eq_true rfl) ?_
  refine ev_if_neb (tgt := 36) dX12_scrape_30 (by decide) (fun h30 => ?_) (fun h30 => False.elim (Bool.false_ne_true (h30.symm.trans (by simp only [Bool.and_eq_true, decide_eq_true_eq]; exact hm))))
  refine ev_aload_n (i := 0) dX12_scrape_36 rfl rfl ?_
  refine ev_getf dX12_scrape_37 flX12_13 (by rfl) (by rfl) ?_
  refine ev_iload_n (i := 2) dX12_scrape_40 rfl rfl ?_
  refine ev_iconst (v := 2) dX12_scrape_41 cni_2 ?_
  refine ev_iadd dX12_scrape_42 ?_
  refine ev_dup2 dX12_scrape_43 rfl rfl ?_
  refine ev_iald (j := 7 * j + 2) dX12_scrape_44 (by rfl) (ev_ixa (7 * j) 2 (by omega)) (by omega) ?_
  refine ev_iconst (v := 1) dX12_scrape_45 cni_1 ?_
  refine ev_isub dX12_scrape_46 ?_
  refine ev_iastP 2 (j := 7 * j + 2) dX12_scrape_47 (by rfl) (by rfl) (ev_ixa (7 * j) 2 (by omega)) (by omega) (by rfl) (by rfl) ?_
  refine ev_aload_n (i := 0) dX12_scrape_48 rfl rfl ?_
  refine ev_getf dX12_scrape_49 flX12_13 (by rfl) (by rfl) ?_
  refine ev_iload_n (i := 2) dX12_scrape_52 rfl rfl ?_
  refine ev_iconst (v := 2) dX12_scrape_53 cni_2 ?_
  refine ev_iadd dX12_scrape_54 ?_
  refine ev_iconst (v := 1) dX12_scrape_55 cni_1 ?_
  refine ev_iadd dX12_scrape_56 ?_
  refine ev_dup2 dX12_scrape_57 rfl rfl ?_
  refine ev_iald (j := 7 * j + 3) dX12_scrape_58 (by rfl) (ev_ixa3 (7 * j) (by omega)) (by omega) ?_
  refine ev_topi (x2 := s (7 * j + 3)) (by simp only [upd]; repeat rw [if_neg (by omega)]) ?_
  refine ev_iconst (v := 1) dX12_scrape_59 cni_1 ?_
  refine ev_isub dX12_scrape_60 ?_
  refine ev_iastP 2 (j := 7 * j + 3) dX12_scrape_61 (by rfl) (by rfl) (ev_ixa3 (7 * j) (by omega)) (by omega) (by rfl) (by rfl) ?_
  refine ev_aload_n (i := 0) dX12_scrape_62 rfl rfl ?_
  refine ev_getf dX12_scrape_63 flX12_13 (by rfl) (by rfl) ?_
  refine ev_iload_n (i := 2) dX12_scrape_66 rfl rfl ?_
  refine ev_iconst (v := 1) dX12_scrape_67 cni_1 ?_
  refine ev_iadd dX12_scrape_68 ?_
  refine ev_dup2 dX12_scrape_69 rfl rfl ?_
  refine ev_iald (j := 7 * j + 1) dX12_scrape_70 (by rfl) (ev_ixa (7 * j) 1 (by omega)) (by omega) ?_
  refine ev_topi (x2 := s (7 * j + 1)) (by simp only [upd]; repeat rw [if_neg (by omega)]) ?_
  refine ev_iconst (v := 2) dX12_scrape_71 cni_2 ?_
  refine ev_isub dX12_scrape_72 ?_
  refine ev_iastP 2 (j := 7 * j + 1) dX12_scrape_73 (by rfl) (by rfl) (ev_ixa (7 * j) 1 (by omega)) (by omega) (by rfl) (by rfl) ?_
  refine ev_aload_n (i := 0) dX12_scrape_74 rfl rfl ?_
  refine ev_getf dX12_scrape_75 flX12_13 (by rfl) (by rfl) ?_
  refine ev_iload_n (i := 2) dX12_scrape_78 rfl rfl ?_
  refine ev_iconst (v := 1) dX12_scrape_79 cni_1 ?_
  refine ev_iadd dX12_scrape_80 ?_
  refine ev_iald (j := 7 * j + 1) dX12_scrape_81 (by rfl) (ev_ixa (7 * j) 1 (by omega)) (by omega) ?_
  exact ev_reti dX12_scrape_82 rfl rfl (⟨congrArg (fun z => some (Value.int z)) (if_pos rfl), md_fin hk0 hk1 ((show (upd (upd (upd s (7 * j + 2) (s (7 * j + 2) - 1)) (7 * j + 3) (s (7 * j + 3) - 1)) (7 * j + 1) (s (7 * j + 1) - 2)) 85 = s 85 from by simp only [upd]; repeat rw [if_neg (by omega)]).trans hsh)⟩)
theorem m_scrape_no {G : ev_G} {n : Nat} {M : ev_M} {tn c0 c1 c2 sh : Nat} {tx s kp bw ar tu : Nat → Int32} {k0 k1 : Bool} {tr : Int64} (hM : md_S M tn c0 c1 c2 sh tx s kp bw ar tu k0 k1 tr) {j : Nat} (hj : j < c0) (hc : c0 ≤ 12) (hm : ¬ ((20 ≤ s (7 * j + 2) - 1 ∧ 20 ≤ s (7 * j + 3) - 1) ∧ 200 ≤ s (7 * j + 1) - 2 * 1))  : ev_Cal G mX12_scrape 3 0 0 [.ref 129, .int (nI j)] n M (md_is M (.int (-2)) tn c0 c1 c2 sh tx s kp bw ar tu k0 k1 tr) := by
  refine ev_Cal_of (L := [some (.ref 129), some (.int (nI j)), none]) (by decide +kernel) (Nat.le_of_ble_eq_true rfl) rfl ?_
  obtain ⟨th, nx, tk, pl, va, fa, d0, d1, d2, sp, of', ba, go, dr, ki, up, dn, dS, dB, dA, one, gof, dof, act, ik, h129, h130, h131, h132, h133, hk0, hk1, h134, h135, h136, h137, h138, h139, h140, h141, h142, h143, hsh⟩ := hM
  refine ev_track (l := [(129, md_o th tr (nI tn) nx tk pl va fa (nI c0) (nI c1) (nI c2) d0 d1 d2 sp of' ba go dr ki up dn), (130, .inl (0, 400, .inl tx)), (131, .inl (0, 386, .inl s)), (132, .inl (0, 772, .inl kp)), (133, .inl (1, 2, .inl ik)), (134, .inl (0, 6, .inl bw)), (135, .inl (0, 6, .inl ar)), (136, .inl (0, 84, .inl dS)), (137, .inl (0, 6, .inl dB)), (138, .inl (0, 6, .inl dA)), (139, .inl (0, 4, .inl tu)), (140, .inl (0, 7, .inl one)), (141, .inl (0, 24, .inl gof)), (142, .inl (0, 12, .inl dof)), (143, .inl (0, 5, .inl act))]) (ev_fa1 h129 (ev_fa1 h130 (ev_fa1 h131 (ev_fa1 h132 (ev_fa1 h133 (ev_fa1 h134 (ev_fa1 h135 (ev_fa1 h136 (ev_fa1 h137 (ev_fa1 h138 (ev_fa1 h139 (ev_fa1 h140 (ev_fa1 h141 (ev_fa1 h142 (ev_fa1 h143 (ev_fa0)))))))))))))))) ?_
  refine ev_aload_n (i := 0) dX12_scrape_0 rfl rfl ?_
  refine ev_iconst (v := 0) dX12_scrape_1 cni_0 ?_
  refine ev_putiP 0 dX12_scrape_2 fpX12_53 (by rfl) (by rfl) (Nat.le_of_ble_eq_true rfl) (by rfl) (by rfl) ?_
  refine ev_aload_n (i := 0) dX12_scrape_5 rfl rfl ?_
  refine ev_iload_n (i := 1) dX12_scrape_6 rfl rfl ?_
  refine ev_c2 kX12_scrape_7 (c13_isStick rfl) (ev_rv_of (by rfl) rfl rfl) (by decide) (by decide) (Nat.le_of_ble_eq_true rfl) ?_
  refine ev_if_neb (tgt := 15) dX12_scrape_10 (by decide) (fun h10 => ?_) (fun h10 => False.elim (Bool.false_ne_true (h10.symm.trans (sp_in_ix hj (by omega)))))
  refine ev_bipush (v := 7) dX12_scrape_15 cnb_7 ?_
  refine ev_iload_n (i := 1) dX12_scrape_17 rfl rfl ?_
  refine ev_imul dX12_scrape_18 ?_
  refine ev_topi (nI_mul 7 j) ?_
  refine ev_istore_n (i := 2) dX12_scrape_19 rfl (Nat.le_of_ble_eq_true rfl) rfl ?_
  refine ev_aload_n (i := 0) dX12_scrape_20 rfl rfl ?_
  refine ev_aload_n (i := 0) dX12_scrape_21 rfl rfl ?_
  refine ev_getf dX12_scrape_22 flX12_13 (by rfl) (by rfl) ?_
  refine ev_iload_n (i := 2) dX12_scrape_25 rfl rfl ?_
  refine ev_iconst (v := 1) dX12_scrape_26 cni_1 ?_
  refine ev_c4 kX12_scrape_27 (c13_mayScrape rfl (by omega)) (ev_rv_of (by rfl) rfl rfl) (by decide) (by decide) (Nat.le_of_ble_eq_true rfl) ?_
  refine ev_if_neb (tgt := 36) dX12_scrape_30 (by decide) (fun h30 => False.elim (hm (by have q := h30; simp only [Bool.and_eq_true, decide_eq_true_eq] at q; exact q))) (fun h30 => ?_)
  refine ev_bipush (v := (-2)) dX12_scrape_33 cnb_m2 ?_
  exact ev_reti dX12_scrape_35 rfl rfl (⟨rfl, (md_fin hk0 hk1 hsh)⟩)
theorem m_tune_0 {G : ev_G} {n : Nat} {M : ev_M} {tn c0 c1 c2 sh : Nat} {tx s kp bw ar tu : Nat → Int32} {k0 k1 : Bool} {tr : Int64} (hM : md_S M tn c0 c1 c2 sh tx s kp bw ar tu k0 k1 tr) {v : Int32} (hv : 0 ≤ v ∧ v ≤ 20)  : ev_Cal G mX12_tune 2 0 0 [.ref 129, .int 0, .int v] n M (md_is M (.int (tu 0)) tn c0 c1 c2 sh tx s kp bw ar (upd tu 0 v) k0 k1 tr) := by
  refine ev_Cal_of (L := [some (.ref 129), some (.int 0), some (.int v), none, none]) (by decide +kernel) (Nat.le_of_ble_eq_true rfl) rfl ?_
  obtain ⟨th, nx, tk, pl, va, fa, d0, d1, d2, sp, of', ba, go, dr, ki, up, dn, dS, dB, dA, one, gof, dof, act, ik, h129, h130, h131, h132, h133, hk0, hk1, h134, h135, h136, h137, h138, h139, h140, h141, h142, h143, hsh⟩ := hM
  refine ev_track (l := [(129, md_o th tr (nI tn) nx tk pl va fa (nI c0) (nI c1) (nI c2) d0 d1 d2 sp of' ba go dr ki up dn), (130, .inl (0, 400, .inl tx)), (131, .inl (0, 386, .inl s)), (132, .inl (0, 772, .inl kp)), (133, .inl (1, 2, .inl ik)), (134, .inl (0, 6, .inl bw)), (135, .inl (0, 6, .inl ar)), (136, .inl (0, 84, .inl dS)), (137, .inl (0, 6, .inl dB)), (138, .inl (0, 6, .inl dA)), (139, .inl (0, 4, .inl tu)), (140, .inl (0, 7, .inl one)), (141, .inl (0, 24, .inl gof)), (142, .inl (0, 12, .inl dof)), (143, .inl (0, 5, .inl act))]) (ev_fa1 h129 (ev_fa1 h130 (ev_fa1 h131 (ev_fa1 h132 (ev_fa1 h133 (ev_fa1 h134 (ev_fa1 h135 (ev_fa1 h136 (ev_fa1 h137 (ev_fa1 h138 (ev_fa1 h139 (ev_fa1 h140 (ev_fa1 h141 (ev_fa1 h142 (ev_fa1 h143 (ev_fa0)))))))))))))))) ?_
  refine ev_aload_n (i := 0) dX12_tune_0 rfl rfl ?_
  refine ev_iconst (v := 0) dX12_tune_1 cni_0 ?_
  refine ev_putiP 0 dX12_tune_2 fpX12_53 (by rfl) (by rfl) (Nat.le_of_ble_eq_true rfl) (by rfl) (by rfl) ?_
  refine ev_iload_n (i := 1) dX12_tune_5 rfl rfl ?_
  refine ev_if_ne (tgt := 14) dX12_tune_6 (by decide) (fun h6 => False.elim (absurd rfl h6)) (fun h6 => ?_)
  refine ev_bipush (v := 20) dX12_tune_9 cnb_20 ?_
  refine ev_goto (tgt := 36) dX12_tune_11 (by decide) ?_
  refine ev_istore_n (i := 3) dX12_tune_36 rfl (Nat.le_of_ble_eq_true rfl) rfl ?_
  refine ev_iload_n (i := 1) dX12_tune_37 rfl rfl ?_
  refine ev_iconst (v := 0) dX12_tune_38 cni_0 ?_
  refine ev_iconst (v := 3) dX12_tune_39 cni_3 ?_
  refine ev_c3 kX12_tune_40 (c13_in) trivial (by decide) (by decide) (Nat.le_of_ble_eq_true rfl) ?_
  refine ev_if_eqb (tgt := 65) dX12_tune_43 (by decide) (fun h43 => False.elim (Bool.false_ne_true (h43.symm.trans (by decide)))) (fun h43 => ?_)
  refine ev_iload_n (i := 2) dX12_tune_46 rfl rfl ?_
  refine ev_iload_n (i := 1) dX12_tune_47 rfl rfl ?_
  refine ev_iconst (v := 3) dX12_tune_48 cni_3 ?_
  refine ev_icmp_ne (tgt := 57) dX12_tune_49 (by decide) (fun h49 => ?_) (fun h49 => False.elim (absurd h49 (by decide)))
  refine ev_iconst (v := 0) dX12_tune_57 cni_0 ?_
  refine ev_iload_n (i := 3) dX12_tune_58 rfl rfl ?_
  refine ev_c3 kX12_tune_59 (c13_in) trivial (by decide) (by decide) (Nat.le_of_ble_eq_true rfl) ?_
  refine ev_if_neb (tgt := 68) dX12_tune_62 (by decide) (fun h62 => ?_) (fun h62 => False.elim (Bool.false_ne_true (h62.symm.trans (sp_in_t hv.1 hv.2))))
  refine ev_aload_n (i := 0) dX12_tune_68 rfl rfl ?_
  refine ev_getf dX12_tune_69 flX12_38 (by rfl) (by rfl) ?_
  refine ev_iload_n (i := 1) dX12_tune_72 rfl rfl ?_
  refine ev_iald (j := 0) dX12_tune_73 (by rfl) (by decide) (by decide) ?_
  refine ev_istore dX12_tune_74 (Nat.le_of_ble_eq_true rfl) rfl ?_
  refine ev_aload_n (i := 0) dX12_tune_76 rfl rfl ?_
  refine ev_getf dX12_tune_77 flX12_38 (by rfl) (by rfl) ?_
  refine ev_iload_n (i := 1) dX12_tune_80 rfl rfl ?_
  refine ev_iload_n (i := 2) dX12_tune_81 rfl rfl ?_
  refine ev_iastP 10 (j := 0) dX12_tune_82 (by rfl) (by rfl) (by decide) (by decide) (by rfl) (by rfl) ?_
  refine ev_iload dX12_tune_83 rfl ?_
  exact ev_reti dX12_tune_85 rfl rfl (⟨rfl, (md_fin hk0 hk1 hsh)⟩)
theorem m_tune_0_no {G : ev_G} {n : Nat} {M : ev_M} {tn c0 c1 c2 sh : Nat} {tx s kp bw ar tu : Nat → Int32} {k0 k1 : Bool} {tr : Int64} (hM : md_S M tn c0 c1 c2 sh tx s kp bw ar tu k0 k1 tr) {v : Int32} (hv : v < 0 ∨ 20 < v)  : ev_Cal G mX12_tune 2 0 0 [.ref 129, .int 0, .int v] n M (md_is M (.int (-1000000)) tn c0 c1 c2 sh tx s kp bw ar tu k0 k1 tr) := by
  refine ev_Cal_of (L := [some (.ref 129), some (.int 0), some (.int v), none, none]) (by decide +kernel) (Nat.le_of_ble_eq_true rfl) rfl ?_
  obtain ⟨th, nx, tk, pl, va, fa, d0, d1, d2, sp, of', ba, go, dr, ki, up, dn, dS, dB, dA, one, gof, dof, act, ik, h129, h130, h131, h132, h133, hk0, hk1, h134, h135, h136, h137, h138, h139, h140, h141, h142, h143, hsh⟩ := hM
  refine ev_track (l := [(129, md_o th tr (nI tn) nx tk pl va fa (nI c0) (nI c1) (nI c2) d0 d1 d2 sp of' ba go dr ki up dn), (130, .inl (0, 400, .inl tx)), (131, .inl (0, 386, .inl s)), (132, .inl (0, 772, .inl kp)), (133, .inl (1, 2, .inl ik)), (134, .inl (0, 6, .inl bw)), (135, .inl (0, 6, .inl ar)), (136, .inl (0, 84, .inl dS)), (137, .inl (0, 6, .inl dB)), (138, .inl (0, 6, .inl dA)), (139, .inl (0, 4, .inl tu)), (140, .inl (0, 7, .inl one)), (141, .inl (0, 24, .inl gof)), (142, .inl (0, 12, .inl dof)), (143, .inl (0, 5, .inl act))]) (ev_fa1 h129 (ev_fa1 h130 (ev_fa1 h131 (ev_fa1 h132 (ev_fa1 h133 (ev_fa1 h134 (ev_fa1 h135 (ev_fa1 h136 (ev_fa1 h137 (ev_fa1 h138 (ev_fa1 h139 (ev_fa1 h140 (ev_fa1 h141 (ev_fa1 h142 (ev_fa1 h143 (ev_fa0)))))))))))))))) ?_
  refine ev_aload_n (i := 0) dX12_tune_0 rfl rfl ?_
  refine ev_iconst (v := 0) dX12_tune_1 cni_0 ?_
  refine ev_putiP 0 dX12_tune_2 fpX12_53 (by rfl) (by rfl) (Nat.le_of_ble_eq_true rfl) (by rfl) (by rfl) ?_
  refine ev_iload_n (i := 1) dX12_tune_5 rfl rfl ?_
  refine ev_if_ne (tgt := 14) dX12_tune_6 (by decide) (fun h6 => False.elim (absurd rfl h6)) (fun h6 => ?_)
  refine ev_bipush (v := 20) dX12_tune_9 cnb_20 ?_
  refine ev_goto (tgt := 36) dX12_tune_11 (by decide) ?_
  refine ev_istore_n (i := 3) dX12_tune_36 rfl (Nat.le_of_ble_eq_true rfl) rfl ?_
  refine ev_iload_n (i := 1) dX12_tune_37 rfl rfl ?_
  refine ev_iconst (v := 0) dX12_tune_38 cni_0 ?_
  refine ev_iconst (v := 3) dX12_tune_39 cni_3 ?_
  refine ev_c3 kX12_tune_40 (c13_in) trivial (by decide) (by decide) (Nat.le_of_ble_eq_true rfl) ?_
  refine ev_if_eqb (tgt := 65) dX12_tune_43 (by decide) (fun h43 => False.elim (Bool.false_ne_true (h43.symm.trans (by decide)))) (fun h43 => ?_)
  refine ev_iload_n (i := 2) dX12_tune_46 rfl rfl ?_
  refine ev_iload_n (i := 1) dX12_tune_47 rfl rfl ?_
  refine ev_iconst (v := 3) dX12_tune_48 cni_3 ?_
  refine ev_icmp_ne (tgt := 57) dX12_tune_49 (by decide) (fun h49 => ?_) (fun h49 => False.elim (absurd h49 (by decide)))
  refine ev_iconst (v := 0) dX12_tune_57 cni_0 ?_
  refine ev_iload_n (i := 3) dX12_tune_58 rfl rfl ?_
  refine ev_c3 kX12_tune_59 (c13_in) trivial (by decide) (by decide) (Nat.le_of_ble_eq_true rfl) ?_
  refine ev_if_neb (tgt := 68) dX12_tune_62 (by decide) (fun h62 => False.elim (Bool.false_ne_true ((hv.elim sp_in_1 sp_in_2).symm.trans h62))) (fun h62 => ?_)
  refine ev_ldc dX12_tune_65 coX12_143 ?_
  exact ev_reti dX12_tune_67 rfl rfl (⟨rfl, (md_fin hk0 hk1 hsh)⟩)
theorem m_tune_1 {G : ev_G} {n : Nat} {M : ev_M} {tn c0 c1 c2 sh : Nat} {tx s kp bw ar tu : Nat → Int32} {k0 k1 : Bool} {tr : Int64} (hM : md_S M tn c0 c1 c2 sh tx s kp bw ar tu k0 k1 tr) {v : Int32} (hv : 0 ≤ v ∧ v ≤ 60)  : ev_Cal G mX12_tune 2 0 0 [.ref 129, .int 1, .int v] n M (md_is M (.int (tu 1)) tn c0 c1 c2 sh tx s kp bw ar (upd tu 1 v) k0 k1 tr) := by
  refine ev_Cal_of (L := [some (.ref 129), some (.int 1), some (.int v), none, none]) (by decide +kernel) (Nat.le_of_ble_eq_true rfl) rfl ?_
  obtain ⟨th, nx, tk, pl, va, fa, d0, d1, d2, sp, of', ba, go, dr, ki, up, dn, dS, dB, dA, one, gof, dof, act, ik, h129, h130, h131, h132, h133, hk0, hk1, h134, h135, h136, h137, h138, h139, h140, h141, h142, h143, hsh⟩ := hM
  refine ev_track (l := [(129, md_o th tr (nI tn) nx tk pl va fa (nI c0) (nI c1) (nI c2) d0 d1 d2 sp of' ba go dr ki up dn), (130, .inl (0, 400, .inl tx)), (131, .inl (0, 386, .inl s)), (132, .inl (0, 772, .inl kp)), (133, .inl (1, 2, .inl ik)), (134, .inl (0, 6, .inl bw)), (135, .inl (0, 6, .inl ar)), (136, .inl (0, 84, .inl dS)), (137, .inl (0, 6, .inl dB)), (138, .inl (0, 6, .inl dA)), (139, .inl (0, 4, .inl tu)), (140, .inl (0, 7, .inl one)), (141, .inl (0, 24, .inl gof)), (142, .inl (0, 12, .inl dof)), (143, .inl (0, 5, .inl act))]) (ev_fa1 h129 (ev_fa1 h130 (ev_fa1 h131 (ev_fa1 h132 (ev_fa1 h133 (ev_fa1 h134 (ev_fa1 h135 (ev_fa1 h136 (ev_fa1 h137 (ev_fa1 h138 (ev_fa1 h139 (ev_fa1 h140 (ev_fa1 h141 (ev_fa1 h142 (ev_fa1 h143 (ev_fa0)))))))))))))))) ?_
  refine ev_aload_n (i := 0) dX12_tune_0 rfl rfl ?_
  refine ev_iconst (v := 0) dX12_tune_1 cni_0 ?_
  refine ev_putiP 0 dX12_tune_2 fpX12_53 (by rfl) (by rfl) (Nat.le_of_ble_eq_true rfl) (by rfl) (by rfl) ?_
  refine ev_iload_n (i := 1) dX12_tune_5 rfl rfl ?_
  refine ev_if_ne (tgt := 14) dX12_tune_6 (by decide) (fun h6 => ?_) (fun h6 => False.elim (absurd h6 (by decide)))
  refine ev_iload_n (i := 1) dX12_tune_14 rfl rfl ?_
  refine ev_iconst (v := 1) dX12_tune_15 cni_1 ?_
  refine ev_icmp_ne (tgt := 24) dX12_tune_16 (by decide) (fun h16 => False.elim (absurd rfl h16)) (fun h16 => ?_)
  refine ev_bipush (v := 60) dX12_tune_19 cnb_60 ?_
  refine ev_goto (tgt := 36) dX12_tune_21 (by decide) ?_
  refine ev_istore_n (i := 3) dX12_tune_36 rfl (Nat.le_of_ble_eq_true rfl) rfl ?_
  refine ev_iload_n (i := 1) dX12_tune_37 rfl rfl ?_
  refine ev_iconst (v := 0) dX12_tune_38 cni_0 ?_
  refine ev_iconst (v := 3) dX12_tune_39 cni_3 ?_
  refine ev_c3 kX12_tune_40 (c13_in) trivial (by decide) (by decide) (Nat.le_of_ble_eq_true rfl) ?_
  refine ev_if_eqb (tgt := 65) dX12_tune_43 (by decide) (fun h43 => False.elim (Bool.false_ne_true (h43.symm.trans (by decide)))) (fun h43 => ?_)
  refine ev_iload_n (i := 2) dX12_tune_46 rfl rfl ?_
  refine ev_iload_n (i := 1) dX12_tune_47 rfl rfl ?_
  refine ev_iconst (v := 3) dX12_tune_48 cni_3 ?_
  refine ev_icmp_ne (tgt := 57) dX12_tune_49 (by decide) (fun h49 => ?_) (fun h49 => False.elim (absurd h49 (by decide)))
  refine ev_iconst (v := 0) dX12_tune_57 cni_0 ?_
  refine ev_iload_n (i := 3) dX12_tune_58 rfl rfl ?_
  refine ev_c3 kX12_tune_59 (c13_in) trivial (by decide) (by decide) (Nat.le_of_ble_eq_true rfl) ?_
  refine ev_if_neb (tgt := 68) dX12_tune_62 (by decide) (fun h62 => ?_) (fun h62 => False.elim (Bool.false_ne_true (h62.symm.trans (sp_in_t hv.1 hv.2))))
  refine ev_aload_n (i := 0) dX12_tune_68 rfl rfl ?_
  refine ev_getf dX12_tune_69 flX12_38 (by rfl) (by rfl) ?_
  refine ev_iload_n (i := 1) dX12_tune_72 rfl rfl ?_
  refine ev_iald (j := 1) dX12_tune_73 (by rfl) (by decide) (by decide) ?_
  refine ev_istore dX12_tune_74 (Nat.le_of_ble_eq_true rfl) rfl ?_
  refine ev_aload_n (i := 0) dX12_tune_76 rfl rfl ?_
  refine ev_getf dX12_tune_77 flX12_38 (by rfl) (by rfl) ?_
  refine ev_iload_n (i := 1) dX12_tune_80 rfl rfl ?_
  refine ev_iload_n (i := 2) dX12_tune_81 rfl rfl ?_
  refine ev_iastP 10 (j := 1) dX12_tune_82 (by rfl) (by rfl) (by decide) (by decide) (by rfl) (by rfl) ?_
  refine ev_iload dX12_tune_83 rfl ?_
  exact ev_reti dX12_tune_85 rfl rfl (⟨rfl, (md_fin hk0 hk1 hsh)⟩)
theorem m_tune_1_no {G : ev_G} {n : Nat} {M : ev_M} {tn c0 c1 c2 sh : Nat} {tx s kp bw ar tu : Nat → Int32} {k0 k1 : Bool} {tr : Int64} (hM : md_S M tn c0 c1 c2 sh tx s kp bw ar tu k0 k1 tr) {v : Int32} (hv : v < 0 ∨ 60 < v)  : ev_Cal G mX12_tune 2 0 0 [.ref 129, .int 1, .int v] n M (md_is M (.int (-1000000)) tn c0 c1 c2 sh tx s kp bw ar tu k0 k1 tr) := by
  refine ev_Cal_of (L := [some (.ref 129), some (.int 1), some (.int v), none, none]) (by decide +kernel) (Nat.le_of_ble_eq_true rfl) rfl ?_
  obtain ⟨th, nx, tk, pl, va, fa, d0, d1, d2, sp, of', ba, go, dr, ki, up, dn, dS, dB, dA, one, gof, dof, act, ik, h129, h130, h131, h132, h133, hk0, hk1, h134, h135, h136, h137, h138, h139, h140, h141, h142, h143, hsh⟩ := hM
  refine ev_track (l := [(129, md_o th tr (nI tn) nx tk pl va fa (nI c0) (nI c1) (nI c2) d0 d1 d2 sp of' ba go dr ki up dn), (130, .inl (0, 400, .inl tx)), (131, .inl (0, 386, .inl s)), (132, .inl (0, 772, .inl kp)), (133, .inl (1, 2, .inl ik)), (134, .inl (0, 6, .inl bw)), (135, .inl (0, 6, .inl ar)), (136, .inl (0, 84, .inl dS)), (137, .inl (0, 6, .inl dB)), (138, .inl (0, 6, .inl dA)), (139, .inl (0, 4, .inl tu)), (140, .inl (0, 7, .inl one)), (141, .inl (0, 24, .inl gof)), (142, .inl (0, 12, .inl dof)), (143, .inl (0, 5, .inl act))]) (ev_fa1 h129 (ev_fa1 h130 (ev_fa1 h131 (ev_fa1 h132 (ev_fa1 h133 (ev_fa1 h134 (ev_fa1 h135 (ev_fa1 h136 (ev_fa1 h137 (ev_fa1 h138 (ev_fa1 h139 (ev_fa1 h140 (ev_fa1 h141 (ev_fa1 h142 (ev_fa1 h143 (ev_fa0)))))))))))))))) ?_
  refine ev_aload_n (i := 0) dX12_tune_0 rfl rfl ?_
  refine ev_iconst (v := 0) dX12_tune_1 cni_0 ?_
  refine ev_putiP 0 dX12_tune_2 fpX12_53 (by rfl) (by rfl) (Nat.le_of_ble_eq_true rfl) (by rfl) (by rfl) ?_
  refine ev_iload_n (i := 1) dX12_tune_5 rfl rfl ?_
  refine ev_if_ne (tgt := 14) dX12_tune_6 (by decide) (fun h6 => ?_) (fun h6 => False.elim (absurd h6 (by decide)))
  refine ev_iload_n (i := 1) dX12_tune_14 rfl rfl ?_
  refine ev_iconst (v := 1) dX12_tune_15 cni_1 ?_
  refine ev_icmp_ne (tgt := 24) dX12_tune_16 (by decide) (fun h16 => False.elim (absurd rfl h16)) (fun h16 => ?_)
  refine ev_bipush (v := 60) dX12_tune_19 cnb_60 ?_
  refine ev_goto (tgt := 36) dX12_tune_21 (by decide) ?_
  refine ev_istore_n (i := 3) dX12_tune_36 rfl (Nat.le_of_ble_eq_true rfl) rfl ?_
  refine ev_iload_n (i := 1) dX12_tune_37 rfl rfl ?_
  refine ev_iconst (v := 0) dX12_tune_38 cni_0 ?_
  refine ev_iconst (v := 3) dX12_tune_39 cni_3 ?_
  refine ev_c3 kX12_tune_40 (c13_in) trivial (by decide) (by decide) (Nat.le_of_ble_eq_true rfl) ?_
  refine ev_if_eqb (tgt := 65) dX12_tune_43 (by decide) (fun h43 => False.elim (Bool.false_ne_true (h43.symm.trans (by decide)))) (fun h43 => ?_)
  refine ev_iload_n (i := 2) dX12_tune_46 rfl rfl ?_
  refine ev_iload_n (i := 1) dX12_tune_47 rfl rfl ?_
  refine ev_iconst (v := 3) dX12_tune_48 cni_3 ?_
  refine ev_icmp_ne (tgt := 57) dX12_tune_49 (by decide) (fun h49 => ?_) (fun h49 => False.elim (absurd h49 (by decide)))
  refine ev_iconst (v := 0) dX12_tune_57 cni_0 ?_
  refine ev_iload_n (i := 3) dX12_tune_58 rfl rfl ?_
  refine ev_c3 kX12_tune_59 (c13_in) trivial (by decide) (by decide) (Nat.le_of_ble_eq_true rfl) ?_
  refine ev_if_neb (tgt := 68) dX12_tune_62 (by decide) (fun h62 => False.elim (Bool.false_ne_true ((hv.elim sp_in_1 sp_in_2).symm.trans h62))) (fun h62 => ?_)
  refine ev_ldc dX12_tune_65 coX12_143 ?_
  exact ev_reti dX12_tune_67 rfl rfl (⟨rfl, (md_fin hk0 hk1 hsh)⟩)
theorem m_tune_2 {G : ev_G} {n : Nat} {M : ev_M} {tn c0 c1 c2 sh : Nat} {tx s kp bw ar tu : Nat → Int32} {k0 k1 : Bool} {tr : Int64} (hM : md_S M tn c0 c1 c2 sh tx s kp bw ar tu k0 k1 tr) {v : Int32} (hv : 0 ≤ v ∧ v ≤ 30)  : ev_Cal G mX12_tune 2 0 0 [.ref 129, .int 2, .int v] n M (md_is M (.int (tu 2)) tn c0 c1 c2 sh tx s kp bw ar (upd tu 2 v) k0 k1 tr) := by
  refine ev_Cal_of (L := [some (.ref 129), some (.int 2), some (.int v), none, none]) (by decide +kernel) (Nat.le_of_ble_eq_true rfl) rfl ?_
  obtain ⟨th, nx, tk, pl, va, fa, d0, d1, d2, sp, of', ba, go, dr, ki, up, dn, dS, dB, dA, one, gof, dof, act, ik, h129, h130, h131, h132, h133, hk0, hk1, h134, h135, h136, h137, h138, h139, h140, h141, h142, h143, hsh⟩ := hM
  refine ev_track (l := [(129, md_o th tr (nI tn) nx tk pl va fa (nI c0) (nI c1) (nI c2) d0 d1 d2 sp of' ba go dr ki up dn), (130, .inl (0, 400, .inl tx)), (131, .inl (0, 386, .inl s)), (132, .inl (0, 772, .inl kp)), (133, .inl (1, 2, .inl ik)), (134, .inl (0, 6, .inl bw)), (135, .inl (0, 6, .inl ar)), (136, .inl (0, 84, .inl dS)), (137, .inl (0, 6, .inl dB)), (138, .inl (0, 6, .inl dA)), (139, .inl (0, 4, .inl tu)), (140, .inl (0, 7, .inl one)), (141, .inl (0, 24, .inl gof)), (142, .inl (0, 12, .inl dof)), (143, .inl (0, 5, .inl act))]) (ev_fa1 h129 (ev_fa1 h130 (ev_fa1 h131 (ev_fa1 h132 (ev_fa1 h133 (ev_fa1 h134 (ev_fa1 h135 (ev_fa1 h136 (ev_fa1 h137 (ev_fa1 h138 (ev_fa1 h139 (ev_fa1 h140 (ev_fa1 h141 (ev_fa1 h142 (ev_fa1 h143 (ev_fa0)))))))))))))))) ?_
  refine ev_aload_n (i := 0) dX12_tune_0 rfl rfl ?_
  refine ev_iconst (v := 0) dX12_tune_1 cni_0 ?_
  refine ev_putiP 0 dX12_tune_2 fpX12_53 (by rfl) (by rfl) (Nat.le_of_ble_eq_true rfl) (by rfl) (by rfl) ?_
  refine ev_iload_n (i := 1) dX12_tune_5 rfl rfl ?_
  refine ev_if_ne (tgt := 14) dX12_tune_6 (by decide) (fun h6 => ?_) (fun h6 => False.elim (absurd h6 (by decide)))
  refine ev_iload_n (i := 1) dX12_tune_14 rfl rfl ?_
  refine ev_iconst (v := 1) dX12_tune_15 cni_1 ?_
  refine ev_icmp_ne (tgt := 24) dX12_tune_16 (by decide) (fun h16 => ?_) (fun h16 => False.elim (absurd h16 (by decide)))
  refine ev_iload_n (i := 1) dX12_tune_24 rfl rfl ?_
  refine ev_iconst (v := 2) dX12_tune_25 cni_2 ?_
  refine ev_icmp_ne (tgt := 34) dX12_tune_26 (by decide) (fun h26 => False.elim (absurd rfl h26)) (fun h26 => ?_)
  refine ev_bipush (v := 30) dX12_tune_29 cnb_30 ?_
  refine ev_goto (tgt := 36) dX12_tune_31 (by decide) ?_
  refine ev_istore_n (i := 3) dX12_tune_36 rfl (Nat.le_of_ble_eq_true rfl) rfl ?_
  refine ev_iload_n (i := 1) dX12_tune_37 rfl rfl ?_
  refine ev_iconst (v := 0) dX12_tune_38 cni_0 ?_
  refine ev_iconst (v := 3) dX12_tune_39 cni_3 ?_
  refine ev_c3 kX12_tune_40 (c13_in) trivial (by decide) (by decide) (Nat.le_of_ble_eq_true rfl) ?_
  refine ev_if_eqb (tgt := 65) dX12_tune_43 (by decide) (fun h43 => False.elim (Bool.false_ne_true (h43.symm.trans (by decide)))) (fun h43 => ?_)
  refine ev_iload_n (i := 2) dX12_tune_46 rfl rfl ?_
  refine ev_iload_n (i := 1) dX12_tune_47 rfl rfl ?_
  refine ev_iconst (v := 3) dX12_tune_48 cni_3 ?_
  refine ev_icmp_ne (tgt := 57) dX12_tune_49 (by decide) (fun h49 => ?_) (fun h49 => False.elim (absurd h49 (by decide)))
  refine ev_iconst (v := 0) dX12_tune_57 cni_0 ?_
  refine ev_iload_n (i := 3) dX12_tune_58 rfl rfl ?_
  refine ev_c3 kX12_tune_59 (c13_in) trivial (by decide) (by decide) (Nat.le_of_ble_eq_true rfl) ?_
  refine ev_if_neb (tgt := 68) dX12_tune_62 (by decide) (fun h62 => ?_) (fun h62 => False.elim (Bool.false_ne_true (h62.symm.trans (sp_in_t hv.1 hv.2))))
  refine ev_aload_n (i := 0) dX12_tune_68 rfl rfl ?_
  refine ev_getf dX12_tune_69 flX12_38 (by rfl) (by rfl) ?_
  refine ev_iload_n (i := 1) dX12_tune_72 rfl rfl ?_
  refine ev_iald (j := 2) dX12_tune_73 (by rfl) (by decide) (by decide) ?_
  refine ev_istore dX12_tune_74 (Nat.le_of_ble_eq_true rfl) rfl ?_
  refine ev_aload_n (i := 0) dX12_tune_76 rfl rfl ?_
  refine ev_getf dX12_tune_77 flX12_38 (by rfl) (by rfl) ?_
  refine ev_iload_n (i := 1) dX12_tune_80 rfl rfl ?_
  refine ev_iload_n (i := 2) dX12_tune_81 rfl rfl ?_
  refine ev_iastP 10 (j := 2) dX12_tune_82 (by rfl) (by rfl) (by decide) (by decide) (by rfl) (by rfl) ?_
  refine ev_iload dX12_tune_83 rfl ?_
  exact ev_reti dX12_tune_85 rfl rfl (⟨rfl, (md_fin hk0 hk1 hsh)⟩)
theorem m_tune_2_no {G : ev_G} {n : Nat} {M : ev_M} {tn c0 c1 c2 sh : Nat} {tx s kp bw ar tu : Nat → Int32} {k0 k1 : Bool} {tr : Int64} (hM : md_S M tn c0 c1 c2 sh tx s kp bw ar tu k0 k1 tr) {v : Int32} (hv : v < 0 ∨ 30 < v)  : ev_Cal G mX12_tune 2 0 0 [.ref 129, .int 2, .int v] n M (md_is M (.int (-1000000)) tn c0 c1 c2 sh tx s kp bw ar tu k0 k1 tr) := by
  refine ev_Cal_of (L := [some (.ref 129), some (.int 2), some (.int v), none, none]) (by decide +kernel) (Nat.le_of_ble_eq_true rfl) rfl ?_
  obtain ⟨th, nx, tk, pl, va, fa, d0, d1, d2, sp, of', ba, go, dr, ki, up, dn, dS, dB, dA, one, gof, dof, act, ik, h129, h130, h131, h132, h133, hk0, hk1, h134, h135, h136, h137, h138, h139, h140, h141, h142, h143, hsh⟩ := hM
  refine ev_track (l := [(129, md_o th tr (nI tn) nx tk pl va fa (nI c0) (nI c1) (nI c2) d0 d1 d2 sp of' ba go dr ki up dn), (130, .inl (0, 400, .inl tx)), (131, .inl (0, 386, .inl s)), (132, .inl (0, 772, .inl kp)), (133, .inl (1, 2, .inl ik)), (134, .inl (0, 6, .inl bw)), (135, .inl (0, 6, .inl ar)), (136, .inl (0, 84, .inl dS)), (137, .inl (0, 6, .inl dB)), (138, .inl (0, 6, .inl dA)), (139, .inl (0, 4, .inl tu)), (140, .inl (0, 7, .inl one)), (141, .inl (0, 24, .inl gof)), (142, .inl (0, 12, .inl dof)), (143, .inl (0, 5, .inl act))]) (ev_fa1 h129 (ev_fa1 h130 (ev_fa1 h131 (ev_fa1 h132 (ev_fa1 h133 (ev_fa1 h134 (ev_fa1 h135 (ev_fa1 h136 (ev_fa1 h137 (ev_fa1 h138 (ev_fa1 h139 (ev_fa1 h140 (ev_fa1 h141 (ev_fa1 h142 (ev_fa1 h143 (ev_fa0)))))))))))))))) ?_
  refine ev_aload_n (i := 0) dX12_tune_0 rfl rfl ?_
  refine ev_iconst (v := 0) dX12_tune_1 cni_0 ?_
  refine ev_putiP 0 dX12_tune_2 fpX12_53 (by rfl) (by rfl) (Nat.le_of_ble_eq_true rfl) (by rfl) (by rfl) ?_
  refine ev_iload_n (i := 1) dX12_tune_5 rfl rfl ?_
  refine ev_if_ne (tgt := 14) dX12_tune_6 (by decide) (fun h6 => ?_) (fun h6 => False.elim (absurd h6 (by decide)))
  refine ev_iload_n (i := 1) dX12_tune_14 rfl rfl ?_
  refine ev_iconst (v := 1) dX12_tune_15 cni_1 ?_
  refine ev_icmp_ne (tgt := 24) dX12_tune_16 (by decide) (fun h16 => ?_) (fun h16 => False.elim (absurd h16 (by decide)))
  refine ev_iload_n (i := 1) dX12_tune_24 rfl rfl ?_
  refine ev_iconst (v := 2) dX12_tune_25 cni_2 ?_
  refine ev_icmp_ne (tgt := 34) dX12_tune_26 (by decide) (fun h26 => False.elim (absurd rfl h26)) (fun h26 => ?_)
  refine ev_bipush (v := 30) dX12_tune_29 cnb_30 ?_
  refine ev_goto (tgt := 36) dX12_tune_31 (by decide) ?_
  refine ev_istore_n (i := 3) dX12_tune_36 rfl (Nat.le_of_ble_eq_true rfl) rfl ?_
  refine ev_iload_n (i := 1) dX12_tune_37 rfl rfl ?_
  refine ev_iconst (v := 0) dX12_tune_38 cni_0 ?_
  refine ev_iconst (v := 3) dX12_tune_39 cni_3 ?_
  refine ev_c3 kX12_tune_40 (c13_in) trivial (by decide) (by decide) (Nat.le_of_ble_eq_true rfl) ?_
  refine ev_if_eqb (tgt := 65) dX12_tune_43 (by decide) (fun h43 => False.elim (Bool.false_ne_true (h43.symm.trans (by decide)))) (fun h43 => ?_)
  refine ev_iload_n (i := 2) dX12_tune_46 rfl rfl ?_
  refine ev_iload_n (i := 1) dX12_tune_47 rfl rfl ?_
  refine ev_iconst (v := 3) dX12_tune_48 cni_3 ?_
  refine ev_icmp_ne (tgt := 57) dX12_tune_49 (by decide) (fun h49 => ?_) (fun h49 => False.elim (absurd h49 (by decide)))
  refine ev_iconst (v := 0) dX12_tune_57 cni_0 ?_
  refine ev_iload_n (i := 3) dX12_tune_58 rfl rfl ?_
  refine ev_c3 kX12_tune_59 (c13_in) trivial (by decide) (by decide) (Nat.le_of_ble_eq_true rfl) ?_
  refine ev_if_neb (tgt := 68) dX12_tune_62 (by decide) (fun h62 => False.elim (Bool.false_ne_true ((hv.elim sp_in_1 sp_in_2).symm.trans h62))) (fun h62 => ?_)
  refine ev_ldc dX12_tune_65 coX12_143 ?_
  exact ev_reti dX12_tune_67 rfl rfl (⟨rfl, (md_fin hk0 hk1 hsh)⟩)
theorem m_tune_3 {G : ev_G} {n : Nat} {M : ev_M} {tn c0 c1 c2 sh : Nat} {tx s kp bw ar tu : Nat → Int32} {k0 k1 : Bool} {tr : Int64} (hM : md_S M tn c0 c1 c2 sh tx s kp bw ar tu k0 k1 tr) {v : Int32} (hv : -9 ≤ v ∧ v ≤ 9)  : ev_Cal G mX12_tune 2 0 0 [.ref 129, .int 3, .int v] n M (md_is M (.int (tu 3)) tn c0 c1 c2 sh tx s kp bw ar (upd tu 3 v) k0 k1 tr) := by
  refine ev_Cal_of (L := [some (.ref 129), some (.int 3), some (.int v), none, none]) (by decide +kernel) (Nat.le_of_ble_eq_true rfl) rfl ?_
  obtain ⟨th, nx, tk, pl, va, fa, d0, d1, d2, sp, of', ba, go, dr, ki, up, dn, dS, dB, dA, one, gof, dof, act, ik, h129, h130, h131, h132, h133, hk0, hk1, h134, h135, h136, h137, h138, h139, h140, h141, h142, h143, hsh⟩ := hM
  refine ev_track (l := [(129, md_o th tr (nI tn) nx tk pl va fa (nI c0) (nI c1) (nI c2) d0 d1 d2 sp of' ba go dr ki up dn), (130, .inl (0, 400, .inl tx)), (131, .inl (0, 386, .inl s)), (132, .inl (0, 772, .inl kp)), (133, .inl (1, 2, .inl ik)), (134, .inl (0, 6, .inl bw)), (135, .inl (0, 6, .inl ar)), (136, .inl (0, 84, .inl dS)), (137, .inl (0, 6, .inl dB)), (138, .inl (0, 6, .inl dA)), (139, .inl (0, 4, .inl tu)), (140, .inl (0, 7, .inl one)), (141, .inl (0, 24, .inl gof)), (142, .inl (0, 12, .inl dof)), (143, .inl (0, 5, .inl act))]) (ev_fa1 h129 (ev_fa1 h130 (ev_fa1 h131 (ev_fa1 h132 (ev_fa1 h133 (ev_fa1 h134 (ev_fa1 h135 (ev_fa1 h136 (ev_fa1 h137 (ev_fa1 h138 (ev_fa1 h139 (ev_fa1 h140 (ev_fa1 h141 (ev_fa1 h142 (ev_fa1 h143 (ev_fa0)))))))))))))))) ?_
  refine ev_aload_n (i := 0) dX12_tune_0 rfl rfl ?_
  refine ev_iconst (v := 0) dX12_tune_1 cni_0 ?_
  refine ev_putiP 0 dX12_tune_2 fpX12_53 (by rfl) (by rfl) (Nat.le_of_ble_eq_true rfl) (by rfl) (by rfl) ?_
  refine ev_iload_n (i := 1) dX12_tune_5 rfl rfl ?_
  refine ev_if_ne (tgt := 14) dX12_tune_6 (by decide) (fun h6 => ?_) (fun h6 => False.elim (absurd h6 (by decide)))
  refine ev_iload_n (i := 1) dX12_tune_14 rfl rfl ?_
  refine ev_iconst (v := 1) dX12_tune_15 cni_1 ?_
  refine ev_icmp_ne (tgt := 24) dX12_tune_16 (by decide) (fun h16 => ?_) (fun h16 => False.elim (absurd h16 (by decide)))
  refine ev_iload_n (i := 1) dX12_tune_24 rfl rfl ?_
  refine ev_iconst (v := 2) dX12_tune_25 cni_2 ?_
  refine ev_icmp_ne (tgt := 34) dX12_tune_26 (by decide) (fun h26 => ?_) (fun h26 => False.elim (absurd h26 (by decide)))
  refine ev_bipush (v := 9) dX12_tune_34 cnb_9 ?_
  refine ev_istore_n (i := 3) dX12_tune_36 rfl (Nat.le_of_ble_eq_true rfl) rfl ?_
  refine ev_iload_n (i := 1) dX12_tune_37 rfl rfl ?_
  refine ev_iconst (v := 0) dX12_tune_38 cni_0 ?_
  refine ev_iconst (v := 3) dX12_tune_39 cni_3 ?_
  refine ev_c3 kX12_tune_40 (c13_in) trivial (by decide) (by decide) (Nat.le_of_ble_eq_true rfl) ?_
  refine ev_if_eqb (tgt := 65) dX12_tune_43 (by decide) (fun h43 => False.elim (Bool.false_ne_true (h43.symm.trans (by decide)))) (fun h43 => ?_)
  refine ev_iload_n (i := 2) dX12_tune_46 rfl rfl ?_
  refine ev_iload_n (i := 1) dX12_tune_47 rfl rfl ?_
  refine ev_iconst (v := 3) dX12_tune_48 cni_3 ?_
  refine ev_icmp_ne (tgt := 57) dX12_tune_49 (by decide) (fun h49 => False.elim (absurd rfl h49)) (fun h49 => ?_)
  refine ev_bipush (v := (-9)) dX12_tune_52 cnb_m9 ?_
  refine ev_goto (tgt := 58) dX12_tune_54 (by decide) ?_
  refine ev_iload_n (i := 3) dX12_tune_58 rfl rfl ?_
  refine ev_c3 kX12_tune_59 (c13_in) trivial (by decide) (by decide) (Nat.le_of_ble_eq_true rfl) ?_
  refine ev_if_neb (tgt := 68) dX12_tune_62 (by decide) (fun h62 => ?_) (fun h62 => False.elim (Bool.false_ne_true (h62.symm.trans (sp_in_t hv.1 hv.2))))
  refine ev_aload_n (i := 0) dX12_tune_68 rfl rfl ?_
  refine ev_getf dX12_tune_69 flX12_38 (by rfl) (by rfl) ?_
  refine ev_iload_n (i := 1) dX12_tune_72 rfl rfl ?_
  refine ev_iald (j := 3) dX12_tune_73 (by rfl) (by decide) (by decide) ?_
  refine ev_istore dX12_tune_74 (Nat.le_of_ble_eq_true rfl) rfl ?_
  refine ev_aload_n (i := 0) dX12_tune_76 rfl rfl ?_
  refine ev_getf dX12_tune_77 flX12_38 (by rfl) (by rfl) ?_
  refine ev_iload_n (i := 1) dX12_tune_80 rfl rfl ?_
  refine ev_iload_n (i := 2) dX12_tune_81 rfl rfl ?_
  refine ev_iastP 10 (j := 3) dX12_tune_82 (by rfl) (by rfl) (by decide) (by decide) (by rfl) (by rfl) ?_
  refine ev_iload dX12_tune_83 rfl ?_
  exact ev_reti dX12_tune_85 rfl rfl (⟨rfl, (md_fin hk0 hk1 hsh)⟩)
theorem m_tune_3_no {G : ev_G} {n : Nat} {M : ev_M} {tn c0 c1 c2 sh : Nat} {tx s kp bw ar tu : Nat → Int32} {k0 k1 : Bool} {tr : Int64} (hM : md_S M tn c0 c1 c2 sh tx s kp bw ar tu k0 k1 tr) {v : Int32} (hv : v < -9 ∨ 9 < v)  : ev_Cal G mX12_tune 2 0 0 [.ref 129, .int 3, .int v] n M (md_is M (.int (-1000000)) tn c0 c1 c2 sh tx s kp bw ar tu k0 k1 tr) := by
  refine ev_Cal_of (L := [some (.ref 129), some (.int 3), some (.int v), none, none]) (by decide +kernel) (Nat.le_of_ble_eq_true rfl) rfl ?_
  obtain ⟨th, nx, tk, pl, va, fa, d0, d1, d2, sp, of', ba, go, dr, ki, up, dn, dS, dB, dA, one, gof, dof, act, ik, h129, h130, h131, h132, h133, hk0, hk1, h134, h135, h136, h137, h138, h139, h140, h141, h142, h143, hsh⟩ := hM
  refine ev_track (l := [(129, md_o th tr (nI tn) nx tk pl va fa (nI c0) (nI c1) (nI c2) d0 d1 d2 sp of' ba go dr ki up dn), (130, .inl (0, 400, .inl tx)), (131, .inl (0, 386, .inl s)), (132, .inl (0, 772, .inl kp)), (133, .inl (1, 2, .inl ik)), (134, .inl (0, 6, .inl bw)), (135, .inl (0, 6, .inl ar)), (136, .inl (0, 84, .inl dS)), (137, .inl (0, 6, .inl dB)), (138, .inl (0, 6, .inl dA)), (139, .inl (0, 4, .inl tu)), (140, .inl (0, 7, .inl one)), (141, .inl (0, 24, .inl gof)), (142, .inl (0, 12, .inl dof)), (143, .inl (0, 5, .inl act))]) (ev_fa1 h129 (ev_fa1 h130 (ev_fa1 h131 (ev_fa1 h132 (ev_fa1 h133 (ev_fa1 h134 (ev_fa1 h135 (ev_fa1 h136 (ev_fa1 h137 (ev_fa1 h138 (ev_fa1 h139 (ev_fa1 h140 (ev_fa1 h141 (ev_fa1 h142 (ev_fa1 h143 (ev_fa0)))))))))))))))) ?_
  refine ev_aload_n (i := 0) dX12_tune_0 rfl rfl ?_
  refine ev_iconst (v := 0) dX12_tune_1 cni_0 ?_
  refine ev_putiP 0 dX12_tune_2 fpX12_53 (by rfl) (by rfl) (Nat.le_of_ble_eq_true rfl) (by rfl) (by rfl) ?_
  refine ev_iload_n (i := 1) dX12_tune_5 rfl rfl ?_
  refine ev_if_ne (tgt := 14) dX12_tune_6 (by decide) (fun h6 => ?_) (fun h6 => False.elim (absurd h6 (by decide)))
  refine ev_iload_n (i := 1) dX12_tune_14 rfl rfl ?_
  refine ev_iconst (v := 1) dX12_tune_15 cni_1 ?_
  refine ev_icmp_ne (tgt := 24) dX12_tune_16 (by decide) (fun h16 => ?_) (fun h16 => False.elim (absurd h16 (by decide)))
  refine ev_iload_n (i := 1) dX12_tune_24 rfl rfl ?_
  refine ev_iconst (v := 2) dX12_tune_25 cni_2 ?_
  refine ev_icmp_ne (tgt := 34) dX12_tune_26 (by decide) (fun h26 => ?_) (fun h26 => False.elim (absurd h26 (by decide)))
  refine ev_bipush (v := 9) dX12_tune_34 cnb_9 ?_
  refine ev_istore_n (i := 3) dX12_tune_36 rfl (Nat.le_of_ble_eq_true rfl) rfl ?_
  refine ev_iload_n (i := 1) dX12_tune_37 rfl rfl ?_
  refine ev_iconst (v := 0) dX12_tune_38 cni_0 ?_
  refine ev_iconst (v := 3) dX12_tune_39 cni_3 ?_
  refine ev_c3 kX12_tune_40 (c13_in) trivial (by decide) (by decide) (Nat.le_of_ble_eq_true rfl) ?_
  refine ev_if_eqb (tgt := 65) dX12_tune_43 (by decide) (fun h43 => False.elim (Bool.false_ne_true (h43.symm.trans (by decide)))) (fun h43 => ?_)
  refine ev_iload_n (i := 2) dX12_tune_46 rfl rfl ?_
  refine ev_iload_n (i := 1) dX12_tune_47 rfl rfl ?_
  refine ev_iconst (v := 3) dX12_tune_48 cni_3 ?_
  refine ev_icmp_ne (tgt := 57) dX12_tune_49 (by decide) (fun h49 => False.elim (absurd rfl h49)) (fun h49 => ?_)
  refine ev_bipush (v := (-9)) dX12_tune_52 cnb_m9 ?_
  refine ev_goto (tgt := 58) dX12_tune_54 (by decide) ?_
  refine ev_iload_n (i := 3) dX12_tune_58 rfl rfl ?_
  refine ev_c3 kX12_tune_59 (c13_in) trivial (by decide) (by decide) (Nat.le_of_ble_eq_true rfl) ?_
  refine ev_if_neb (tgt := 68) dX12_tune_62 (by decide) (fun h62 => False.elim (Bool.false_ne_true ((hv.elim sp_in_1 sp_in_2).symm.trans h62))) (fun h62 => ?_)
  refine ev_ldc dX12_tune_65 coX12_143 ?_
  exact ev_reti dX12_tune_67 rfl rfl (⟨rfl, (md_fin hk0 hk1 hsh)⟩)
theorem m_tune_w {G : ev_G} {n : Nat} {M : ev_M} {tn c0 c1 c2 sh : Nat} {tx s kp bw ar tu : Nat → Int32} {k0 k1 : Bool} {tr : Int64} (hM : md_S M tn c0 c1 c2 sh tx s kp bw ar tu k0 k1 tr) {w v : Int32} (hw : w < 0 ∨ 3 < w)  : ev_Cal G mX12_tune 2 0 0 [.ref 129, .int w, .int v] n M (md_is M (.int (-1000000)) tn c0 c1 c2 sh tx s kp bw ar tu k0 k1 tr) := by
  refine ev_Cal_of (L := [some (.ref 129), some (.int w), some (.int v), none, none]) (by decide +kernel) (Nat.le_of_ble_eq_true rfl) rfl ?_
  obtain ⟨th, nx, tk, pl, va, fa, d0, d1, d2, sp, of', ba, go, dr, ki, up, dn, dS, dB, dA, one, gof, dof, act, ik, h129, h130, h131, h132, h133, hk0, hk1, h134, h135, h136, h137, h138, h139, h140, h141, h142, h143, hsh⟩ := hM
  refine ev_track (l := [(129, md_o th tr (nI tn) nx tk pl va fa (nI c0) (nI c1) (nI c2) d0 d1 d2 sp of' ba go dr ki up dn), (130, .inl (0, 400, .inl tx)), (131, .inl (0, 386, .inl s)), (132, .inl (0, 772, .inl kp)), (133, .inl (1, 2, .inl ik)), (134, .inl (0, 6, .inl bw)), (135, .inl (0, 6, .inl ar)), (136, .inl (0, 84, .inl dS)), (137, .inl (0, 6, .inl dB)), (138, .inl (0, 6, .inl dA)), (139, .inl (0, 4, .inl tu)), (140, .inl (0, 7, .inl one)), (141, .inl (0, 24, .inl gof)), (142, .inl (0, 12, .inl dof)), (143, .inl (0, 5, .inl act))]) (ev_fa1 h129 (ev_fa1 h130 (ev_fa1 h131 (ev_fa1 h132 (ev_fa1 h133 (ev_fa1 h134 (ev_fa1 h135 (ev_fa1 h136 (ev_fa1 h137 (ev_fa1 h138 (ev_fa1 h139 (ev_fa1 h140 (ev_fa1 h141 (ev_fa1 h142 (ev_fa1 h143 (ev_fa0)))))))))))))))) ?_
  refine ev_aload_n (i := 0) dX12_tune_0 rfl rfl ?_
  refine ev_iconst (v := 0) dX12_tune_1 cni_0 ?_
  refine ev_putiP 0 dX12_tune_2 fpX12_53 (by rfl) (by rfl) (Nat.le_of_ble_eq_true rfl) (by rfl) (by rfl) ?_
  refine ev_iload_n (i := 1) dX12_tune_5 rfl rfl ?_
  refine ev_if_ne (tgt := 14) dX12_tune_6 (by decide) (fun h6 => ?_) (fun h6 => False.elim (by subst h6; exact absurd hw (by decide)))
  refine ev_iload_n (i := 1) dX12_tune_14 rfl rfl ?_
  refine ev_iconst (v := 1) dX12_tune_15 cni_1 ?_
  refine ev_icmp_ne (tgt := 24) dX12_tune_16 (by decide) (fun h16 => ?_) (fun h16 => False.elim (by subst h16; exact absurd hw (by decide)))
  refine ev_iload_n (i := 1) dX12_tune_24 rfl rfl ?_
  refine ev_iconst (v := 2) dX12_tune_25 cni_2 ?_
  refine ev_icmp_ne (tgt := 34) dX12_tune_26 (by decide) (fun h26 => ?_) (fun h26 => False.elim (by subst h26; exact absurd hw (by decide)))
  refine ev_bipush (v := 9) dX12_tune_34 cnb_9 ?_
  refine ev_istore_n (i := 3) dX12_tune_36 rfl (Nat.le_of_ble_eq_true rfl) rfl ?_
  refine ev_iload_n (i := 1) dX12_tune_37 rfl rfl ?_
  refine ev_iconst (v := 0) dX12_tune_38 cni_0 ?_
  refine ev_iconst (v := 3) dX12_tune_39 cni_3 ?_
  refine ev_c3 kX12_tune_40 (c13_in) trivial (by decide) (by decide) (Nat.le_of_ble_eq_true rfl) ?_
  refine ev_if_eqb (tgt := 65) dX12_tune_43 (by decide) (fun h43 => ?_) (fun h43 => False.elim (Bool.false_ne_true ((hw.elim sp_in_1 sp_in_2).symm.trans h43)))
  refine ev_ldc dX12_tune_65 coX12_143 ?_
  exact ev_reti dX12_tune_67 rfl rfl (⟨rfl, (md_fin hk0 hk1 hsh)⟩)
theorem m_shot {G : ev_G} {n : Nat} {M : ev_M} {tn c0 c1 c2 sh : Nat} {tx s kp bw ar tu : Nat → Int32} {k0 k1 : Bool} {tr : Int64} (hM : md_S M tn c0 c1 c2 sh tx s kp bw ar tu k0 k1 tr) {k w : Nat} (hsz : sh ≤ 60) (hk : k < sh) (hw : w < 5)  : ev_Cal G mX12_shot 2 0 0 [.ref 129, .int (nI k), .int (nI w)] n M (md_is M (.int (s (86 + (5 * k + w)))) tn c0 c1 c2 sh tx s kp bw ar tu k0 k1 tr) := by
  refine ev_Cal_of (L := [some (.ref 129), some (.int (nI k)), some (.int (nI w))]) (by decide +kernel) (Nat.le_of_ble_eq_true rfl) rfl ?_
  obtain ⟨th, nx, tk, pl, va, fa, d0, d1, d2, sp, of', ba, go, dr, ki, up, dn, dS, dB, dA, one, gof, dof, act, ik, h129, h130, h131, h132, h133, hk0, hk1, h134, h135, h136, h137, h138, h139, h140, h141, h142, h143, hsh⟩ := hM
  refine ev_track (l := [(129, md_o th tr (nI tn) nx tk pl va fa (nI c0) (nI c1) (nI c2) d0 d1 d2 sp of' ba go dr ki up dn), (130, .inl (0, 400, .inl tx)), (131, .inl (0, 386, .inl s)), (132, .inl (0, 772, .inl kp)), (133, .inl (1, 2, .inl ik)), (134, .inl (0, 6, .inl bw)), (135, .inl (0, 6, .inl ar)), (136, .inl (0, 84, .inl dS)), (137, .inl (0, 6, .inl dB)), (138, .inl (0, 6, .inl dA)), (139, .inl (0, 4, .inl tu)), (140, .inl (0, 7, .inl one)), (141, .inl (0, 24, .inl gof)), (142, .inl (0, 12, .inl dof)), (143, .inl (0, 5, .inl act))]) (ev_fa1 h129 (ev_fa1 h130 (ev_fa1 h131 (ev_fa1 h132 (ev_fa1 h133 (ev_fa1 h134 (ev_fa1 h135 (ev_fa1 h136 (ev_fa1 h137 (ev_fa1 h138 (ev_fa1 h139 (ev_fa1 h140 (ev_fa1 h141 (ev_fa1 h142 (ev_fa1 h143 (ev_fa0)))))))))))))))) ?_
  refine ev_aload_n (i := 0) dX12_shot_0 rfl rfl ?_
  refine ev_iconst (v := 0) dX12_shot_1 cni_0 ?_
  refine ev_putiP 0 dX12_shot_2 fpX12_53 (by rfl) (by rfl) (Nat.le_of_ble_eq_true rfl) (by rfl) (by rfl) ?_
  refine ev_iload_n (i := 1) dX12_shot_5 rfl rfl ?_
  refine ev_iconst (v := 0) dX12_shot_6 cni_0 ?_
  refine ev_aload_n (i := 0) dX12_shot_7 rfl rfl ?_
  refine ev_getf dX12_shot_8 flX12_13 (by rfl) (by rfl) ?_
  refine ev_bipush (v := 85) dX12_shot_11 cnb_85 ?_
  refine ev_iald (j := 85) dX12_shot_13 (by rfl) (by decide) (by decide) ?_
  refine ev_topi hsh ?_
  refine ev_iconst (v := 1) dX12_shot_14 cni_1 ?_
  refine ev_isub dX12_shot_15 ?_
  refine ev_c3 kX12_shot_16 (c13_in) trivial (by decide) (by decide) (Nat.le_of_ble_eq_true rfl) ?_
  refine ev_if_eqb (tgt := 47) dX12_shot_19 (by decide) (fun h19 => False.elim (Bool.false_ne_true (h19.symm.trans (sp_in_ix hk (by omega))))) (fun h19 => ?_)
  refine ev_iload_n (i := 2) dX12_shot_22 rfl rfl ?_
  refine ev_iconst (v := 0) dX12_shot_23 cni_0 ?_
  refine ev_iconst (v := 4) dX12_shot_24 cni_4 ?_
  refine ev_c3 kX12_shot_25 (c13_in) trivial (by decide) (by decide) (Nat.le_of_ble_eq_true rfl) ?_
  refine ev_if_eqb (tgt := 47) dX12_shot_28 (by decide) (fun h28 => False.elim (Bool.false_ne_true (h28.symm.trans (sp_in_t (nI_pos' (by omega)) (nI_le (a := w) (b := 4) (by omega) (by decide)))))) (fun h28 => ?_)
  refine ev_aload_n (i := 0) dX12_shot_31 rfl rfl ?_
  refine ev_getf dX12_shot_32 flX12_13 (by rfl) (by rfl) ?_
  refine ev_bipush (v := 86) dX12_shot_35 cnb_86 ?_
  refine ev_iconst (v := 5) dX12_shot_37 cni_5 ?_
  refine ev_iload_n (i := 1) dX12_shot_38 rfl rfl ?_
  refine ev_imul dX12_shot_39 ?_
  refine ev_iadd dX12_shot_40 ?_
  refine ev_iload_n (i := 2) dX12_shot_41 rfl rfl ?_
  refine ev_iadd dX12_shot_42 ?_
  refine ev_iald (j := 86 + (5 * k + w)) dX12_shot_43 (by rfl) (ev_ixc (j := 86 + (5 * k + w)) (by show nI 86 + nI 5 * nI k + nI w = _; rw [nI_mul, nI_add, nI_add, Nat.add_assoc]) (by omega)) (by omega) ?_
  refine ev_goto (tgt := 49) dX12_shot_44 (by decide) ?_
  exact ev_reti dX12_shot_49 rfl rfl (⟨rfl, (md_fin hk0 hk1 hsh)⟩)
theorem m_shot_k {G : ev_G} {n : Nat} {M : ev_M} {tn c0 c1 c2 sh : Nat} {tx s kp bw ar tu : Nat → Int32} {k0 k1 : Bool} {tr : Int64} (hM : md_S M tn c0 c1 c2 sh tx s kp bw ar tu k0 k1 tr) {x w : Int32} (hsz : sh ≤ 60) (hx : x < 0 ∨ nI sh ≤ x)  : ev_Cal G mX12_shot 2 0 0 [.ref 129, .int x, .int w] n M (md_is M (.int (-1000000)) tn c0 c1 c2 sh tx s kp bw ar tu k0 k1 tr) := by
  refine ev_Cal_of (L := [some (.ref 129), some (.int x), some (.int w)]) (by decide +kernel) (Nat.le_of_ble_eq_true rfl) rfl ?_
  obtain ⟨th, nx, tk, pl, va, fa, d0, d1, d2, sp, of', ba, go, dr, ki, up, dn, dS, dB, dA, one, gof, dof, act, ik, h129, h130, h131, h132, h133, hk0, hk1, h134, h135, h136, h137, h138, h139, h140, h141, h142, h143, hsh⟩ := hM
  refine ev_track (l := [(129, md_o th tr (nI tn) nx tk pl va fa (nI c0) (nI c1) (nI c2) d0 d1 d2 sp of' ba go dr ki up dn), (130, .inl (0, 400, .inl tx)), (131, .inl (0, 386, .inl s)), (132, .inl (0, 772, .inl kp)), (133, .inl (1, 2, .inl ik)), (134, .inl (0, 6, .inl bw)), (135, .inl (0, 6, .inl ar)), (136, .inl (0, 84, .inl dS)), (137, .inl (0, 6, .inl dB)), (138, .inl (0, 6, .inl dA)), (139, .inl (0, 4, .inl tu)), (140, .inl (0, 7, .inl one)), (141, .inl (0, 24, .inl gof)), (142, .inl (0, 12, .inl dof)), (143, .inl (0, 5, .inl act))]) (ev_fa1 h129 (ev_fa1 h130 (ev_fa1 h131 (ev_fa1 h132 (ev_fa1 h133 (ev_fa1 h134 (ev_fa1 h135 (ev_fa1 h136 (ev_fa1 h137 (ev_fa1 h138 (ev_fa1 h139 (ev_fa1 h140 (ev_fa1 h141 (ev_fa1 h142 (ev_fa1 h143 (ev_fa0)))))))))))))))) ?_
  refine ev_aload_n (i := 0) dX12_shot_0 rfl rfl ?_
  refine ev_iconst (v := 0) dX12_shot_1 cni_0 ?_
  refine ev_putiP 0 dX12_shot_2 fpX12_53 (by rfl) (by rfl) (Nat.le_of_ble_eq_true rfl) (by rfl) (by rfl) ?_
  refine ev_iload_n (i := 1) dX12_shot_5 rfl rfl ?_
  refine ev_iconst (v := 0) dX12_shot_6 cni_0 ?_
  refine ev_aload_n (i := 0) dX12_shot_7 rfl rfl ?_
  refine ev_getf dX12_shot_8 flX12_13 (by rfl) (by rfl) ?_
  refine ev_bipush (v := 85) dX12_shot_11 cnb_85 ?_
  refine ev_iald (j := 85) dX12_shot_13 (by rfl) (by decide) (by decide) ?_
  refine ev_topi hsh ?_
  refine ev_iconst (v := 1) dX12_shot_14 cni_1 ?_
  refine ev_isub dX12_shot_15 ?_
  refine ev_c3 kX12_shot_16 (c13_in) trivial (by decide) (by decide) (Nat.le_of_ble_eq_true rfl) ?_
  refine ev_if_eqb (tgt := 47) dX12_shot_19 (by decide) (fun h19 => ?_) (fun h19 => False.elim (Bool.false_ne_true ((sp_in_out (by omega) hx).symm.trans h19)))
  refine ev_ldc dX12_shot_47 coX12_143 ?_
  exact ev_reti dX12_shot_49 rfl rfl (⟨rfl, (md_fin hk0 hk1 hsh)⟩)
theorem m_shot_w {G : ev_G} {n : Nat} {M : ev_M} {tn c0 c1 c2 sh : Nat} {tx s kp bw ar tu : Nat → Int32} {k0 k1 : Bool} {tr : Int64} (hM : md_S M tn c0 c1 c2 sh tx s kp bw ar tu k0 k1 tr) {k : Nat} {w : Int32} (hsz : sh ≤ 60) (hk : k < sh) (hw : w < 0 ∨ 4 < w)  : ev_Cal G mX12_shot 2 0 0 [.ref 129, .int (nI k), .int w] n M (md_is M (.int (-1000000)) tn c0 c1 c2 sh tx s kp bw ar tu k0 k1 tr) := by
  refine ev_Cal_of (L := [some (.ref 129), some (.int (nI k)), some (.int w)]) (by decide +kernel) (Nat.le_of_ble_eq_true rfl) rfl ?_
  obtain ⟨th, nx, tk, pl, va, fa, d0, d1, d2, sp, of', ba, go, dr, ki, up, dn, dS, dB, dA, one, gof, dof, act, ik, h129, h130, h131, h132, h133, hk0, hk1, h134, h135, h136, h137, h138, h139, h140, h141, h142, h143, hsh⟩ := hM
  refine ev_track (l := [(129, md_o th tr (nI tn) nx tk pl va fa (nI c0) (nI c1) (nI c2) d0 d1 d2 sp of' ba go dr ki up dn), (130, .inl (0, 400, .inl tx)), (131, .inl (0, 386, .inl s)), (132, .inl (0, 772, .inl kp)), (133, .inl (1, 2, .inl ik)), (134, .inl (0, 6, .inl bw)), (135, .inl (0, 6, .inl ar)), (136, .inl (0, 84, .inl dS)), (137, .inl (0, 6, .inl dB)), (138, .inl (0, 6, .inl dA)), (139, .inl (0, 4, .inl tu)), (140, .inl (0, 7, .inl one)), (141, .inl (0, 24, .inl gof)), (142, .inl (0, 12, .inl dof)), (143, .inl (0, 5, .inl act))]) (ev_fa1 h129 (ev_fa1 h130 (ev_fa1 h131 (ev_fa1 h132 (ev_fa1 h133 (ev_fa1 h134 (ev_fa1 h135 (ev_fa1 h136 (ev_fa1 h137 (ev_fa1 h138 (ev_fa1 h139 (ev_fa1 h140 (ev_fa1 h141 (ev_fa1 h142 (ev_fa1 h143 (ev_fa0)))))))))))))))) ?_
  refine ev_aload_n (i := 0) dX12_shot_0 rfl rfl ?_
  refine ev_iconst (v := 0) dX12_shot_1 cni_0 ?_
  refine ev_putiP 0 dX12_shot_2 fpX12_53 (by rfl) (by rfl) (Nat.le_of_ble_eq_true rfl) (by rfl) (by rfl) ?_
  refine ev_iload_n (i := 1) dX12_shot_5 rfl rfl ?_
  refine ev_iconst (v := 0) dX12_shot_6 cni_0 ?_
  refine ev_aload_n (i := 0) dX12_shot_7 rfl rfl ?_
  refine ev_getf dX12_shot_8 flX12_13 (by rfl) (by rfl) ?_
  refine ev_bipush (v := 85) dX12_shot_11 cnb_85 ?_
  refine ev_iald (j := 85) dX12_shot_13 (by rfl) (by decide) (by decide) ?_
  refine ev_topi hsh ?_
  refine ev_iconst (v := 1) dX12_shot_14 cni_1 ?_
  refine ev_isub dX12_shot_15 ?_
  refine ev_c3 kX12_shot_16 (c13_in) trivial (by decide) (by decide) (Nat.le_of_ble_eq_true rfl) ?_
  refine ev_if_eqb (tgt := 47) dX12_shot_19 (by decide) (fun h19 => False.elim (Bool.false_ne_true (h19.symm.trans (sp_in_ix hk (by omega))))) (fun h19 => ?_)
  refine ev_iload_n (i := 2) dX12_shot_22 rfl rfl ?_
  refine ev_iconst (v := 0) dX12_shot_23 cni_0 ?_
  refine ev_iconst (v := 4) dX12_shot_24 cni_4 ?_
  refine ev_c3 kX12_shot_25 (c13_in) trivial (by decide) (by decide) (Nat.le_of_ble_eq_true rfl) ?_
  refine ev_if_eqb (tgt := 47) dX12_shot_28 (by decide) (fun h28 => ?_) (fun h28 => False.elim (Bool.false_ne_true ((hw.elim sp_in_1 sp_in_2).symm.trans h28)))
  refine ev_ldc dX12_shot_47 coX12_143 ?_
  exact ev_reti dX12_shot_49 rfl rfl (⟨rfl, (md_fin hk0 hk1 hsh)⟩)
