/-! ===== own layer: a row an instruction ===== -/
def ev_b (p : Bool) : Int32 := bif p then 1 else 0
abbrev ev_ix (i : Int32) (j : Nat) : Prop := ¬ i < 0 ∧ i.toNatClampNeg = j
theorem ev_ix_in {i : Int32} {j n : Nat} (h : ev_ix i j) (hj : j < n) : vp_in i n := by
  intro q
  rcases q with q | q
  · exact h.1 q
  · rw [h.2] at q; omega
theorem ev_upd {G : ev_G} {s : State} {n : Nat} {M : ev_M} {H H1 : Heap} {a : Nat} {c : ev_MC} (hH : ev_H G s n M H) (h1 : 21 ≤ a ∧ a < 21 + n) (hz : H1.size = H.size) (oq : ∀ q, q ≠ ev_ad G a → H1[q]? = H[q]?) (hat : va_at (ev_D G) vwCl (ev_ad G a, ev_cell G c) H1) : ev_H G s n (ev_set M a c) H1 := by
  refine ⟨?_, by rw [hz]; exact hH.2.1, hH.2.2.1.kept (fun q _ hA => oq q (fun e => hA (by rw [e]; exact ev_ad_own h1.1))), fun k hk => ?_⟩
  · rw [← ev_wl_set h1.1 h1.2]
    exact hH.1.set ev_wl_D (ev_wl_at h1.1 h1.2) hat oq
  · rw [ev_set_ne (by omega)]; exact hH.2.2.2 k hk
theorem ev_grow {G : ev_G} {s : State} {n : Nat} {M : ev_M} {H H1 : Heap} {c : ev_MC} (hH : ev_H G s n M H) (hz : H1.size = H.size + 1) (oq : ∀ q, q < H.size → H1[q]? = H[q]?) (hat : va_at (ev_D G) vwCl (H.size, ev_cell G c) H1) : ev_H G s (n + 1) (ev_set M (21 + n) c) H1 := by
  refine ⟨?_, by rw [hz, hH.2.1]; omega, hH.2.2.1.kept (fun q hl _ => oq q hl), fun k hk => ?_⟩
  · rw [← ev_wl_push]
    refine va_P.app (hH.1.kept (fun k x hx => oq x.1 ((hH.1 k x hx).lt))) (fun k x hx => ?_)
    have hk : k < 1 := (List.getElem?_eq_some_iff.mp hx).1
    rw [show k = 0 by omega] at hx
    cases hx
    rw [← hH.2.1]
    exact hat
  · rw [ev_set_ne (by omega)]; exact hH.2.2.2 k (by omega)
theorem ev_S_grow {A : Nat → Prop} {H0 H H1 : Heap} {locs : List Loc} (hS : va_S A H0 H locs) (hz : H1.size = H.size + 1) (oq : ∀ q, q < H.size → H1[q]? = H[q]?) : va_S A H0 H1 locs :=
  ⟨Nat.le_trans hS.1 (by omega), fun x h1 h2 => (oq x (Nat.lt_of_lt_of_le h1 hS.1)).trans (hS.2.1 x h1 h2), hS.2.2⟩
/-- a field: which entry of whose pool, which class's which slot -/
def ev_FL (own : String) (idx ci k : Nat) : Prop := ∃ r : vw_C, vwCl[ci]? = some r ∧ k < r.2.2 ∧ Cond.fieldLink own idx r.1 (r.2.1 k).2.1 (r.2.1 k).2.2.1 ∈ ev_TB ∧ (∀ w ∈ u_ws r.1 r.2.1 r.2.2, w ∈ ev_TB) ∧ (r.2.1 k).1 = r.1
/-- ... one that is written: its type, whether it is final -/
def ev_FP (own : String) (idx ci k : Nat) (ty : FieldType) (fin : Bool) : Prop := ∃ (r : vw_C) (ty0 : Nat → FieldType), vwCl[ci]? = some r ∧ k < r.2.2 ∧ Cond.fieldLink own idx r.1 (r.2.1 k).2.1 (r.2.1 k).2.2.1 ∈ ev_TB ∧ (∀ w ∈ u_ws r.1 r.2.1 r.2.2, w ∈ ev_TB) ∧ (r.2.1 k).1 = r.1 ∧
  (∀ k, k < r.2.2 → parseFieldDescriptor (r.2.1 k).2.2.1 = some (ty0 k)) ∧ (∀ a, a < r.2.2 → ∀ b, b < r.2.2 → a ≠ b → (r.2.1 a).2.1 ≠ (r.2.1 b).2.1) ∧ parseFieldDescriptor (r.2.1 k).2.2.1 = some ty ∧ (r.2.1 k).2.2.2 = fin ∧ (fin = true → r.1 = own)
/-- a class that is made: its fields' defaults -/
def ev_NW (own : String) (idx ci : Nat) (fs : List Value) (N : Nat) : Prop := ∃ (r : vw_C) (ty0 : Nat → FieldType), vwCl[ci]? = some r ∧ r.2.2 = N ∧ Cond.classLink own idx r.1 ∈ ev_TB ∧ Cond.instantiable r.1 r.2.2 ∈ ev_TB ∧ Cond.initialized r.1 ∈ ev_TB ∧ (∀ w ∈ u_ws r.1 r.2.1 r.2.2, w ∈ ev_TB) ∧
  (∀ k, k < r.2.2 → parseFieldDescriptor (r.2.1 k).2.2.1 = some (ty0 k)) ∧ ∀ j, j < r.2.2 → defaultValue (ty0 j) = vp_V (fs.map fun v => v) j ∧ ∀ G, vp_V (fs.map (ev_v G)) j = vp_V fs j
theorem ev_top {G : ev_G} {n : Nat} : ev_v G (.ref (21 + n)) = .ref (ev_base G + n) := by rw [ev_v, ev_ad, if_neg (by omega), Nat.add_sub_cancel_left]
theorem ev_old {G : ev_G} {k : Nat} (h : k < 21) : ev_v G (.ref k) = .ref (ev_pre G k) := by rw [ev_v, ev_ad, if_pos h]
section EVR
variable {G : ev_G} {y : ev_MI} {f rc ru n : Nat} {M : ev_M} {pc : Nat} {L : List (Option Value)} {st : List Value} {Post : Option Value → ev_M → Prop}
/-- the memory may be put otherwise -/
theorem ev_mem {M2 : ev_M} (h : M = M2) (k : ev_E G y f rc ru n M2 pc L st Post) : ev_E G y f rc ru n M pc L st Post := h ▸ k
theorem ev_pre1 {a : Nat} {c : ev_MC} (h : M a = c) (k : ev_E G y f rc ru n (ev_set M a c) pc L st Post) : ev_E G y f rc ru n M pc L st Post := by rw [ev_set_self h] at k; exact k
theorem ev_loc {L2 : List (Option Value)} (h : L = L2) (k : ev_E G y f rc ru n M pc L2 st Post) : ev_E G y f rc ru n M pc L st Post := h ▸ k
theorem ev_stk {st2 : List Value} (h : st = st2) (k : ev_E G y f rc ru n M pc L st2 Post) : ev_E G y f rc ru n M pc L st Post := h ▸ k
/-- fewer locals -/
theorem ev_fewer {L2 : List (Option Value)} (h : ∀ (i : Nat) (v : Value), L2[i]? = some (some v) → L[i]? = some (some v)) (k : ev_E G y f rc ru n M pc L2 st Post) : ev_E G y f rc ru n M pc L st Post :=
  fun p l e R s m args below meth c H locs cells slots ls Q hC hf hlo hc hs hL hH hS hend => k p l e R s m args below meth c H locs cells slots ls Q hC hf hlo hc hs ⟨hL.1, hL.2.1, fun i v hi => hL.2.2 i v (h i v hi)⟩ hH hS hend
theorem ev_post {Post2 : Option Value → ev_M → Prop} (h : ∀ r M1, Post2 r M1 → Post r M1) (k : ev_E G y f rc ru n M pc L st Post2) : ev_E G y f rc ru n M pc L st Post :=
  fun p l e R s m args below meth c H locs cells slots ls Q hC hf hlo hc hs hL hH hS hend => k p l e R s m args below meth c H locs cells slots ls Q hC hf hlo hc hs hL hH hS (fun pc' ls' r M' H' locs' ho hH' hS' hP => hend pc' ls' r M' H' locs' ho hH' hS' (h r M' hP))

theorem ev_iconst {z : Int} {v : Int32} (hd : decode y.2.1 pc = .ok (.iconst z, 1)) (hv : Int32.ofInt z = v) (k : ev_E G y f rc ru n M (pc + 1) L (.int v :: st) Post) : ev_E G y f rc ru n M pc L (st) Post := by
  intro p l e R s m args below meth c H locs cells slots ls Q hC hf hlo hc hs hL hH hS hend
  exact lv_iconst hC.1 hC.2.1 hd hv (k p l e R s m args below meth c H locs cells slots ls Q hC hf hlo hc hs hL hH hS hend)

theorem ev_bipush {z : Int} {v : Int32} (hd : decode y.2.1 pc = .ok (.bipush z, 2)) (hv : (Int8.ofInt z).toInt32 = v) (k : ev_E G y f rc ru n M (pc + 2) L (.int v :: st) Post) : ev_E G y f rc ru n M pc L (st) Post := by
  intro p l e R s m args below meth c H locs cells slots ls Q hC hf hlo hc hs hL hH hS hend
  exact lv_bipush hC.1 hC.2.1 hd hv (k p l e R s m args below meth c H locs cells slots ls Q hC hf hlo hc hs hL hH hS hend)

theorem ev_sipush {z : Int} {v : Int32} (hd : decode y.2.1 pc = .ok (.sipush z, 3)) (hv : (Int16.ofInt z).toInt32 = v) (k : ev_E G y f rc ru n M (pc + 3) L (.int v :: st) Post) : ev_E G y f rc ru n M pc L (st) Post := by
  intro p l e R s m args below meth c H locs cells slots ls Q hC hf hlo hc hs hL hH hS hend
  exact lv_sipush hC.1 hC.2.1 hd hv (k p l e R s m args below meth c H locs cells slots ls Q hC hf hlo hc hs hL hH hS hend)

theorem ev_lconst {z : Fin 2} {v : Int64} (hd : decode y.2.1 pc = .ok (.lconst z, 1)) (hv : Int64.ofNat (z : Nat) = v) (k : ev_E G y f rc ru n M (pc + 1) L (.long v :: st) Post) : ev_E G y f rc ru n M pc L (st) Post := by
  intro p l e R s m args below meth c H locs cells slots ls Q hC hf hlo hc hs hL hH hS hend
  exact lv_lconst hC.1 hC.2.1 hd hv (k p l e R s m args below meth c H locs cells slots ls Q hC hf hlo hc hs hL hH hS hend)

theorem ev_ldc {idx : Nat} {v : Int32} (hd : decode y.2.1 pc = .ok (.ldc idx, 2)) (hw : Cond.constant y.1.cls idx v ∈ ev_TB) (k : ev_E G y f rc ru n M (pc + 2) L (.int v :: st) Post) : ev_E G y f rc ru n M pc L (st) Post := by
  intro p l e R s m args below meth c H locs cells slots ls Q hC hf hlo hc hs hL hH hS hend
  exact lv_ldc hC.1 hC.2.1 hC.2.2.2.1 (hC.2.2.2.2.1 _ hw) hd (k p l e R s m args below meth c H locs cells slots ls Q hC hf hlo hc hs hL hH hS hend)

theorem ev_ldcw {idx : Nat} {v : Int32} (hd : decode y.2.1 pc = .ok (.ldc_w idx, 3)) (hw : Cond.constant y.1.cls idx v ∈ ev_TB) (k : ev_E G y f rc ru n M (pc + 3) L (.int v :: st) Post) : ev_E G y f rc ru n M pc L (st) Post := by
  intro p l e R s m args below meth c H locs cells slots ls Q hC hf hlo hc hs hL hH hS hend
  exact lv_ldcw hC.1 hC.2.1 hC.2.2.2.1 (hC.2.2.2.2.1 _ hw) hd (k p l e R s m args below meth c H locs cells slots ls Q hC hf hlo hc hs hL hH hS hend)

theorem ev_ldc2 {idx : Nat} {v : Int64} (hd : decode y.2.1 pc = .ok (.ldc2_w idx, 3)) (hw : Cond.constantLong y.1.cls idx v ∈ ev_TB) (k : ev_E G y f rc ru n M (pc + 3) L (.long v :: st) Post) : ev_E G y f rc ru n M pc L (st) Post := by
  intro p l e R s m args below meth c H locs cells slots ls Q hC hf hlo hc hs hL hH hS hend
  exact lv_ldc2 hC.1 hC.2.1 hC.2.2.2.1 (hC.2.2.2.2.1 _ hw) hd (k p l e R s m args below meth c H locs cells slots ls Q hC hf hlo hc hs hL hH hS hend)

theorem ev_ldcS {i idx : Nat} {tx : String} (hd : decode y.2.1 pc = .ok (.ldc idx, 2)) (ho : y.1.cls = RX7) (hi : i < 5) (hq : ev_sx[i]? = some (idx, tx)) (k : ev_E G y f rc ru n M (pc + 2) L (.ref (9 + i) :: st) Post) : ev_E G y f rc ru n M pc L (st) Post := by
  intro p l e R s m args below meth c H locs cells slots ls Q hC hf hlo hc hs hL hH hS hend
  exact va_ldcS hC.1 hC.2.1 (own := RX7) (tx := tx) (q := ev_pre G (9 + i)) (by rw [← ho]; exact hC.2.2.2.1) (hC.2.2.2.2.2.1.2.2.2 i _ hq) hd (by have k2 := k p l e R s m args below meth c H locs cells slots ls Q hC hf hlo hc hs hL hH hS hend; rw [List.map_cons, ev_v, ev_ad, if_pos (by omega)] at k2; exact k2)

theorem ev_null  (hd : decode y.2.1 pc = .ok (.aconst_null, 1)) (k : ev_E G y f rc ru n M (pc + 1) L (.null :: st) Post) : ev_E G y f rc ru n M pc L (st) Post := by
  intro p l e R s m args below meth c H locs cells slots ls Q hC hf hlo hc hs hL hH hS hend
  exact lv_null hC.1 hC.2.1 hd (k p l e R s m args below meth c H locs cells slots ls Q hC hf hlo hc hs hL hH hS hend)

theorem ev_iload_n {q : Fin 4} {i : Nat} {x : Int32} (hd : decode y.2.1 pc = .ok (.iload_n q, 1)) (hi : (q : Nat) = i) (hl : L[i]? = some (some (.int x))) (k : ev_E G y f rc ru n M (pc + 1) L (.int x :: st) Post) : ev_E G y f rc ru n M pc L (st) Post := by
  intro p l e R s m args below meth c H locs cells slots ls Q hC hf hlo hc hs hL hH hS hend
  exact lv_iload_n hC.1 hC.2.1 hd hi (hL.2.2 _ _ hl) (k p l e R s m args below meth c H locs cells slots ls Q hC hf hlo hc hs hL hH hS hend)

theorem ev_iload {i : Nat} {x : Int32} (hd : decode y.2.1 pc = .ok (.iload i, 2)) (hl : L[i]? = some (some (.int x))) (k : ev_E G y f rc ru n M (pc + 2) L (.int x :: st) Post) : ev_E G y f rc ru n M pc L (st) Post := by
  intro p l e R s m args below meth c H locs cells slots ls Q hC hf hlo hc hs hL hH hS hend
  exact lv_iload hC.1 hC.2.1 hd (hL.2.2 _ _ hl) (k p l e R s m args below meth c H locs cells slots ls Q hC hf hlo hc hs hL hH hS hend)

theorem ev_lload_n {q : Fin 4} {i : Nat} {x : Int64} (hd : decode y.2.1 pc = .ok (.lload_n q, 1)) (hi : (q : Nat) = i) (hl : L[i]? = some (some (.long x))) (k : ev_E G y f rc ru n M (pc + 1) L (.long x :: st) Post) : ev_E G y f rc ru n M pc L (st) Post := by
  intro p l e R s m args below meth c H locs cells slots ls Q hC hf hlo hc hs hL hH hS hend
  exact lv_lload_n hC.1 hC.2.1 hd hi (hL.2.2 _ _ hl) (k p l e R s m args below meth c H locs cells slots ls Q hC hf hlo hc hs hL hH hS hend)

theorem ev_lload {i : Nat} {x : Int64} (hd : decode y.2.1 pc = .ok (.lload i, 2)) (hl : L[i]? = some (some (.long x))) (k : ev_E G y f rc ru n M (pc + 2) L (.long x :: st) Post) : ev_E G y f rc ru n M pc L (st) Post := by
  intro p l e R s m args below meth c H locs cells slots ls Q hC hf hlo hc hs hL hH hS hend
  exact lv_lload hC.1 hC.2.1 hd (hL.2.2 _ _ hl) (k p l e R s m args below meth c H locs cells slots ls Q hC hf hlo hc hs hL hH hS hend)

theorem ev_aload_n {q : Fin 4} {i x : Nat} (hd : decode y.2.1 pc = .ok (.aload_n q, 1)) (hi : (q : Nat) = i) (hl : L[i]? = some (some (.ref x))) (k : ev_E G y f rc ru n M (pc + 1) L (.ref x :: st) Post) : ev_E G y f rc ru n M pc L (st) Post := by
  intro p l e R s m args below meth c H locs cells slots ls Q hC hf hlo hc hs hL hH hS hend
  exact lv_aload_n hC.1 hC.2.1 hd hi (hL.2.2 _ _ hl) (k p l e R s m args below meth c H locs cells slots ls Q hC hf hlo hc hs hL hH hS hend)

theorem ev_aload {i x : Nat} (hd : decode y.2.1 pc = .ok (.aload i, 2)) (hl : L[i]? = some (some (.ref x))) (k : ev_E G y f rc ru n M (pc + 2) L (.ref x :: st) Post) : ev_E G y f rc ru n M pc L (st) Post := by
  intro p l e R s m args below meth c H locs cells slots ls Q hC hf hlo hc hs hL hH hS hend
  exact lv_aload hC.1 hC.2.1 hd (hL.2.2 _ _ hl) (k p l e R s m args below meth c H locs cells slots ls Q hC hf hlo hc hs hL hH hS hend)

theorem ev_aload_nN {q : Fin 4} {i : Nat} (hd : decode y.2.1 pc = .ok (.aload_n q, 1)) (hi : (q : Nat) = i) (hl : L[i]? = some (some .null)) (k : ev_E G y f rc ru n M (pc + 1) L (.null :: st) Post) : ev_E G y f rc ru n M pc L (st) Post := by
  intro p l e R s m args below meth c H locs cells slots ls Q hC hf hlo hc hs hL hH hS hend
  exact lv_aload_nN hC.1 hC.2.1 hd hi (hL.2.2 _ _ hl) (k p l e R s m args below meth c H locs cells slots ls Q hC hf hlo hc hs hL hH hS hend)

theorem ev_aloadN {i : Nat} (hd : decode y.2.1 pc = .ok (.aload i, 2)) (hl : L[i]? = some (some .null)) (k : ev_E G y f rc ru n M (pc + 2) L (.null :: st) Post) : ev_E G y f rc ru n M pc L (st) Post := by
  intro p l e R s m args below meth c H locs cells slots ls Q hC hf hlo hc hs hL hH hS hend
  exact lv_aloadN hC.1 hC.2.1 hd (hL.2.2 _ _ hl) (k p l e R s m args below meth c H locs cells slots ls Q hC hf hlo hc hs hL hH hS hend)

theorem ev_istore_n {q : Fin 4} {i : Nat} {x : Int32} (hd : decode y.2.1 pc = .ok (.istore_n q, 1)) (hi : (q : Nat) = i) (hn : i < y.2.2.1) (hk : ev_ok1 L i = true) (k : ev_E G y f rc ru n M (pc + 1) (L.set i (some (.int x))) (st) Post) : ev_E G y f rc ru n M pc L (.int x :: st) Post := by
  intro p l e R s m args below meth c H locs cells slots ls Q hC hf hlo hc hs hL hH hS hend
  exact lv_istore_n hC.1 hC.2.1 hd hi hL.has hn rfl (fun ls' h' => k p l e R s m args below meth c H locs cells slots ls' Q hC hf hlo hc hs (hL.st1 hk rfl h') hH hS hend)

theorem ev_istore {i : Nat} {x : Int32} (hd : decode y.2.1 pc = .ok (.istore i, 2)) (hn : i < y.2.2.1) (hk : ev_ok1 L i = true) (k : ev_E G y f rc ru n M (pc + 2) (L.set i (some (.int x))) (st) Post) : ev_E G y f rc ru n M pc L (.int x :: st) Post := by
  intro p l e R s m args below meth c H locs cells slots ls Q hC hf hlo hc hs hL hH hS hend
  exact lv_istore hC.1 hC.2.1 hd hL.has hn rfl (fun ls' h' => k p l e R s m args below meth c H locs cells slots ls' Q hC hf hlo hc hs (hL.st1 hk rfl h') hH hS hend)

theorem ev_lstore_n {q : Fin 4} {i : Nat} {x : Int64} (hd : decode y.2.1 pc = .ok (.lstore_n q, 1)) (hi : (q : Nat) = i) (hn : i + 1 < y.2.2.1) (hk : ev_ok1 L i = true) (k : ev_E G y f rc ru n M (pc + 1) ((L.set i (some (.long x))).set (i + 1) none) (st) Post) : ev_E G y f rc ru n M pc L (.long x :: st) Post := by
  intro p l e R s m args below meth c H locs cells slots ls Q hC hf hlo hc hs hL hH hS hend
  exact lv_lstore_n hC.1 hC.2.1 hd hi hL.has hn rfl (fun ls' h' => k p l e R s m args below meth c H locs cells slots ls' Q hC hf hlo hc hs (hL.st2 hk rfl h') hH hS hend)

theorem ev_lstore {i : Nat} {x : Int64} (hd : decode y.2.1 pc = .ok (.lstore i, 2)) (hn : i + 1 < y.2.2.1) (hk : ev_ok1 L i = true) (k : ev_E G y f rc ru n M (pc + 2) ((L.set i (some (.long x))).set (i + 1) none) (st) Post) : ev_E G y f rc ru n M pc L (.long x :: st) Post := by
  intro p l e R s m args below meth c H locs cells slots ls Q hC hf hlo hc hs hL hH hS hend
  exact lv_lstore hC.1 hC.2.1 hd hL.has hn rfl (fun ls' h' => k p l e R s m args below meth c H locs cells slots ls' Q hC hf hlo hc hs (hL.st2 hk rfl h') hH hS hend)

theorem ev_astore_n {q : Fin 4} {i x : Nat} (hd : decode y.2.1 pc = .ok (.astore_n q, 1)) (hi : (q : Nat) = i) (hn : i < y.2.2.1) (hk : ev_ok1 L i = true) (k : ev_E G y f rc ru n M (pc + 1) (L.set i (some (.ref x))) (st) Post) : ev_E G y f rc ru n M pc L (.ref x :: st) Post := by
  intro p l e R s m args below meth c H locs cells slots ls Q hC hf hlo hc hs hL hH hS hend
  exact lv_astore_n hC.1 hC.2.1 hd hi hL.has hn rfl (fun ls' h' => k p l e R s m args below meth c H locs cells slots ls' Q hC hf hlo hc hs (hL.st1 hk rfl h') hH hS hend)

theorem ev_astore {i x : Nat} (hd : decode y.2.1 pc = .ok (.astore i, 2)) (hn : i < y.2.2.1) (hk : ev_ok1 L i = true) (k : ev_E G y f rc ru n M (pc + 2) (L.set i (some (.ref x))) (st) Post) : ev_E G y f rc ru n M pc L (.ref x :: st) Post := by
  intro p l e R s m args below meth c H locs cells slots ls Q hC hf hlo hc hs hL hH hS hend
  exact lv_astore hC.1 hC.2.1 hd hL.has hn rfl (fun ls' h' => k p l e R s m args below meth c H locs cells slots ls' Q hC hf hlo hc hs (hL.st1 hk rfl h') hH hS hend)

theorem ev_astore_nN {q : Fin 4} {i : Nat} (hd : decode y.2.1 pc = .ok (.astore_n q, 1)) (hi : (q : Nat) = i) (hn : i < y.2.2.1) (hk : ev_ok1 L i = true) (k : ev_E G y f rc ru n M (pc + 1) (L.set i (some .null)) (st) Post) : ev_E G y f rc ru n M pc L (.null :: st) Post := by
  intro p l e R s m args below meth c H locs cells slots ls Q hC hf hlo hc hs hL hH hS hend
  exact lv_astore_nN hC.1 hC.2.1 hd hi hL.has hn rfl (fun ls' h' => k p l e R s m args below meth c H locs cells slots ls' Q hC hf hlo hc hs (hL.st1 hk rfl h') hH hS hend)

theorem ev_astoreN {i : Nat} (hd : decode y.2.1 pc = .ok (.astore i, 2)) (hn : i < y.2.2.1) (hk : ev_ok1 L i = true) (k : ev_E G y f rc ru n M (pc + 2) (L.set i (some .null)) (st) Post) : ev_E G y f rc ru n M pc L (.null :: st) Post := by
  intro p l e R s m args below meth c H locs cells slots ls Q hC hf hlo hc hs hL hH hS hend
  exact lv_astoreN hC.1 hC.2.1 hd hL.has hn rfl (fun ls' h' => k p l e R s m args below meth c H locs cells slots ls' Q hC hf hlo hc hs (hL.st1 hk rfl h') hH hS hend)

theorem ev_iinc {i : Nat} {z : Int} {x v : Int32} (hd : decode y.2.1 pc = .ok (.iinc i z, 3)) (hl : L[i]? = some (some (.int x))) (hv : x + Int32.ofInt z = v) (hn : i < y.2.2.1) (hk : ev_ok1 L i = true) (k : ev_E G y f rc ru n M (pc + 3) (L.set i (some (.int v))) st Post) : ev_E G y f rc ru n M pc L st Post := by
  intro p l e R s m args below meth c H locs cells slots ls Q hC hf hlo hc hs hL hH hS hend
  obtain ⟨j, hj⟩ := List.getElem?_of_mem (ev_pr_mem (G := G) hl)
  exact lv_iinc hC.1 hC.2.1 hd hL.has (k := j) hj hv hn rfl (fun ls' h' => k p l e R s m args below meth c H locs cells slots ls' Q hC hf hlo hc hs (hL.st1 hk rfl h') hH hS hend)

theorem ev_iadd {a b : Int32} (hd : decode y.2.1 pc = .ok (.iadd, 1)) (k : ev_E G y f rc ru n M (pc + 1) L (.int (a + b) :: st) Post) : ev_E G y f rc ru n M pc L (.int b :: .int a :: st) Post := by
  intro p l e R s m args below meth c H locs cells slots ls Q hC hf hlo hc hs hL hH hS hend
  exact lv_iadd hC.1 hC.2.1 hd (k p l e R s m args below meth c H locs cells slots ls Q hC hf hlo hc hs hL hH hS hend)

theorem ev_isub {a b : Int32} (hd : decode y.2.1 pc = .ok (.isub, 1)) (k : ev_E G y f rc ru n M (pc + 1) L (.int (a - b) :: st) Post) : ev_E G y f rc ru n M pc L (.int b :: .int a :: st) Post := by
  intro p l e R s m args below meth c H locs cells slots ls Q hC hf hlo hc hs hL hH hS hend
  exact lv_isub hC.1 hC.2.1 hd (k p l e R s m args below meth c H locs cells slots ls Q hC hf hlo hc hs hL hH hS hend)

theorem ev_imul {a b : Int32} (hd : decode y.2.1 pc = .ok (.imul, 1)) (k : ev_E G y f rc ru n M (pc + 1) L (.int (a * b) :: st) Post) : ev_E G y f rc ru n M pc L (.int b :: .int a :: st) Post := by
  intro p l e R s m args below meth c H locs cells slots ls Q hC hf hlo hc hs hL hH hS hend
  exact lv_imul hC.1 hC.2.1 hd (k p l e R s m args below meth c H locs cells slots ls Q hC hf hlo hc hs hL hH hS hend)

theorem ev_iand {a b : Int32} (hd : decode y.2.1 pc = .ok (.iand, 1)) (k : ev_E G y f rc ru n M (pc + 1) L (.int (a &&& b) :: st) Post) : ev_E G y f rc ru n M pc L (.int b :: .int a :: st) Post := by
  intro p l e R s m args below meth c H locs cells slots ls Q hC hf hlo hc hs hL hH hS hend
  exact lv_iand hC.1 hC.2.1 hd (k p l e R s m args below meth c H locs cells slots ls Q hC hf hlo hc hs hL hH hS hend)

theorem ev_ior {a b : Int32} (hd : decode y.2.1 pc = .ok (.ior, 1)) (k : ev_E G y f rc ru n M (pc + 1) L (.int (a ||| b) :: st) Post) : ev_E G y f rc ru n M pc L (.int b :: .int a :: st) Post := by
  intro p l e R s m args below meth c H locs cells slots ls Q hC hf hlo hc hs hL hH hS hend
  exact lv_ior hC.1 hC.2.1 hd (k p l e R s m args below meth c H locs cells slots ls Q hC hf hlo hc hs hL hH hS hend)

theorem ev_ishl {a b : Int32} (hd : decode y.2.1 pc = .ok (.ishl, 1)) (k : ev_E G y f rc ru n M (pc + 1) L (.int (a <<< (b &&& 31)) :: st) Post) : ev_E G y f rc ru n M pc L (.int b :: .int a :: st) Post := by
  intro p l e R s m args below meth c H locs cells slots ls Q hC hf hlo hc hs hL hH hS hend
  exact lv_ishl hC.1 hC.2.1 hd (k p l e R s m args below meth c H locs cells slots ls Q hC hf hlo hc hs hL hH hS hend)

theorem ev_ishr {a b : Int32} (hd : decode y.2.1 pc = .ok (.ishr, 1)) (k : ev_E G y f rc ru n M (pc + 1) L (.int (a >>> (b &&& 31)) :: st) Post) : ev_E G y f rc ru n M pc L (.int b :: .int a :: st) Post := by
  intro p l e R s m args below meth c H locs cells slots ls Q hC hf hlo hc hs hL hH hS hend
  exact lv_ishr hC.1 hC.2.1 hd (k p l e R s m args below meth c H locs cells slots ls Q hC hf hlo hc hs hL hH hS hend)

theorem ev_idiv {a b : Int32} (hd : decode y.2.1 pc = .ok (.idiv, 1)) (hne : ¬ b = 0) (k : ev_E G y f rc ru n M (pc + 1) L (.int (a / b) :: st) Post) : ev_E G y f rc ru n M pc L (.int b :: .int a :: st) Post := by
  intro p l e R s m args below meth c H locs cells slots ls Q hC hf hlo hc hs hL hH hS hend
  exact lv_idiv hC.1 hC.2.1 hd hne (k p l e R s m args below meth c H locs cells slots ls Q hC hf hlo hc hs hL hH hS hend)

theorem ev_irem {a b : Int32} (hd : decode y.2.1 pc = .ok (.irem, 1)) (hne : ¬ b = 0) (k : ev_E G y f rc ru n M (pc + 1) L (.int (a - a / b * b) :: st) Post) : ev_E G y f rc ru n M pc L (.int b :: .int a :: st) Post := by
  intro p l e R s m args below meth c H locs cells slots ls Q hC hf hlo hc hs hL hH hS hend
  exact lv_irem hC.1 hC.2.1 hd hne (k p l e R s m args below meth c H locs cells slots ls Q hC hf hlo hc hs hL hH hS hend)

theorem ev_ladd {a b : Int64} (hd : decode y.2.1 pc = .ok (.ladd, 1)) (k : ev_E G y f rc ru n M (pc + 1) L (.long (a + b) :: st) Post) : ev_E G y f rc ru n M pc L (.long b :: .long a :: st) Post := by
  intro p l e R s m args below meth c H locs cells slots ls Q hC hf hlo hc hs hL hH hS hend
  exact lv_ladd hC.1 hC.2.1 hd (k p l e R s m args below meth c H locs cells slots ls Q hC hf hlo hc hs hL hH hS hend)

theorem ev_lsub {a b : Int64} (hd : decode y.2.1 pc = .ok (.lsub, 1)) (k : ev_E G y f rc ru n M (pc + 1) L (.long (a - b) :: st) Post) : ev_E G y f rc ru n M pc L (.long b :: .long a :: st) Post := by
  intro p l e R s m args below meth c H locs cells slots ls Q hC hf hlo hc hs hL hH hS hend
  exact lv_lsub hC.1 hC.2.1 hd (k p l e R s m args below meth c H locs cells slots ls Q hC hf hlo hc hs hL hH hS hend)

theorem ev_lmul {a b : Int64} (hd : decode y.2.1 pc = .ok (.lmul, 1)) (k : ev_E G y f rc ru n M (pc + 1) L (.long (a * b) :: st) Post) : ev_E G y f rc ru n M pc L (.long b :: .long a :: st) Post := by
  intro p l e R s m args below meth c H locs cells slots ls Q hC hf hlo hc hs hL hH hS hend
  exact lv_lmul hC.1 hC.2.1 hd (k p l e R s m args below meth c H locs cells slots ls Q hC hf hlo hc hs hL hH hS hend)

theorem ev_land {a b : Int64} (hd : decode y.2.1 pc = .ok (.land, 1)) (k : ev_E G y f rc ru n M (pc + 1) L (.long (a &&& b) :: st) Post) : ev_E G y f rc ru n M pc L (.long b :: .long a :: st) Post := by
  intro p l e R s m args below meth c H locs cells slots ls Q hC hf hlo hc hs hL hH hS hend
  exact lv_land hC.1 hC.2.1 hd (k p l e R s m args below meth c H locs cells slots ls Q hC hf hlo hc hs hL hH hS hend)

theorem ev_lor {a b : Int64} (hd : decode y.2.1 pc = .ok (.lor, 1)) (k : ev_E G y f rc ru n M (pc + 1) L (.long (a ||| b) :: st) Post) : ev_E G y f rc ru n M pc L (.long b :: .long a :: st) Post := by
  intro p l e R s m args below meth c H locs cells slots ls Q hC hf hlo hc hs hL hH hS hend
  exact lv_lor hC.1 hC.2.1 hd (k p l e R s m args below meth c H locs cells slots ls Q hC hf hlo hc hs hL hH hS hend)

theorem ev_ldiv {a b : Int64} (hd : decode y.2.1 pc = .ok (.ldiv, 1)) (hne : ¬ b = 0) (k : ev_E G y f rc ru n M (pc + 1) L (.long (a / b) :: st) Post) : ev_E G y f rc ru n M pc L (.long b :: .long a :: st) Post := by
  intro p l e R s m args below meth c H locs cells slots ls Q hC hf hlo hc hs hL hH hS hend
  exact lv_ldiv hC.1 hC.2.1 hd hne (k p l e R s m args below meth c H locs cells slots ls Q hC hf hlo hc hs hL hH hS hend)

theorem ev_lrem {a b : Int64} (hd : decode y.2.1 pc = .ok (.lrem, 1)) (hne : ¬ b = 0) (k : ev_E G y f rc ru n M (pc + 1) L (.long (a - a / b * b) :: st) Post) : ev_E G y f rc ru n M pc L (.long b :: .long a :: st) Post := by
  intro p l e R s m args below meth c H locs cells slots ls Q hC hf hlo hc hs hL hH hS hend
  exact lv_lrem hC.1 hC.2.1 hd hne (k p l e R s m args below meth c H locs cells slots ls Q hC hf hlo hc hs hL hH hS hend)

theorem ev_ineg {a : Int32} (hd : decode y.2.1 pc = .ok (.ineg, 1)) (k : ev_E G y f rc ru n M (pc + 1) L (.int (-a) :: st) Post) : ev_E G y f rc ru n M pc L (.int a :: st) Post := by
  intro p l e R s m args below meth c H locs cells slots ls Q hC hf hlo hc hs hL hH hS hend
  exact lv_ineg hC.1 hC.2.1 hd (k p l e R s m args below meth c H locs cells slots ls Q hC hf hlo hc hs hL hH hS hend)

theorem ev_lneg {a : Int64} (hd : decode y.2.1 pc = .ok (.lneg, 1)) (k : ev_E G y f rc ru n M (pc + 1) L (.long (-a) :: st) Post) : ev_E G y f rc ru n M pc L (.long a :: st) Post := by
  intro p l e R s m args below meth c H locs cells slots ls Q hC hf hlo hc hs hL hH hS hend
  exact lv_lneg hC.1 hC.2.1 hd (k p l e R s m args below meth c H locs cells slots ls Q hC hf hlo hc hs hL hH hS hend)

theorem ev_i2l {a : Int32} (hd : decode y.2.1 pc = .ok (.i2l, 1)) (k : ev_E G y f rc ru n M (pc + 1) L (.long a.toInt64 :: st) Post) : ev_E G y f rc ru n M pc L (.int a :: st) Post := by
  intro p l e R s m args below meth c H locs cells slots ls Q hC hf hlo hc hs hL hH hS hend
  exact lv_i2l hC.1 hC.2.1 hd rfl (k p l e R s m args below meth c H locs cells slots ls Q hC hf hlo hc hs hL hH hS hend)

theorem ev_l2i {a : Int64} (hd : decode y.2.1 pc = .ok (.l2i, 1)) (k : ev_E G y f rc ru n M (pc + 1) L (.int a.toInt32 :: st) Post) : ev_E G y f rc ru n M pc L (.long a :: st) Post := by
  intro p l e R s m args below meth c H locs cells slots ls Q hC hf hlo hc hs hL hH hS hend
  exact lv_l2i hC.1 hC.2.1 hd rfl (k p l e R s m args below meth c H locs cells slots ls Q hC hf hlo hc hs hL hH hS hend)

theorem ev_i2c {a v : Int32} (hd : decode y.2.1 pc = .ok (.i2c, 1)) (hv : (a.toUInt32 % 65536).toInt32 = v) (k : ev_E G y f rc ru n M (pc + 1) L (.int v :: st) Post) : ev_E G y f rc ru n M pc L (.int a :: st) Post := by
  intro p l e R s m args below meth c H locs cells slots ls Q hC hf hlo hc hs hL hH hS hend
  exact lv_i2c hC.1 hC.2.1 hd hv (k p l e R s m args below meth c H locs cells slots ls Q hC hf hlo hc hs hL hH hS hend)

theorem ev_iushr {a b : Int32} (hd : decode y.2.1 pc = .ok (.iushr, 1)) (k : ev_E G y f rc ru n M (pc + 1) L (.int (a.toUInt32 >>> (b.toUInt32 &&& Int32.toUInt32 31)).toInt32 :: st) Post) : ev_E G y f rc ru n M pc L (.int b :: .int a :: st) Post := by
  intro p l e R s m args below meth c H locs cells slots ls Q hC hf hlo hc hs hL hH hS hend
  exact lv_iushr hC.1 hC.2.1 hd rfl (k p l e R s m args below meth c H locs cells slots ls Q hC hf hlo hc hs hL hH hS hend)

theorem ev_lushr {a : Int64} {b : Int32} (hd : decode y.2.1 pc = .ok (.lushr, 1)) (k : ev_E G y f rc ru n M (pc + 1) L (.long (a.toUInt64 >>> (b.toInt64.toUInt64 &&& Int64.toUInt64 63)).toInt64 :: st) Post) : ev_E G y f rc ru n M pc L (.int b :: .long a :: st) Post := by
  intro p l e R s m args below meth c H locs cells slots ls Q hC hf hlo hc hs hL hH hS hend
  exact lv_lushr hC.1 hC.2.1 hd rfl (k p l e R s m args below meth c H locs cells slots ls Q hC hf hlo hc hs hL hH hS hend)

theorem ev_lshr {a : Int64} {b : Int32} (hd : decode y.2.1 pc = .ok (.lshr, 1)) (k : ev_E G y f rc ru n M (pc + 1) L (.long (a >>> (b.toInt64 &&& 63)) :: st) Post) : ev_E G y f rc ru n M pc L (.int b :: .long a :: st) Post := by
  intro p l e R s m args below meth c H locs cells slots ls Q hC hf hlo hc hs hL hH hS hend
  exact lv_lshr hC.1 hC.2.1 hd rfl (k p l e R s m args below meth c H locs cells slots ls Q hC hf hlo hc hs hL hH hS hend)

theorem ev_lshl {a : Int64} {b : Int32} (hd : decode y.2.1 pc = .ok (.lshl, 1)) (k : ev_E G y f rc ru n M (pc + 1) L (.long (a <<< (b.toInt64 &&& 63)) :: st) Post) : ev_E G y f rc ru n M pc L (.int b :: .long a :: st) Post := by
  intro p l e R s m args below meth c H locs cells slots ls Q hC hf hlo hc hs hL hH hS hend
  exact lv_lshl hC.1 hC.2.1 hd rfl (k p l e R s m args below meth c H locs cells slots ls Q hC hf hlo hc hs hL hH hS hend)

theorem ev_lcmp {a b : Int64} (hd : decode y.2.1 pc = .ok (.lcmp, 1)) (k : ev_E G y f rc ru n M (pc + 1) L (.int (lg_cmp a b) :: st) Post) : ev_E G y f rc ru n M pc L (.long b :: .long a :: st) Post := by
  intro p l e R s m args below meth c H locs cells slots ls Q hC hf hlo hc hs hL hH hS hend
  exact W.lcmp hC.1 hC.2.1 hd (k p l e R s m args below meth c H locs cells slots ls Q hC hf hlo hc hs hL hH hS hend)

theorem ev_dup {v : Value} (hd : decode y.2.1 pc = .ok (.dup, 1)) (hv : v.category = 1) (k : ev_E G y f rc ru n M (pc + 1) L (v :: v :: st) Post) : ev_E G y f rc ru n M pc L (v :: st) Post := by
  intro p l e R s m args below meth c H locs cells slots ls Q hC hf hlo hc hs hL hH hS hend
  exact lv_dup hC.1 hC.2.1 hd (by rw [ev_v_cat]; exact hv) (k p l e R s m args below meth c H locs cells slots ls Q hC hf hlo hc hs hL hH hS hend)

theorem ev_pop {v : Value} (hd : decode y.2.1 pc = .ok (.pop, 1)) (hv : v.category = 1) (k : ev_E G y f rc ru n M (pc + 1) L (st) Post) : ev_E G y f rc ru n M pc L (v :: st) Post := by
  intro p l e R s m args below meth c H locs cells slots ls Q hC hf hlo hc hs hL hH hS hend
  exact lv_pop hC.1 hC.2.1 hd (by rw [ev_v_cat]; exact hv) (k p l e R s m args below meth c H locs cells slots ls Q hC hf hlo hc hs hL hH hS hend)

theorem ev_dup2 {v w : Value} (hd : decode y.2.1 pc = .ok (.dup2, 1)) (hv : v.category = 1) (hw : w.category = 1) (k : ev_E G y f rc ru n M (pc + 1) L (v :: w :: v :: w :: st) Post) : ev_E G y f rc ru n M pc L (v :: w :: st) Post := by
  intro p l e R s m args below meth c H locs cells slots ls Q hC hf hlo hc hs hL hH hS hend
  exact lv_dup2_11 hC.1 hC.2.1 hd (by rw [ev_v_cat]; exact hv) (by rw [ev_v_cat]; exact hw) (k p l e R s m args below meth c H locs cells slots ls Q hC hf hlo hc hs hL hH hS hend)

theorem ev_topi {x x2 : Int32} (h : x = x2) (k : ev_E G y f rc ru n M pc L (.int x2 :: st) Post) : ev_E G y f rc ru n M pc L (.int x :: st) Post := by
  intro p l e R s m args below meth c H locs cells slots ls Q hC hf hlo hc hs hL hH hS hend
  exact by subst h; exact k p l e R s m args below meth c H locs cells slots ls Q hC hf hlo hc hs hL hH hS hend

theorem ev_icmp_eq {a b : Int32} {off : Int} {tgt : Nat} (hd : decode y.2.1 pc = .ok (.if_icmp .eq off, 3)) (ht : (pc : Int) + off = (tgt : Int)) (kt : a = b → ev_E G y f rc ru n M tgt L st Post) (kf : ¬ a = b → ev_E G y f rc ru n M (pc + 3) L st Post) : ev_E G y f rc ru n M pc L (.int b :: .int a :: st) Post := by
  intro p l e R s m args below meth c H locs cells slots ls Q hC hf hlo hc hs hL hH hS hend
  exact lv_icmp_eq hC.1 hC.2.1 hd ht (fun q => kt q p l e R s m args below meth c H locs cells slots ls Q hC hf hlo hc hs hL hH hS hend) (fun q => kf q p l e R s m args below meth c H locs cells slots ls Q hC hf hlo hc hs hL hH hS hend)

theorem ev_if_eq {a : Int32} {off : Int} {tgt : Nat} (hd : decode y.2.1 pc = .ok (.ifCond .eq off, 3)) (ht : (pc : Int) + off = (tgt : Int)) (kt : a = 0 → ev_E G y f rc ru n M tgt L st Post) (kf : ¬ a = 0 → ev_E G y f rc ru n M (pc + 3) L st Post) : ev_E G y f rc ru n M pc L (.int a :: st) Post := by
  intro p l e R s m args below meth c H locs cells slots ls Q hC hf hlo hc hs hL hH hS hend
  exact lv_if_eq hC.1 hC.2.1 hd ht (fun q => kt q p l e R s m args below meth c H locs cells slots ls Q hC hf hlo hc hs hL hH hS hend) (fun q => kf q p l e R s m args below meth c H locs cells slots ls Q hC hf hlo hc hs hL hH hS hend)

theorem ev_icmp_ne {a b : Int32} {off : Int} {tgt : Nat} (hd : decode y.2.1 pc = .ok (.if_icmp .ne off, 3)) (ht : (pc : Int) + off = (tgt : Int)) (kt : ¬ a = b → ev_E G y f rc ru n M tgt L st Post) (kf : a = b → ev_E G y f rc ru n M (pc + 3) L st Post) : ev_E G y f rc ru n M pc L (.int b :: .int a :: st) Post := by
  intro p l e R s m args below meth c H locs cells slots ls Q hC hf hlo hc hs hL hH hS hend
  exact lv_icmp_ne hC.1 hC.2.1 hd ht (fun q => kt q p l e R s m args below meth c H locs cells slots ls Q hC hf hlo hc hs hL hH hS hend) (fun q => kf q p l e R s m args below meth c H locs cells slots ls Q hC hf hlo hc hs hL hH hS hend)

theorem ev_if_ne {a : Int32} {off : Int} {tgt : Nat} (hd : decode y.2.1 pc = .ok (.ifCond .ne off, 3)) (ht : (pc : Int) + off = (tgt : Int)) (kt : ¬ a = 0 → ev_E G y f rc ru n M tgt L st Post) (kf : a = 0 → ev_E G y f rc ru n M (pc + 3) L st Post) : ev_E G y f rc ru n M pc L (.int a :: st) Post := by
  intro p l e R s m args below meth c H locs cells slots ls Q hC hf hlo hc hs hL hH hS hend
  exact lv_if_ne hC.1 hC.2.1 hd ht (fun q => kt q p l e R s m args below meth c H locs cells slots ls Q hC hf hlo hc hs hL hH hS hend) (fun q => kf q p l e R s m args below meth c H locs cells slots ls Q hC hf hlo hc hs hL hH hS hend)

theorem ev_icmp_lt {a b : Int32} {off : Int} {tgt : Nat} (hd : decode y.2.1 pc = .ok (.if_icmp .lt off, 3)) (ht : (pc : Int) + off = (tgt : Int)) (kt : a < b → ev_E G y f rc ru n M tgt L st Post) (kf : b ≤ a → ev_E G y f rc ru n M (pc + 3) L st Post) : ev_E G y f rc ru n M pc L (.int b :: .int a :: st) Post := by
  intro p l e R s m args below meth c H locs cells slots ls Q hC hf hlo hc hs hL hH hS hend
  exact lv_icmp_lt hC.1 hC.2.1 hd ht (fun q => kt q p l e R s m args below meth c H locs cells slots ls Q hC hf hlo hc hs hL hH hS hend) (fun q => kf (Int32.not_lt.mp q) p l e R s m args below meth c H locs cells slots ls Q hC hf hlo hc hs hL hH hS hend)

theorem ev_if_lt {a : Int32} {off : Int} {tgt : Nat} (hd : decode y.2.1 pc = .ok (.ifCond .lt off, 3)) (ht : (pc : Int) + off = (tgt : Int)) (kt : a < 0 → ev_E G y f rc ru n M tgt L st Post) (kf : 0 ≤ a → ev_E G y f rc ru n M (pc + 3) L st Post) : ev_E G y f rc ru n M pc L (.int a :: st) Post := by
  intro p l e R s m args below meth c H locs cells slots ls Q hC hf hlo hc hs hL hH hS hend
  exact lv_if_lt hC.1 hC.2.1 hd ht (fun q => kt q p l e R s m args below meth c H locs cells slots ls Q hC hf hlo hc hs hL hH hS hend) (fun q => kf (Int32.not_lt.mp q) p l e R s m args below meth c H locs cells slots ls Q hC hf hlo hc hs hL hH hS hend)

theorem ev_icmp_ge {a b : Int32} {off : Int} {tgt : Nat} (hd : decode y.2.1 pc = .ok (.if_icmp .ge off, 3)) (ht : (pc : Int) + off = (tgt : Int)) (kt : b ≤ a → ev_E G y f rc ru n M tgt L st Post) (kf : a < b → ev_E G y f rc ru n M (pc + 3) L st Post) : ev_E G y f rc ru n M pc L (.int b :: .int a :: st) Post := by
  intro p l e R s m args below meth c H locs cells slots ls Q hC hf hlo hc hs hL hH hS hend
  exact lv_icmp_ge hC.1 hC.2.1 hd ht (fun q => kt q p l e R s m args below meth c H locs cells slots ls Q hC hf hlo hc hs hL hH hS hend) (fun q => kf (Int32.not_le.mp q) p l e R s m args below meth c H locs cells slots ls Q hC hf hlo hc hs hL hH hS hend)

theorem ev_if_ge {a : Int32} {off : Int} {tgt : Nat} (hd : decode y.2.1 pc = .ok (.ifCond .ge off, 3)) (ht : (pc : Int) + off = (tgt : Int)) (kt : 0 ≤ a → ev_E G y f rc ru n M tgt L st Post) (kf : a < 0 → ev_E G y f rc ru n M (pc + 3) L st Post) : ev_E G y f rc ru n M pc L (.int a :: st) Post := by
  intro p l e R s m args below meth c H locs cells slots ls Q hC hf hlo hc hs hL hH hS hend
  exact lv_if_ge hC.1 hC.2.1 hd ht (fun q => kt q p l e R s m args below meth c H locs cells slots ls Q hC hf hlo hc hs hL hH hS hend) (fun q => kf (Int32.not_le.mp q) p l e R s m args below meth c H locs cells slots ls Q hC hf hlo hc hs hL hH hS hend)

theorem ev_icmp_gt {a b : Int32} {off : Int} {tgt : Nat} (hd : decode y.2.1 pc = .ok (.if_icmp .gt off, 3)) (ht : (pc : Int) + off = (tgt : Int)) (kt : b < a → ev_E G y f rc ru n M tgt L st Post) (kf : a ≤ b → ev_E G y f rc ru n M (pc + 3) L st Post) : ev_E G y f rc ru n M pc L (.int b :: .int a :: st) Post := by
  intro p l e R s m args below meth c H locs cells slots ls Q hC hf hlo hc hs hL hH hS hend
  exact lv_icmp_gt hC.1 hC.2.1 hd ht (fun q => kt q p l e R s m args below meth c H locs cells slots ls Q hC hf hlo hc hs hL hH hS hend) (fun q => kf (Int32.not_lt.mp q) p l e R s m args below meth c H locs cells slots ls Q hC hf hlo hc hs hL hH hS hend)

theorem ev_if_gt {a : Int32} {off : Int} {tgt : Nat} (hd : decode y.2.1 pc = .ok (.ifCond .gt off, 3)) (ht : (pc : Int) + off = (tgt : Int)) (kt : 0 < a → ev_E G y f rc ru n M tgt L st Post) (kf : a ≤ 0 → ev_E G y f rc ru n M (pc + 3) L st Post) : ev_E G y f rc ru n M pc L (.int a :: st) Post := by
  intro p l e R s m args below meth c H locs cells slots ls Q hC hf hlo hc hs hL hH hS hend
  exact lv_if_gt hC.1 hC.2.1 hd ht (fun q => kt q p l e R s m args below meth c H locs cells slots ls Q hC hf hlo hc hs hL hH hS hend) (fun q => kf (Int32.not_lt.mp q) p l e R s m args below meth c H locs cells slots ls Q hC hf hlo hc hs hL hH hS hend)

theorem ev_icmp_le {a b : Int32} {off : Int} {tgt : Nat} (hd : decode y.2.1 pc = .ok (.if_icmp .le off, 3)) (ht : (pc : Int) + off = (tgt : Int)) (kt : a ≤ b → ev_E G y f rc ru n M tgt L st Post) (kf : b < a → ev_E G y f rc ru n M (pc + 3) L st Post) : ev_E G y f rc ru n M pc L (.int b :: .int a :: st) Post := by
  intro p l e R s m args below meth c H locs cells slots ls Q hC hf hlo hc hs hL hH hS hend
  exact lv_icmp_le hC.1 hC.2.1 hd ht (fun q => kt q p l e R s m args below meth c H locs cells slots ls Q hC hf hlo hc hs hL hH hS hend) (fun q => kf (Int32.not_le.mp q) p l e R s m args below meth c H locs cells slots ls Q hC hf hlo hc hs hL hH hS hend)

theorem ev_if_le {a : Int32} {off : Int} {tgt : Nat} (hd : decode y.2.1 pc = .ok (.ifCond .le off, 3)) (ht : (pc : Int) + off = (tgt : Int)) (kt : a ≤ 0 → ev_E G y f rc ru n M tgt L st Post) (kf : 0 < a → ev_E G y f rc ru n M (pc + 3) L st Post) : ev_E G y f rc ru n M pc L (.int a :: st) Post := by
  intro p l e R s m args below meth c H locs cells slots ls Q hC hf hlo hc hs hL hH hS hend
  exact lv_if_le hC.1 hC.2.1 hd ht (fun q => kt q p l e R s m args below meth c H locs cells slots ls Q hC hf hlo hc hs hL hH hS hend) (fun q => kf (Int32.not_le.mp q) p l e R s m args below meth c H locs cells slots ls Q hC hf hlo hc hs hL hH hS hend)

theorem ev_b_0 {p : Bool} : ev_b p = 0 ↔ p = false := by cases p <;> decide
theorem ev_if_eqb {q : Bool} {off : Int} {tgt : Nat} (hd : decode y.2.1 pc = .ok (.ifCond .eq off, 3)) (ht : (pc : Int) + off = (tgt : Int)) (kt : q = false → ev_E G y f rc ru n M tgt L st Post) (kf : q = true → ev_E G y f rc ru n M (pc + 3) L st Post) : ev_E G y f rc ru n M pc L (.int (ev_b q) :: st) Post :=
  ev_if_eq hd ht (fun h => kt (ev_b_0.mp h)) (fun h => kf (by cases q; exact absurd rfl h; rfl))
theorem ev_if_neb {q : Bool} {off : Int} {tgt : Nat} (hd : decode y.2.1 pc = .ok (.ifCond .ne off, 3)) (ht : (pc : Int) + off = (tgt : Int)) (kt : q = true → ev_E G y f rc ru n M tgt L st Post) (kf : q = false → ev_E G y f rc ru n M (pc + 3) L st Post) : ev_E G y f rc ru n M pc L (.int (ev_b q) :: st) Post :=
  ev_if_ne hd ht (fun h => kt (by cases q; exact absurd rfl h; rfl)) (fun h => kf (ev_b_0.mp h))
theorem ev_goto {off : Int} {tgt : Nat} (hd : decode y.2.1 pc = .ok (.goto off, 3)) (ht : (pc : Int) + off = (tgt : Int)) (k : ev_E G y f rc ru n M tgt L st Post) : ev_E G y f rc ru n M pc L st Post := by
  intro p l e R s m args below meth c H locs cells slots ls Q hC hf hlo hc hs hL hH hS hend
  exact lv_goto hC.1 hC.2.1 hd ht (k p l e R s m args below meth c H locs cells slots ls Q hC hf hlo hc hs hL hH hS hend)
theorem ev_ifnonnull {x : Nat} {off : Int} {tgt : Nat} (hd : decode y.2.1 pc = .ok (.ifnonnull off, 3)) (ht : (pc : Int) + off = (tgt : Int)) (k : ev_E G y f rc ru n M tgt L st Post) : ev_E G y f rc ru n M pc L (.ref x :: st) Post := by
  intro p l e R s m args below meth c H locs cells slots ls Q hC hf hlo hc hs hL hH hS hend
  exact lv_ifnonnull hC.1 hC.2.1 hd ht (k p l e R s m args below meth c H locs cells slots ls Q hC hf hlo hc hs hL hH hS hend)
theorem ev_ifnonnullN {off : Int} (hd : decode y.2.1 pc = .ok (.ifnonnull off, 3)) (k : ev_E G y f rc ru n M (pc + 3) L st Post) : ev_E G y f rc ru n M pc L (.null :: st) Post := by
  intro p l e R s m args below meth c H locs cells slots ls Q hC hf hlo hc hs hL hH hS hend
  exact lv_ifnonnullN hC.1 hC.2.1 hd (k p l e R s m args below meth c H locs cells slots ls Q hC hf hlo hc hs hL hH hS hend)
theorem ev_ifnull {x : Nat} {off : Int} (hd : decode y.2.1 pc = .ok (.ifnull off, 3)) (k : ev_E G y f rc ru n M (pc + 3) L st Post) : ev_E G y f rc ru n M pc L (.ref x :: st) Post := by
  intro p l e R s m args below meth c H locs cells slots ls Q hC hf hlo hc hs hL hH hS hend
  exact lv_ifnull hC.1 hC.2.1 hd (k p l e R s m args below meth c H locs cells slots ls Q hC hf hlo hc hs hL hH hS hend)
theorem ev_ifnullN {off : Int} {tgt : Nat} (hd : decode y.2.1 pc = .ok (.ifnull off, 3)) (ht : (pc : Int) + off = (tgt : Int)) (k : ev_E G y f rc ru n M tgt L st Post) : ev_E G y f rc ru n M pc L (.null :: st) Post := by
  intro p l e R s m args below meth c H locs cells slots ls Q hC hf hlo hc hs hL hH hS hend
  exact lv_ifnullN hC.1 hC.2.1 hd ht (k p l e R s m args below meth c H locs cells slots ls Q hC hf hlo hc hs hL hH hS hend)
theorem ev_tsout {dflt lo hi : Int} {offs : Array Int} {len : Nat} {x : Int32} {tgt : Nat} (hd : decode y.2.1 pc = .ok (.tableswitch dflt lo hi offs, len)) (h : x.toInt < lo ∨ hi < x.toInt) (ht : (pc : Int) + dflt = (tgt : Int)) (k : ev_E G y f rc ru n M tgt L st Post) : ev_E G y f rc ru n M pc L (.int x :: st) Post := by
  intro p l e R s m args below meth c H locs cells slots ls Q hC hf hlo hc hs hL hH hS hend
  exact lv_tableOut hC.1 hC.2.1 hd h ht (k p l e R s m args below meth c H locs cells slots ls Q hC hf hlo hc hs hL hH hS hend)
theorem ev_tsin {dflt lo hi : Int} {offs : Array Int} {len : Nat} {x : Int32} {off : Int} {tgt : Nat} (hd : decode y.2.1 pc = .ok (.tableswitch dflt lo hi offs, len)) (h1 : ¬ x.toInt < lo) (h2 : ¬ hi < x.toInt) (ho : offs[(x.toInt - lo).toNat]? = some off) (ht : (pc : Int) + off = (tgt : Int)) (k : ev_E G y f rc ru n M tgt L st Post) : ev_E G y f rc ru n M pc L (.int x :: st) Post := by
  intro p l e R s m args below meth c H locs cells slots ls Q hC hf hlo hc hs hL hH hS hend
  exact lv_tableIn hC.1 hC.2.1 hd h1 h2 ho ht (k p l e R s m args below meth c H locs cells slots ls Q hC hf hlo hc hs hL hH hS hend)
theorem ev_lookup {dflt : Int} {ps : Array (Int × Int)} {len : Nat} {x : Int32} {off : Int} {tgt : Nat} (hd : decode y.2.1 pc = .ok (.lookupswitch dflt ps, len)) (hp : (ps.toList.zip (ps.toList.drop 1)).all (fun (a, next) => a.1 < next.1) = true) (ho : Op.lookupswitch.offset ps.toList dflt x.toInt = off) (ht : (pc : Int) + off = (tgt : Int)) (k : ev_E G y f rc ru n M tgt L st Post) : ev_E G y f rc ru n M pc L (.int x :: st) Post := by
  intro p l e R s m args below meth c H locs cells slots ls Q hC hf hlo hc hs hL hH hS hend
  exact lv_lookup hC.1 hC.2.1 hd hp ho ht (k p l e R s m args below meth c H locs cells slots ls Q hC hf hlo hc hs hL hH hS hend)
/-- the end -/
theorem ev_reti {x : Int32} {ty : FieldType} (hd : decode y.2.1 pc = .ok (.ireturn, 1)) (hr : y.2.2.2 = some ty) (hn : narrow ty (.int x) = .int x) (hP : Post (some (.int x)) M) : ev_E G y f 0 0 n M pc L [.int x] Post := by
  intro p l e R s m args below meth c H locs cells slots ls Q hC hf hlo hc hs hL hH hS hend
  exact hend pc ls (some (.int x)) M H locs ⟨⟨ty, hr, hn⟩, hd⟩ hH hS hP
theorem ev_retz {q : Bool} (hd : decode y.2.1 pc = .ok (.ireturn, 1)) (hr : y.2.2.2 = some .boolean) (hP : Post (some (.int (ev_b q))) M) : ev_E G y f 0 0 n M pc L [.int (ev_b q)] Post :=
  ev_reti hd hr (by cases q <;> rfl) hP
theorem ev_retl {x : Int64} (hd : decode y.2.1 pc = .ok (.lreturn, 1)) (hr : y.2.2.2 = some .long) (hP : Post (some (.long x)) M) : ev_E G y f 0 0 n M pc L [.long x] Post := by
  intro p l e R s m args below meth c H locs cells slots ls Q hC hf hlo hc hs hL hH hS hend
  exact hend pc ls (some (.long x)) M H locs ⟨hr, hd⟩ hH hS hP
theorem ev_reta {x : Nat} {C : String} (hd : decode y.2.1 pc = .ok (.areturn, 1)) (hr : y.2.2.2 = some (.object C)) (hP : Post (some (.ref x)) M) : ev_E G y f 0 0 n M pc L [.ref x] Post := by
  intro p l e R s m args below meth c H locs cells slots ls Q hC hf hlo hc hs hL hH hS hend
  exact hend pc ls (some (.ref x)) M H locs ⟨⟨C, hr⟩, hd⟩ hH hS hP
theorem ev_retN {C : String} (hd : decode y.2.1 pc = .ok (.areturn, 1)) (hr : y.2.2.2 = some (.object C)) (hP : Post (some .null) M) : ev_E G y f 0 0 n M pc L [.null] Post := by
  intro p l e R s m args below meth c H locs cells slots ls Q hC hf hlo hc hs hL hH hS hend
  exact hend pc ls (some .null) M H locs ⟨⟨C, hr⟩, hd⟩ hH hS hP
theorem ev_retv (hd : decode y.2.1 pc = .ok (.return_, 1)) (hr : y.2.2.2 = none) (hP : Post none M) : ev_E G y f 0 0 n M pc L [] Post := by
  intro p l e R s m args below meth c H locs cells slots ls Q hC hf hlo hc hs hL hH hS hend
  exact hend pc ls none M H locs ⟨hr, hd⟩ hH hS hP

theorem ev_min {idx : Nat} {a b : Int32} (hd : decode y.2.1 pc = .ok (.invokestatic idx, 3)) (h1 : Cond.methodLink y.1.cls idx Lib.Math.min.name ∈ ev_TB ∧ Cond.static Lib.Math.min.name ∈ ev_TB ∧ Cond.initialized "java/lang/Math" ∈ ev_TB ∧ Cond.code Lib.Math.min.name Lib.Math.min.code 2 (some .int) ∈ ev_TB) (hf1 : 1 ≤ f) (hst : (st.map fun v => v.category).sum ≤ 8) (k : ev_E G y f rc ru n M (pc + 3) L (.int (if b < a then b else a) :: st) Post) : ev_E G y f rc ru n M pc L (.int b :: .int a :: st) Post := by
  intro p l e R s m args below meth c H locs cells slots ls Q hC hf hlo hc hs hL hH hS hend
  have hst2 : ((st.map (ev_v G)).map fun v => v.category).sum ≤ 8 := by rw [List.map_map]; rw [show ((fun v : Value => v.category) ∘ ev_v G) = (fun v => v.category) from funext fun v => ev_v_cat v]; exact hst
  exact va_mmin hC.1 hC.2.1 (hC.2.2.1.trans hL.1.symm) hC.2.2.2.1 (hC.2.2.2.2.1 _ h1.1) (hC.2.2.2.2.1 _ h1.2.1) (hC.2.2.2.2.1 _ h1.2.2.1) (hC.2.2.2.2.1 _ h1.2.2.2) (by omega) (by omega) (by omega) (by omega) hd (k p l e R s m args below meth c H locs cells slots ls Q hC hf hlo hc hs hL hH hS hend)

theorem ev_max {idx : Nat} {a b : Int32} (hd : decode y.2.1 pc = .ok (.invokestatic idx, 3)) (h1 : Cond.methodLink y.1.cls idx Lib.Math.max.name ∈ ev_TB ∧ Cond.static Lib.Math.max.name ∈ ev_TB ∧ Cond.initialized "java/lang/Math" ∈ ev_TB ∧ Cond.code Lib.Math.max.name Lib.Math.max.code 2 (some .int) ∈ ev_TB) (hf1 : 1 ≤ f) (hst : (st.map fun v => v.category).sum ≤ 8) (k : ev_E G y f rc ru n M (pc + 3) L (.int (if a < b then b else a) :: st) Post) : ev_E G y f rc ru n M pc L (.int b :: .int a :: st) Post := by
  intro p l e R s m args below meth c H locs cells slots ls Q hC hf hlo hc hs hL hH hS hend
  have hst2 : ((st.map (ev_v G)).map fun v => v.category).sum ≤ 8 := by rw [List.map_map]; rw [show ((fun v : Value => v.category) ∘ ev_v G) = (fun v => v.category) from funext fun v => ev_v_cat v]; exact hst
  exact va_mmax hC.1 hC.2.1 (hC.2.2.1.trans hL.1.symm) hC.2.2.2.1 (hC.2.2.2.2.1 _ h1.1) (hC.2.2.2.2.1 _ h1.2.1) (hC.2.2.2.2.1 _ h1.2.2.1) (hC.2.2.2.2.1 _ h1.2.2.2) (by omega) (by omega) (by omega) (by omega) hd (k p l e R s m args below meth c H locs cells slots ls Q hC hf hlo hc hs hL hH hS hend)

theorem ev_abs {idx : Nat} {a : Int32} (hd : decode y.2.1 pc = .ok (.invokestatic idx, 3)) (h1 : Cond.methodLink y.1.cls idx Lib.Math.abs.name ∈ ev_TB ∧ Cond.static Lib.Math.abs.name ∈ ev_TB ∧ Cond.initialized "java/lang/Math" ∈ ev_TB ∧ Cond.code Lib.Math.abs.name Lib.Math.abs.code 1 (some .int) ∈ ev_TB) (hf1 : 1 ≤ f) (hst : (st.map fun v => v.category).sum ≤ 8) (k : ev_E G y f rc ru n M (pc + 3) L (.int (if 0 ≤ a then a else 0 - a) :: st) Post) : ev_E G y f rc ru n M pc L (.int a :: st) Post := by
  intro p l e R s m args below meth c H locs cells slots ls Q hC hf hlo hc hs hL hH hS hend
  have hst2 : ((st.map (ev_v G)).map fun v => v.category).sum ≤ 8 := by rw [List.map_map]; rw [show ((fun v : Value => v.category) ∘ ev_v G) = (fun v => v.category) from funext fun v => ev_v_cat v]; exact hst
  exact va_mabs hC.1 hC.2.1 (hC.2.2.1.trans hL.1.symm) hC.2.2.2.1 (hC.2.2.2.2.1 _ h1.1) (hC.2.2.2.2.1 _ h1.2.1) (hC.2.2.2.2.1 _ h1.2.2.1) (hC.2.2.2.2.1 _ h1.2.2.2) (by omega) (by omega) (by omega) (by omega) hd (k p l e R s m args below meth c H locs cells slots ls Q hC hf hlo hc hs hL hH hS hend)

theorem ev_absl {idx : Nat} {a : Int64} (hd : decode y.2.1 pc = .ok (.invokestatic idx, 3)) (h1 : Cond.methodLink y.1.cls idx Lib.MathLoose.abs_long.x ∈ ev_TB ∧ Cond.static Lib.MathLoose.abs_long.x ∈ ev_TB ∧ Cond.initialized "java/lang/Math" ∈ ev_TB ∧ Cond.code Lib.MathLoose.abs_long.x Lib.MathLoose.abs_long.code 2 (some .long) ∈ ev_TB) (hf1 : 1 ≤ f) (hst : (st.map fun v => v.category).sum ≤ 8) (k : ev_E G y f rc ru n M (pc + 3) L (.long (if 0 < a then a else -a) :: st) Post) : ev_E G y f rc ru n M pc L (.long a :: st) Post := by
  intro p l e R s m args below meth c H locs cells slots ls Q hC hf hlo hc hs hL hH hS hend
  have hst2 : ((st.map (ev_v G)).map fun v => v.category).sum ≤ 8 := by rw [List.map_map]; rw [show ((fun v : Value => v.category) ∘ ev_v G) = (fun v => v.category) from funext fun v => ev_v_cat v]; exact hst
  exact va_mabs_long hC.1 hC.2.1 (hC.2.2.1.trans hL.1.symm) hC.2.2.2.1 (hC.2.2.2.2.1 _ h1.1) (hC.2.2.2.2.1 _ h1.2.1) (hC.2.2.2.2.1 _ h1.2.2.1) (hC.2.2.2.2.1 _ h1.2.2.2) (by omega) (by omega) (by omega) (by omega) hd (k p l e R s m args below meth c H locs cells slots ls Q hC hf hlo hc hs hL hH hS hend)
theorem ev_objInit {idx a : Nat} (hd : decode y.2.1 pc = .ok (.invokespecial idx, 3)) (h1 : Cond.methodLink y.1.cls idx objectInit ∈ ev_TB ∧ Cond.instanceMethod objectInit ∈ ev_TB ∧ Cond.code objectInit ⟨#[0xb1]⟩ 1 none ∈ ev_TB) (hf1 : 1 ≤ f) (hst : (st.map fun v => v.category).sum ≤ 8) (k : ev_E G y f rc ru n M (pc + 3) L st Post) : ev_E G y f rc ru n M pc L (.ref a :: st) Post := by
  intro p l e R s m args below meth c H locs cells slots ls Q hC hf hlo hc hs hL hH hS hend
  have hst2 : ((st.map (ev_v G)).map fun v => v.category).sum ≤ 8 := by rw [List.map_map]; rw [show ((fun v : Value => v.category) ∘ ev_v G) = (fun v => v.category) from funext fun v => ev_v_cat v]; exact hst
  exact W.objInit hC.1 hC.2.1 hC.2.2.2.1 (hC.2.2.2.2.1 _ h1.1) (hC.2.2.2.2.1 _ h1.2.1) (hC.2.2.2.2.1 _ h1.2.2) rfl (hL.1.trans hC.2.2.1.symm) rfl hd (by omega) (by show 2 * 0 + _ + 12 ≤ _; omega) (k p l e R s m args below meth c H locs cells slots ls Q hC hf hlo hc hs hL hH hS hend)

theorem ev_getf {a ci j idx : Nat} {fs : List Value} {v : Value} (hd : decode y.2.1 pc = .ok (.getfield idx, 3)) (hl : ev_FL y.1.cls idx ci j) (hM : M a = .inr (ci, fs)) (hv : fs[j]? = some v) (k : ev_E G y f rc ru n M (pc + 3) L (v :: st) Post) : ev_E G y f rc ru n M pc L (.ref a :: st) Post := by
  intro p l e R s m args below meth c H locs cells slots ls Q hC hf hlo hc hs hL hH hS hend
  obtain ⟨⟨C, T, N⟩, h1, h2, h3, h4, h5⟩ := hl
  have hr := hH.rng (a := a) (by rw [hM]; exact ev_nj_r h1)
  have hw := ev_wl_at (G := G) (M := M) hr.1 hr.2
  rw [hM] at hw
  exact va_get (C := C) (T := T) (N := N) (ref := C) hC.1 hC.2.1 hC.2.2.2.2.1 h4 hC.2.2.2.1 hC.2.2.2.2.2.1.1 hH.1 (a - 21) hw h1 j h2 (hC.2.2.2.2.1 _ h3) (fun x hx => by have h5' : (T j).1 = C := h5; rw [← h5']; exact hx) (v := ev_v G v) (by rw [List.getElem?_map, hv]; rfl) hd (k p l e R s m args below meth c H locs cells slots ls Q hC hf hlo hc hs hL hH hS hend)
theorem ev_put {a ci j idx : Nat} {fs : List Value} {v : Value} {ty : FieldType} {fin : Bool} (hd : decode y.2.1 pc = .ok (.putfield idx, 3)) (hl : ev_FP y.1.cls idx ci j ty fin) (hfin : fin = true → y.1.name = "<init>") (hM : M a = .inr (ci, fs)) (hj : j < fs.length) (hn : ∀ G, narrow ty (ev_v G v) = ev_v G v) (hfit : ∀ G, fits ty (ev_v G v) = true) (k : ev_E G y f rc ru n (ev_set M a (.inr (ci, fs.set j v))) (pc + 3) L st Post) : ev_E G y f rc ru n M pc L (v :: .ref a :: st) Post := by
  intro p l e R s m args below meth c H locs cells slots ls Q hC hf hlo hc hs hL hH hS hend
  obtain ⟨⟨C, T, N⟩, ty0, h1, h2, h3, h4, h5, hty, hnm, hde, hfi, hown⟩ := hl
  have hr := hH.rng (a := a) (by rw [hM]; exact ev_nj_r h1)
  have hw := ev_wl_at (G := G) (M := M) hr.1 hr.2
  rw [hM] at hw
  have hts := hC.2.2.2.2.1
  have hK := hC.2.2.2.2.2.1.1
  have hap := va_apart (s := s) (args := args) (own := C) hts h4 ty0 hty hnm hK h1
  obtain ⟨r, g1, cell, q1, q2, q3, q4⟩ := hH.1 (a - 21) _ hw
  have hr2 : r = (C, T, N) := Option.some.inj (g1.symm.trans h1)
  subst hr2
  obtain ⟨hS2, hfc, kC, hkC, hkind⟩ := hK.1 ci _ h1
  obtain ⟨cf, kf, fi, fd, hi, hsl⟩ := hS2 j h2
  have hlay := hts _ (h4 _ (u_in_lay h2))
  have hst := (u_facts hfc hkC (u_lays hts h4 h2) hi).1
  have hlink := hts _ h3
  have h5' : (T j).1 = C := h5
  have hi2 : s.fieldFound? C (T j).2.1 (T j).2.2.1 = some (cf, kf, fi, fd) := by rw [← h5']; exact hi
  have hlen : j < (fs.map (ev_v G)).length := by rw [List.length_map]; exact hj
  have go : ∀ H' : Heap, H'[ev_ad G a]? = some (cell.setSlot fd.slot (ev_v G v)) → H'.size = H.size → (∀ q, q ≠ ev_ad G a → H'[q]? = H[q]?) → W p l e R s m args below meth c H' (locs ++ [⟨ev_ad G a, fd.slot⟩]) cells slots Q (F0 m (pc + 3) ls (st.map (ev_v G))) := by
    intro H' e1 e2 e3
    rw [hsl] at e1
    refine k p l e R s m args below meth c H' _ cells slots ls Q hC hf hlo hc hs hL (ev_upd hH hr e2 e3 ?_) (hS.put e2 e3 (ev_ad_own hr.1)) hend
    show va_at (ev_D G) vwCl (ev_ad G a, .inr (ci, (fs.set j v).map (ev_v G))) H'
    rw [List.map_set]
    exact ⟨_, h1, t_OB.to (V := updV (vp_V (fs.map (ev_v G))) j (ev_v G v)) ⟨_, e1, q2, q3, t_set q4 hap h2 _⟩ (fun i _ => vp_updV_set hlen _ i)⟩
  unfold u_lay at hlay
  by_cases hb : fin = true
  · rw [if_pos (hfi.trans hb)] at hlay
    have hdecl : (T j).1 = y.1.cls := h5.trans (hown hb)
    have hcf : m.cls = cf := by
      obtain ⟨_, _, c', _, _, _, -, -, hf', -, -, -, hown2, -⟩ := Cond.laysFinal_spec hlay
      have e1 : c' = cf := by have := hi.symm.trans hf'; simp at this; exact this.1.symm
      rw [hdecl] at hown2
      rw [← e1]; exact Option.some.inj (hC.2.2.2.1.symm.trans hown2)
    have h6 := u_fits hfc hkC hkind (Or.inr hlay) hi hde (hn G) (hfit G)
    exact W.putFinK hC.1 hC.2.1 hC.2.2.2.1 hlink hi2 hst hcf (hC.2.2.2.2.2.2.2.2 (hfin hb)) (by rw [q2]; exact h6) q1 q3 (by rw [hsl]; exact k2_hasslot (q4 j h2)) rfl rfl hd go
  · have hfi2 : (T j).2.2.2 = false := hfi.trans (by cases fin; rfl; exact absurd rfl hb)
    rw [if_neg (by rw [hfi2]; decide)] at hlay
    have h6 := u_store hfc hkC hkind hlay hi hde (hn G) (hfit G)
    exact W.putK hC.1 hC.2.1 (f := fd) ⟨hC.2.2.2.1, hlink, ⟨_, _, _, hi2⟩, hst⟩ (by rw [q2]; exact h6) q1 q3 (by rw [hsl]; exact k2_hasslot (q4 j h2)) rfl rfl hd go
theorem ev_puti {a ci j idx : Nat} {fs : List Value} {x : Int32} (hd : decode y.2.1 pc = .ok (.putfield idx, 3)) (hl : ev_FP y.1.cls idx ci j .int false) (hM : M a = .inr (ci, fs)) (hj : j < fs.length) (k : ev_E G y f rc ru n (ev_set M a (.inr (ci, fs.set j (.int x)))) (pc + 3) L st Post) : ev_E G y f rc ru n M pc L (.int x :: .ref a :: st) Post :=
  ev_put hd hl (fun h => by cases h) hM hj (fun _ => rfl) (fun _ => rfl) k
theorem ev_putl {a ci j idx : Nat} {fs : List Value} {x : Int64} (hd : decode y.2.1 pc = .ok (.putfield idx, 3)) (hl : ev_FP y.1.cls idx ci j .long false) (hM : M a = .inr (ci, fs)) (hj : j < fs.length) (k : ev_E G y f rc ru n (ev_set M a (.inr (ci, fs.set j (.long x)))) (pc + 3) L st Post) : ev_E G y f rc ru n M pc L (.long x :: .ref a :: st) Post :=
  ev_put hd hl (fun h => by cases h) hM hj (fun _ => rfl) (fun _ => rfl) k
theorem ev_putz {a ci j idx : Nat} {fs : List Value} {q : Bool} (hd : decode y.2.1 pc = .ok (.putfield idx, 3)) (hl : ev_FP y.1.cls idx ci j .boolean false) (hM : M a = .inr (ci, fs)) (hj : j < fs.length) (k : ev_E G y f rc ru n (ev_set M a (.inr (ci, fs.set j (.int (ev_b q))))) (pc + 3) L st Post) : ev_E G y f rc ru n M pc L (.int (ev_b q) :: .ref a :: st) Post :=
  ev_put hd hl (fun h => by cases h) hM hj (fun _ => by cases q <;> rfl) (fun _ => by cases q <;> rfl) k
theorem ev_putr {a ci j idx b : Nat} {fs : List Value} {C : String} (hd : decode y.2.1 pc = .ok (.putfield idx, 3)) (hl : ev_FP y.1.cls idx ci j (.object C) false) (hM : M a = .inr (ci, fs)) (hj : j < fs.length) (k : ev_E G y f rc ru n (ev_set M a (.inr (ci, fs.set j (.ref b)))) (pc + 3) L st Post) : ev_E G y f rc ru n M pc L (.ref b :: .ref a :: st) Post :=
  ev_put hd hl (fun h => by cases h) hM hj (fun _ => rfl) (fun _ => rfl) k
theorem ev_putrF {a ci j idx b : Nat} {fs : List Value} {C : String} (hd : decode y.2.1 pc = .ok (.putfield idx, 3)) (hl : ev_FP y.1.cls idx ci j (.object C) true) (hi : y.1.name = "<init>") (hM : M a = .inr (ci, fs)) (hj : j < fs.length) (k : ev_E G y f rc ru n (ev_set M a (.inr (ci, fs.set j (.ref b)))) (pc + 3) L st Post) : ev_E G y f rc ru n M pc L (.ref b :: .ref a :: st) Post :=
  ev_put hd hl (fun _ => hi) hM hj (fun _ => rfl) (fun _ => rfl) k
theorem ev_putaF {a ci j idx b : Nat} {fs : List Value} {t : FieldType} (hd : decode y.2.1 pc = .ok (.putfield idx, 3)) (hl : ev_FP y.1.cls idx ci j (.array t) true) (hi : y.1.name = "<init>") (hM : M a = .inr (ci, fs)) (hj : j < fs.length) (k : ev_E G y f rc ru n (ev_set M a (.inr (ci, fs.set j (.ref b)))) (pc + 3) L st Post) : ev_E G y f rc ru n M pc L (.ref b :: .ref a :: st) Post :=
  ev_put hd hl (fun _ => hi) hM hj (fun _ => rfl) (fun _ => rfl) k
/-- arrays -/
theorem ev_iald {a N j : Nat} {i : Int32} {g : Nat → Int32} (hd : decode y.2.1 pc = .ok (.iaload, 1)) (hM : M a = .inl (0, N, .inl g)) (hx : ev_ix i j) (hj : j < N) (k : ev_E G y f rc ru n M (pc + 1) L (.int (g j) :: st) Post) : ev_E G y f rc ru n M pc L (.int i :: .ref a :: st) Post := by
  intro p l e R s m args below meth c H locs cells slots ls Q hC hf hlo hc hs hL hH hS hend
  have hr := hH.rng (a := a) (by rw [hM]; exact ev_nj_l)
  have hw := ev_wl_at (G := G) (M := M) hr.1 hr.2
  rw [hM] at hw
  exact va_iald hC.1 hC.2.1 hC.2.2.2.2.2.1.1 hH.1 (a - 21) 0 hw rfl (ev_ix_in hx hj) hd (by rw [hx.2]; exact k p l e R s m args below meth c H locs cells slots ls Q hC hf hlo hc hs hL hH hS hend)
theorem ev_zald {a N j : Nat} {i : Int32} {g : Nat → Int32} (hd : decode y.2.1 pc = .ok (.baload, 1)) (hM : M a = .inl (1, N, .inl g)) (hx : ev_ix i j) (hj : j < N) (k : ev_E G y f rc ru n M (pc + 1) L (.int (g j) :: st) Post) : ev_E G y f rc ru n M pc L (.int i :: .ref a :: st) Post := by
  intro p l e R s m args below meth c H locs cells slots ls Q hC hf hlo hc hs hL hH hS hend
  have hr := hH.rng (a := a) (by rw [hM]; exact ev_nj_l)
  have hw := ev_wl_at (G := G) (M := M) hr.1 hr.2
  rw [hM] at hw
  exact va_zald hC.1 hC.2.1 hC.2.2.2.2.2.1.1 hH.1 (a - 21) 1 hw rfl (ev_ix_in hx hj) hd (by rw [hx.2]; exact k p l e R s m args below meth c H locs cells slots ls Q hC hf hlo hc hs hL hH hS hend)
theorem ev_aald {a N j t b : Nat} {i : Int32} {g : Nat → Option Nat} {C : String} (hd : decode y.2.1 pc = .ok (.aaload, 1)) (ht : ∀ G, (ev_tys G)[t]? = some (ev_cA G t, .object C)) (hM : M a = .inl (t, N, .inr (.inr (.inr (.inr g))))) (hx : ev_ix i j) (hj : j < N) (hg : g j = some b) (k : ev_E G y f rc ru n M (pc + 1) L (.ref b :: st) Post) : ev_E G y f rc ru n M pc L (.int i :: .ref a :: st) Post := by
  intro p l e R s m args below meth c H locs cells slots ls Q hC hf hlo hc hs hL hH hS hend
  have hr := hH.rng (a := a) (by rw [hM]; exact ev_nj_l)
  have hw := ev_wl_at (G := G) (M := M) hr.1 hr.2
  rw [hM] at hw
  refine va_aldq hC.1 hC.2.1 hC.2.2.2.2.2.1.1 hH.1 (a - 21) t (f := fun j => (g j).map (ev_ad G)) hw (ht G) (ev_ix_in hx hj) hd ?_
  rw [hx.2, hg]
  exact k p l e R s m args below meth c H locs cells slots ls Q hC hf hlo hc hs hL hH hS hend
theorem ev_alen {a t N : Nat} {x : (Nat → Int32) ⊕ (Nat → Int64) ⊕ (Nat → UInt32) ⊕ (Nat → UInt64) ⊕ (Nat → Option Nat)} {ty : FieldType} {v : Int32} (hd : decode y.2.1 pc = .ok (.arraylength, 1)) (ht : ∀ G, (ev_tys G)[t]? = some (ev_cA G t, ty)) (hM : M a = .inl (t, N, x)) (hv : Int32.ofNat N = v) (k : ev_E G y f rc ru n M (pc + 1) L (.int v :: st) Post) : ev_E G y f rc ru n M pc L (.ref a :: st) Post := by
  intro p l e R s m args below meth c H locs cells slots ls Q hC hf hlo hc hs hL hH hS hend
  have hr := hH.rng (a := a) (by rw [hM]; exact ev_nj_l)
  have hw := ev_wl_at (G := G) (M := M) hr.1 hr.2
  rw [hM] at hw
  refine va_alen hC.1 hC.2.1 hC.2.2.2.2.2.1.1 hH.1 (a - 21) t (x := ev_a G (N, x)) hw (ht G) (v := v) ?_ hd (k p l e R s m args below meth c H locs cells slots ls Q hC hf hlo hc hs hL hH hS hend)
  obtain x | x | x | x | x := x <;> exact hv
theorem ev_iast {a N j : Nat} {i x : Int32} {g : Nat → Int32} (hd : decode y.2.1 pc = .ok (.iastore, 1)) (hM : M a = .inl (0, N, .inl g)) (hx : ev_ix i j) (hj : j < N) (k : ev_E G y f rc ru n (ev_set M a (.inl (0, N, .inl (upd g j x)))) (pc + 1) L st Post) : ev_E G y f rc ru n M pc L (.int x :: .int i :: .ref a :: st) Post := by
  intro p l e R s m args below meth c H locs cells slots ls Q hC hf hlo hc hs hL hH hS hend
  have hr := hH.rng (a := a) (by rw [hM]; exact ev_nj_l)
  have hw := ev_wl_at (G := G) (M := M) hr.1 hr.2
  rw [hM] at hw
  refine W.iast hC.1 hC.2.1 (hH.1 (a - 21) _ hw) ((hC.2.2.2.2.2.1.1.2 0 _ rfl).1 N (fun j => .int (g j))) (fun q => by cases q) (by show ¬ (i < 0 ∨ (arrV _ _ _).slots.size ≤ _); rw [arrV_size]; exact ev_ix_in hx hj) rfl rfl hd fun H1 e1 e2 e3 => ?_
  refine k p l e R s m args below meth c H1 _ cells slots ls Q hC hf hlo hc hs hL (ev_upd hH hr e2 e3 ?_) (hS.put e2 e3 (ev_ad_own hr.1)) hend
  show H1[ev_ad G a]? = some (vp_cell _ _)
  rw [e1]
  show some (Cell.setSlot (vp_cell (ev_cA G 0) (N, .inl g)) _ _) = some (vp_cell (ev_cA G 0) (N, .inl (upd g j x)))
  rw [vp_cell_i, vp_cell_i, arrV_store, hx.2]
  congr 2
  funext q
  by_cases hq : q = j
  · subst hq
    simp [updV, upd]
  · simp [updV, upd, hq]
theorem ev_zast {a N j : Nat} {i : Int32} {x : Bool} {g : Nat → Int32} (hd : decode y.2.1 pc = .ok (.bastore, 1)) (hM : M a = .inl (1, N, .inl g)) (hx : ev_ix i j) (hj : j < N) (k : ev_E G y f rc ru n (ev_set M a (.inl (1, N, .inl (upd g j (ev_b x))))) (pc + 1) L st Post) : ev_E G y f rc ru n M pc L (.int (ev_b x) :: .int i :: .ref a :: st) Post := by
  intro p l e R s m args below meth c H locs cells slots ls Q hC hf hlo hc hs hL hH hS hend
  have hr := hH.rng (a := a) (by rw [hM]; exact ev_nj_l)
  have hw := ev_wl_at (G := G) (M := M) hr.1 hr.2
  rw [hM] at hw
  refine W.zast hC.1 hC.2.1 (hH.1 (a - 21) _ hw) ((hC.2.2.2.2.2.1.1.2 1 _ rfl).1 N (fun j => .int (g j))) (fun q => by cases q) (by show ¬ (i < 0 ∨ (arrV _ _ _).slots.size ≤ _); rw [arrV_size]; exact ev_ix_in hx hj) rfl rfl hd fun H1 e1 e2 e3 => ?_
  refine k p l e R s m args below meth c H1 _ cells slots ls Q hC hf hlo hc hs hL (ev_upd hH hr e2 e3 ?_) (hS.put e2 e3 (ev_ad_own hr.1)) hend
  show H1[ev_ad G a]? = some (vp_cell _ _)
  rw [e1]
  show some (Cell.setSlot (vp_cell (ev_cA G 1) (N, .inl g)) _ _) = some (vp_cell (ev_cA G 1) (N, .inl (upd g j (ev_b x))))
  rw [vp_cell_i, vp_cell_i, arrV_store, hx.2]
  congr 2
  funext q
  by_cases hq : q = j
  · subst hq
    cases x <;> simp [updV, upd, ev_b] <;> rfl
  · simp [updV, upd, hq]
theorem ev_aast {a N j t b ci : Nat} {fs : List Value} {i : Int32} {r : vw_C} {g : Nat → Option Nat} (hd : decode y.2.1 pc = .ok (.aastore, 1)) (hcl : vwCl[ci]? = some r) (ht : ∀ G, (ev_tys G)[t]? = some (ev_cA G t, .object r.1)) (hM : M a = .inl (t, N, .inr (.inr (.inr (.inr g))))) (hx : ev_ix i j) (hj : j < N) (hb : M b = .inr (ci, fs)) (k : ev_E G y f rc ru n (ev_set M a (.inl (t, N, .inr (.inr (.inr (.inr (va_up g j (some b)))))))) (pc + 1) L st Post) : ev_E G y f rc ru n M pc L (.ref b :: .int i :: .ref a :: st) Post := by
  intro p l e R s m args below meth c H locs cells slots ls Q hC hf hlo hc hs hL hH hS hend
  have hr := hH.rng (a := a) (by rw [hM]; exact ev_nj_l)
  have hw := ev_wl_at (G := G) (M := M) hr.1 hr.2
  rw [hM] at hw
  have hrb := hH.rng (a := b) (by rw [hb]; exact ev_nj_r hcl)
  have hwb := ev_wl_at (G := G) (M := M) hrb.1 hrb.2
  rw [hb] at hwb
  have hK := hC.2.2.2.2.2.1.1
  obtain ⟨r', hr', cellV, g1, g2, g3, -⟩ := hH.1 (b - 21) _ hwb
  have hcls := (hK.1 ci r hcl).2
  obtain ⟨kA, comp, k1, k2, k3, -⟩ := (hK.2 t _ (ht G)).2
  have hcomp : comp = (ev_D G).1 ci := Option.some.inj (k3.symm.trans hcls.1)
  subst hcomp
  obtain ⟨kC, hkC, -⟩ := hcls.2
  refine W.aast hC.1 hC.2.1 (hH.1 (a - 21) _ hw) (fun q h => by cases h) (fun h => by cases h) k1 k2 rfl hkC ⟨hx.1, by show _ < (arrV _ _ _).slots.size; rw [arrV_size, hx.2]; exact hj⟩ g1 (fun q h => by rw [g3] at h; cases h) (by rw [g2]; exact hkC) (by rw [g2]; exact va_assign hcls) rfl rfl hd fun H1 e1 e2 e3 => ?_
  refine k p l e R s m args below meth c H1 _ cells slots ls Q hC hf hlo hc hs hL (ev_upd hH hr e2 e3 ?_) (hS.put e2 e3 (ev_ad_own hr.1)) hend
  show H1[ev_ad G a]? = some (vp_cell _ _)
  rw [e1]
  show some (Cell.setSlot (vp_cell (ev_cA G t) (N, .inr (.inr (.inr (.inr (fun j => (g j).map (ev_ad G))))))) _ _) = some (vp_cell (ev_cA G t) (N, .inr (.inr (.inr (.inr (fun q => (va_up g j (some b) q).map (ev_ad G)))))))
  rw [vp_cell_q, vp_cell_q, arrV_store, hx.2]
  congr 2
  funext q
  by_cases hq : q = j
  · subst hq
    simp [updV, va_up, va_rf]
  · simp [updV, va_up, hq]
/-- what is made -/
theorem ev_new {idx ci N rc' ru' : Nat} {fs : List Value} (hd : decode y.2.1 pc = .ok (.new idx, 3)) (hl : ev_NW y.1.cls idx ci fs N) (h1 : rc = rc' + 1) (h2 : ru = ru' + N) (k : ev_E G y f rc' ru' (n + 1) (ev_set M (21 + n) (.inr (ci, fs))) (pc + 3) L (.ref (21 + n) :: st) Post) : ev_E G y f rc ru n M pc L st Post := by
  intro p l e R s m args below meth c H locs cells slots ls Q hC hf hlo hc hs hL hH hS hend
  subst h1 h2
  obtain ⟨⟨C, T, N2⟩, ty0, g1, gN, g2, g3, g4, g5, g6, g7⟩ := hl
  have gN : N2 = N := gN
  subst gN
  have hts := hC.2.2.2.2.1
  have hKn := hC.2.2.2.2.2.1.1.1 ci _ g1
  have hsz := hH.2.1
  refine W.newcK hC.1 hC.2.1 hC.2.2.2.1 (hts _ g2) (hts _ g3) (hts _ g4) rfl hd (by omega) (by omega) hKn.2.1 hsz fun H1 kC hkC e1 z1 o1 => ?_
  rw [← hsz] at o1 e1 z1
  refine W.eq (g2 := F0 m (pc + 3) ls ((.ref (21 + n) :: st).map (ev_v G))) (by show F0 m (pc + 3) ls (.ref (ev_base G + n) :: st.map (ev_v G)) = F0 m (pc + 3) ls (ev_v G (.ref (21 + n)) :: st.map (ev_v G)); rw [ev_top]) ?_
  refine k p l e R s m args below meth c H1 locs (cells + 1) (slots + N2) ls Q hC hf hlo (by omega) (by show slots + N2 + ru' ≤ R.slots; omega) hL (ev_grow hH z1 o1 ?_) (ev_S_grow hS z1 o1) ?_
  · refine ⟨_, g1, (u_born ty0 hts g5 hKn hkC e1 g6).to fun j hj => ?_⟩
    show defaultValue (ty0 j) = vp_V (fs.map (ev_v G)) j
    rw [(g7 j hj).2 G, (g7 j hj).1, List.map_id'']
    exact fun _ => rfl
  · intro pc' ls' r M' H' locs' ho hH' hS' hP
    have := hend pc' ls' r M' H' locs' ho (by rw [show n + (rc' + 1) = n + 1 + rc' by omega]; exact hH') hS' hP
    rw [show cells + (rc' + 1) = cells + 1 + rc' by omega, show slots + (ru' + N2) = slots + N2 + ru' by omega] at this
    exact this
theorem ev_newa {N rc' ru' t : Nat} {i : Int32} {at' : ArrayType} {ty : FieldType} (hd : decode y.2.1 pc = .ok (.newarray at', 2)) (hw : Cond.arrayClass (newarray.typeOf at') ∈ ev_TB) (hty : newarray.typeOf at' = ty) (ht : ∀ G, (ev_tys G)[t]? = some (ev_cA G t, ty)) (hdf : defaultValue ty = .int 0) (hra : ∀ U cA, va_RA U cA ty → U.vm.findClass ("[" ++ ty.toString) = some cA) (hx : ev_ix i N) (hb : N * componentBytes ty ≤ 536870912) (h1 : rc = rc' + 1) (h2 : ru = ru' + N) (k : ev_E G y f rc' ru' (n + 1) (ev_set M (21 + n) (.inl (t, N, .inl (fun _ => 0)))) (pc + 2) L (.ref (21 + n) :: st) Post) : ev_E G y f rc ru n M pc L (.int i :: st) Post := by
  intro p l e R s m args below meth c H locs cells slots ls Q hC hf hlo hc hs hL hH hS hend
  subst h1 h2 hty
  have hsz := hH.2.1
  have hts := hC.2.2.2.2.1
  have hKt := hC.2.2.2.2.2.1.1.2 t _ (ht G)
  refine va_newaK hC.1 hC.2.1 (hts _ hw) rfl hd rfl hx.1 hx.2 hb (by omega) (by omega) hsz fun H1 cA e1 z1 o1 hAr hNm => ?_
  rw [← hsz] at o1 e1 z1
  have hcA : cA = ev_cA G t := Option.some.inj (hNm.symm.trans (hra _ _ hKt.2))
  subst hcA
  refine W.eq (g2 := F0 m (pc + 2) ls ((.ref (21 + n) :: st).map (ev_v G))) (by show F0 m (pc + 2) ls (.ref (ev_base G + n) :: st.map (ev_v G)) = F0 m (pc + 2) ls (ev_v G (.ref (21 + n)) :: st.map (ev_v G)); rw [ev_top]) ?_
  refine k p l e R s m args below meth c H1 locs (cells + 1) (slots + N) ls Q hC hf hlo (by omega) (by show slots + N + ru' ≤ R.slots; omega) hL (ev_grow hH z1 o1 ?_) (ev_S_grow hS z1 o1) ?_
  · show H1[H.size]? = some (vp_cell (ev_cA G t) (N, .inl (fun _ => 0)))
    rw [vp_cell_i, e1, hdf]
  · intro pc' ls' r M' H' locs' ho hH' hS' hP
    have := hend pc' ls' r M' H' locs' ho (by rw [show n + (rc' + 1) = n + 1 + rc' by omega]; exact hH') hS' hP
    rw [show cells + (rc' + 1) = cells + 1 + rc' by omega, show slots + (ru' + N) = slots + N + ru' by omega] at this
    exact this
theorem ev_newI {N rc' ru' : Nat} {i : Int32} (hd : decode y.2.1 pc = .ok (.newarray .int, 2)) (hw : Cond.arrayClass .int ∈ ev_TB) (hx : ev_ix i N) (hb : N ≤ 10000) (h1 : rc = rc' + 1) (h2 : ru = ru' + N) (k : ev_E G y f rc' ru' (n + 1) (ev_set M (21 + n) (.inl (0, N, .inl (fun _ => 0)))) (pc + 2) L (.ref (21 + n) :: st) Post) : ev_E G y f rc ru n M pc L (.int i :: st) Post :=
  ev_newa (t := 0) (ty := .int) hd hw rfl (fun _ => rfl) rfl (fun _ _ h => h) hx (by show N * 4 ≤ _; omega) h1 h2 k
theorem ev_newZ {N rc' ru' : Nat} {i : Int32} (hd : decode y.2.1 pc = .ok (.newarray .boolean, 2)) (hw : Cond.arrayClass .boolean ∈ ev_TB) (hx : ev_ix i N) (hb : N ≤ 10000) (h1 : rc = rc' + 1) (h2 : ru = ru' + N) (k : ev_E G y f rc' ru' (n + 1) (ev_set M (21 + n) (.inl (1, N, .inl (fun _ => 0)))) (pc + 2) L (.ref (21 + n) :: st) Post) : ev_E G y f rc ru n M pc L (.int i :: st) Post :=
  ev_newa (t := 1) (ty := .boolean) hd hw rfl (fun _ => rfl) rfl (fun _ _ h => h) hx (by show N * 1 ≤ _; omega) h1 h2 k
theorem ev_newq {N rc' ru' t idx : Nat} {i : Int32} {C : String} (hd : decode y.2.1 pc = .ok (.anewarray idx, 3)) (hw : Cond.classLink y.1.cls idx C ∈ ev_TB) (ho : ∀ (G : ev_G) (s : State), ev_F G s → va_AO C s) (ht : ∀ G, (ev_tys G)[t]? = some (ev_cA G t, .object C)) (hx : ev_ix i N) (hb : N ≤ 10000) (h1 : rc = rc' + 1) (h2 : ru = ru' + N) (k : ev_E G y f rc' ru' (n + 1) (ev_set M (21 + n) (.inl (t, N, .inr (.inr (.inr (.inr (fun _ => none))))))) (pc + 3) L (.ref (21 + n) :: st) Post) : ev_E G y f rc ru n M pc L (.int i :: st) Post := by
  intro p l e R s m args below meth c H locs cells slots ls Q hC hf hlo hc hs hL hH hS hend
  subst h1 h2
  obtain ⟨hx1, rfl⟩ := hx
  have hsz := hH.2.1
  have hts := hC.2.2.2.2.1
  have hKt := hC.2.2.2.2.2.1.1.2 t _ (ht G)
  refine W.anew hC.1 hC.2.1 hC.2.2.2.1 (hts _ hw) (va_AO.use (ho G s hC.2.2.2.2.2.1)) rfl hd rfl hx1 (by omega) (by omega) (by omega) fun cA kA comp f1 f2 f3 f4 => ?_
  obtain ⟨kA2, comp2, j1, j2, j3, j4⟩ := hKt.2
  have hcA : cA = ev_cA G t := Option.some.inj (f1.symm.trans j4)
  subst hcA
  generalize hH1 : H.push ({ cls := ev_cA G t, slots := Array.replicate i.toNatClampNeg .null, vm := .none } : Cell) = H1
  have z1 : H1.size = H.size + 1 := by rw [← hH1, Array.size_push]
  have e1 : H1[H.size]? = some (arrV (ev_cA G t) i.toNatClampNeg (fun _ => .null)) := by rw [← hH1, Array.getElem?_push_size, ← arrV_new]
  have o1 : ∀ q : Nat, q < H.size → H1[q]? = H[q]? := fun q hq => by rw [← hH1, Array.getElem?_push, if_neg (Nat.ne_of_lt hq)]
  refine W.eq (g2 := F0 m (pc + 3) ls ((.ref (21 + n) :: st).map (ev_v G))) (by show F0 m (pc + 3) ls (.ref H.size :: st.map (ev_v G)) = F0 m (pc + 3) ls (ev_v G (.ref (21 + n)) :: st.map (ev_v G)); rw [ev_top, hsz]) ?_
  refine k p l e R s m args below meth c H1 locs (cells + 1) (slots + i.toNatClampNeg) ls Q hC hf hlo (by omega) (by omega) hL (ev_grow hH z1 o1 ?_) (ev_S_grow hS z1 o1) ?_
  · show H1[H.size]? = some (vp_cell (ev_cA G t) (i.toNatClampNeg, .inr (.inr (.inr (.inr (fun _ => none))))))
    rw [vp_cell_q, e1]
    rfl
  · intro pc' ls' r M' H' locs' ho hH' hS' hP
    have := hend pc' ls' r M' H' locs' ho (by rw [show n + (rc' + 1) = n + 1 + rc' by omega]; exact hH') hS' hP
    rw [show cells + (rc' + 1) = cells + 1 + rc' by omega, show slots + (ru' + i.toNatClampNeg) = slots + i.toNatClampNeg + ru' by omega] at this
    exact this
/-- the older cells -/
theorem ev_gets {i idx : Nat} (hd : decode y.2.1 pc = .ok (.getstatic idx, 3)) (hi : i < 8) (hw : Cond.fieldLink y.1.cls idx (ev_stN i).1 (ev_stN i).2 "[I" ∈ ev_TB) (k : ev_E G y f rc ru n M (pc + 3) L (.ref (1 + i) :: st) Post) : ev_E G y f rc ru n M pc L st Post := by
  intro p l e R s m args below meth c H locs cells slots ls Q hC hf hlo hc hs hL hH hS hend
  obtain ⟨cf, kf, fi, fd, a, cell, h1, h2, h3, h4, h5, h6, h7, h8⟩ := (hH.2.2.1.1 i hi).1
  refine W.gets hC.1 hC.2.1 hC.2.2.2.1 (hC.2.2.2.2.1 _ hw) h1 h2 h3 h4 h5 (fun e => by rw [e] at h6; cases h6) h7 rfl hd ?_
  have k2 := k p l e R s m args below meth c H locs cells slots ls Q hC hf hlo hc hs hL hH hS hend
  rw [List.map_cons, ev_v, ev_ad, if_pos (by omega)] at k2
  exact k2
theorem ev_iaS {a j : Nat} {i : Int32} (hd : decode y.2.1 pc = .ok (.iaload, 1)) (ha : a < 8) (hx : ev_ix i j) (hj : j < (ev_stA a).length) (k : ev_E G y f rc ru n M (pc + 1) L (.int ((ev_stA a).getD j 0) :: st) Post) : ev_E G y f rc ru n M pc L (.int i :: .ref (1 + a) :: st) Post := by
  intro p l e R s m args below meth c H locs cells slots ls Q hC hf hlo hc hs hL hH hS hend
  obtain ⟨cell, h1, h2, h3, h4, h5, h6, h7⟩ := (hH.2.2.1.1 a ha).2
  refine W.eq (g2 := F0 m pc ls (.int i :: .ref (ev_pre G (1 + a)) :: st.map (ev_v G))) (by show F0 m pc ls (.int i :: ev_v G (.ref (1 + a)) :: st.map (ev_v G)) = _; rw [ev_old (by omega)]) ?_
  refine W.iald (v := .int ((ev_stA a).getD j 0)) hC.1 hC.2.1 h1 h2 h3 (fun q => ?_) (by rw [hx.2, h6 _ hj]) rfl rfl hd (k p l e R s m args below meth c H locs cells slots ls Q hC hf hlo hc hs hL hH hS hend)
  rcases q with q | q
  · exact hx.1 q
  · rw [hx.2] at q; omega
theorem ev_alS {a : Nat} {v : Int32} (hd : decode y.2.1 pc = .ok (.arraylength, 1)) (ha : a < 8) (hv : Int32.ofNat (ev_stA a).length = v) (k : ev_E G y f rc ru n M (pc + 1) L (.int v :: st) Post) : ev_E G y f rc ru n M pc L (.ref (1 + a) :: st) Post := by
  intro p l e R s m args below meth c H locs cells slots ls Q hC hf hlo hc hs hL hH hS hend
  subst hv
  obtain ⟨cell, h1, h2, h3, h4, h5, h6, h7⟩ := (hH.2.2.1.1 a ha).2
  refine W.eq (g2 := F0 m pc ls (.ref (ev_pre G (1 + a)) :: st.map (ev_v G))) (by rw [List.map_cons, ev_v, ev_ad, if_pos (by omega)]) ?_
  exact W.alen (n := Int32.ofNat (ev_stA a).length) hC.1 hC.2.1 h1 h2 h5 rfl rfl hd (k p l e R s m args below meth c H locs cells slots ls Q hC hf hlo hc hs hL hH hS hend)
theorem ev_iaX {j : Nat} {i : Int32} (hd : decode y.2.1 pc = .ok (.iaload, 1)) (hx : ev_ix i j) (hj : j < ev_L G) (k : ev_E G y f rc ru n M (pc + 1) L (.int (ev_xs G j) :: st) Post) : ev_E G y f rc ru n M pc L (.int i :: .ref 0 :: st) Post := by
  intro p l e R s m args below meth c H locs cells slots ls Q hC hf hlo hc hs hL hH hS hend
  obtain ⟨cell, h1, h2, h3, h4, h5, h6, h7⟩ := hH.2.2.1.2.1
  refine W.iald (v := .int (ev_xs G j)) (a := ev_pre G 0) hC.1 hC.2.1 h1 h2 h3 (fun q => ?_) (by rw [hx.2, h6 _ hj]) rfl rfl hd (k p l e R s m args below meth c H locs cells slots ls Q hC hf hlo hc hs hL hH hS hend)
  rcases q with q | q
  · exact hx.1 q
  · rw [hx.2] at q; omega
theorem ev_alX (hd : decode y.2.1 pc = .ok (.arraylength, 1)) (k : ev_E G y f rc ru n M (pc + 1) L (.int (Int32.ofNat (ev_L G)) :: st) Post) : ev_E G y f rc ru n M pc L (.ref 0 :: st) Post := by
  intro p l e R s m args below meth c H locs cells slots ls Q hC hf hlo hc hs hL hH hS hend
  obtain ⟨cell, h1, h2, h3, h4, h5, h6, h7⟩ := hH.2.2.1.2.1
  exact W.alen (n := Int32.ofNat (ev_L G)) (a := ev_pre G 0) hC.1 hC.2.1 h1 h2 h5 rfl rfl hd (k p l e R s m args below meth c H locs cells slots ls Q hC hf hlo hc hs hL hH hS hend)
theorem ev_strV {i idx : Nat} (hd : decode y.2.1 pc = .ok (.getfield idx, 3)) (hi : i < 5) (hw : Cond.fieldLink y.1.cls idx "java/lang/String" "value" "[B" ∈ ev_TB) (k : ev_E G y f rc ru n M (pc + 3) L (.ref (14 + i) :: st) Post) : ev_E G y f rc ru n M pc L (.ref (9 + i) :: st) Post := by
  intro p l e R s m args below meth c H locs cells slots ls Q hC hf hlo hc hs hL hH hS hend
  obtain ⟨cf, kk, fi, fd, cell, h1, h2, h3, h4, h5, h6⟩ := (hH.2.2.1.2.2.1.1 i hi).2.2.1
  refine W.eq (g2 := F0 m pc ls (.ref (ev_pre G (9 + i)) :: st.map (ev_v G))) (by rw [List.map_cons, ev_v, ev_ad, if_pos (by omega)]) ?_
  refine W.getf hC.1 hC.2.1 hC.2.2.2.1 (hC.2.2.2.2.1 _ hw) h1 h2 h3 h4 h5 rfl rfl hd ?_
  have k2 := k p l e R s m args below meth c H locs cells slots ls Q hC hf hlo hc hs hL hH hS hend
  rw [List.map_cons, ev_v, ev_ad, if_pos (by omega)] at k2
  exact k2
theorem ev_strC {i idx : Nat} (hd : decode y.2.1 pc = .ok (.getfield idx, 3)) (hi : i < 5) (hw : Cond.fieldLink y.1.cls idx "java/lang/String" "coder" "B" ∈ ev_TB) (k : ev_E G y f rc ru n M (pc + 3) L (.int 0 :: st) Post) : ev_E G y f rc ru n M pc L (.ref (9 + i) :: st) Post := by
  intro p l e R s m args below meth c H locs cells slots ls Q hC hf hlo hc hs hL hH hS hend
  obtain ⟨cf, kk, fi, fd, cell, h1, h2, h3, h4, h5, h6⟩ := (hH.2.2.1.2.2.1.1 i hi).2.1
  refine W.eq (g2 := F0 m pc ls (.ref (ev_pre G (9 + i)) :: st.map (ev_v G))) (by rw [List.map_cons, ev_v, ev_ad, if_pos (by omega)]) ?_
  exact W.getf hC.1 hC.2.1 hC.2.2.2.1 (hC.2.2.2.2.1 _ hw) h1 h2 h3 h4 h5 rfl rfl hd (k p l e R s m args below meth c H locs cells slots ls Q hC hf hlo hc hs hL hH hS hend)
theorem ev_balS {a j : Nat} {i : Int32} (hd : decode y.2.1 pc = .ok (.baload, 1)) (ha : a < 5) (hx : ev_ix i j) (hj : j < ev_sl.getD a 0) (k : ev_E G y f rc ru n M (pc + 1) L (.int ((ev_sb.getD a []).getD j 0) :: st) Post) : ev_E G y f rc ru n M pc L (.int i :: .ref (14 + a) :: st) Post := by
  intro p l e R s m args below meth c H locs cells slots ls Q hC hf hlo hc hs hL hH hS hend
  obtain ⟨cell, h1, h2, h3, h4, h5, h6, h7⟩ := (hH.2.2.1.2.2.1.1 a ha).2.2.2
  refine W.eq (g2 := F0 m pc ls (.int i :: .ref (ev_pre G (14 + a)) :: st.map (ev_v G))) (by show F0 m pc ls (.int i :: ev_v G (.ref (14 + a)) :: st.map (ev_v G)) = _; rw [ev_old (by omega)]) ?_
  refine W.bald (v := .int ((ev_sb.getD a []).getD j 0)) hC.1 hC.2.1 h1 h2 h3 (fun q => ?_) (by rw [hx.2, h6 _ hj]) rfl rfl hd (k p l e R s m args below meth c H locs cells slots ls Q hC hf hlo hc hs hL hH hS hend)
  rcases q with q | q
  · exact hx.1 q
  · rw [hx.2] at q; omega
theorem ev_blS {a : Nat} {v : Int32} (hd : decode y.2.1 pc = .ok (.arraylength, 1)) (ha : a < 5) (hv : Int32.ofNat (ev_sl.getD a 0) = v) (k : ev_E G y f rc ru n M (pc + 1) L (.int v :: st) Post) : ev_E G y f rc ru n M pc L (.ref (14 + a) :: st) Post := by
  intro p l e R s m args below meth c H locs cells slots ls Q hC hf hlo hc hs hL hH hS hend
  subst hv
  obtain ⟨cell, h1, h2, h3, h4, h5, h6, h7⟩ := (hH.2.2.1.2.2.1.1 a ha).2.2.2
  refine W.eq (g2 := F0 m pc ls (.ref (ev_pre G (14 + a)) :: st.map (ev_v G))) (by rw [List.map_cons, ev_v, ev_ad, if_pos (by omega)]) ?_
  exact W.alen (n := Int32.ofNat (ev_sl.getD a 0)) hC.1 hC.2.1 h1 h2 h5 rfl rfl hd (k p l e R s m args below meth c H locs cells slots ls Q hC hf hlo hc hs hL hH hS hend)
theorem ev_getCS {idx : Nat} (hd : decode y.2.1 pc = .ok (.getstatic idx, 3)) (hw : Cond.fieldLink y.1.cls idx "java/lang/String" "COMPACT_STRINGS" "Z" ∈ ev_TB) (k : ev_E G y f rc ru n M (pc + 3) L (.int 1 :: st) Post) : ev_E G y f rc ru n M pc L st Post := by
  intro p l e R s m args below meth c H locs cells slots ls Q hC hf hlo hc hs hL hH hS hend
  obtain ⟨cf, kf, fi, fd, a, cell, h1, h2, h3, h4, h5, h6, h7, h8⟩ := hH.2.2.1.2.2.2.1
  exact W.gets hC.1 hC.2.1 hC.2.2.2.1 (hC.2.2.2.2.1 _ hw) h1 h2 h3 h4 h5 (fun e => by rw [e] at h6; cases h6) h7 rfl hd (k p l e R s m args below meth c H locs cells slots ls Q hC hf hlo hc hs hL hH hS hend)
theorem ev_getSio {idx : Nat} (hd : decode y.2.1 pc = .ok (.getstatic idx, 3)) (hw : Cond.fieldLink y.1.cls idx "jdk/internal/util/Preconditions" "SIOOBE_FORMATTER" "Ljava/util/function/BiFunction;" ∈ ev_TB) (k : ev_E G y f rc ru n M (pc + 3) L (ev_sio G :: st) Post) : ev_E G y f rc ru n M pc L st Post := by
  intro p l e R s m args below meth c H locs cells slots ls Q hC hf hlo hc hs hL hH hS hend
  obtain ⟨cf, kf, fi, fd, a, cell, h1, h2, h3, h4, h5, h6, h7, h8⟩ := hH.2.2.1.2.2.2.2
  exact W.gets hC.1 hC.2.1 hC.2.2.2.1 (hC.2.2.2.2.1 _ hw) h1 h2 h3 h4 h5 (fun e => by rw [e] at h6; cases h6) h7 rfl hd (k p l e R s m args below meth c H locs cells slots ls Q hC hf hlo hc hs hL hH hS hend)
end EVR
