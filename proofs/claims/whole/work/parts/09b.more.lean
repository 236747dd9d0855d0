/-! ===== own layer: more rows ===== -/
/-- a memory with some cells named -/
def ev_ml (M : ev_M) : List (Nat × ev_MC) → ev_M
  | [] => M
  | q :: l => ev_set (ev_ml M l) q.1 q.2
theorem ev_ml_out {M : ev_M} {b : Nat} : ∀ (l : List (Nat × ev_MC)), b ∉ l.map (fun q => q.1) → ev_ml M l b = M b
  | [], _ => rfl
  | q :: l, h => by
    simp only [List.map_cons, List.mem_cons, not_or] at h
    rw [ev_ml, ev_set_ne h.1]
    exact ev_ml_out l h.2
theorem ev_ml_set {M : ev_M} {a : Nat} {c : ev_MC} : ∀ (l : List (Nat × ev_MC)) (i : Nat) (c0 : ev_MC), l[i]? = some (a, c0) → va_nd (l.map (fun q => q.1)) = true → ev_set (ev_ml M l) a c = ev_ml M (l.set i (a, c))
  | [], i, c0, h, _ => by simp at h
  | q :: l, 0, c0, h, _ => by
    cases h
    simp only [ev_ml, List.set_cons_zero, ev_set_set]
  | q :: l, i + 1, c0, h, hn => by
    rw [List.getElem?_cons_succ] at h
    simp only [List.map_cons, va_nd, Bool.and_eq_true, decide_eq_true_eq] at hn
    have hq : q.1 ≠ a := fun e => hn.1 (by rw [e]; exact List.mem_map.mpr ⟨(a, c0), List.mem_of_getElem? h, rfl⟩)
    rw [ev_ml, List.set_cons_succ, ev_ml, ev_set_comm hq, ev_ml_set l i c0 h hn.2]
theorem ev_ml_self {M : ev_M} : ∀ (l : List (Nat × ev_MC)), (∀ q ∈ l, M q.1 = q.2) → ev_ml M l = M
  | [], _ => rfl
  | q :: l, h => by
    rw [ev_ml, ev_ml_self l (fun x hx => h x (List.mem_cons_of_mem _ hx))]
    exact ev_set_self (h q List.mem_cons_self)
section EVM
variable {G : ev_G} {y : ev_MI} {f rc ru n : Nat} {M : ev_M} {pc : Nat} {L : List (Option Value)} {st : List Value} {Post : Option Value → ev_M → Prop}
theorem ev_track {l : List (Nat × ev_MC)} (h : ∀ q ∈ l, M q.1 = q.2) (k : ev_E G y f rc ru n (ev_ml M l) pc L st Post) : ev_E G y f rc ru n M pc L st Post := by rw [ev_ml_self l h] at k; exact k
theorem ev_putiU {a ci j idx : Nat} {fs : List Value} {x : Int32} (hd : decode y.2.1 pc = .ok (.putfield idx, 3)) (hl : ev_FP y.1.cls idx ci j .int false) (hj : j < fs.length) (k : ev_E G y f rc ru n (ev_set M a (.inr (ci, fs.set j (.int x)))) (pc + 3) L st Post) : ev_E G y f rc ru n (ev_set M a (.inr (ci, fs))) pc L (.int x :: .ref a :: st) Post :=
  ev_puti hd hl ev_set_eq hj (by rw [ev_set_set]; exact k)
theorem ev_putlU {a ci j idx : Nat} {fs : List Value} {x : Int64} (hd : decode y.2.1 pc = .ok (.putfield idx, 3)) (hl : ev_FP y.1.cls idx ci j .long false) (hj : j < fs.length) (k : ev_E G y f rc ru n (ev_set M a (.inr (ci, fs.set j (.long x)))) (pc + 3) L st Post) : ev_E G y f rc ru n (ev_set M a (.inr (ci, fs))) pc L (.long x :: .ref a :: st) Post :=
  ev_putl hd hl ev_set_eq hj (by rw [ev_set_set]; exact k)
theorem ev_iastU {a N j : Nat} {i x : Int32} {g : Nat → Int32} (hd : decode y.2.1 pc = .ok (.iastore, 1)) (hx : ev_ix i j) (hj : j < N) (k : ev_E G y f rc ru n (ev_set M a (.inl (0, N, .inl (upd g j x)))) (pc + 1) L st Post) : ev_E G y f rc ru n (ev_set M a (.inl (0, N, .inl g))) pc L (.int x :: .int i :: .ref a :: st) Post :=
  ev_iast hd ev_set_eq hx hj (by rw [ev_set_set]; exact k)
theorem ev_putiP (i : Nat) {l l' : List (Nat × ev_MC)} {a ci j idx : Nat} {fs : List Value} {x : Int32} (hd : decode y.2.1 pc = .ok (.putfield idx, 3)) (hl : ev_FP y.1.cls idx ci j .int false) (hi : l[i]? = some (a, .inr (ci, fs))) (hn : va_nd (l.map (fun q => q.1)) = true) (hj : j < fs.length) (hM : ev_ml M l a = .inr (ci, fs)) (hl' : l.set i (a, .inr (ci, fs.set j (.int x))) = l') (k : ev_E G y f rc ru n (ev_ml M l') (pc + 3) L st Post) : ev_E G y f rc ru n (ev_ml M l) pc L (.int x :: .ref a :: st) Post :=
  ev_puti hd hl hM hj (by rw [ev_ml_set l i _ hi hn, hl']; exact k)
theorem ev_putlP (i : Nat) {l l' : List (Nat × ev_MC)} {a ci j idx : Nat} {fs : List Value} {x : Int64} (hd : decode y.2.1 pc = .ok (.putfield idx, 3)) (hl : ev_FP y.1.cls idx ci j .long false) (hi : l[i]? = some (a, .inr (ci, fs))) (hn : va_nd (l.map (fun q => q.1)) = true) (hj : j < fs.length) (hM : ev_ml M l a = .inr (ci, fs)) (hl' : l.set i (a, .inr (ci, fs.set j (.long x))) = l') (k : ev_E G y f rc ru n (ev_ml M l') (pc + 3) L st Post) : ev_E G y f rc ru n (ev_ml M l) pc L (.long x :: .ref a :: st) Post :=
  ev_putl hd hl hM hj (by rw [ev_ml_set l i _ hi hn, hl']; exact k)
theorem ev_iastP (i : Nat) {l l' : List (Nat × ev_MC)} {a N j : Nat} {ix x : Int32} {g : Nat → Int32} (hd : decode y.2.1 pc = .ok (.iastore, 1)) (hi : l[i]? = some (a, .inl (0, N, .inl g))) (hn : va_nd (l.map (fun q => q.1)) = true) (hx : ev_ix ix j) (hj : j < N) (hM : ev_ml M l a = .inl (0, N, .inl g)) (hl' : l.set i (a, .inl (0, N, .inl (upd g j x))) = l') (k : ev_E G y f rc ru n (ev_ml M l') (pc + 1) L st Post) : ev_E G y f rc ru n (ev_ml M l) pc L (.int x :: .int ix :: .ref a :: st) Post :=
  ev_iast hd hM hx hj (by rw [ev_ml_set l i _ hi hn, hl']; exact k)
theorem ev_abs2 {idx : Nat} {a : Int32} (hd : decode y.2.1 pc = .ok (.invokestatic idx, 3)) (h1 : Cond.methodLink y.1.cls idx Lib.Math.abs.name ∈ ev_TB ∧ Cond.static Lib.Math.abs.name ∈ ev_TB ∧ Cond.initialized "java/lang/Math" ∈ ev_TB ∧ Cond.code Lib.Math.abs.name Lib.Math.abs.code 1 (some .int) ∈ ev_TB) (hf1 : 1 ≤ f) (hst : (st.map fun v => v.category).sum ≤ 8) (k : ev_E G y f rc ru n M (pc + 3) L (.int (sp_abs a) :: st) Post) : ev_E G y f rc ru n M pc L (.int a :: st) Post := ev_abs hd h1 hf1 hst k
theorem ev_min2 {idx : Nat} {a b : Int32} (hd : decode y.2.1 pc = .ok (.invokestatic idx, 3)) (h1 : Cond.methodLink y.1.cls idx Lib.Math.min.name ∈ ev_TB ∧ Cond.static Lib.Math.min.name ∈ ev_TB ∧ Cond.initialized "java/lang/Math" ∈ ev_TB ∧ Cond.code Lib.Math.min.name Lib.Math.min.code 2 (some .int) ∈ ev_TB) (hf1 : 1 ≤ f) (hst : (st.map fun v => v.category).sum ≤ 8) (k : ev_E G y f rc ru n M (pc + 3) L (.int (sp_min a b) :: st) Post) : ev_E G y f rc ru n M pc L (.int b :: .int a :: st) Post := ev_min hd h1 hf1 hst k
theorem ev_max2 {idx : Nat} {a b : Int32} (hd : decode y.2.1 pc = .ok (.invokestatic idx, 3)) (h1 : Cond.methodLink y.1.cls idx Lib.Math.max.name ∈ ev_TB ∧ Cond.static Lib.Math.max.name ∈ ev_TB ∧ Cond.initialized "java/lang/Math" ∈ ev_TB ∧ Cond.code Lib.Math.max.name Lib.Math.max.code 2 (some .int) ∈ ev_TB) (hf1 : 1 ≤ f) (hst : (st.map fun v => v.category).sum ≤ 8) (k : ev_E G y f rc ru n M (pc + 3) L (.int (sp_max a b) :: st) Post) : ev_E G y f rc ru n M pc L (.int b :: .int a :: st) Post := ev_max hd h1 hf1 hst k
end EVM
