/-! ===== own layer: a small machine over addresses that are numbers; 'ev_E' is a walk of one method, 'ev_Cal' a contract ===== -/
def ev_TB : List Cond := lw_tbl.filter goodWord
theorem ev_in {w : Cond} (h : w ∈ lw_tbl) (g : goodWord w = true) : w ∈ ev_TB := List.mem_filter.mpr ⟨h, g⟩
abbrev ev_MI : Type := MethodName × ByteArray × Nat × Option FieldType
def ev_code (y : ev_MI) : Cond := Cond.code y.1 y.2.1 y.2.2.1 y.2.2.2
def ev_ws (y : ev_MI) : List Cond := Cond.code y.1 y.2.1 y.2.2.1 y.2.2.2 :: ev_TB
theorem ev_good {yc : ev_MI} (h : Cond.code yc.1 yc.2.1 yc.2.2.1 yc.2.2.2 ∈ ev_TB) : GoodIn ev_TB (ev_ws yc) := by
  intro w hw
  have h1 : w ∈ ev_TB := by
    rcases List.mem_cons.mp hw with rfl | hw
    · exact h
    · exact hw
  exact ⟨h1, good_of_word (List.mem_filter.mp h1).2⟩
/-- what a whole run fixes: where our cells begin, where the older ones lie, the array classes' numbers, the classes' numbers and slots, the script, a static of the JDK's that is only carried -/
abbrev ev_G : Type := (Nat × (Nat → Nat)) × (Nat → ClassId) × va_G × (Nat × (Nat → Int32)) × Value
def ev_base (G : ev_G) : Nat := G.1.1
def ev_pre (G : ev_G) : Nat → Nat := G.1.2
def ev_cA (G : ev_G) : Nat → ClassId := G.2.1
def ev_D (G : ev_G) : va_G := G.2.2.1
def ev_L (G : ev_G) : Nat := G.2.2.2.1.1
def ev_xs (G : ev_G) : Nat → Int32 := G.2.2.2.1.2
def ev_sio (G : ev_G) : Value := G.2.2.2.2
def ev_ad (G : ev_G) (k : Nat) : Nat := if k < 21 then ev_pre G k else ev_base G + (k - 21)
def ev_v (G : ev_G) : Value → Value
  | .ref k => .ref (ev_ad G k)
  | v => v
abbrev ev_MC : Type := (Nat × vp_A) ⊕ (Nat × List Value)
abbrev ev_M : Type := Nat → ev_MC
def ev_junk : ev_MC := .inr (99, [])
def ev_a (G : ev_G) (a : vp_A) : vp_A := match a with
  | (n, .inr (.inr (.inr (.inr f)))) => (n, .inr (.inr (.inr (.inr (fun j => (f j).map (ev_ad G))))))
  | a => a
def ev_cell (G : ev_G) : ev_MC → va_E
  | .inl (t, a) => .inl (ev_cA G t, ev_a G a)
  | .inr (ci, fs) => .inr (ci, fs.map (ev_v G))
def ev_set (M : ev_M) (a : Nat) (c : ev_MC) : ev_M := fun k => if k = a then c else M k
theorem ev_set_eq {M : ev_M} {a : Nat} {c : ev_MC} : ev_set M a c a = c := if_pos rfl
theorem ev_set_ne {M : ev_M} {a b : Nat} {c : ev_MC} (h : b ≠ a) : ev_set M a c b = M b := if_neg h
theorem ev_set_set {M : ev_M} {a : Nat} {c d : ev_MC} : ev_set (ev_set M a c) a d = ev_set M a d := by
  funext k; simp only [ev_set]; split <;> rfl
theorem ev_set_self {M : ev_M} {a : Nat} {c : ev_MC} (h : M a = c) : ev_set M a c = M := by
  funext k; simp only [ev_set]; split
  · rename_i q; rw [q, h]
  · rfl
theorem ev_set_comm {M : ev_M} {a b : Nat} {c d : ev_MC} (h : a ≠ b) : ev_set (ev_set M a c) b d = ev_set (ev_set M b d) a c := by
  funext k; simp only [ev_set]
  by_cases h1 : k = b
  · subst h1; rw [if_pos rfl, if_neg (Ne.symm h), if_pos rfl]
  · rw [if_neg h1, if_neg h1]
def ev_wl (G : ev_G) (n : Nat) (M : ev_M) : va_W := (List.range n).map fun k => (ev_base G + k, ev_cell G (M (21 + k)))
def ev_A (G : ev_G) : Nat → Prop := fun q => ev_base G ≤ q
theorem ev_wl_at {G : ev_G} {n : Nat} {M : ev_M} {a : Nat} (h1 : 21 ≤ a) (h2 : a < 21 + n) : (ev_wl G n M)[a - 21]? = some (ev_ad G a, ev_cell G (M a)) := by
  have h3 : a - 21 < n := by omega
  simp only [ev_wl, List.getElem?_map, List.getElem?_range h3, Option.map_some, ev_ad]
  rw [if_neg (by omega), show 21 + (a - 21) = a by omega]
theorem ev_wl_inv {G : ev_G} {n : Nat} {M : ev_M} {k : Nat} {q : Nat × va_E} (h : (ev_wl G n M)[k]? = some q) : k < n ∧ q = (ev_base G + k, ev_cell G (M (21 + k))) := by
  have hk : k < n := by
    have := (List.getElem?_eq_some_iff.mp h).1
    simpa [ev_wl] using this
  simp only [ev_wl, List.getElem?_map, List.getElem?_range hk, Option.map_some] at h
  exact ⟨hk, (Option.some.inj h).symm⟩
theorem ev_wl_set {G : ev_G} {n : Nat} {M : ev_M} {a : Nat} {c : ev_MC} (h1 : 21 ≤ a) (h2 : a < 21 + n) : (ev_wl G n M).set (a - 21) (ev_ad G a, ev_cell G c) = ev_wl G n (ev_set M a c) := by
  apply List.ext_getElem?
  intro k
  by_cases hk : k = a - 21
  · subst hk
    rw [List.getElem?_set_self (by simp [ev_wl]; omega), ev_wl_at h1 h2, ev_set_eq]
  · rw [List.getElem?_set_ne (Ne.symm hk)]
    by_cases hn : k < n
    · simp only [ev_wl, List.getElem?_map, List.getElem?_range hn, Option.map_some]
      rw [ev_set_ne (by omega)]
    · simp [ev_wl, Nat.not_lt.mp hn]
theorem ev_wl_push {G : ev_G} {n : Nat} {M : ev_M} {c : ev_MC} : ev_wl G n M ++ [(ev_base G + n, ev_cell G c)] = ev_wl G (n + 1) (ev_set M (21 + n) c) := by
  simp only [ev_wl, List.range_succ, List.map_append, List.map_cons, List.map_nil, ev_set_eq]
  congr 1
  apply List.map_congr_left
  intro k hk
  have := List.mem_range.mp hk
  rw [ev_set_ne (by omega)]
theorem ev_wl_D {G : ev_G} {n : Nat} {M : ev_M} : va_D (ev_A G) (ev_wl G n M) := by
  refine ⟨fun i j p q hi hj h => ?_, fun k q hk => ?_⟩
  · obtain ⟨-, rfl⟩ := ev_wl_inv hi
    obtain ⟨-, rfl⟩ := ev_wl_inv hj
    have h : ev_base G + i = ev_base G + j := h
    omega
  · obtain ⟨-, rfl⟩ := ev_wl_inv hk
    exact Nat.le_add_right _ _
def ev_tys (G : ev_G) : List (ClassId × FieldType) := [(ev_cA G 0, .int), (ev_cA G 1, .boolean), (ev_cA G 2, .object RX9), (ev_cA G 3, .object RX1), (ev_cA G 4, .object RX0)]
/-- the older cells: 0 the script, 1 .. 8 the static arrays, 9 .. 13 the texts, 14 .. 18 their bytes, 19 what is only carried -/
def ev_stA (i : Nat) : List Int32 := [[0, 0, 0, -9], [20, 60, 30, 9], [80, 200, 20, 20, 0, 0], [130, 600, 99, 99, 200, 9], [20, 0], [70, 9], [0, 0], [30, 20]].getD i []
def ev_stN (i : Nat) : String × String := [(RX10, "LEASTS"), (RX10, "MOSTS"), (RX7, "STICK_LEASTS"), (RX7, "STICK_MOSTS"), (RX7, "BOW_LEASTS"), (RX7, "BOW_MOSTS"), (RX7, "ARCHER_LEASTS"), (RX7, "ARCHER_MOSTS")].getD i (RX7, "")
def ev_sx : List (Nat × String) := [(40, "stick"), (52, "bow"), (60, "archer"), (124, "left"), (126, "right")]
def ev_sl : List Nat := [5, 3, 6, 4, 5]
def ev_sb : List (List Int32) := [[115, 116, 105, 99, 107], [98, 111, 119], [97, 114, 99, 104, 101, 114], [108, 101, 102, 116], [114, 105, 103, 104, 116]]
def ev_nest : List Cond := lw_tbl.filter (fun w => match w with | .methodLinkNest .. => true | _ => false)
def ev_stLS (i : Nat) : Cond := .laysStatic (ev_stN i).1 (ev_stN i).2 "[I"
/-- of the tables -/
def ev_F (G : ev_G) (U : State) : Prop := va_K (ev_D G) vwCl (ev_tys G) U ∧ (∀ w ∈ ev_nest, va_Nw w U) ∧ (va_AO RX9 U ∧ va_AO RX1 U ∧ va_AO RX0 U) ∧ ∀ (i : Nat) (q : Nat × String), ev_sx[i]? = some q → vk_R RX7 q.1 q.2 (ev_pre G (9 + i)) U
/-- of the older cells -/
def ev_P (G : ev_G) (U : State) (H : Heap) : Prop :=
  (∀ i : Nat, i < 8 → va_Z (ev_stN i).1 (ev_stN i).2 "[I" (.ref (ev_pre G (1 + i))) (ev_A G) U H ∧ va_T .int (ev_pre G (1 + i)) (ev_stA i).length (fun j => .int ((ev_stA i).getD j 0)) (ev_A G) U H) ∧
  va_T .int (ev_pre G 0) (ev_L G) (fun j => .int (ev_xs G j)) (ev_A G) U H ∧ vk_S 5 ev_sl ev_sb (fun i => ev_pre G (9 + i)) (fun i => ev_pre G (14 + i)) (ev_A G) U H ∧
  va_Z "java/lang/String" "COMPACT_STRINGS" "Z" (.int 1) (ev_A G) U H ∧ va_Z "jdk/internal/util/Preconditions" "SIOOBE_FORMATTER" "Ljava/util/function/BiFunction;" (ev_v G (ev_sio G)) (ev_A G) U H
/-- the heap holds the small machine's memory -/
def ev_H (G : ev_G) (U : State) (n : Nat) (M : ev_M) (H : Heap) : Prop :=
  va_P (ev_D G) vwCl (ev_wl G n M) H ∧ H.size = ev_base G + n ∧ ev_P G U H ∧ ∀ k : Nat, ¬ (21 ≤ k ∧ k < 21 + n) → M k = ev_junk
theorem ev_F.warm {G : ev_G} {s U : State} (hW : s.WarmedH U.vm) (h : ev_F G s) : ev_F G U := by
  obtain ⟨h1, h2, h3, h4⟩ := h
  refine ⟨va_K.moved hW.alike h1, fun w hw => ?_, ⟨va_AO.moved hW.alike h3.1, va_AO.moved hW.alike h3.2.1, va_AO.moved hW.alike h3.2.2⟩, fun i q hq => vk_R.warm hW (h4 i q hq)⟩
  have h5 := h2 w hw
  have h6 := (List.mem_filter.mp hw).2
  cases w <;> first | exact va_Nw.warmM hW h5 | (exact absurd (show false = true from h6) (by decide))
theorem ev_F.calling {G : ev_G} {U : State} {g : JFrame} {mk : MethodId} {a : Array Value} (h : ev_F G U) : ev_F G (U.calling g mk a) := by
  obtain ⟨h1, h2, h3, h4⟩ := h
  refine ⟨va_K.moved (u := U) (Vm.Alike.refl U.vm) h1, fun w hw => ?_, ⟨va_AO.moved (u := U) (Vm.Alike.refl U.vm) h3.1, va_AO.moved (u := U) (Vm.Alike.refl U.vm) h3.2.1, va_AO.moved (u := U) (Vm.Alike.refl U.vm) h3.2.2⟩, fun i q hq => vk_R.same (u := U) rfl (h4 i q hq)⟩
  have h5 := h2 w hw
  have h6 := (List.mem_filter.mp hw).2
  cases w <;> first | exact va_Nw.same rfl (u := U) rfl h5 | (exact absurd (show false = true from h6) (by decide))
theorem ev_P.moved {G : ev_G} {u U : State} {H : Heap} (hvm : u.vm.Alike U.vm) (h : ev_P G u H) : ev_P G U H := by
  obtain ⟨h1, h2, h3, h4, h5⟩ := h
  exact ⟨fun i hi => ⟨(h1 i hi).1.moved hvm, (h1 i hi).2.moved hvm⟩, h2.moved hvm, h3.moved hvm, h4.moved hvm, h5.moved hvm⟩
theorem ev_P.kept {G : ev_G} {U : State} {H H1 : Heap} (h : ev_P G U H) (hq : ∀ a : Nat, a < H.size → ¬ ev_A G a → H1[a]? = H[a]?) : ev_P G U H1 := by
  obtain ⟨h1, h2, h3, h4, h5⟩ := h
  exact ⟨fun i hi => ⟨(h1 i hi).1.kept hq, (h1 i hi).2.kept hq⟩, h2.kept hq, h3.kept hq, h4.kept hq, h5.kept hq⟩
theorem ev_H.moved {G : ev_G} {u U : State} {n : Nat} {M : ev_M} {H : Heap} (hvm : u.vm.Alike U.vm) (h : ev_H G u n M H) : ev_H G U n M H := ⟨h.1, h.2.1, h.2.2.1.moved hvm, h.2.2.2⟩
/-- where a cell that is no junk lies -/
theorem ev_H.rng {G : ev_G} {U : State} {n : Nat} {M : ev_M} {H : Heap} (h : ev_H G U n M H) {a : Nat} (hj : M a ≠ ev_junk) : 21 ≤ a ∧ a < 21 + n := by
  by_cases q : 21 ≤ a ∧ a < 21 + n
  · exact q
  · exact absurd (h.2.2.2 a q) hj
theorem ev_nj_l {x : Nat × vp_A} : (.inl x : ev_MC) ≠ ev_junk := fun h => by cases h
theorem ev_nj_r {ci : Nat} {fs : List Value} {r : vw_C} (h : vwCl[ci]? = some r) : (.inr (ci, fs) : ev_MC) ≠ ev_junk := by
  intro q
  have h1 : ci = 99 := congrArg (fun z : ev_MC => match z with | .inr w => w.1 | .inl w => w.1) q
  subst h1
  cases h
theorem ev_ad_own {G : ev_G} {a : Nat} (h : 21 ≤ a) : ev_A G (ev_ad G a) := by
  show ev_base G ≤ ev_ad G a
  rw [ev_ad, if_neg (by omega)]; exact Nat.le_add_right _ _
/-- the locals -/
def ev_R (G : ev_G) (ls : Array Slot) (nL : Nat) (L : List (Option Value)) : Prop := ls.size = nL ∧ lv_wf ls ∧ ∀ (i : Nat) (v : Value), L[i]? = some (some v) → ls[i]? = some (.val (ev_v G v))
def ev_pr (G : ev_G) (L : List (Option Value)) : List (Nat × Value) := (List.range L.length).filterMap fun i => (L[i]?.join).map fun v => (i, ev_v G v)
theorem ev_pr_mem {G : ev_G} {L : List (Option Value)} {i : Nat} {v : Value} (h : L[i]? = some (some v)) : (i, ev_v G v) ∈ ev_pr G L :=
  List.mem_filterMap.mpr ⟨i, List.mem_range.mpr (List.getElem?_eq_some_iff.mp h).1, by rw [h]; rfl⟩
theorem ev_R.has {G : ev_G} {ls : Array Slot} {nL : Nat} {L : List (Option Value)} (h : ev_R G ls nL L) : lv_has ls nL (ev_pr G L) := by
  refine ⟨h.1, h.2.1, fun q hq => ?_⟩
  obtain ⟨i, -, hi⟩ := List.mem_filterMap.mp hq
  cases hv : L[i]? with
  | none => rw [hv] at hi; cases hi
  | some o =>
    cases o with
    | none => rw [hv] at hi; cases hi
    | some v =>
      rw [hv] at hi
      cases hi
      exact h.2.2 i v hv
theorem ev_v_cat {G : ev_G} (v : Value) : (ev_v G v).category = v.category := by cases v <;> rfl
/-- behind a store of one word: what stood a place ahead, if it was a long, is gone -/
def ev_st1 (L : List (Option Value)) (i : Nat) (v : Value) : List (Option Value) := L.set i (some v)
/-- no long stands just ahead of place i -/
def ev_ok1 (L : List (Option Value)) (i : Nat) : Bool := match i with
  | 0 => true
  | j + 1 => match L[j]? with
    | some (some w) => w.category != 2
    | _ => true
theorem ev_ok1_at {L : List (Option Value)} {i j : Nat} {w : Value} (h : ev_ok1 L i = true) (hj : j + 1 = i) (hw : L[j]? = some (some w)) : ¬ w.category = 2 := by
  subst hj
  simp only [ev_ok1, hw, bne_iff_ne, ne_eq] at h
  exact h
theorem ev_R.st1 {G : ev_G} {ls : Array Slot} {nL : Nat} {L : List (Option Value)} {i : Nat} {v : Value} {l : List (Nat × Value)} (hL : ev_R G ls nL L) (hk : ev_ok1 L i = true)
    (hl : (i, ev_v G v) :: (ev_pr G L).filter (fun q => !(q.1 == i) && !(q.1 + 1 == i && q.2.category == 2)) = l) {ls' : Array Slot} (h : lv_has ls' nL l) : ev_R G ls' nL (L.set i (some v)) := by
  subst hl
  refine ⟨h.1, h.2.1, fun j w hj => ?_⟩
  by_cases hji : j = i
  · subst hji
    have hlt : j < L.length := by
      have := (List.getElem?_eq_some_iff.mp hj).1
      simpa using this
    rw [List.getElem?_set_self hlt] at hj
    cases hj
    exact h.2.2 _ List.mem_cons_self
  · rw [List.getElem?_set_ne (Ne.symm hji)] at hj
    refine h.2.2 (j, ev_v G w) (List.mem_cons_of_mem _ (List.mem_filter.mpr ⟨ev_pr_mem hj, ?_⟩))
    simp only [Bool.and_eq_true, Bool.not_eq_true', beq_eq_false_iff_ne, ne_eq, Bool.and_eq_false_iff, ev_v_cat]
    refine ⟨hji, ?_⟩
    by_cases z : j + 1 = i
    · exact Or.inr (ev_ok1_at hk z hj)
    · exact Or.inl z
theorem ev_R.st2 {G : ev_G} {ls : Array Slot} {nL : Nat} {L : List (Option Value)} {i : Nat} {v : Value} {l : List (Nat × Value)} (hL : ev_R G ls nL L) (hk : ev_ok1 L i = true)
    (hl : (i, ev_v G v) :: (ev_pr G L).filter (fun q => !(q.1 == i) && (!(q.1 == i + 1) && !(q.1 + 1 == i && q.2.category == 2))) = l) {ls' : Array Slot} (h : lv_has ls' nL l) : ev_R G ls' nL ((L.set i (some v)).set (i + 1) none) := by
  subst hl
  refine ⟨h.1, h.2.1, fun j w hj => ?_⟩
  by_cases hj1 : j = i + 1
  · subst hj1
    by_cases hlt : i + 1 < (L.set i (some v)).length
    · rw [List.getElem?_set_self hlt] at hj
      cases hj
    · have := (List.getElem?_eq_some_iff.mp hj).1
      rw [List.length_set] at this
      exact absurd this hlt
  · rw [List.getElem?_set_ne (Ne.symm hj1)] at hj
    by_cases hji : j = i
    · subst hji
      have hlt : j < L.length := by
        have := (List.getElem?_eq_some_iff.mp hj).1
        simpa using this
      rw [List.getElem?_set_self hlt] at hj
      cases hj
      exact h.2.2 _ List.mem_cons_self
    · rw [List.getElem?_set_ne (Ne.symm hji)] at hj
      refine h.2.2 (j, ev_v G w) (List.mem_cons_of_mem _ (List.mem_filter.mpr ⟨ev_pr_mem hj, ?_⟩))
      simp only [Bool.and_eq_true, Bool.not_eq_true', beq_eq_false_iff_ne, ne_eq, Bool.and_eq_false_iff, ev_v_cat]
      refine ⟨hji, hj1, ?_⟩
      by_cases z : j + 1 = i
      · exact Or.inr (ev_ok1_at hk z hj)
      · exact Or.inl z
/-- what stands at a method's entry -/
def ev_C (G : ev_G) (y : ev_MI) (p : Program) (s : State) (m : MethodId) (args : Array Value) (meth : Method) (c : Code) : Prop :=
  p.tables.exec = Jvm.exec ∧ c.code = y.2.1 ∧ c.maxLocals = y.2.2.1 ∧ s.vm.findClass y.1.cls = some m.cls ∧ (∀ w ∈ ev_TB, w.before args s = true) ∧ ev_F G s ∧ meth.sig.returnType = y.2.2.2 ∧ meth.locks = false ∧ (y.1.name = "<init>" → meth.name = "<init>")
/-- an answer of the method's type, and the instruction that gives it -/
def ev_ok (y : ev_MI) (pc : Nat) (r : Option Value) : Prop := match r with
  | none => y.2.2.2 = none ∧ decode y.2.1 pc = .ok (.return_, 1)
  | some (.int v) => (∃ ty, y.2.2.2 = some ty ∧ narrow ty (.int v) = .int v) ∧ decode y.2.1 pc = .ok (.ireturn, 1)
  | some (.long _) => y.2.2.2 = some .long ∧ decode y.2.1 pc = .ok (.lreturn, 1)
  | some .null => (∃ n, y.2.2.2 = some (.object n)) ∧ decode y.2.1 pc = .ok (.areturn, 1)
  | some (.ref _) => (∃ n, y.2.2.2 = some (.object n)) ∧ decode y.2.1 pc = .ok (.areturn, 1)
  | _ => False
/-- from here the method comes to its end, makes rc cells of ru slots, and answers as Post says -/
def ev_E (G : ev_G) (y : ev_MI) (f rc ru n : Nat) (M : ev_M) (pc : Nat) (L : List (Option Value)) (st : List Value) (Post : Option Value → ev_M → Prop) : Prop :=
  ∀ (p : Program) (l : Launch) (e : Env) (R : Room) (s : State) (m : MethodId) (args : Array Value) (below : List Frame) (meth : Method) (c : Code) (H : Heap) (locs : List Loc) (cells slots : Nat) (ls : Array Slot) (Q : State → Prop),
    ev_C G y p s m args meth c → f ≤ R.frames → 36 * f ≤ R.locals → cells + rc ≤ R.cells → slots + ru ≤ R.slots → ev_R G ls y.2.2.1 L → ev_H G s n M H → va_S (ev_A G) s.heap H locs →
    (∀ (pc' : Nat) (ls' : Array Slot) (r : Option Value) (M' : ev_M) (H' : Heap) (locs' : List Loc), ev_ok y pc' r → ev_H G s (n + rc) M' H' → va_S (ev_A G) s.heap H' locs' → Post r M' →
      W p l e R s m args below meth c H' locs' (cells + rc) (slots + ru) Q (F0 m pc' ls' (r.toList.map (ev_v G)))) →
    W p l e R s m args below meth c H locs cells slots Q (F0 m pc ls (st.map (ev_v G)))
/-- a contract: with these arguments, from this memory -/
def ev_Cal (G : ev_G) (y : ev_MI) (f rc ru : Nat) (as : List Value) (n : Nat) (M : ev_M) (Post : Option Value → ev_M → Prop) : Prop :=
  ∀ l : Launch, Met l y.1 (ev_ws y) { frames := f, cells := rc, slots := ru, locals := 36 * f } (va_Pc (as.map (ev_v G)) (fun U => ev_F G U ∧ ev_H G U n M U.heap))
    (fun _ st o t => ∃ (r : Option Value) (M' : ev_M), o = .returned (r.map (ev_v G)) ∧ ev_H G t (n + rc) M' t.heap ∧ Post r M' ∧ va_F (ev_A G) st t) rc ru (ev_A G)
/-- the locals at the entry -/
def ev_e0 : List Value → List (Option Value)
  | [] => []
  | v :: vs => if v.category = 2 then some v :: none :: ev_e0 vs else some v :: ev_e0 vs
def ev_e (as : List Value) (nL : Nat) : List (Option Value) := ev_e0 as ++ List.replicate (nL - (ev_e0 as).length) none
theorem ev_e0_mem {G : ev_G} : ∀ (as : List Value) (k i : Nat) (v : Value), (ev_e0 as)[i]? = some (some v) → (k + i, ev_v G v) ∈ lv_args k (as.map (ev_v G))
  | [], k, i, v, h => by simp [ev_e0] at h
  | a :: as, k, i, v, h => by
    rw [ev_e0] at h
    rw [List.map_cons, lv_args, ev_v_cat]
    by_cases hc : a.category = 2
    · rw [if_pos hc] at h
      rw [if_pos hc]
      match i, h with
      | 0, h => cases h; exact List.mem_cons_self
      | 1, h => cases h
      | i + 2, h =>
        have := ev_e0_mem (G := G) as (k + 2) i v h
        rw [show k + (i + 2) = k + 2 + i by omega]
        exact List.mem_cons_of_mem _ this
    · rw [if_neg hc] at h
      rw [if_neg hc]
      match i, h with
      | 0, h => cases h; exact List.mem_cons_self
      | i + 1, h =>
        have := ev_e0_mem (G := G) as (k + 1) i v h
        rw [show k + (i + 1) = k + 1 + i by omega]
        exact List.mem_cons_of_mem _ this
theorem ev_e_at {as : List Value} {nL i : Nat} {v : Value} (h : (ev_e as nL)[i]? = some (some v)) : (ev_e0 as)[i]? = some (some v) := by
  by_cases hi : i < (ev_e0 as).length
  · rwa [ev_e, List.getElem?_append_left hi] at h
  · rw [ev_e, List.getElem?_append_right (by omega), List.getElem?_replicate] at h
    split at h <;> cases h
theorem ev_e0_len {G : ev_G} : ∀ as : List Value, (ev_e0 as).length = (lg_sl (as.map (ev_v G))).length
  | [] => rfl
  | a :: as => by
    have ih := ev_e0_len (G := G) as
    simp only [lg_sl, List.map_cons, List.flatMap_cons, List.length_append, ev_v_cat] at ih ⊢
    rw [ev_e0]
    by_cases hc : a.category = 2
    · rw [if_pos hc, if_pos hc]; simp only [List.length_cons, List.length_nil]; omega
    · rw [if_neg hc, if_neg hc]; simp only [List.length_cons, List.length_nil]; omega
theorem ev_Cal_of {G : ev_G} {y : ev_MI} {f rc ru n : Nat} {as : List Value} {M : ev_M} {Post : Option Value → ev_M → Prop} {L : List (Option Value)} (hy : plainName y.1.cls = true) (hl : (ev_e0 as).length ≤ y.2.2.1) (hL : ev_e as y.2.2.1 = L)
    (h : ev_E G y f rc ru n M 0 L [] Post) : ev_Cal G y f rc ru as n M Post := by
  intro l
  subst hL
  refine Met.ofW (cc := y.2.1) (maxL := y.2.2.1) (ret := y.2.2.2) (ws' := ev_TB) hy rfl ?_
  intro p e s m args below meth c s₁ B hml hv
  obtain ⟨rfl, hF, hH⟩ := hv
  have hts0 := atoms_spec (ws := ev_ws y) B.pre
  have hts : ∀ w ∈ ev_TB, w.before ((as.map (ev_v G)).toArray) s = true := fun w hw => hts0 w (List.mem_cons_of_mem _ hw)
  have hown : s.vm.findClass y.1.cls = some m.cls := findClass_of_methodNamed B.named
  have hlocks := B.notSynchronized
  have hnm : meth.name = y.1.name := (name_of_methodNamed B.named B.method).1
  have hC : ev_C G y p s m ((as.map (ev_v G)).toArray) meth c := ⟨B.exec, B.bytes, hml, hown, hts, hF, B.returns, hlocks, fun q => hnm.trans q⟩
  have hl0 := lv_entry (as.map (ev_v G)) (n := y.2.2.1) (by rw [← ev_e0_len]; exact hl)
  rw [lg_entry_eq]
  have hR : ev_R G ((lg_sl (as.map (ev_v G)) ++ List.replicate (y.2.2.1 - (lg_sl (as.map (ev_v G))).length) Slot.unset).toArray) y.2.2.1 (ev_e as y.2.2.1) :=
    ⟨hl0.1, hl0.2.1, fun i v hi => by
      have := ev_e0_mem (G := G) as 0 i v (ev_e_at hi)
      rw [Nat.zero_add] at this
      exact hl0.2.2 _ this⟩
  have K := h p l e (headSpec (ev_ws y) { frames := f, cells := rc, slots := ru, locals := 36 * f }).room s m ((as.map (ev_v G)).toArray) below meth c s.heap [] 0 0 _
    (MQ below (fun _ st o t => ∃ (r : Option Value) (M' : ev_M), o = .returned (r.map (ev_v G)) ∧ ev_H G t (n + rc) M' t.heap ∧ Post r M' ∧ va_F (ev_A G) st t) ((as.map (ev_v G)).toArray) s rc ru (ev_A G))
    hC (Nat.le_refl _) (Nat.le_refl _) (by rw [Nat.zero_add]; exact Nat.le_refl _) (by rw [Nat.zero_add]; exact Nat.le_refl _) hR hH va_S.rf ?_
  · exact K
  · intro pc' ls' r M' H' locs' hok hH' hS' hP
    rw [Nat.zero_add, Nat.zero_add]
    have fin : ∀ t : State, t.heap = H' → s.WarmedH t.vm → ∃ (r2 : Option Value) (M2 : ev_M), Outcome.returned (r.map (ev_v G)) = .returned (r2.map (ev_v G)) ∧ ev_H G t (n + rc) M2 t.heap ∧ Post r2 M2 ∧ va_F (ev_A G) s t :=
      fun t ht hW => ⟨r, M', rfl, by rw [ht]; exact hH'.moved hW.alike, hP, hS'.F ht⟩
    match r, hok, fin with
    | none, hok, fin => exact W.vret hC.1 hC.2.1 (hC.2.2.2.2.2.2.1.trans hok.1) fin hS'.2.2 hok.2 hlocks
    | some (.int v), hok, fin =>
      obtain ⟨⟨ty, h1, h2⟩, h3⟩ := hok
      exact W.zret hC.1 hC.2.1 (hC.2.2.2.2.2.2.1.trans h1) h2 fin hS'.2.2 h3 hlocks
    | some (.long v), hok, fin => exact W.lret hC.1 hC.2.1 (hC.2.2.2.2.2.2.1.trans hok.1) fin hS'.2.2 hok.2 hlocks
    | some .null, hok, fin =>
      obtain ⟨⟨nn, h1⟩, h3⟩ := hok
      exact W.aret hC.1 hC.2.1 (hC.2.2.2.2.2.2.1.trans h1) (Or.inl ⟨nn, rfl⟩) (Or.inl rfl) fin hS'.2.2 h3 hlocks
    | some (.ref v), hok, fin =>
      obtain ⟨⟨nn, h1⟩, h3⟩ := hok
      exact W.aret hC.1 hC.2.1 (hC.2.2.2.2.2.2.1.trans h1) (Or.inl ⟨nn, rfl⟩) (Or.inr ⟨_, rfl⟩) fin hS'.2.2 h3 hlocks
