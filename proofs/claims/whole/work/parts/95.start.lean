/-! THE CLAIM OUT OF ONE WALK OF THE LAW'S BODY. Your part is whole_start (and what it stands on); all else here is the same for every law, but numbers. -/
def R_law : String := "AlikeArrowsLaw"
def lw_P (b : Addr) (xs : List Int32) (args : Array Value) (s : State) : Prop := args = #[.ref b] ∧ s.IntsAt b xs ∧ xs.length ≤ 3072 ∧ (Jvm.Cond.and given_1 narrow_1).before args s = true
def lw_Q (_ : Array Value) (s : State) (o : Outcome) (t : State) : Prop := o = .returned (some (.int 1)) ∧ Framed s o t [] 600000 7302250
def lw_Z (below : List Frame) (a : Array Value) (s : State) : State → Prop := fun t => ∃ o, t.status = .running ∧ Ended t below o ∧ lw_Q a s o t
/-- the law's own end, with 1 on the stack, nothing written that was there before, its room as the claim has it -/
theorem lw_ret {p : Program} {l : Launch} {e : Env} {s : State} {m : MethodId} {below : List Frame} {meth : Method} {c : Code} {b : Nat} (hx : p.tables.exec = Jvm.exec) (hb : c.code = code) (hr : meth.sig.returnType = ret) (hlocks : meth.locks = false) {pc : Nat} {H : Heap} {ls : Array Slot} (hdg : decode code pc = .ok (.ireturn, 1)) : W p l e room_1 s m #[Value.ref b] below meth c H [] 600000 7302250 (lw_Z below #[Value.ref b] s) (F0 m pc ls [.int 1]) := by
  intro T hT X
  obtain ⟨fs, hret, hrun, hended, hW, hframe⟩ := X.leave (v := some (.int 1)) (hlocks := hlocks) (fun h => by rw [hr] at h; cases h)
  have hmeth' : T.vm.method? m = some meth := X.method'
  refine ⟨T.setFrames fs, ?_, .returned (some (.int 1)), hrun, hended, rfl, ⟨_, rfl⟩, hW, hframe⟩
  jvm_step X.here [X.here.top, hx, hb, hdg, hmeth', hr, ret, narrow_b1]
  (try refine ⟨rfl, ?_⟩); (try refine ⟨rfl, ?_⟩)
  first | (intro acts; rw [hret _ acts rfl rfl rfl]) | rw [hret _ _ rfl rfl rfl]
  exact Steps.refl _
/-- what holds at the law's entry: the machine, the code, the tables' words (any of lw_tbl by 'hts w (by decide +kernel)'), the script of L ints xs at the cell b, what the Statement gives of the start (any of its parts by flat_of_before) -/
def lw_At (p : Program) (s : State) (m : MethodId) (meth : Method) (c : Code) (b L : Nat) (xs : Nat → Int32) : Prop :=
  p.tables.exec = Jvm.exec ∧ c.code = code ∧ meth.sig.returnType = ret ∧ c.maxLocals = 4 ∧ s.vm.findClass R_law = some m.cls ∧ (∀ w ∈ lw_tbl, w.before #[Value.ref b] s = true) ∧ va_X b L xs s s.heap ∧ b < s.heap.size ∧ meth.locks = false ∧ (Jvm.Cond.and given_1 narrow_1).before #[Value.ref b] s = true
/-- the classes -/
theorem ws_cls {s : State} {args : Array Value} (hts : ∀ w ∈ lw_tbl, w.before args s = true) : ∃ D : va_G, ∀ (k : Nat) (q : vw_C), vwCl[k]? = some q → u_Kn s q.1 q.2.1 q.2.2 (D.1 k) (D.2 k) := by
  have hq : ∀ w ∈ ev_TB, w.before args s = true := fun w hw => hts w (List.mem_filter.mp hw).1
  have h : ∀ k : Nat, ∃ x : ClassId × (Nat → Nat), ∀ q : vw_C, vwCl[k]? = some q → u_Kn s q.1 q.2.1 q.2.2 x.1 x.2 := by
    intro k
    by_cases hk : k < 13
    · rcases k with _ | _ | _ | _ | _ | _ | _ | _ | _ | _ | _ | _ | _ | k
      · obtain ⟨c, i, h⟩ := u_known (C := RX0) (T := TX0) (N := 2) (n := 2) hq in_X0 (hts _ ((by decide +kernel : Cond.instantiable RX0 2 ∈ lw_tbl)))
        exact ⟨(c, i), fun q e => by cases e; exact h⟩
      · obtain ⟨c, i, h⟩ := u_known (C := RX1) (T := TX1) (N := 2) (n := 2) hq in_X1 (hts _ ((by decide +kernel : Cond.instantiable RX1 2 ∈ lw_tbl)))
        exact ⟨(c, i), fun q e => by cases e; exact h⟩
      · obtain ⟨c, i, h⟩ := u_known (C := RX2) (T := TX2) (N := 6) (n := 6) hq in_X2 (hts _ ((by decide +kernel : Cond.instantiable RX2 6 ∈ lw_tbl)))
        exact ⟨(c, i), fun q e => by cases e; exact h⟩
      · obtain ⟨c, i, h⟩ := u_known (C := RX3) (T := TX3) (N := 6) (n := 6) hq in_X3 (hts _ ((by decide +kernel : Cond.instantiable RX3 6 ∈ lw_tbl)))
        exact ⟨(c, i), fun q e => by cases e; exact h⟩
      · obtain ⟨c, i, h⟩ := u_known (C := RX4) (T := TX4) (N := 4) (n := 4) hq in_X4 (hts _ ((by decide +kernel : Cond.instantiable RX4 4 ∈ lw_tbl)))
        exact ⟨(c, i), fun q e => by cases e; exact h⟩
      · obtain ⟨c, i, h⟩ := u_known (C := RX5) (T := TX5) (N := 1) (n := 1) hq in_X5 (hts _ ((by decide +kernel : Cond.instantiable RX5 1 ∈ lw_tbl)))
        exact ⟨(c, i), fun q e => by cases e; exact h⟩
      · obtain ⟨c, i, h⟩ := u_known (C := RX6) (T := TX6) (N := 5) (n := 5) hq in_X6 (hts _ ((by decide +kernel : Cond.instantiable RX6 5 ∈ lw_tbl)))
        exact ⟨(c, i), fun q e => by cases e; exact h⟩
      · obtain ⟨c, i, h⟩ := u_known (C := RX7) (T := TX7) (N := 4) (n := 4) hq in_X7 (hts _ ((by decide +kernel : Cond.instantiable RX7 4 ∈ lw_tbl)))
        exact ⟨(c, i), fun q e => by cases e; exact h⟩
      · obtain ⟨c, i, h⟩ := u_known (C := RX8) (T := TX8) (N := 10) (n := 10) hq in_X8 (hts _ ((by decide +kernel : Cond.instantiable RX8 10 ∈ lw_tbl)))
        exact ⟨(c, i), fun q e => by cases e; exact h⟩
      · obtain ⟨c, i, h⟩ := u_known (C := RX9) (T := TX9) (N := 7) (n := 7) hq in_X9 (hts _ ((by decide +kernel : Cond.instantiable RX9 7 ∈ lw_tbl)))
        exact ⟨(c, i), fun q e => by cases e; exact h⟩
      · obtain ⟨c, i, h⟩ := u_known (C := RX10) (T := TX10) (N := 1) (n := 1) hq in_X10 (hts _ ((by decide +kernel : Cond.instantiable RX10 1 ∈ lw_tbl)))
        exact ⟨(c, i), fun q e => by cases e; exact h⟩
      · obtain ⟨c, i, h⟩ := u_known (C := RX11) (T := TX11) (N := 11) (n := 11) hq in_X11 (hts _ ((by decide +kernel : Cond.instantiable RX11 11 ∈ lw_tbl)))
        exact ⟨(c, i), fun q e => by cases e; exact h⟩
      · obtain ⟨c, i, h⟩ := u_known (C := RX12) (T := TX12) (N := 36) (n := 36) hq in_X12 (hts _ ((by decide +kernel : Cond.instantiable RX12 36 ∈ lw_tbl)))
        exact ⟨(c, i), fun q e => by cases e; exact h⟩
      · omega
    · exact ⟨(0, fun _ => 0), fun q e => absurd (List.getElem?_eq_some_iff.mp e).1 hk⟩
  obtain ⟨f, hf⟩ := Classical.axiomOfChoice h
  exact ⟨(fun k => (f k).1, fun k => (f k).2), fun k q e => hf k q e⟩
theorem ws_prim {s : State} {args : Array Value} {ty : FieldType} (h : (Cond.arrayClass ty).before args s = true) (hR : ∀ U c, va_RA U c ty = (U.vm.findClass ("[" ++ ty.toString) = some c)) (ho : ∀ C, ty ≠ .object C) : ∃ c : ClassId, ArrOfT s c ty ∧ va_RA s c ty := by
  obtain ⟨c, kA, comp, h1, h2, h3⟩ := Cond.arrayClass_spec h
  exact ⟨c, fun n z => ⟨fun k h => absurd h (by first | exact ho _ | (cases h)), kA, h2, comp, h3⟩, by rw [hR]; exact h1⟩
theorem ws_obj {s : State} {args : Array Value} {C : String} (h : (Cond.arrayOver (.object C)).before args s = true) : ∃ c : ClassId, ArrOfT s c (.object C) ∧ va_RA s c (.object C) := by
  obtain ⟨comp, c, k, h1, h2, h3, h4, h5⟩ := Cond.arrayOver_spec h
  exact ⟨c, fun N z => ⟨(fun k h => by cases h), k, h3, comp, h4⟩, k, comp, h3, h4, h1, h5⟩
def ws_T (i : Nat) : Term := .static (ev_stN i).1 (ev_stN i).2 "[I"
theorem ws_in0 : ∀ i, i < 8 → Cond.arrayOf (ws_T i) .int ∈ flatC (Jvm.Cond.and given_1 narrow_1) ∧ Cond.eq (.length (ws_T i)) (.int (Int32.ofNat (ev_stA i).length)) ∈ flatC (Jvm.Cond.and given_1 narrow_1) ∧ ∀ j, j < (ev_stA i).length → Cond.eq (.elem (ws_T i) (.int (Int32.ofNat j))) (.int ((ev_stA i).getD j 0)) ∈ flatC (Jvm.Cond.and given_1 narrow_1) := by decide +kernel
theorem ws_in1 : ∀ i, i < 8 → ev_stLS i ∈ lw_tbl ∧ Cond.initialized (ev_stN i).1 ∈ lw_tbl ∧ (ev_stA i).length < 100 := by decide +kernel
theorem ws_st {s : State} {args : Array Value} {A : Nat → Prop} (hts : ∀ w ∈ lw_tbl, w.before args s = true) (hg : (Jvm.Cond.and given_1 narrow_1).before args s = true) (hA : ∀ a : Nat, a < s.heap.size → ¬ A a) (i : Nat) : ∃ t : Nat, i < 8 → va_Z (ev_stN i).1 (ev_stN i).2 "[I" (.ref t) A s s.heap ∧ va_T .int t (ev_stA i).length (fun j => .int ((ev_stA i).getD j 0)) A s s.heap := by
  by_cases hi : i < 8
  · have hq := flat_of_before _ hg
    obtain ⟨h1, h2, h3⟩ := ws_in0 i hi
    obtain ⟨g1, g2, g3⟩ := ws_in1 i hi
    obtain ⟨t, ht, hT⟩ := va_Tof (f := fun j => .int ((ev_stA i).getD j 0)) (A := A) (by omega) (hq _ h1) (va_eqt (hq _ h2)) (fun j hj => va_eqt (hq _ (h3 j hj))) hA
    exact ⟨t, fun _ => ⟨va_Zref (hts _ g1) (hts _ g2) ht hA, hT⟩⟩
  · exact ⟨0, fun h => absurd h hi⟩
def ws_S (i : Nat) : Term := .string RX7 (ev_sx.getD i (0, "")).1
abbrev ws_V (i : Nat) : Term := .field (ws_S i) "java/lang/String" "value" "[B"
theorem ws_in2 : ∀ i, i < 5 → Cond.exactly (ws_S i) "java/lang/String" ∈ flatC (Jvm.Cond.and given_1 narrow_1) ∧ Cond.eq (.field (ws_S i) "java/lang/String" "coder" "B") (.int 0) ∈ flatC (Jvm.Cond.and given_1 narrow_1) ∧ Cond.arrayOf (ws_V i) .byte ∈ flatC (Jvm.Cond.and given_1 narrow_1) ∧ Cond.eq (.length (ws_V i)) (.int (Int32.ofNat (ev_sl.getD i 0))) ∈ flatC (Jvm.Cond.and given_1 narrow_1) := by decide +kernel
theorem ws_in3 : ∀ i, i < 5 → ∀ j, j < ev_sl.getD i 0 → Cond.eq (.elem (ws_V i) (.int (Int32.ofNat j))) (.int ((ev_sb.getD i []).getD j 0)) ∈ flatC (Jvm.Cond.and given_1 narrow_1) := by decide +kernel
theorem ws_in4 : ∀ i, i < 5 → ∀ j, j < 5 → i ≠ j → Cond.not (Cond.eq (ws_S i) (ws_S j)) ∈ flatC (Jvm.Cond.and given_1 narrow_1) ∨ Cond.not (Cond.eq (ws_S j) (ws_S i)) ∈ flatC (Jvm.Cond.and given_1 narrow_1) := by decide +kernel
theorem ws_in5 : ∀ i, i < 5 → Cond.stringRef RX7 (ev_sx.getD i (0, "")).1 (ev_sx.getD i (0, "")).2 ∈ lw_tbl ∧ ev_sl.getD i 0 < 100 := by decide +kernel
theorem ws_str {s : State} {args : Array Value} {A : Nat → Prop} (hg : (Jvm.Cond.and given_1 narrow_1).before args s = true) (hA : ∀ a : Nat, a < s.heap.size → ¬ A a) : ∃ adK adV : Nat → Nat, vk_S 5 ev_sl ev_sb adK adV A s s.heap ∧ ∀ i : Nat, i < 5 → (ws_S i).eval args s none [] s = some (.ref (adK i)) := by
  have hq := flat_of_before _ hg
  exact vk_Sof (fun i hi => by have := (ws_in5 i hi).2; omega) (fun i hi => hq _ (ws_in2 i hi).1) (fun i hi => hq _ (ws_in2 i hi).2.1) (fun i hi => hq _ (ws_in2 i hi).2.2.1) (fun i hi => hq _ (ws_in2 i hi).2.2.2) (fun i hi j hj => hq _ (ws_in3 i hi j hj)) (fun i j hi hj hne => (ws_in4 i hi j hj hne).imp (hq _) (hq _)) hA
/-- what a run fixes, out of what holds at the law's entry -/
theorem ws_G {s : State} {b L : Nat} {xs : Nat → Int32} (hts : ∀ w ∈ lw_tbl, w.before #[Value.ref b] s = true) (hX : va_X b L xs s s.heap) (hbl : b < s.heap.size) (hg : (Jvm.Cond.and given_1 narrow_1).before #[Value.ref b] s = true) :
    ∃ G : ev_G, ev_L G = L ∧ ev_pre G 0 = b ∧ ev_base G = s.heap.size ∧ ev_hs G ∧ ev_F G s ∧ ev_H G s 0 (fun _ => ev_junk) s.heap := by
  have hq := flat_of_before _ hg
  obtain ⟨D, hD⟩ := ws_cls hts
  have hA : ∀ a : Nat, a < s.heap.size → ¬ (fun q => s.heap.size ≤ q) a := fun a h => Nat.not_le.mpr h
  obtain ⟨ts, hst⟩ := Classical.axiomOfChoice (ws_st (A := fun q => s.heap.size ≤ q) hts hg hA)
  obtain ⟨adK, adV, hS, hev⟩ := ws_str (A := fun q => s.heap.size ≤ q) hg hA
  obtain ⟨cI, aI, rI⟩ := ws_prim (ty := .int) (hts (.arrayClass .int) (by decide +kernel)) (fun _ _ => rfl) (fun _ h => by cases h)
  obtain ⟨cZ, aZ, rZ⟩ := ws_prim (ty := .boolean) (hts (.arrayClass .boolean) (by decide +kernel)) (fun _ _ => rfl) (fun _ h => by cases h)
  have o9 : (Cond.arrayOver (.object RX9)).before #[Value.ref b] s = true := hts _ (by decide +kernel)
  have o1 : (Cond.arrayOver (.object RX1)).before #[Value.ref b] s = true := hts _ (by decide +kernel)
  have o0 : (Cond.arrayOver (.object RX0)).before #[Value.ref b] s = true := hts _ (by decide +kernel)
  obtain ⟨c9, a9, r9⟩ := ws_obj o9
  obtain ⟨c1, a1, r1⟩ := ws_obj o1
  obtain ⟨c0, a0, r0⟩ := ws_obj o0
  have hcs : va_Z "java/lang/String" "COMPACT_STRINGS" "Z" (.int 1) (fun q => s.heap.size ≤ q) s s.heap := va_Zof (hts _ (by decide +kernel)) (hts _ (by decide +kernel)) (va_eqt (hq _ (by decide +kernel))) hA
  have hsio : va_Zq "jdk/internal/util/Preconditions" "SIOOBE_FORMATTER" "Ljava/util/function/BiFunction;" (fun q => s.heap.size ≤ q) s s.heap := va_Zqof (hts _ (by decide +kernel)) (hts _ (by decide +kernel)) (hq _ (by decide +kernel)) hA
  obtain ⟨v, t, hv, hvt, hvz⟩ : ∃ (v : Value) (t : Nat), (v = .ref 19 ∨ v = .null) ∧ (v = .ref 19 → t = t) ∧ va_Z "jdk/internal/util/Preconditions" "SIOOBE_FORMATTER" "Ljava/util/function/BiFunction;" (if v = .null then .null else .ref t) (fun q => s.heap.size ≤ q) s s.heap := by
    rcases hsio with h | ⟨t, h⟩
    · exact ⟨.null, 0, Or.inr rfl, fun _ => rfl, by rw [if_pos rfl]; exact h⟩
    · exact ⟨.ref 19, t, Or.inl rfl, fun _ => rfl, by rw [if_neg (by decide)]; exact h⟩
  let pre : Nat → Nat := fun k => if k = 0 then b else if k < 9 then ts (k - 1) else if k < 14 then adK (k - 9) else if k < 19 then adV (k - 14) else t
  let cA : Nat → ClassId := fun k => if k = 0 then cI else if k = 1 then cZ else if k = 2 then c9 else if k = 3 then c1 else c0
  let G : ev_G := ((s.heap.size, pre), cA, D, (L, xs), v)
  have p1 : ∀ i, i < 8 → pre (1 + i) = ts i := fun i hi => by
    show (if 1 + i = 0 then b else if 1 + i < 9 then ts (1 + i - 1) else _) = _
    rw [if_neg (by omega), if_pos (by omega), Nat.add_sub_cancel_left]
  have p9 : ∀ i, i < 5 → pre (9 + i) = adK i := fun i hi => by
    show (if 9 + i = 0 then b else if 9 + i < 9 then ts (9 + i - 1) else if 9 + i < 14 then adK (9 + i - 9) else _) = _
    rw [if_neg (by omega), if_neg (by omega), if_pos (by omega), Nat.add_sub_cancel_left]
  have p14 : ∀ i, i < 5 → pre (14 + i) = adV i := fun i hi => by
    show (if 14 + i = 0 then b else if 14 + i < 9 then ts (14 + i - 1) else if 14 + i < 14 then adK (14 + i - 9) else if 14 + i < 19 then adV (14 + i - 14) else _) = _
    rw [if_neg (by omega), if_neg (by omega), if_neg (by omega), if_pos (by omega), Nat.add_sub_cancel_left]
  refine ⟨G, rfl, rfl, rfl, hv, ⟨⟨hD, fun k q h => ?_⟩, fun w hw => ?_, ⟨va_AO.of o9, va_AO.of o1, va_AO.of o0⟩, fun i q hi => ?_⟩, ⟨fun k q h => ?_, rfl, ⟨fun i hi => ?_, ?_, ?_, hcs, ?_⟩, fun _ _ => rfl⟩⟩
  · rcases k with _ | _ | _ | _ | _ | k
    · cases h; exact ⟨aI, rI⟩
    · cases h; exact ⟨aZ, rZ⟩
    · cases h; exact ⟨a9, r9⟩
    · cases h; exact ⟨a1, r1⟩
    · cases h; exact ⟨a0, r0⟩
    · exact absurd (List.getElem?_eq_some_iff.mp h).1 (by show ¬ _ < 5; omega)
  · have h1 := List.mem_filter.mp hw
    have h2 : w.onTables = true := by
      have h3 := h1.2
      cases w <;> first | rfl | (exact absurd (show false = true from h3) (by decide))
    exact va_Nw.of h2 (hts w h1.1)
  · have hi5 : i < 5 := (List.getElem?_eq_some_iff.mp hi).1
    have e : ev_sx.getD i (0, "") = q := by rw [List.getD_eq_getElem?_getD, hi]; rfl
    have h1 := (ws_in5 i hi5).1
    have h2 := hev i hi5
    rw [ws_S, e] at h2
    rw [e] at h1
    show vk_R RX7 q.1 q.2 (pre (9 + i)) s
    rw [p9 i hi5]
    exact vk_R.of (hts _ h1) h2
  · exact absurd (List.getElem?_eq_some_iff.mp h).1 (Nat.not_lt_zero k)
  · show va_Z _ _ "[I" (.ref (pre (1 + i))) _ s s.heap ∧ va_T .int (pre (1 + i)) _ _ _ s s.heap
    rw [p1 i hi]
    exact hst i hi
  · obtain ⟨scr, h1, h2, h3, h4, h5⟩ := hX
    exact ⟨scr, h1, h2, h3, Nat.le_of_eq h4.symm, by rw [h4]; rfl, h5, hA b hbl⟩
  · show vk_S 5 ev_sl ev_sb (fun i => pre (9 + i)) (fun i => pre (14 + i)) _ s s.heap
    refine ⟨fun i hi => ?_, fun i j hi hj h => hS.2 i j hi hj ?_⟩
    · show va_O _ (pre (9 + i)) _ s s.heap ∧ va_OF _ _ _ _ (pre (9 + i)) _ s s.heap ∧ va_OF _ _ _ (.ref (pre (14 + i))) (pre (9 + i)) _ s s.heap ∧ va_T .byte (pre (14 + i)) _ _ _ s s.heap
      rw [p9 i hi, p14 i hi]
      exact hS.1 i hi
    · have h' : pre (9 + i) = pre (9 + j) := h
      rw [p9 i hi, p9 j hj] at h'
      exact h'
  · show va_Z _ _ _ (ev_v G v) _ s s.heap
    rcases hv with rfl | rfl
    · rw [if_neg (by decide)] at hvz; exact hvz
    · rw [if_pos rfl] at hvz; exact hvz
-- ===== YOUR PART BEGINS =====
set_option maxHeartbeats 4000000 in
theorem whole_start {p : Program} {e : Env} {s : State} {m : MethodId} {below : List Frame} {meth : Method} {c : Code} (l : Launch) (hflags : l.flags = flags0) {b L : Nat} {xs : Nat → Int32} (hL : L ≤ 3072) (C0 : lw_At p s m meth c b L xs) : W p l e room_1 s m #[Value.ref b] below meth c s.heap [] 0 0 (lw_Z below #[Value.ref b] s) (entryFrame m ([Value.ref b] : List Value).toArray 4) := by
  obtain ⟨hx, hb, hr, hml, hown, hts, hX, hbl, hlocks, hgv⟩ := id C0
  obtain ⟨G, e1, e2, e3, hs, hF, hH⟩ := ws_G hts hX hbl hgv
  have hbA : ¬ ev_A G b := by show ¬ ev_base G ≤ b; rw [e3]; exact Nat.not_le.mpr hbl
  have hC : ev_C G mL_law p s m #[Value.ref b] meth c := ⟨hx, hb, hml, hown, fun w hw => hts w (List.mem_filter.mp hw).1, hF, hr, hlocks, fun h => absurd (show ("law" : String) = "<init>" from h) (by decide)⟩
  have hl0 := lv_entry ([.ref b]) (n := 4) (Nat.le_of_ble_eq_true rfl)
  rw [lg_entry_eq]
  generalize (lg_sl ([.ref b]) ++ List.replicate (4 - (lg_sl ([.ref b])).length) Slot.unset).toArray = ls at hl0 ⊢
  have hR : ev_R G ls 4 [some (.ref 0), none, none, none] := ⟨hl0.1, hl0.2.1, fun i v hi => by
    have hv0 : ev_v G (.ref 0) = .ref b := by rw [ev_old (by decide), e2]
    rcases i with _ | _ | _ | _ | i
    · cases hi
      rw [hv0]
      exact hl0.2.2 (0, .ref b) List.mem_cons_self
    · cases hi
    · cases hi
    · cases hi
    · cases hi⟩
  refine xl_law x_type x_clear x_arrows x_stick x_bow x_archer x_tune x_cut x_scrape x_load x_turn x_least x_flight x_band x_says x_alike x_turned x_wreck x_feather x_warm x_shoot x_shot x_wipe x_parted x_spread x_out x_lot x_rate x_keep x_back x_count x_trace hs (by rw [e1]; omega) p l e room_1 s m #[Value.ref b] below meth c s.heap [] 0 0 ls _ hC (by decide) (by decide) (by decide) (by decide) hR hH va_S.rf ?_
  intro pc' ls' r M' H' locs' hok hH' hS' hP
  subst hP
  refine W.widen (k := 600000) (n := 7302250) (by omega) (by omega) ?_
  exact va_forget (fun q hq => by have h1 : ev_base G ≤ q.base := hS'.2.2 q hq; rw [e3] at h1; exact h1) (lw_ret hx hb hr hlocks hok.2)
-- ===== YOUR PART ENDS =====
set_option maxHeartbeats 4000000 in
theorem lw_walk (l : Launch) (hflags : l.flags = flags0) (b : Addr) (xs : List Int32) : MetFree l x (headSpec (Jvm.Cond.code x code maxLocals ret :: tables_1) room_1) (lw_P b xs) (fun _ _ _ _ _ => True) lw_Q := by
  refine MetFree.of_bodyS (code := code) (maxLocals := maxLocals) (ret := ret) (by decide) ?_ ?_
  · intro args s m h hn
    obtain ⟨meth, c, h1, h2, h3, h4, h5, h6, -, -⟩ := Cond.code_spec hn (atoms_spec (ws := Jvm.Cond.code x code maxLocals ret :: tables_1) h _ List.mem_cons_self)
    exact ⟨meth, c, h1, h2, h3, h4, h5, h6⟩
  · intro p e s m args below meth c s₁ B hml0 hP _
    obtain ⟨rfl, hx, hbd, hgv⟩ := hP
    obtain ⟨scr, harrAt, hlist, hof, hsmall⟩ := hx
    obtain ⟨hcb, hkn, -, -⟩ := State.arrayAt?_spec harrAt
    have hown : s.vm.findClass R_law = some m.cls := findClass_of_methodNamed B.named
    have hts0 : ∀ c ∈ (Jvm.Cond.code x code maxLocals ret :: tables_1), c.before #[Value.ref b] s = true := atoms_spec (ws := Jvm.Cond.code x code maxLocals ret :: tables_1) B.pre
    have hts : ∀ w ∈ lw_tbl, w.before #[Value.ref b] s = true := k2_hts_sels lw_privs (fun w hw => hts0 w (List.mem_cons_of_mem _ hw)) lw_privs_ok
    have hml : c.maxLocals = 4 := B.maxLocals_eq (hts0 _ List.mem_cons_self)
    have X₀ : Stand p l e room_1 s m #[Value.ref b] below meth c s₁ [] 0 0 := Stand.of_body B
    have hh0 : s₁.heap = s.heap := by rw [B.state]; rfl
    have hsz : scr.slots.size = xs.length := by rw [← Array.length_toList, hlist, List.length_map]
    have hval : ∀ j : Nat, j < xs.length → scr.slots[j]? = some (.int (xs.getD j 0)) := fun j hj => by
      rw [← Array.getElem?_toList, hlist]
      simp [hj]
    have hbl : b < s.heap.size := (Array.getElem?_eq_some_iff.mp hcb).1
    have hX : va_X b xs.length (fun j => xs.getD j 0) s s.heap := ⟨scr, hcb, hof, hkn, hsz, hval⟩
    have K : W p l e room_1 s m #[Value.ref b] below meth c s₁.heap [] 0 0 (lw_Z below #[Value.ref b] s) (entryFrame m ([Value.ref b] : List Value).toArray 4) := by
      rw [hh0]
      exact whole_start l hflags hbd ⟨B.exec, B.bytes, B.returns, hml, hown, hts, hX, hbl, B.notSynchronized, hgv⟩
    obtain ⟨t, a1, o, b1, b2, b3⟩ := K s₁ rfl X₀
    exact ⟨t, o, a1, b1, b2, b3⟩
theorem lw_pre_spec {args : Array Value} {s : State} (h : (Jvm.Cond.and given_1 narrow_1).before args s = true) (hr : rest_1_c.before args s = true) : ∃ (b : Addr) (xs : List Int32), lw_P b xs args s := by
  have hs := flat_of_before _ h
  have hq := flat_of_before _ hr
  have hc : (Cond.count 1).before args s = true := hs _ (by decide +kernel)
  have harr : (Cond.arrayOf (.arg 0) .int).before args s = true := hs _ (by decide +kernel)
  have hle : (Cond.le (.length (.arg 0)) (.int 3072)).before args s = true := hs _ (by decide +kernel)
  have hlen : (Cond.isInt (.length (.arg 0))).before args s = true := hq _ (by decide +kernel)
  have hall : (Cond.all (.arg 0) (.isInt (.elem (.arg 0) (.index 0)))).before args s = true := hq _ (by decide +kernel)
  obtain ⟨b, xs, hb, hx⟩ := State.ints_of_pre rfl harr hlen hall
  have hsm : xs.length < 2 ^ 31 := hx.choose_spec.2.2.2
  have hev : (Term.length (.arg 0)).eval args s none [] s = some (.int xs.length.toInt32) := hx.length_eval hb
  have hv := Cond.le_ints hev (show (Term.int 3072).eval args s none [] s = some (.int 3072) from rfl)
  have hd : xs.length.toInt32 ≤ 3072 := by
    simpa [Cond.before, Cond.holds, hv] using hle
  have hN : xs.length ≤ 3072 := (Int32.ofNat_le_ofNat hsm (by decide)).mp (show Int32.ofNat xs.length ≤ Int32.ofNat 3072 from hd)
  exact ⟨b, xs, Cond.one_arg hc (show args[0]? = some (.ref b) from hb), hx, hN, h⟩
theorem lw_comes (l : Launch) (hflags : l.flags = flags0) : Comes l x (Jvm.Cond.code x code maxLocals ret :: tables_1) room_1 (fun tb e args s => Calls_1 tb e args s ∧ rest_1 tb e args s ∧ Pre_1 tb e args s)
    (fun _ _ args s o t => lw_Q args s o t) := by
  intro p e ha hc hk s m args below hf hfit hheap happ hpre
  obtain ⟨b, xs, hP⟩ := lw_pre_spec hpre.2.2 hpre.2.1
  obtain ⟨k, o, h1, h2, h3, hQ⟩ := lw_walk l hflags b xs p e ha hc hk s m args below hf ((Spec.applies_iff_loose hf).mp happ).1 hP trivial
  exact ⟨k, o, h1, h2, h3, hQ⟩
theorem lw_frame {s t : State} {o : Outcome} {args : Array Value} (h : Framed s o t [] 600000 7302250) :
    Framed s o t (fieldLocs frame_1_writes args s ++ arrayLocs frame_1_arrays args s ++ staticLocs frame_1_statics s) 600000 7302250 := h
theorem lw_limb (L : Cond) (hL : ∀ (args : Array Value) (s t : State), L.after args s (.returned (some (.int 1))) t = true) :
    ArmFor flags0 classFile x code maxLocals ret World_1 tables_1 room_1 Calls_1 rest_1 Pre_1
      (fun tb e a s o t => postC L tb e a s o t ∧ Framed s o t (fieldLocs frame_1_writes a s ++ arrayLocs frame_1_arrays a s ++ staticLocs frame_1_statics s) 600000 7302250) := by
  intro l hflags _ _ p e ha hc hk s m args below hf hfit hheap happ hpre
  obtain ⟨k, o, h1, h2, h3, rfl, hF⟩ := lw_comes l hflags p e ha hc hk s m args below hf hfit hheap happ hpre
  exact ⟨k, _, h1, h2, h3, hL args s _, lw_frame hF⟩
theorem i_vc : Claimed_1_1 ∧ Claimed_1_2 := ⟨lw_limb limb_1_1 (fun args s t => by simp [limb_1_1, Cond.after, Cond.holds, Cond.value]), lw_limb limb_1_2 (fun args s t => Cond.after_iff.mpr (by
  first | (rw [show limb_1_2 = Cond.eq .result (.int 1) from rfl, Cond.eq_ints (x := 1) (y := 1) rfl rfl]; simp; done) | (simp [limb_1_2, Cond.value, Term.eval]; done)))⟩

