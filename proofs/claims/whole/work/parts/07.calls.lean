/-! ===== own layer: calls ===== -/
/-- the receiver, if there is one: an object of that class -/
def ev_rc (C : Option String) (s : State) (H : Heap) (As : List Value) : Prop := match C with
  | none => True
  | some C => ∃ (b : Addr) (As' : List Value) (cell : Cell), As = .ref b :: As' ∧ H[b]? = some cell ∧ cell.vm.isStatics = false ∧ s.vm.findClass C = some cell.cls
/-- at this place of this method, a call of that one -/
def ev_K (y : ev_MI) (pc : Nat) (yc : ev_MI) (C : Option String) (na : Nat) : Prop :=
  ∀ (G : ev_G) (p : Program) (l : Launch) (e : Env) (R : Room) (s : State) (m : MethodId) (args : Array Value) (below : List Frame) (meth : Method) (c : Code) (H : Heap) (locs : List Loc) (cells slots : Nat) (ls : Array Slot) (rest As : List Value) (rm : Room) (Pc : Array Value → State → Prop) (Qc : Array Value → State → Outcome → State → Prop) (mc ms : Nat) (free : Addr → Prop),
    ev_C G y p s m args meth c → ls.size = y.2.2.1 → Met l yc.1 (ev_ws yc) rm Pc Qc mc ms free → FrameBlind Pc → ev_rc C s H As → (∀ U : State, U.heap = H → s.WarmedH U.vm → Pc As.toArray U) → rm.cells = mc → rm.slots = ms → rm.frames + 1 ≤ R.frames → 8 + (yc.2.2.1 + 11) + rm.locals ≤ R.locals → cells + mc ≤ R.cells → slots + ms ≤ R.slots → As.length = na → (rest.map fun v => v.category).sum ≤ 8 →
    va_Run p l e R s m args below meth c H locs cells slots mc ms (F0 m pc ls (As.reverse ++ rest)) rest (Qc As.toArray) free
theorem ev_kV {y yc : ev_MI} {pc idx k : Nat} {C : String} (hd : decode y.2.1 pc = .ok (.invokevirtual idx, 3)) (h : Cond.methodLink y.1.cls idx yc.1 ∈ ev_TB ∧ Cond.instanceMethod yc.1 ∈ ev_TB ∧ Cond.selects C yc.1 yc.1 ∈ ev_TB ∧ Cond.initialized C ∈ ev_TB ∧ ev_code yc ∈ ev_TB) (hy : yc.1.cls = C ∧ yc.1.cls ≠ "java/lang/invoke/MethodHandle" ∧ yc.1.cls ≠ "java/lang/invoke/VarHandle" ∧ (parseMethodDescriptor yc.1.desc).map (fun d => d.parameters.length) = some k) : ev_K y pc yc (some C) (k + 1) := by
  intro G p l e R s m args below meth c H locs cells slots ls rest As rm Pc Qc mc ms free hC hls hM hbl hr hP hrc hrs hfr hlo hce hsl hna hst
  obtain ⟨b, As', cell, rfl, g1, g2, g3⟩ := hr
  have hts := hC.2.2.2.2.1
  have hb := callB_of (R := R) (Ts := ev_TB) (ws := ev_ws yc) (ws' := ev_TB) (bytes := yc.2.1) (maxL := yc.2.2.1) (ret := yc.2.2.2) k hts (ev_good h.2.2.2.2) rfl hrc hrs (by rw [hy.1]; exact hts _ h.2.2.2.1) (hts _ h.1) hy.2 ⟨hfr, hlo⟩
  have hlen : As'.length = k := by simpa using hna
  rw [List.reverse_cons, List.append_assoc]
  exact va_runV (C := C) (Ts := ev_TB) ⟨hC.1, hC.2.1, hC.2.2.1, hC.2.2.2.1, hts⟩ hM ⟨hb, hts _ h.2.1, hts _ h.2.2.1⟩ ⟨hbl, ⟨cell, g1, g2, g3⟩, hP⟩ rfl hlen hls rfl (lv_room hst) hd ⟨hce, hsl⟩
theorem ev_kS {y yc : ev_MI} {pc idx k : Nat} (hd : decode y.2.1 pc = .ok (.invokestatic idx, 3)) (h : Cond.methodLink y.1.cls idx yc.1 ∈ ev_TB ∧ Cond.static yc.1 ∈ ev_TB ∧ Cond.initialized yc.1.cls ∈ ev_TB ∧ ev_code yc ∈ ev_TB) (hy : yc.1.cls ≠ "java/lang/invoke/MethodHandle" ∧ yc.1.cls ≠ "java/lang/invoke/VarHandle" ∧ (parseMethodDescriptor yc.1.desc).map (fun d => d.parameters.length) = some k) : ev_K y pc yc none k := by
  intro G p l e R s m args below meth c H locs cells slots ls rest As rm Pc Qc mc ms free hC hls hM hbl hr hP hrc hrs hfr hlo hce hsl hna hst
  have hts := hC.2.2.2.2.1
  have hb := callB_of (R := R) (Ts := ev_TB) (ws := ev_ws yc) (ws' := ev_TB) (bytes := yc.2.1) (maxL := yc.2.2.1) (ret := yc.2.2.2) k hts (ev_good h.2.2.2) rfl hrc hrs (hts _ h.2.2.1) (hts _ h.1) hy ⟨hfr, hlo⟩
  exact va_runS (Ts := ev_TB) ⟨hC.1, hC.2.1, hC.2.2.1, hC.2.2.2.1, hts⟩ hM ⟨hb, hts _ h.2.1⟩ ⟨hbl, hP⟩ rfl hna hls rfl (lv_room hst) hd ⟨hce, hsl⟩
theorem ev_kI {y yc : ev_MI} {pc idx k : Nat} {C : String} (hd : decode y.2.1 pc = .ok (.invokespecial idx, 3)) (hret : yc.2.2.2 = none) (h : Cond.methodLink y.1.cls idx yc.1 ∈ ev_TB ∧ Cond.instanceMethod yc.1 ∈ ev_TB ∧ Cond.initialized yc.1.cls ∈ ev_TB ∧ ev_code yc ∈ ev_TB) (hy1 : yc.1.name = "<init>") (hy : yc.1.cls ≠ "java/lang/invoke/MethodHandle" ∧ yc.1.cls ≠ "java/lang/invoke/VarHandle" ∧ (parseMethodDescriptor yc.1.desc).map (fun d => d.parameters.length) = some k) : ev_K y pc yc (some C) (k + 1) := by
  intro G p l e R s m args below meth c H locs cells slots ls rest As rm Pc Qc mc ms free hC hls hM hbl hr hP hrc hrs hfr hlo hce hsl hna hst
  obtain ⟨b, As', cell, rfl, g1, g2, g3⟩ := hr
  have hts := hC.2.2.2.2.1
  have hG := ev_good h.2.2.2
  have hw : ev_ws yc = Cond.code yc.1 yc.2.1 yc.2.2.1 none :: ev_TB := by rw [ev_ws, hret]
  have hb := callB_of (R := R) (Ts := ev_TB) (ws := ev_ws yc) (ws' := ev_TB) (bytes := yc.2.1) (maxL := yc.2.2.1) (ret := none) k hts hG hw hrc hrs (hts _ h.2.2.1) (hts _ h.1) hy ⟨hfr, hlo⟩
  have hlen : As'.length = k := by simpa using hna
  rw [List.reverse_cons, List.append_assoc]
  exact va_runI (Ts := ev_TB) ⟨hC.1, hC.2.1, hC.2.2.1, hC.2.2.2.1, hts⟩ hM ⟨hb, hy1, hts _ h.2.1⟩ ⟨hbl, hP⟩ rfl hlen hls rfl (lv_room hst) hd ⟨hce, hsl⟩
theorem ev_kSN {y yc : ev_MI} {pc idx k : Nat} {host : String} (hd : decode y.2.1 pc = .ok (.invokestatic idx, 3)) (hn : Cond.methodLinkNest y.1.cls idx yc.1 host ∈ ev_nest) (h : Cond.static yc.1 ∈ ev_TB ∧ Cond.initialized yc.1.cls ∈ ev_TB ∧ ev_code yc ∈ ev_TB) (hy : yc.1.cls ≠ "java/lang/invoke/MethodHandle" ∧ yc.1.cls ≠ "java/lang/invoke/VarHandle" ∧ (parseMethodDescriptor yc.1.desc).map (fun d => d.parameters.length) = some k) : ev_K y pc yc none k := by
  intro G p l e R s m args below meth c H locs cells slots ls rest As rm Pc Qc mc ms free hC hls hM hbl hr hP hrc hrs hfr hlo hce hsl hna hst
  have hts := hC.2.2.2.2.1
  have hb := va_cnB (R := R) (Ts := ev_TB) (ws := ev_ws yc) (ws' := ev_TB) (bytes := yc.2.1) (maxL := yc.2.2.1) (ret := yc.2.2.2) k hts (ev_good h.2.2) rfl hrc hrs (hC.2.2.2.2.2.1.2.1 _ hn) (hts _ h.2.1) hy ⟨hfr, hlo⟩
  exact va_runSN (Ts := ev_TB) ⟨hC.1, hC.2.1, hC.2.2.1, hC.2.2.2.1, hts⟩ hM ⟨hb, hts _ h.1, trivial⟩ ⟨hbl, hP⟩ rfl hna hls rfl (lv_room hst) hd ⟨hce, hsl⟩
theorem ev_kIN {y yc : ev_MI} {pc idx k : Nat} {C host : String} (hd : decode y.2.1 pc = .ok (.invokespecial idx, 3)) (hret : yc.2.2.2 = none) (hn : Cond.methodLinkNest y.1.cls idx yc.1 host ∈ ev_nest) (h : Cond.instanceMethod yc.1 ∈ ev_TB ∧ Cond.initialized yc.1.cls ∈ ev_TB ∧ ev_code yc ∈ ev_TB) (hy1 : yc.1.name = "<init>") (hy : yc.1.cls ≠ "java/lang/invoke/MethodHandle" ∧ yc.1.cls ≠ "java/lang/invoke/VarHandle" ∧ (parseMethodDescriptor yc.1.desc).map (fun d => d.parameters.length) = some k) : ev_K y pc yc (some C) (k + 1) := by
  intro G p l e R s m args below meth c H locs cells slots ls rest As rm Pc Qc mc ms free hC hls hM hbl hr hP hrc hrs hfr hlo hce hsl hna hst
  obtain ⟨b, As', cell, rfl, g1, g2, g3⟩ := hr
  have hts := hC.2.2.2.2.1
  have hG := ev_good h.2.2
  have hw : ev_ws yc = Cond.code yc.1 yc.2.1 yc.2.2.1 none :: ev_TB := by rw [ev_ws, hret]
  have hb := va_cnB (R := R) (Ts := ev_TB) (ws := ev_ws yc) (ws' := ev_TB) (bytes := yc.2.1) (maxL := yc.2.2.1) (ret := none) k hts hG hw hrc hrs (hC.2.2.2.2.2.1.2.1 _ hn) (hts _ h.2.1) hy ⟨hfr, hlo⟩
  have hlen : As'.length = k := by simpa using hna
  rw [List.reverse_cons, List.append_assoc]
  exact va_runIN (Ts := ev_TB) ⟨hC.1, hC.2.1, hC.2.2.1, hC.2.2.2.1, hts⟩ hM ⟨hb, hy1, hts _ h.1⟩ ⟨hbl, hP⟩ rfl hlen hls rfl (lv_room hst) hd ⟨hce, hsl⟩
/-- the receiver, said of the small memory: an object of the class, or one of the texts -/
def ev_rv (C : Option String) (M : ev_M) (as : List Value) : Prop := match C with
  | none => True
  | some C => ∃ (a : Nat) (as' : List Value), as = .ref a :: as' ∧ ((∃ (ci : Nat) (fs : List Value) (r : vw_C), M a = .inr (ci, fs) ∧ vwCl[ci]? = some r ∧ r.1 = C) ∨ ∃ i, a = 9 + i ∧ i < 5 ∧ C = "java/lang/String")
theorem ev_rv_of {C : String} {M : ev_M} {a ci : Nat} {as fs : List Value} {r : vw_C} (h1 : M a = .inr (ci, fs)) (h2 : vwCl[ci]? = some r) (h3 : r.1 = C) : ev_rv (some C) M (.ref a :: as) := ⟨a, as, rfl, Or.inl ⟨ci, fs, r, h1, h2, h3⟩⟩
theorem ev_rv_s {M : ev_M} {i : Nat} {as : List Value} (h : i < 5) : ev_rv (some "java/lang/String") M (.ref (9 + i) :: as) := ⟨9 + i, as, rfl, Or.inr ⟨i, rfl, h, rfl⟩⟩
theorem ev_rv.rc {C : Option String} {G : ev_G} {s : State} {n : Nat} {M : ev_M} {H : Heap} {as : List Value} (hF : ev_F G s) (hH : ev_H G s n M H) (h : ev_rv C M as) : ev_rc C s H (as.map (ev_v G)) := by
  match C, h with
  | none, _ => trivial
  | some C, hh =>
    obtain ⟨a, as', rfl, h5⟩ := hh
    rcases h5 with ⟨ci, fs, r, h1, h2, rfl⟩ | ⟨i, rfl, hi, rfl⟩
    · have hr := hH.rng (a := a) (by rw [h1]; exact ev_nj_r h2)
      have hw := ev_wl_at (G := G) (M := M) hr.1 hr.2
      rw [h1] at hw
      obtain ⟨cell, g1, g2, g3⟩ := va_recv (q0 := a - 21) hF.1 hH.1 h2 hw
      exact ⟨_, as'.map (ev_v G), cell, rfl, g1, g2, g3⟩
    · obtain ⟨cell, g1, g2, g3, -⟩ := (hH.2.2.1.2.2.1.1 i hi).1
      exact ⟨_, as'.map (ev_v G), cell, by rw [List.map_cons, ev_old (by omega)], g1, g2, g3⟩
theorem ev_blind {G : ev_G} {as : List Value} {n : Nat} {M : ev_M} : FrameBlind (va_Pc (as.map (ev_v G)) (fun U => ev_F G U ∧ ev_H G U n M U.heap)) := by
  intro a U g mk q
  obtain ⟨q1, q2, q3⟩ := q
  exact ⟨q1, q2.calling, q3.moved (u := U) (U := U.calling g mk a) (Vm.Alike.refl U.vm)⟩
theorem ev_cats {G : ev_G} (st : List Value) : ((st.map (ev_v G)).map fun v => v.category).sum = (st.map fun v => v.category).sum := by
  rw [List.map_map]; rw [show ((fun v : Value => v.category) ∘ ev_v G) = (fun v => v.category) from funext fun v => ev_v_cat v]
theorem ev_call {G : ev_G} {y yc : ev_MI} {f fc rc ru n na rc1 ru1 rc2 ru2 : Nat} {M : ev_M} {pc : Nat} {L : List (Option Value)} {rst as : List Value} {C : Option String} {Post PostC : Option Value → ev_M → Prop}
    (hk : ev_K y pc yc C na) (hc : ev_Cal G yc fc rc1 ru1 as n M PostC) (hr : ev_rv C M as) (hff : fc + 1 ≤ f) (hm : yc.2.2.1 ≤ 17) (hna : as.length = na) (hst : (rst.map fun v => v.category).sum ≤ 8) (h1 : rc = rc1 + rc2) (h2 : ru = ru1 + ru2)
    (kk : ∀ (r : Option Value) (M1 : ev_M), PostC r M1 → ev_E G y f rc2 ru2 (n + rc1) M1 (pc + 3) L (r.toList ++ rst) Post) : ev_E G y f rc ru n M pc L (as.reverse ++ rst) Post := by
  intro p l e R s m args below meth c H locs cells slots ls Q hC hf hlo hcs hsl hL hH hS hend
  subst h1 h2
  have hrun := hk G p l e R s m args below meth c H locs cells slots ls (rst.map (ev_v G)) (as.map (ev_v G)) { frames := fc, cells := rc1, slots := ru1, locals := 36 * fc } _ _ rc1 ru1 (ev_A G) hC hL.1 (hc l) ev_blind (hr.rc hC.2.2.2.2.2.1 hH)
    (fun U hU hW => ⟨rfl, hC.2.2.2.2.2.1.warm hW, by rw [hU]; exact hH.moved hW.alike⟩) rfl rfl (by show fc + 1 ≤ R.frames; omega) (by show 8 + (yc.2.2.1 + 11) + 36 * fc ≤ R.locals; omega) (by omega) (by omega) (by rw [List.length_map]; exact hna) (by rw [ev_cats]; exact hst)
  refine W.eq (g2 := F0 m pc ls ((as.map (ev_v G)).reverse ++ rst.map (ev_v G))) (by rw [List.map_append, List.map_reverse]) ?_
  intro T hT X
  obtain ⟨v, st₀, t, T', L', h0, X', hL', e1, e2, hQ, st⟩ := hrun T hT X
  obtain ⟨r, M1, hv, hH1, hP1, hz, hkept⟩ := hQ
  rw [h0] at hz hkept
  obtain rfl : v = r.map (ev_v G) := by cases hv; rfl
  have hal : t.vm.Alike s.vm := by rw [← e2]; exact X'.warmed.alike.symm
  have hS' : va_S (ev_A G) s.heap T'.heap (locs ++ L') := ⟨Nat.le_trans hS.1 (by rw [e1]; exact hz), fun q h1 h2 => by rw [e1, hkept q (Nat.lt_of_lt_of_le h1 hS.1) h2]; exact hS.2.1 q h1 h2, fun q hq => by
      rcases List.mem_append.mp hq with h | h
      · exact hS.2.2 q h
      · exact hL' q h⟩
  obtain ⟨t2, a1, b1⟩ := kk r M1 hP1 p l e R s m args below meth c T'.heap (locs ++ L') (cells + rc1) (slots + ru1) ls Q hC hf hlo (by omega) (by omega) hL (by rw [e1]; exact hH1.moved hal) hS'
    (fun pc' ls' r' M' H' locs' ho hH' hS'' hP => by
      have := hend pc' ls' r' M' H' locs' ho (by rw [← Nat.add_assoc]; exact hH') hS'' hP
      rw [← Nat.add_assoc, ← Nat.add_assoc] at this
      exact this) T' rfl X'
  refine ⟨t2, st t2 ?_, b1⟩
  have he : (r.map (ev_v G)).toList ++ rst.map (ev_v G) = (r.toList ++ rst).map (ev_v G) := by cases r <;> simp
  show Steps _ _ _ (T'.setTop { F0 m pc ls _ with pc := pc + 3, stack := (r.map (ev_v G)).toList ++ rst.map (ev_v G) }) t2
  rw [he]
  exact a1
/-- one that answers just so -/
def ev_is (v : Option Value) (M' : ev_M) : Option Value → ev_M → Prop := fun r M1 => r = v ∧ M1 = M'
section EVC
variable {G : ev_G} {y yc : ev_MI} {f fc rc ru n : Nat} {M M' : ev_M} {pc : Nat} {L : List (Option Value)} {st : List Value} {C : Option String} {Post : Option Value → ev_M → Prop} {u : Value}
theorem ev_c0 (hk : ev_K y pc yc C 0) (hc : ev_Cal G yc fc 0 0 [] n M (ev_is (some u) M')) (hr : ev_rv C M []) (hff : fc + 1 ≤ f) (hm : yc.2.2.1 ≤ 17) (hst : (st.map fun v => v.category).sum ≤ 8) (kk : ev_E G y f rc ru n M' (pc + 3) L (u :: st) Post) : ev_E G y f rc ru n M pc L (st) Post :=
  ev_call (as := []) (rst := st) hk hc hr hff hm rfl hst (Nat.zero_add _).symm (Nat.zero_add _).symm (fun r M1 h => by rw [h.1, h.2]; exact kk)
theorem ev_w0 (hk : ev_K y pc yc C 0) (hc : ev_Cal G yc fc 0 0 [] n M (ev_is (none) M')) (hr : ev_rv C M []) (hff : fc + 1 ≤ f) (hm : yc.2.2.1 ≤ 17) (hst : (st.map fun v => v.category).sum ≤ 8) (kk : ev_E G y f rc ru n M' (pc + 3) L (st) Post) : ev_E G y f rc ru n M pc L (st) Post :=
  ev_call (as := []) (rst := st) hk hc hr hff hm rfl hst (Nat.zero_add _).symm (Nat.zero_add _).symm (fun r M1 h => by rw [h.1, h.2]; exact kk)
theorem ev_d0 {PostC : Option Value → ev_M → Prop} (hk : ev_K y pc yc C 0) (hc : ev_Cal G yc fc 0 0 [] n M PostC) (hr : ev_rv C M []) (hff : fc + 1 ≤ f) (hm : yc.2.2.1 ≤ 17) (hst : (st.map fun v => v.category).sum ≤ 8) (kk : ∀ (r : Option Value) (M1 : ev_M), PostC r M1 → ev_E G y f rc ru n M1 (pc + 3) L (r.toList ++ st) Post) : ev_E G y f rc ru n M pc L (st) Post :=
  ev_call (as := []) (rst := st) hk hc hr hff hm rfl hst (Nat.zero_add _).symm (Nat.zero_add _).symm kk
theorem ev_m0 {rc1 ru1 rc2 ru2 : Nat} (hk : ev_K y pc yc C 0) (hc : ev_Cal G yc fc rc1 ru1 [] n M (ev_is none M')) (hr : ev_rv C M []) (hff : fc + 1 ≤ f) (hm : yc.2.2.1 ≤ 17) (hst : (st.map fun v => v.category).sum ≤ 8) (h1 : rc = rc1 + rc2) (h2 : ru = ru1 + ru2) (kk : ev_E G y f rc2 ru2 (n + rc1) M' (pc + 3) L st Post) : ev_E G y f rc ru n M pc L (st) Post :=
  ev_call (as := []) (rst := st) hk hc hr hff hm rfl hst h1 h2 (fun r M1 h => by rw [h.1, h.2]; exact kk)
theorem ev_c1 {v0 : Value} (hk : ev_K y pc yc C 1) (hc : ev_Cal G yc fc 0 0 [v0] n M (ev_is (some u) M')) (hr : ev_rv C M [v0]) (hff : fc + 1 ≤ f) (hm : yc.2.2.1 ≤ 17) (hst : (st.map fun v => v.category).sum ≤ 8) (kk : ev_E G y f rc ru n M' (pc + 3) L (u :: st) Post) : ev_E G y f rc ru n M pc L (v0 :: st) Post :=
  ev_call (as := [v0]) (rst := st) hk hc hr hff hm rfl hst (Nat.zero_add _).symm (Nat.zero_add _).symm (fun r M1 h => by rw [h.1, h.2]; exact kk)
theorem ev_w1 {v0 : Value} (hk : ev_K y pc yc C 1) (hc : ev_Cal G yc fc 0 0 [v0] n M (ev_is (none) M')) (hr : ev_rv C M [v0]) (hff : fc + 1 ≤ f) (hm : yc.2.2.1 ≤ 17) (hst : (st.map fun v => v.category).sum ≤ 8) (kk : ev_E G y f rc ru n M' (pc + 3) L (st) Post) : ev_E G y f rc ru n M pc L (v0 :: st) Post :=
  ev_call (as := [v0]) (rst := st) hk hc hr hff hm rfl hst (Nat.zero_add _).symm (Nat.zero_add _).symm (fun r M1 h => by rw [h.1, h.2]; exact kk)
theorem ev_d1 {v0 : Value} {PostC : Option Value → ev_M → Prop} (hk : ev_K y pc yc C 1) (hc : ev_Cal G yc fc 0 0 [v0] n M PostC) (hr : ev_rv C M [v0]) (hff : fc + 1 ≤ f) (hm : yc.2.2.1 ≤ 17) (hst : (st.map fun v => v.category).sum ≤ 8) (kk : ∀ (r : Option Value) (M1 : ev_M), PostC r M1 → ev_E G y f rc ru n M1 (pc + 3) L (r.toList ++ st) Post) : ev_E G y f rc ru n M pc L (v0 :: st) Post :=
  ev_call (as := [v0]) (rst := st) hk hc hr hff hm rfl hst (Nat.zero_add _).symm (Nat.zero_add _).symm kk
theorem ev_m1 {v0 : Value} {rc1 ru1 rc2 ru2 : Nat} (hk : ev_K y pc yc C 1) (hc : ev_Cal G yc fc rc1 ru1 [v0] n M (ev_is none M')) (hr : ev_rv C M [v0]) (hff : fc + 1 ≤ f) (hm : yc.2.2.1 ≤ 17) (hst : (st.map fun v => v.category).sum ≤ 8) (h1 : rc = rc1 + rc2) (h2 : ru = ru1 + ru2) (kk : ev_E G y f rc2 ru2 (n + rc1) M' (pc + 3) L st Post) : ev_E G y f rc ru n M pc L (v0 :: st) Post :=
  ev_call (as := [v0]) (rst := st) hk hc hr hff hm rfl hst h1 h2 (fun r M1 h => by rw [h.1, h.2]; exact kk)
theorem ev_c2 {v0 v1 : Value} (hk : ev_K y pc yc C 2) (hc : ev_Cal G yc fc 0 0 [v0, v1] n M (ev_is (some u) M')) (hr : ev_rv C M [v0, v1]) (hff : fc + 1 ≤ f) (hm : yc.2.2.1 ≤ 17) (hst : (st.map fun v => v.category).sum ≤ 8) (kk : ev_E G y f rc ru n M' (pc + 3) L (u :: st) Post) : ev_E G y f rc ru n M pc L (v1 :: v0 :: st) Post :=
  ev_call (as := [v0, v1]) (rst := st) hk hc hr hff hm rfl hst (Nat.zero_add _).symm (Nat.zero_add _).symm (fun r M1 h => by rw [h.1, h.2]; exact kk)
theorem ev_w2 {v0 v1 : Value} (hk : ev_K y pc yc C 2) (hc : ev_Cal G yc fc 0 0 [v0, v1] n M (ev_is (none) M')) (hr : ev_rv C M [v0, v1]) (hff : fc + 1 ≤ f) (hm : yc.2.2.1 ≤ 17) (hst : (st.map fun v => v.category).sum ≤ 8) (kk : ev_E G y f rc ru n M' (pc + 3) L (st) Post) : ev_E G y f rc ru n M pc L (v1 :: v0 :: st) Post :=
  ev_call (as := [v0, v1]) (rst := st) hk hc hr hff hm rfl hst (Nat.zero_add _).symm (Nat.zero_add _).symm (fun r M1 h => by rw [h.1, h.2]; exact kk)
theorem ev_d2 {v0 v1 : Value} {PostC : Option Value → ev_M → Prop} (hk : ev_K y pc yc C 2) (hc : ev_Cal G yc fc 0 0 [v0, v1] n M PostC) (hr : ev_rv C M [v0, v1]) (hff : fc + 1 ≤ f) (hm : yc.2.2.1 ≤ 17) (hst : (st.map fun v => v.category).sum ≤ 8) (kk : ∀ (r : Option Value) (M1 : ev_M), PostC r M1 → ev_E G y f rc ru n M1 (pc + 3) L (r.toList ++ st) Post) : ev_E G y f rc ru n M pc L (v1 :: v0 :: st) Post :=
  ev_call (as := [v0, v1]) (rst := st) hk hc hr hff hm rfl hst (Nat.zero_add _).symm (Nat.zero_add _).symm kk
theorem ev_m2 {v0 v1 : Value} {rc1 ru1 rc2 ru2 : Nat} (hk : ev_K y pc yc C 2) (hc : ev_Cal G yc fc rc1 ru1 [v0, v1] n M (ev_is none M')) (hr : ev_rv C M [v0, v1]) (hff : fc + 1 ≤ f) (hm : yc.2.2.1 ≤ 17) (hst : (st.map fun v => v.category).sum ≤ 8) (h1 : rc = rc1 + rc2) (h2 : ru = ru1 + ru2) (kk : ev_E G y f rc2 ru2 (n + rc1) M' (pc + 3) L st Post) : ev_E G y f rc ru n M pc L (v1 :: v0 :: st) Post :=
  ev_call (as := [v0, v1]) (rst := st) hk hc hr hff hm rfl hst h1 h2 (fun r M1 h => by rw [h.1, h.2]; exact kk)
theorem ev_c3 {v0 v1 v2 : Value} (hk : ev_K y pc yc C 3) (hc : ev_Cal G yc fc 0 0 [v0, v1, v2] n M (ev_is (some u) M')) (hr : ev_rv C M [v0, v1, v2]) (hff : fc + 1 ≤ f) (hm : yc.2.2.1 ≤ 17) (hst : (st.map fun v => v.category).sum ≤ 8) (kk : ev_E G y f rc ru n M' (pc + 3) L (u :: st) Post) : ev_E G y f rc ru n M pc L (v2 :: v1 :: v0 :: st) Post :=
  ev_call (as := [v0, v1, v2]) (rst := st) hk hc hr hff hm rfl hst (Nat.zero_add _).symm (Nat.zero_add _).symm (fun r M1 h => by rw [h.1, h.2]; exact kk)
theorem ev_w3 {v0 v1 v2 : Value} (hk : ev_K y pc yc C 3) (hc : ev_Cal G yc fc 0 0 [v0, v1, v2] n M (ev_is (none) M')) (hr : ev_rv C M [v0, v1, v2]) (hff : fc + 1 ≤ f) (hm : yc.2.2.1 ≤ 17) (hst : (st.map fun v => v.category).sum ≤ 8) (kk : ev_E G y f rc ru n M' (pc + 3) L (st) Post) : ev_E G y f rc ru n M pc L (v2 :: v1 :: v0 :: st) Post :=
  ev_call (as := [v0, v1, v2]) (rst := st) hk hc hr hff hm rfl hst (Nat.zero_add _).symm (Nat.zero_add _).symm (fun r M1 h => by rw [h.1, h.2]; exact kk)
theorem ev_d3 {v0 v1 v2 : Value} {PostC : Option Value → ev_M → Prop} (hk : ev_K y pc yc C 3) (hc : ev_Cal G yc fc 0 0 [v0, v1, v2] n M PostC) (hr : ev_rv C M [v0, v1, v2]) (hff : fc + 1 ≤ f) (hm : yc.2.2.1 ≤ 17) (hst : (st.map fun v => v.category).sum ≤ 8) (kk : ∀ (r : Option Value) (M1 : ev_M), PostC r M1 → ev_E G y f rc ru n M1 (pc + 3) L (r.toList ++ st) Post) : ev_E G y f rc ru n M pc L (v2 :: v1 :: v0 :: st) Post :=
  ev_call (as := [v0, v1, v2]) (rst := st) hk hc hr hff hm rfl hst (Nat.zero_add _).symm (Nat.zero_add _).symm kk
theorem ev_m3 {v0 v1 v2 : Value} {rc1 ru1 rc2 ru2 : Nat} (hk : ev_K y pc yc C 3) (hc : ev_Cal G yc fc rc1 ru1 [v0, v1, v2] n M (ev_is none M')) (hr : ev_rv C M [v0, v1, v2]) (hff : fc + 1 ≤ f) (hm : yc.2.2.1 ≤ 17) (hst : (st.map fun v => v.category).sum ≤ 8) (h1 : rc = rc1 + rc2) (h2 : ru = ru1 + ru2) (kk : ev_E G y f rc2 ru2 (n + rc1) M' (pc + 3) L st Post) : ev_E G y f rc ru n M pc L (v2 :: v1 :: v0 :: st) Post :=
  ev_call (as := [v0, v1, v2]) (rst := st) hk hc hr hff hm rfl hst h1 h2 (fun r M1 h => by rw [h.1, h.2]; exact kk)
theorem ev_c4 {v0 v1 v2 v3 : Value} (hk : ev_K y pc yc C 4) (hc : ev_Cal G yc fc 0 0 [v0, v1, v2, v3] n M (ev_is (some u) M')) (hr : ev_rv C M [v0, v1, v2, v3]) (hff : fc + 1 ≤ f) (hm : yc.2.2.1 ≤ 17) (hst : (st.map fun v => v.category).sum ≤ 8) (kk : ev_E G y f rc ru n M' (pc + 3) L (u :: st) Post) : ev_E G y f rc ru n M pc L (v3 :: v2 :: v1 :: v0 :: st) Post :=
  ev_call (as := [v0, v1, v2, v3]) (rst := st) hk hc hr hff hm rfl hst (Nat.zero_add _).symm (Nat.zero_add _).symm (fun r M1 h => by rw [h.1, h.2]; exact kk)
theorem ev_w4 {v0 v1 v2 v3 : Value} (hk : ev_K y pc yc C 4) (hc : ev_Cal G yc fc 0 0 [v0, v1, v2, v3] n M (ev_is (none) M')) (hr : ev_rv C M [v0, v1, v2, v3]) (hff : fc + 1 ≤ f) (hm : yc.2.2.1 ≤ 17) (hst : (st.map fun v => v.category).sum ≤ 8) (kk : ev_E G y f rc ru n M' (pc + 3) L (st) Post) : ev_E G y f rc ru n M pc L (v3 :: v2 :: v1 :: v0 :: st) Post :=
  ev_call (as := [v0, v1, v2, v3]) (rst := st) hk hc hr hff hm rfl hst (Nat.zero_add _).symm (Nat.zero_add _).symm (fun r M1 h => by rw [h.1, h.2]; exact kk)
theorem ev_d4 {v0 v1 v2 v3 : Value} {PostC : Option Value → ev_M → Prop} (hk : ev_K y pc yc C 4) (hc : ev_Cal G yc fc 0 0 [v0, v1, v2, v3] n M PostC) (hr : ev_rv C M [v0, v1, v2, v3]) (hff : fc + 1 ≤ f) (hm : yc.2.2.1 ≤ 17) (hst : (st.map fun v => v.category).sum ≤ 8) (kk : ∀ (r : Option Value) (M1 : ev_M), PostC r M1 → ev_E G y f rc ru n M1 (pc + 3) L (r.toList ++ st) Post) : ev_E G y f rc ru n M pc L (v3 :: v2 :: v1 :: v0 :: st) Post :=
  ev_call (as := [v0, v1, v2, v3]) (rst := st) hk hc hr hff hm rfl hst (Nat.zero_add _).symm (Nat.zero_add _).symm kk
theorem ev_m4 {v0 v1 v2 v3 : Value} {rc1 ru1 rc2 ru2 : Nat} (hk : ev_K y pc yc C 4) (hc : ev_Cal G yc fc rc1 ru1 [v0, v1, v2, v3] n M (ev_is none M')) (hr : ev_rv C M [v0, v1, v2, v3]) (hff : fc + 1 ≤ f) (hm : yc.2.2.1 ≤ 17) (hst : (st.map fun v => v.category).sum ≤ 8) (h1 : rc = rc1 + rc2) (h2 : ru = ru1 + ru2) (kk : ev_E G y f rc2 ru2 (n + rc1) M' (pc + 3) L st Post) : ev_E G y f rc ru n M pc L (v3 :: v2 :: v1 :: v0 :: st) Post :=
  ev_call (as := [v0, v1, v2, v3]) (rst := st) hk hc hr hff hm rfl hst h1 h2 (fun r M1 h => by rw [h.1, h.2]; exact kk)
theorem ev_c5 {v0 v1 v2 v3 v4 : Value} (hk : ev_K y pc yc C 5) (hc : ev_Cal G yc fc 0 0 [v0, v1, v2, v3, v4] n M (ev_is (some u) M')) (hr : ev_rv C M [v0, v1, v2, v3, v4]) (hff : fc + 1 ≤ f) (hm : yc.2.2.1 ≤ 17) (hst : (st.map fun v => v.category).sum ≤ 8) (kk : ev_E G y f rc ru n M' (pc + 3) L (u :: st) Post) : ev_E G y f rc ru n M pc L (v4 :: v3 :: v2 :: v1 :: v0 :: st) Post :=
  ev_call (as := [v0, v1, v2, v3, v4]) (rst := st) hk hc hr hff hm rfl hst (Nat.zero_add _).symm (Nat.zero_add _).symm (fun r M1 h => by rw [h.1, h.2]; exact kk)
theorem ev_w5 {v0 v1 v2 v3 v4 : Value} (hk : ev_K y pc yc C 5) (hc : ev_Cal G yc fc 0 0 [v0, v1, v2, v3, v4] n M (ev_is (none) M')) (hr : ev_rv C M [v0, v1, v2, v3, v4]) (hff : fc + 1 ≤ f) (hm : yc.2.2.1 ≤ 17) (hst : (st.map fun v => v.category).sum ≤ 8) (kk : ev_E G y f rc ru n M' (pc + 3) L (st) Post) : ev_E G y f rc ru n M pc L (v4 :: v3 :: v2 :: v1 :: v0 :: st) Post :=
  ev_call (as := [v0, v1, v2, v3, v4]) (rst := st) hk hc hr hff hm rfl hst (Nat.zero_add _).symm (Nat.zero_add _).symm (fun r M1 h => by rw [h.1, h.2]; exact kk)
theorem ev_d5 {v0 v1 v2 v3 v4 : Value} {PostC : Option Value → ev_M → Prop} (hk : ev_K y pc yc C 5) (hc : ev_Cal G yc fc 0 0 [v0, v1, v2, v3, v4] n M PostC) (hr : ev_rv C M [v0, v1, v2, v3, v4]) (hff : fc + 1 ≤ f) (hm : yc.2.2.1 ≤ 17) (hst : (st.map fun v => v.category).sum ≤ 8) (kk : ∀ (r : Option Value) (M1 : ev_M), PostC r M1 → ev_E G y f rc ru n M1 (pc + 3) L (r.toList ++ st) Post) : ev_E G y f rc ru n M pc L (v4 :: v3 :: v2 :: v1 :: v0 :: st) Post :=
  ev_call (as := [v0, v1, v2, v3, v4]) (rst := st) hk hc hr hff hm rfl hst (Nat.zero_add _).symm (Nat.zero_add _).symm kk
theorem ev_m5 {v0 v1 v2 v3 v4 : Value} {rc1 ru1 rc2 ru2 : Nat} (hk : ev_K y pc yc C 5) (hc : ev_Cal G yc fc rc1 ru1 [v0, v1, v2, v3, v4] n M (ev_is none M')) (hr : ev_rv C M [v0, v1, v2, v3, v4]) (hff : fc + 1 ≤ f) (hm : yc.2.2.1 ≤ 17) (hst : (st.map fun v => v.category).sum ≤ 8) (h1 : rc = rc1 + rc2) (h2 : ru = ru1 + ru2) (kk : ev_E G y f rc2 ru2 (n + rc1) M' (pc + 3) L st Post) : ev_E G y f rc ru n M pc L (v4 :: v3 :: v2 :: v1 :: v0 :: st) Post :=
  ev_call (as := [v0, v1, v2, v3, v4]) (rst := st) hk hc hr hff hm rfl hst h1 h2 (fun r M1 h => by rw [h.1, h.2]; exact kk)
theorem ev_c6 {v0 v1 v2 v3 v4 v5 : Value} (hk : ev_K y pc yc C 6) (hc : ev_Cal G yc fc 0 0 [v0, v1, v2, v3, v4, v5] n M (ev_is (some u) M')) (hr : ev_rv C M [v0, v1, v2, v3, v4, v5]) (hff : fc + 1 ≤ f) (hm : yc.2.2.1 ≤ 17) (hst : (st.map fun v => v.category).sum ≤ 8) (kk : ev_E G y f rc ru n M' (pc + 3) L (u :: st) Post) : ev_E G y f rc ru n M pc L (v5 :: v4 :: v3 :: v2 :: v1 :: v0 :: st) Post :=
  ev_call (as := [v0, v1, v2, v3, v4, v5]) (rst := st) hk hc hr hff hm rfl hst (Nat.zero_add _).symm (Nat.zero_add _).symm (fun r M1 h => by rw [h.1, h.2]; exact kk)
theorem ev_w6 {v0 v1 v2 v3 v4 v5 : Value} (hk : ev_K y pc yc C 6) (hc : ev_Cal G yc fc 0 0 [v0, v1, v2, v3, v4, v5] n M (ev_is (none) M')) (hr : ev_rv C M [v0, v1, v2, v3, v4, v5]) (hff : fc + 1 ≤ f) (hm : yc.2.2.1 ≤ 17) (hst : (st.map fun v => v.category).sum ≤ 8) (kk : ev_E G y f rc ru n M' (pc + 3) L (st) Post) : ev_E G y f rc ru n M pc L (v5 :: v4 :: v3 :: v2 :: v1 :: v0 :: st) Post :=
  ev_call (as := [v0, v1, v2, v3, v4, v5]) (rst := st) hk hc hr hff hm rfl hst (Nat.zero_add _).symm (Nat.zero_add _).symm (fun r M1 h => by rw [h.1, h.2]; exact kk)
theorem ev_d6 {v0 v1 v2 v3 v4 v5 : Value} {PostC : Option Value → ev_M → Prop} (hk : ev_K y pc yc C 6) (hc : ev_Cal G yc fc 0 0 [v0, v1, v2, v3, v4, v5] n M PostC) (hr : ev_rv C M [v0, v1, v2, v3, v4, v5]) (hff : fc + 1 ≤ f) (hm : yc.2.2.1 ≤ 17) (hst : (st.map fun v => v.category).sum ≤ 8) (kk : ∀ (r : Option Value) (M1 : ev_M), PostC r M1 → ev_E G y f rc ru n M1 (pc + 3) L (r.toList ++ st) Post) : ev_E G y f rc ru n M pc L (v5 :: v4 :: v3 :: v2 :: v1 :: v0 :: st) Post :=
  ev_call (as := [v0, v1, v2, v3, v4, v5]) (rst := st) hk hc hr hff hm rfl hst (Nat.zero_add _).symm (Nat.zero_add _).symm kk
theorem ev_m6 {v0 v1 v2 v3 v4 v5 : Value} {rc1 ru1 rc2 ru2 : Nat} (hk : ev_K y pc yc C 6) (hc : ev_Cal G yc fc rc1 ru1 [v0, v1, v2, v3, v4, v5] n M (ev_is none M')) (hr : ev_rv C M [v0, v1, v2, v3, v4, v5]) (hff : fc + 1 ≤ f) (hm : yc.2.2.1 ≤ 17) (hst : (st.map fun v => v.category).sum ≤ 8) (h1 : rc = rc1 + rc2) (h2 : ru = ru1 + ru2) (kk : ev_E G y f rc2 ru2 (n + rc1) M' (pc + 3) L st Post) : ev_E G y f rc ru n M pc L (v5 :: v4 :: v3 :: v2 :: v1 :: v0 :: st) Post :=
  ev_call (as := [v0, v1, v2, v3, v4, v5]) (rst := st) hk hc hr hff hm rfl hst h1 h2 (fun r M1 h => by rw [h.1, h.2]; exact kk)
end EVC
