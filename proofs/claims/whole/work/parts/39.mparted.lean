/-! ===== contracts: the model, gcd, adds, parts, parted ===== -/
theorem ev_topl {G : ev_G} {y : ev_MI} {f rc ru n pc : Nat} {M : ev_M} {L : List (Option Value)} {st : List Value} {Post : Option Value → ev_M → Prop} {x x2 : Int64} (h : x = x2) (k : ev_E G y f rc ru n M pc L (.long x2 :: st) Post) : ev_E G y f rc ru n M pc L (.long x :: st) Post := by rw [h]; exact k
def lI (z : Int) : Int64 := Int64.ofInt z
theorem lI_N (n : Nat) : lI (n : Int) = lN n := Int64.ofInt_eq_ofNat
theorem lI_T {z : Int} (h : z.natAbs < 2 ^ 62) : (lI z).toInt = z := Int64.toInt_ofInt_of_le (by omega) (by omega)
theorem lI_add (a b : Int) : lI a + lI b = lI (a + b) := (Int64.ofInt_add a b).symm
theorem lI_mul (a b : Int) : lI a * lI b = lI (a * b) := (Int64.ofInt_mul a b).symm
theorem lI_neg (a : Int) : -lI a = lI (-a) := (Int64.ofInt_neg a).symm
theorem lI_ne0 {n : Nat} (h0 : 0 < n) (h : n < 2 ^ 62) : ¬ lI (n : Int) = 0 := by
  intro e
  have := lI_T (z := n) (by omega)
  rw [e, show (0 : Int64).toInt = 0 from by decide +kernel] at this
  omega
theorem lI_div {z : Int} {n : Nat} (hz : z.natAbs < 2 ^ 62) (h0 : 0 < n) (hn : n < 2 ^ 62) : lI z / lI (n : Int) = lI (z.tdiv n) := by
  apply Int64.toInt_inj.mp
  have hq : (z.tdiv n).natAbs < 2 ^ 62 := Nat.lt_of_le_of_lt (Int.natAbs_tdiv_le_natAbs _ _) hz
  have hn2 : (lI (n : Int)).toInt = n := lI_T (by omega)
  rw [lI_T hq, Int64.toInt_div_of_ne_right _ _ (fun e => by rw [e, show (-1 : Int64).toInt = -1 from by decide +kernel] at hn2; omega), lI_T hz, hn2]
theorem lI_divN {a b : Nat} (ha : a < 2 ^ 62) (h0 : 0 < b) (hb : b < 2 ^ 62) : lI (a : Int) / lI (b : Int) = lI ((a / b : Nat) : Int) := by
  rw [lI_div (by omega) h0 hb, Int.natCast_tdiv_eq_ediv, Int.natCast_ediv]
theorem lI_remN {a b : Nat} (ha : a < 2 ^ 62) (h0 : 0 < b) (hb : b < 2 ^ 62) : lI (a : Int) - lI (a : Int) / lI (b : Int) * lI (b : Int) = lI ((a % b : Nat) : Int) := by
  rw [lI_N, lI_N, lI_N, pk_lRem (by omega) h0 (by omega)]
theorem lI_i {x : Int32} : x.toInt64 = lI x.toInt := by
  apply Int64.toInt_inj.mp
  have h1 := Int32.toInt_lt x
  have h2 := Int32.le_toInt x
  rw [Int32.toInt_toInt64, lI_T (by omega)]
theorem lI_1 (n : Nat) : lI (n : Int) + 1 = lI ((n + 1 : Nat) : Int) := by
  rw [show (1 : Int64) = lI 1 from rfl, lI_add]; rfl
theorem lI_gt {z : Int} (h : z.natAbs < 2 ^ 62) : (lg_cmp (lI z) 0 ≤ 0) ↔ z ≤ 0 := by
  rw [lg_cmp_le, Int64.le_iff_toInt_le, lI_T h, show (0 : Int64).toInt = 0 from by decide +kernel]
/-- a fraction more, made small -/
def pa_U (u : Int) (d : Nat) (z : Int) (B : Nat) : Int := u * ((B / Nat.gcd d B : Nat) : Int) + z * ((d / Nat.gcd d B : Nat) : Int)
def pa_D (d B : Nat) : Nat := d / Nat.gcd d B * B
def pa_h (u : Int) (d : Nat) (z : Int) (B : Nat) : Nat := Nat.gcd (pa_U u d z B).natAbs (pa_D d B)
def pa_add (A : Int × Nat) (z : Int) (B : Nat) : Int × Nat := ((pa_U A.1 A.2 z B).tdiv (pa_h A.1 A.2 z B), pa_D A.2 B / pa_h A.1 A.2 z B)
def pa_ok (A : Int × Nat) (z : Int) (B : Nat) : Prop := (0 < A.2 ∧ A.2 < 2 ^ 62) ∧ (0 < B ∧ B < 2 ^ 62) ∧ (pa_U A.1 A.2 z B).natAbs < 2 ^ 62 ∧ pa_D A.2 B < 2 ^ 62
theorem pa_D0 {d B : Nat} (h : 0 < d) (hB : 0 < B) : 0 < pa_D d B := Nat.mul_pos (Nat.div_pos (Nat.le_of_dvd h (Nat.gcd_dvd_left _ _)) (Nat.gcd_pos_of_pos_left _ h)) hB
def pt_s (kf xs : Nat → Int32) (g : Nat) : Nat → Int
  | 0 => 0
  | k + 1 => if kf k = nI g then pt_s kf xs g k + (xs k).toInt else pt_s kf xs g k
def pt_c (kf : Nat → Int32) (g : Nat) : Nat → Nat
  | 0 => 0
  | k + 1 => if kf k = nI g then pt_c kf g k + 1 else pt_c kf g k
theorem pt_c_le (kf : Nat → Int32) (g : Nat) : ∀ k, pt_c kf g k ≤ k
  | 0 => Nat.le_refl _
  | k + 1 => by have := pt_c_le kf g k; rw [pt_c]; split <;> omega
def pt_F (S : Nat → Int) (C : Nat → Nat) : Nat → Int × Nat
  | 0 => (0, 1)
  | g + 1 => if C g = 0 then pt_F S C g else pa_add (pt_F S C g) (S g * S g) (C g)
theorem pt_F_0 {S : Nat → Int} {C : Nat → Nat} {g : Nat} (h : C g = 0) : pt_F S C (g + 1) = pt_F S C g := by rw [pt_F, if_pos h]
theorem pt_F_1 {S : Nat → Int} {C : Nat → Nat} {g : Nat} (h : ¬ C g = 0) : pt_F S C (g + 1) = pa_add (pt_F S C g) (S g * S g) (C g) := by rw [pt_F, if_neg h]
theorem md_stup {G : ev_G} {y : ev_MI} {f rc ru n pc : Nat} {M : ev_M} {L : List (Option Value)} {st : List Value} {Post : Option Value → ev_M → Prop} {tn c0 c1 c2 sh : Nat} {tx s kp bw ar tu : Nat → Int32} {k0 k1 : Bool} {tr : Int64} {one gof dof act : Nat → Int32} {sp of' ba go dr ki : Int32} {up dn : Int64} (hX : md_X M tn c0 c1 c2 sh tx s kp bw ar tu k0 k1 tr one gof dof act sp of' ba go dr ki up dn) {x : Int64} (hd : decode y.2.1 pc = .ok (.putfield 215, 3)) (hy : y.1.cls = RX12)
    (k : ∀ M1 : ev_M, md_X M1 tn c0 c1 c2 sh tx s kp bw ar tu k0 k1 tr one gof dof act sp of' ba go dr ki x dn → (∀ k, k < 129 → M1 k = M k) → ev_E G y f rc ru n M1 (pc + 3) L st Post) : ev_E G y f rc ru n M pc L (.long x :: .ref 129 :: st) Post := by
  obtain ⟨th, nx, tk, pl, va, fa, d0, d1, d2, dS, dB, dA, ik, h129, h130, h131, h132, h133, hk0, hk1, h134, h135, h136, h137, h138, h139, h140, h141, h142, h143, hsh⟩ := hX
  refine ev_putl hd (by rw [hy]; exact fpX12_215) h129 (Nat.le_of_ble_eq_true rfl) ?_
  exact k _ ⟨th, nx, tk, pl, va, fa, d0, d1, d2, dS, dB, dA, ik, ev_set_eq, (ev_set_ne (by decide)).trans h130, (ev_set_ne (by decide)).trans h131, (ev_set_ne (by decide)).trans h132, (ev_set_ne (by decide)).trans h133, hk0, hk1, (ev_set_ne (by decide)).trans h134, (ev_set_ne (by decide)).trans h135, (ev_set_ne (by decide)).trans h136, (ev_set_ne (by decide)).trans h137, (ev_set_ne (by decide)).trans h138, (ev_set_ne (by decide)).trans h139, (ev_set_ne (by decide)).trans h140, (ev_set_ne (by decide)).trans h141, (ev_set_ne (by decide)).trans h142, (ev_set_ne (by decide)).trans h143, hsh⟩ (fun k hk => ev_set_ne (by omega))
theorem md_stdn {G : ev_G} {y : ev_MI} {f rc ru n pc : Nat} {M : ev_M} {L : List (Option Value)} {st : List Value} {Post : Option Value → ev_M → Prop} {tn c0 c1 c2 sh : Nat} {tx s kp bw ar tu : Nat → Int32} {k0 k1 : Bool} {tr : Int64} {one gof dof act : Nat → Int32} {sp of' ba go dr ki : Int32} {up dn : Int64} (hX : md_X M tn c0 c1 c2 sh tx s kp bw ar tu k0 k1 tr one gof dof act sp of' ba go dr ki up dn) {x : Int64} (hd : decode y.2.1 pc = .ok (.putfield 207, 3)) (hy : y.1.cls = RX12)
    (k : ∀ M1 : ev_M, md_X M1 tn c0 c1 c2 sh tx s kp bw ar tu k0 k1 tr one gof dof act sp of' ba go dr ki up x → (∀ k, k < 129 → M1 k = M k) → ev_E G y f rc ru n M1 (pc + 3) L st Post) : ev_E G y f rc ru n M pc L (.long x :: .ref 129 :: st) Post := by
  obtain ⟨th, nx, tk, pl, va, fa, d0, d1, d2, dS, dB, dA, ik, h129, h130, h131, h132, h133, hk0, hk1, h134, h135, h136, h137, h138, h139, h140, h141, h142, h143, hsh⟩ := hX
  refine ev_putl hd (by rw [hy]; exact fpX12_207) h129 (Nat.le_of_ble_eq_true rfl) ?_
  exact k _ ⟨th, nx, tk, pl, va, fa, d0, d1, d2, dS, dB, dA, ik, ev_set_eq, (ev_set_ne (by decide)).trans h130, (ev_set_ne (by decide)).trans h131, (ev_set_ne (by decide)).trans h132, (ev_set_ne (by decide)).trans h133, hk0, hk1, (ev_set_ne (by decide)).trans h134, (ev_set_ne (by decide)).trans h135, (ev_set_ne (by decide)).trans h136, (ev_set_ne (by decide)).trans h137, (ev_set_ne (by decide)).trans h138, (ev_set_ne (by decide)).trans h139, (ev_set_ne (by decide)).trans h140, (ev_set_ne (by decide)).trans h141, (ev_set_ne (by decide)).trans h142, (ev_set_ne (by decide)).trans h143, hsh⟩ (fun k hk => ev_set_ne (by omega))
theorem l_gcd {G : ev_G} {n : Nat} {M : ev_M} {x : Int} {w : Int64} : ∀ (B A : Nat) (z : Option Value), A < 2 ^ 62 → B < 2 ^ 62 → ev_E G mX12_gcd 1 0 0 n M 17 [some (.long (lI x)), none, some (.long w), none, some (.long (lI ((A : Nat) : Int))), none, some (.long (lI ((B : Nat) : Int))), none, z, none] [] (ev_is (some (.long (lI ((Nat.gcd A B : Nat) : Int)))) M) := by
  intro B
  induction B using Nat.strongRecOn with
  | _ B ih =>
    intro A z hA hB
    refine ev_lload dX12_gcd_17 rfl ?_
    refine ev_lconst (v := 0) dX12_gcd_19 rfl ?_
    refine ev_lcmp dX12_gcd_20 ?_
    refine ev_if_eq (tgt := 42) dX12_gcd_21 (by decide) (fun h21 => ?_) (fun h21 => ?_)
    · skip
      refine ev_lload dX12_gcd_42 rfl ?_
      exact ev_retl dX12_gcd_44 rfl (⟨by have e : B = 0 := Nat.eq_zero_of_not_pos (fun z => lI_ne0 z hB ((lg_cmp_eq _ _).mp h21)); rw [e, Nat.gcd_zero_right], rfl⟩)
    · skip
      have hB0 : 0 < B := Nat.pos_of_ne_zero (fun z => h21 ((lg_cmp_eq _ _).mpr (by rw [z]; rfl)))
      refine ev_lload dX12_gcd_24 rfl ?_
      refine ev_lload dX12_gcd_26 rfl ?_
      refine ev_lrem dX12_gcd_28 (lI_ne0 hB0 hB) ?_
      refine ev_topl (lI_remN hA hB0 hB) ?_
      refine ev_lstore dX12_gcd_29 (Nat.le_of_ble_eq_true rfl) rfl ?_
      refine ev_lload dX12_gcd_31 rfl ?_
      refine ev_lstore dX12_gcd_33 (Nat.le_of_ble_eq_true rfl) rfl ?_
      refine ev_lload dX12_gcd_35 rfl ?_
      refine ev_lstore dX12_gcd_37 (Nat.le_of_ble_eq_true rfl) rfl ?_
      refine ev_goto (tgt := 17) dX12_gcd_39 (by decide) ?_
      have e : Nat.gcd A B = Nat.gcd B (A % B) := by rw [Nat.gcd_comm A B, Nat.gcd_rec B A, Nat.gcd_comm]
      rw [e]
      exact ih (A % B) (Nat.mod_lt _ hB0) B _ hB (Nat.lt_trans (Nat.mod_lt _ hB0) hB)
theorem lI_abs1 {x : Int} (hx : x.natAbs < 2 ^ 62) (h : 0 ≤ lg_cmp (lI x) 0) : x = ((x.natAbs : Nat) : Int) := by
  have := Int64.le_iff_toInt_le.mp ((lg_cmp_ge _ _).mp h)
  rw [lI_T hx, show (0 : Int64).toInt = 0 from by decide +kernel] at this
  omega
theorem lI_abs2 {x : Int} (hx : x.natAbs < 2 ^ 62) (h : lg_cmp (lI x) 0 < 0) : -x = ((x.natAbs : Nat) : Int) := by
  have := Int64.lt_iff_toInt_lt.mp ((lg_cmp_lt _ _).mp h)
  rw [lI_T hx, show (0 : Int64).toInt = 0 from by decide +kernel] at this
  omega
theorem m_gcd {G : ev_G} {n : Nat} {M : ev_M} {x : Int} {B : Nat} (hx : x.natAbs < 2 ^ 62) (hB : B < 2 ^ 62) : ev_Cal G mX12_gcd 1 0 0 [.long (lI x), .long (lI (B : Int))] n M (ev_is (some (.long (lI ((Nat.gcd x.natAbs B : Nat) : Int)))) M) := by
  refine ev_Cal_of (L := [some (.long (lI x)), none, some (.long (lI (B : Int))), none, none, none, none, none, none, none]) (by decide +kernel) (Nat.le_of_ble_eq_true rfl) rfl ?_
  refine ev_lload_n (i := 0) dX12_gcd_0 rfl rfl ?_
  refine ev_lconst (v := 0) dX12_gcd_1 rfl ?_
  refine ev_lcmp dX12_gcd_2 ?_
  refine ev_if_ge (tgt := 11) dX12_gcd_3 (by decide) (fun h3 => ?_) (fun h3 => ?_)
  · skip
    refine ev_lload_n (i := 0) dX12_gcd_11 rfl rfl ?_
    refine ev_topl (x2 := lI ((x.natAbs : Nat) : Int)) (by first | exact congrArg lI (lI_abs1 hx h3) | (rw [lI_neg]; exact congrArg lI (lI_abs2 hx h3))) ?_
    refine ev_lstore dX12_gcd_12 (Nat.le_of_ble_eq_true rfl) rfl ?_
    refine ev_lload_n (i := 2) dX12_gcd_14 rfl rfl ?_
    refine ev_lstore dX12_gcd_15 (Nat.le_of_ble_eq_true rfl) rfl ?_
    exact l_gcd B x.natAbs _ hx hB
  · skip
    refine ev_lload_n (i := 0) dX12_gcd_6 rfl rfl ?_
    refine ev_lneg dX12_gcd_7 ?_
    refine ev_goto (tgt := 12) dX12_gcd_8 (by decide) ?_
    refine ev_topl (x2 := lI ((x.natAbs : Nat) : Int)) (by first | exact congrArg lI (lI_abs1 hx h3) | (rw [lI_neg]; exact congrArg lI (lI_abs2 hx h3))) ?_
    refine ev_lstore dX12_gcd_12 (Nat.le_of_ble_eq_true rfl) rfl ?_
    refine ev_lload_n (i := 2) dX12_gcd_14 rfl rfl ?_
    refine ev_lstore dX12_gcd_15 (Nat.le_of_ble_eq_true rfl) rfl ?_
    exact l_gcd B x.natAbs _ hx hB
theorem m_adds {G : ev_G} {n : Nat} {M : ev_M} {tn c0 c1 c2 sh : Nat} {tx s kp bw ar tu : Nat → Int32} {k0 k1 : Bool} {tr : Int64} {one gof dof act : Nat → Int32} {sp of' ba go dr ki : Int32} {A : Int × Nat} {z : Int} {B : Nat} (hX : md_X M tn c0 c1 c2 sh tx s kp bw ar tu k0 k1 tr one gof dof act sp of' ba go dr ki (lI A.1) (lI (A.2 : Int))) (hok : pa_ok A z B) : ev_Cal G mX12_adds 2 0 0 [.ref 129, .long (lI z), .long (lI (B : Int))] n M (fun r M1 => r = none ∧ md_X M1 tn c0 c1 c2 sh tx s kp bw ar tu k0 k1 tr one gof dof act sp of' ba go dr ki (lI (pa_add A z B).1) (lI ((pa_add A z B).2 : Int)) ∧ ∀ k, k < 129 → M1 k = M k) := by
  refine ev_Cal_of (L := [some (.ref 129), some (.long (lI z)), none, some (.long (lI (B : Int))), none, none, none]) (by decide +kernel) (Nat.le_of_ble_eq_true rfl) rfl ?_
  obtain ⟨⟨hd0, hd2⟩, ⟨hB0, hB2⟩, hU, hD⟩ := hok
  have hg0 : 0 < Nat.gcd A.2 B := Nat.gcd_pos_of_pos_left _ hd0
  have hg1 : Nat.gcd A.2 B ≤ B := Nat.le_of_dvd hB0 (Nat.gcd_dvd_right _ _)
  have hD0 := pa_D0 hd0 hB0
  have hh0 : 0 < pa_h A.1 A.2 z B := Nat.gcd_pos_of_pos_right _ hD0
  have hh1 : pa_h A.1 A.2 z B ≤ pa_D A.2 B := Nat.le_of_dvd hD0 (Nat.gcd_dvd_right _ _)
  have hg2 : Nat.gcd A.2 B < 2 ^ 62 := by omega
  have hh2 : pa_h A.1 A.2 z B < 2 ^ 62 := by omega
  have hX0 := hX
  obtain ⟨th, nx, tk, pl, va, fa, d0, d1, d2, dS, dB, dA, ik, h129, h130, h131, h132, h133, hk0, hk1, h134, h135, h136, h137, h138, h139, h140, h141, h142, h143, hsh⟩ := hX
  refine ev_aload_n (i := 0) dX12_adds_0 rfl rfl ?_
  refine ev_getf dX12_adds_1 flX12_207 (by assumption) (by rfl) ?_
  refine ev_lload_n (i := 3) dX12_adds_4 rfl rfl ?_
  refine ev_c2 kX12_adds_5 (m_gcd (x := (A.2 : Int)) (B := B) (by omega) (by omega)) trivial (by decide) (by decide) (Nat.le_of_ble_eq_true rfl) ?_
  refine ev_lstore dX12_adds_8 (Nat.le_of_ble_eq_true rfl) rfl ?_
  refine ev_aload_n (i := 0) dX12_adds_10 rfl rfl ?_
  refine ev_aload_n (i := 0) dX12_adds_11 rfl rfl ?_
  refine ev_getf dX12_adds_12 flX12_215 (by assumption) (by rfl) ?_
  refine ev_lload_n (i := 3) dX12_adds_15 rfl rfl ?_
  refine ev_lload dX12_adds_16 rfl ?_
  refine ev_ldiv dX12_adds_18 (lI_ne0 hg0 hg2) ?_
  refine ev_topl (lI_divN hB2 hg0 hg2) ?_
  refine ev_lmul dX12_adds_19 ?_
  refine ev_lload_n (i := 1) dX12_adds_20 rfl rfl ?_
  refine ev_aload_n (i := 0) dX12_adds_21 rfl rfl ?_
  refine ev_getf dX12_adds_22 flX12_207 (by assumption) (by rfl) ?_
  refine ev_lload dX12_adds_25 rfl ?_
  refine ev_ldiv dX12_adds_27 (lI_ne0 hg0 hg2) ?_
  refine ev_topl (lI_divN hd2 hg0 hg2) ?_
  refine ev_lmul dX12_adds_28 ?_
  refine ev_ladd dX12_adds_29 ?_
  refine ev_topl (x2 := lI (pa_U A.1 A.2 z B)) (by rw [lI_mul, lI_mul, lI_add]; rfl) ?_
  refine md_stup hX0 dX12_adds_30 rfl (fun M2 hX hf2 => ?_)
  have hX0 := hX
  obtain ⟨th, nx, tk, pl, va, fa, d0, d1, d2, dS, dB, dA, ik, h129, h130, h131, h132, h133, hk0, hk1, h134, h135, h136, h137, h138, h139, h140, h141, h142, h143, hsh⟩ := hX
  refine ev_aload_n (i := 0) dX12_adds_33 rfl rfl ?_
  refine ev_aload_n (i := 0) dX12_adds_34 rfl rfl ?_
  refine ev_getf dX12_adds_35 flX12_207 (by assumption) (by rfl) ?_
  refine ev_lload dX12_adds_38 rfl ?_
  refine ev_ldiv dX12_adds_40 (lI_ne0 hg0 hg2) ?_
  refine ev_topl (lI_divN hd2 hg0 hg2) ?_
  refine ev_lload_n (i := 3) dX12_adds_41 rfl rfl ?_
  refine ev_lmul dX12_adds_42 ?_
  refine ev_topl (x2 := lI ((pa_D A.2 B : Nat) : Int)) (by rw [lI_mul, ← Int.natCast_mul]; rfl) ?_
  refine md_stdn hX0 dX12_adds_43 rfl (fun M3 hX hf3 => ?_)
  have hX0 := hX
  obtain ⟨th, nx, tk, pl, va, fa, d0, d1, d2, dS, dB, dA, ik, h129, h130, h131, h132, h133, hk0, hk1, h134, h135, h136, h137, h138, h139, h140, h141, h142, h143, hsh⟩ := hX
  refine ev_aload_n (i := 0) dX12_adds_46 rfl rfl ?_
  refine ev_getf dX12_adds_47 flX12_215 (by assumption) (by rfl) ?_
  refine ev_aload_n (i := 0) dX12_adds_50 rfl rfl ?_
  refine ev_getf dX12_adds_51 flX12_207 (by assumption) (by rfl) ?_
  refine ev_c2 kX12_adds_54 (m_gcd (x := pa_U A.1 A.2 z B) (B := pa_D A.2 B) hU hD) trivial (by decide) (by decide) (Nat.le_of_ble_eq_true rfl) ?_
  refine ev_lstore dX12_adds_57 (Nat.le_of_ble_eq_true rfl) rfl ?_
  refine ev_aload_n (i := 0) dX12_adds_59 rfl rfl ?_
  refine ev_dup dX12_adds_60 rfl ?_
  refine ev_getf dX12_adds_61 flX12_215 (by assumption) (by rfl) ?_
  refine ev_lload dX12_adds_64 rfl ?_
  refine ev_ldiv dX12_adds_66 (lI_ne0 hh0 hh2) ?_
  refine ev_topl (lI_div hU hh0 hh2) ?_
  refine md_stup hX0 dX12_adds_67 rfl (fun M4 hX hf4 => ?_)
  have hX0 := hX
  obtain ⟨th, nx, tk, pl, va, fa, d0, d1, d2, dS, dB, dA, ik, h129, h130, h131, h132, h133, hk0, hk1, h134, h135, h136, h137, h138, h139, h140, h141, h142, h143, hsh⟩ := hX
  refine ev_aload_n (i := 0) dX12_adds_70 rfl rfl ?_
  refine ev_dup dX12_adds_71 rfl ?_
  refine ev_getf dX12_adds_72 flX12_207 (by assumption) (by rfl) ?_
  refine ev_lload dX12_adds_75 rfl ?_
  refine ev_ldiv dX12_adds_77 (lI_ne0 hh0 hh2) ?_
  refine ev_topl (lI_divN hD hh0 hh2) ?_
  refine md_stdn hX0 dX12_adds_78 rfl (fun M5 hX hf5 => ?_)
  have hX0 := hX
  obtain ⟨th, nx, tk, pl, va, fa, d0, d1, d2, dS, dB, dA, ik, h129, h130, h131, h132, h133, hk0, hk1, h134, h135, h136, h137, h138, h139, h140, h141, h142, h143, hsh⟩ := hX
  exact ev_retv dX12_adds_81 rfl (⟨rfl, hX0, fun k hk => (hf5 k hk).trans ((hf4 k hk).trans ((hf3 k hk).trans (hf2 k hk)))⟩)
/-- how the shots are told apart: by stick, archer, bow -/
def pt_at (w : Nat) : Nat := if w = 0 then 0 else if w = 1 then 2 else 1
def pt_kf (s : Nat → Int32) (a : Nat) : Nat → Int32 := fun k => s (86 + 5 * k + a)
def pt_xs (s : Nat → Int32) : Nat → Int32 := fun k => s (86 + 5 * k + 3)
def pt_S (s : Nat → Int32) (sh a g : Nat) : Int := pt_s (pt_kf s a) (pt_xs s) g sh
def pt_C (s : Nat → Int32) (sh a g : Nat) : Nat := pt_c (pt_kf s a) g sh
theorem l_parts_k {G : ev_G} {n : Nat} {tn c0 c1 c2 sh : Nat} {tx s kp bw ar tu : Nat → Int32} {k0 k1 : Bool} {tr : Int64} {one gof dof act : Nat → Int32} {sp of' ba go dr ki : Int32} {up dn : Int64} {M1 : ev_M} (hX : md_X M1 tn c0 c1 c2 sh tx s kp bw ar tu k0 k1 tr one gof dof act sp of' ba go dr ki up dn) (hsz : sh ≤ 60) {Post : Option Value → ev_M → Prop} {w : Int32} {a g : Nat} (ha : a ≤ 2) (K : ev_E G mX12_parts 3 0 0 n M1 108 [some (.ref 129), some (.int w), some (.int (nI a)), some (.int (nI g)), some (.long (lI (pt_s (pt_kf s a) (pt_xs s) g sh))), none, some (.long (lI ((pt_c (pt_kf s a) g sh : Nat) : Int))), none, some (.int (nI sh))] [] Post) : ∀ (m k : Nat), k + m = sh → ev_E G mX12_parts 3 0 0 n M1 46 [some (.ref 129), some (.int w), some (.int (nI a)), some (.int (nI g)), some (.long (lI (pt_s (pt_kf s a) (pt_xs s) g k))), none, some (.long (lI ((pt_c (pt_kf s a) g k : Nat) : Int))), none, some (.int (nI k))] [] Post := by
  obtain ⟨th, nx, tk, pl, va, fa, d0, d1, d2, dS, dB, dA, ik, h129, h130, h131, h132, h133, hk0, hk1, h134, h135, h136, h137, h138, h139, h140, h141, h142, h143, hsh⟩ := hX
  intro m
  induction m with
  | zero =>
    intro k hk
    refine ev_iload dX12_parts_46 rfl ?_
    refine ev_aload_n (i := 0) dX12_parts_48 rfl rfl ?_
    refine ev_getf dX12_parts_49 flX12_13 (by assumption) (by rfl) ?_
    refine ev_bipush (v := 85) dX12_parts_52 cnb_85 ?_
    refine ev_iald (j := 85) dX12_parts_54 (by assumption) (ev_ixc (j := 85) rfl (by decide)) (by decide) ?_
    refine ev_topi hsh ?_
    refine ev_icmp_ge (tgt := 108) dX12_parts_55 (by decide) (fun h55 => ?_) (fun h55 => False.elim (Int32.not_le.mpr h55 (nI_le (a := sh) (b := k) (by omega) (by omega))))
    obtain rfl : k = sh := by omega
    exact K
  | succ m ih =>
    intro k hk
    refine ev_iload dX12_parts_46 rfl ?_
    refine ev_aload_n (i := 0) dX12_parts_48 rfl rfl ?_
    refine ev_getf dX12_parts_49 flX12_13 (by assumption) (by rfl) ?_
    refine ev_bipush (v := 85) dX12_parts_52 cnb_85 ?_
    refine ev_iald (j := 85) dX12_parts_54 (by assumption) (ev_ixc (j := 85) rfl (by decide)) (by decide) ?_
    refine ev_topi hsh ?_
    refine ev_icmp_ge (tgt := 108) dX12_parts_55 (by decide) (fun h55 => False.elim (nI_ge (a := k) (b := sh) (by omega) (by omega) h55)) (fun h55 => ?_)
    refine ev_aload_n (i := 0) dX12_parts_58 rfl rfl ?_
    refine ev_getf dX12_parts_59 flX12_13 (by assumption) (by rfl) ?_
    refine ev_bipush (v := 86) dX12_parts_62 cnb_86 ?_
    refine ev_iconst (v := 5) dX12_parts_64 cni_5 ?_
    refine ev_iload dX12_parts_65 rfl ?_
    refine ev_imul dX12_parts_67 ?_
    refine ev_iadd dX12_parts_68 ?_
    refine ev_iload_n (i := 2) dX12_parts_69 rfl rfl ?_
    refine ev_iadd dX12_parts_70 ?_
    refine ev_iald (j := 86 + 5 * k + a) dX12_parts_71 (by assumption) (ev_ixc (by show nI 86 + nI 5 * nI k + nI a = _; rw [nI_mul, nI_add, nI_add]) (by omega)) (by omega) ?_
    refine ev_iload_n (i := 3) dX12_parts_72 rfl rfl ?_
    refine ev_icmp_ne (tgt := 102) dX12_parts_73 (by decide) (fun h73 => ?_) (fun h73 => ?_)
    · skip
      refine ev_iinc (v := nI (k + 1)) dX12_parts_102 rfl (nI_1 k) (Nat.le_of_ble_eq_true rfl) rfl ?_
      refine ev_goto (tgt := 46) dX12_parts_105 (by decide) ?_
      exact ev_loc (L2 := [some (.ref 129), some (.int w), some (.int (nI a)), some (.int (nI g)), some (.long (lI (pt_s (pt_kf s a) (pt_xs s) g (k + 1)))), none, some (.long (lI ((pt_c (pt_kf s a) g (k + 1) : Nat) : Int))), none, some (.int (nI (k + 1)))]) (by rw [show pt_s (pt_kf s a) (pt_xs s) g (k + 1) = pt_s (pt_kf s a) (pt_xs s) g k from if_neg h73, show pt_c (pt_kf s a) g (k + 1) = pt_c (pt_kf s a) g k from if_neg h73]; rfl) (ih (k + 1) (by omega))
    · skip
      refine ev_lload dX12_parts_76 rfl ?_
      refine ev_aload_n (i := 0) dX12_parts_78 rfl rfl ?_
      refine ev_getf dX12_parts_79 flX12_13 (by assumption) (by rfl) ?_
      refine ev_bipush (v := 86) dX12_parts_82 cnb_86 ?_
      refine ev_iconst (v := 5) dX12_parts_84 cni_5 ?_
      refine ev_iload dX12_parts_85 rfl ?_
      refine ev_imul dX12_parts_87 ?_
      refine ev_iadd dX12_parts_88 ?_
      refine ev_iconst (v := 3) dX12_parts_89 cni_3 ?_
      refine ev_iadd dX12_parts_90 ?_
      refine ev_iald (j := 86 + 5 * k + 3) dX12_parts_91 (by assumption) (ev_ixc (by show nI 86 + nI 5 * nI k + nI 3 = _; rw [nI_mul, nI_add, nI_add]) (by omega)) (by omega) ?_
      refine ev_i2l dX12_parts_92 ?_
      refine ev_topl lI_i ?_
      refine ev_ladd dX12_parts_93 ?_
      refine ev_topl (lI_add _ _) ?_
      refine ev_lstore dX12_parts_94 (Nat.le_of_ble_eq_true rfl) rfl ?_
      refine ev_lload dX12_parts_96 rfl ?_
      refine ev_lconst (v := 1) dX12_parts_98 rfl ?_
      refine ev_ladd dX12_parts_99 ?_
      refine ev_topl (lI_1 _) ?_
      refine ev_lstore dX12_parts_100 (Nat.le_of_ble_eq_true rfl) rfl ?_
      refine ev_iinc (v := nI (k + 1)) dX12_parts_102 rfl (nI_1 k) (Nat.le_of_ble_eq_true rfl) rfl ?_
      refine ev_goto (tgt := 46) dX12_parts_105 (by decide) ?_
      exact ev_loc (L2 := [some (.ref 129), some (.int w), some (.int (nI a)), some (.int (nI g)), some (.long (lI (pt_s (pt_kf s a) (pt_xs s) g (k + 1)))), none, some (.long (lI ((pt_c (pt_kf s a) g (k + 1) : Nat) : Int))), none, some (.int (nI (k + 1)))]) (by rw [show pt_s (pt_kf s a) (pt_xs s) g (k + 1) = pt_s (pt_kf s a) (pt_xs s) g k + (pt_xs s k).toInt from if_pos h73, show pt_c (pt_kf s a) g (k + 1) = pt_c (pt_kf s a) g k + 1 from if_pos h73]; rfl) (ih (k + 1) (by omega))
theorem l_parts_g {G : ev_G} {n : Nat} {M : ev_M} {tn c0 c1 c2 sh : Nat} {tx s kp bw ar tu : Nat → Int32} {k0 k1 : Bool} {tr : Int64} {one gof dof act : Nat → Int32} {sp of' ba go dr ki : Int32} (hsz : sh ≤ 60) {w : Int32} {a : Nat} (ha : a ≤ 2) (hb : ∀ g, g < 12 → ¬ pt_C s sh a g = 0 → pa_ok (pt_F (pt_S s sh a) (pt_C s sh a) g) (pt_S s sh a g * pt_S s sh a g) (pt_C s sh a g)) : ∀ (m g : Nat) (M1 : ev_M) (z4 z5 z6 z7 z8 : Option Value), g + m = 12 → md_X M1 tn c0 c1 c2 sh tx s kp bw ar tu k0 k1 tr one gof dof act sp of' ba go dr ki (lI (pt_F (pt_S s sh a) (pt_C s sh a) g).1) (lI ((pt_F (pt_S s sh a) (pt_C s sh a) g).2 : Int)) → (∀ k, k < 129 → M1 k = M k) → ev_E G mX12_parts 3 0 0 n M1 31 [some (.ref 129), some (.int w), some (.int (nI a)), some (.int (nI g)), z4, z5, z6, z7, z8] [] (fun r M2 => r = none ∧ md_X M2 tn c0 c1 c2 sh tx s kp bw ar tu k0 k1 tr one gof dof act sp of' ba go dr ki (lI (pt_F (pt_S s sh a) (pt_C s sh a) 12).1) (lI ((pt_F (pt_S s sh a) (pt_C s sh a) 12).2 : Int)) ∧ ∀ k, k < 129 → M2 k = M k) := by
  intro m
  induction m with
  | zero =>
    intro g M1 z4 z5 z6 z7 z8 hg hX0 hf1
    have hX := hX0
    obtain ⟨th, nx, tk, pl, va, fa, d0, d1, d2, dS, dB, dA, ik, h129, h130, h131, h132, h133, hk0, hk1, h134, h135, h136, h137, h138, h139, h140, h141, h142, h143, hsh⟩ := hX
    refine ev_iload_n (i := 3) dX12_parts_31 rfl rfl ?_
    refine ev_bipush (v := 12) dX12_parts_32 cnb_12 ?_
    refine ev_icmp_ge (tgt := 132) dX12_parts_34 (by decide) (fun h34 => ?_) (fun h34 => False.elim (Int32.not_le.mpr h34 (nI_le (a := 12) (b := g) (by omega) (by omega))))
    exact ev_retv dX12_parts_132 rfl (⟨rfl, by rw [show g = 12 by omega] at hX0; exact hX0, hf1⟩)
  | succ m ih =>
    intro g M1 z4 z5 z6 z7 z8 hg hX0 hf1
    have hX := hX0
    obtain ⟨th, nx, tk, pl, va, fa, d0, d1, d2, dS, dB, dA, ik, h129, h130, h131, h132, h133, hk0, hk1, h134, h135, h136, h137, h138, h139, h140, h141, h142, h143, hsh⟩ := hX
    refine ev_iload_n (i := 3) dX12_parts_31 rfl rfl ?_
    refine ev_bipush (v := 12) dX12_parts_32 cnb_12 ?_
    refine ev_icmp_ge (tgt := 132) dX12_parts_34 (by decide) (fun h34 => False.elim (nI_ge (a := g) (b := 12) (by omega) (by decide) h34)) (fun h34 => ?_)
    refine ev_lconst (v := 0) dX12_parts_37 rfl ?_
    refine ev_lstore dX12_parts_38 (Nat.le_of_ble_eq_true rfl) rfl ?_
    refine ev_lconst (v := 0) dX12_parts_40 rfl ?_
    refine ev_lstore dX12_parts_41 (Nat.le_of_ble_eq_true rfl) rfl ?_
    refine ev_iconst (v := 0) dX12_parts_43 cni_0 ?_
    refine ev_istore dX12_parts_44 (Nat.le_of_ble_eq_true rfl) rfl ?_
    refine l_parts_k (a := a) (g := g) hX0 hsz ha ?_ sh 0 (Nat.zero_add _)
    refine ev_lload dX12_parts_108 rfl ?_
    refine ev_lconst (v := 0) dX12_parts_110 rfl ?_
    refine ev_lcmp dX12_parts_111 ?_
    refine ev_if_le (tgt := 126) dX12_parts_112 (by decide) (fun h112 => ?_) (fun h112 => ?_)
    · skip
      have hc : pt_C s sh a g ≤ 60 := Nat.le_trans (pt_c_le _ _ _) hsz
      have h0 : pt_C s sh a g = 0 := by have := (lI_gt (by show ((pt_C s sh a g : Nat) : Int).natAbs < _; omega)).mp h112; show pt_c _ _ _ = 0; omega
      refine ev_iinc (v := nI (g + 1)) dX12_parts_126 rfl (nI_1 g) (Nat.le_of_ble_eq_true rfl) rfl ?_
      refine ev_goto (tgt := 31) dX12_parts_129 (by decide) ?_
      exact ih (g + 1) M1 _ _ _ _ _ (by omega) (by rw [pt_F_0 h0]; exact hX0) hf1
    · skip
      have hc : pt_C s sh a g ≤ 60 := Nat.le_trans (pt_c_le _ _ _) hsz
      have h0 : ¬ pt_C s sh a g = 0 := fun e => Int32.not_le.mpr h112 ((lI_gt (by show ((pt_C s sh a g : Nat) : Int).natAbs < _; omega)).mpr (by show ((pt_C s sh a g : Nat) : Int) ≤ 0; omega))
      refine ev_aload_n (i := 0) dX12_parts_115 rfl rfl ?_
      refine ev_lload dX12_parts_116 rfl ?_
      refine ev_lload dX12_parts_118 rfl ?_
      refine ev_lmul dX12_parts_120 ?_
      refine ev_topl (lI_mul _ _) ?_
      refine ev_lload dX12_parts_121 rfl ?_
      refine ev_d3 kX12_parts_123 (m_adds (z := pt_S s sh a g * pt_S s sh a g) (B := pt_C s sh a g) hX0 (hb g (by omega) h0)) (ev_rv_of (by assumption) rfl rfl) (by decide) (by decide) (Nat.le_of_ble_eq_true rfl) ?_
      intro r M2 hr
      obtain ⟨rfl, hX, hf2⟩ := hr
      have hX0 := hX
      obtain ⟨th, nx, tk, pl, va, fa, d0, d1, d2, dS, dB, dA, ik, h129, h130, h131, h132, h133, hk0, hk1, h134, h135, h136, h137, h138, h139, h140, h141, h142, h143, hsh⟩ := hX
      refine ev_iinc (v := nI (g + 1)) dX12_parts_126 rfl (nI_1 g) (Nat.le_of_ble_eq_true rfl) rfl ?_
      refine ev_goto (tgt := 31) dX12_parts_129 (by decide) ?_
      exact ih (g + 1) M2 _ _ _ _ _ (by omega) (by rw [pt_F_1 h0]; exact hX0) (fun k hk => (hf2 k hk).trans (hf1 k hk))
theorem m_parts_0 {G : ev_G} {n : Nat} {M : ev_M} {tn c0 c1 c2 sh : Nat} {tx s kp bw ar tu : Nat → Int32} {k0 k1 : Bool} {tr : Int64} {one gof dof act : Nat → Int32} {sp of' ba go dr ki : Int32} {up dn : Int64} (hX : md_X M tn c0 c1 c2 sh tx s kp bw ar tu k0 k1 tr one gof dof act sp of' ba go dr ki up dn) (hsz : sh ≤ 60) (hb : ∀ g, g < 12 → ¬ pt_C s sh 0 g = 0 → pa_ok (pt_F (pt_S s sh 0) (pt_C s sh 0) g) (pt_S s sh 0 g * pt_S s sh 0 g) (pt_C s sh 0 g))  : ev_Cal G mX12_parts 3 0 0 [.ref 129, .int 0] n M (fun r M2 => r = none ∧ md_X M2 tn c0 c1 c2 sh tx s kp bw ar tu k0 k1 tr one gof dof act sp of' ba go dr ki (lI (pt_F (pt_S s sh 0) (pt_C s sh 0) 12).1) (lI ((pt_F (pt_S s sh 0) (pt_C s sh 0) 12).2 : Int)) ∧ ∀ k, k < 129 → M2 k = M k) := by
  refine ev_Cal_of (L := [some (.ref 129), some (.int 0), none, none, none, none, none, none, none]) (by decide +kernel) (Nat.le_of_ble_eq_true rfl) rfl ?_
  have hX0 := hX
  obtain ⟨th, nx, tk, pl, va, fa, d0, d1, d2, dS, dB, dA, ik, h129, h130, h131, h132, h133, hk0, hk1, h134, h135, h136, h137, h138, h139, h140, h141, h142, h143, hsh⟩ := hX
  refine ev_aload_n (i := 0) dX12_parts_0 rfl rfl ?_
  refine ev_lconst (v := 0) dX12_parts_1 rfl ?_
  refine md_stup hX0 dX12_parts_2 rfl (fun M2 hX hf2 => ?_)
  have hX0 := hX
  obtain ⟨th, nx, tk, pl, va, fa, d0, d1, d2, dS, dB, dA, ik, h129, h130, h131, h132, h133, hk0, hk1, h134, h135, h136, h137, h138, h139, h140, h141, h142, h143, hsh⟩ := hX
  refine ev_aload_n (i := 0) dX12_parts_5 rfl rfl ?_
  refine ev_lconst (v := 1) dX12_parts_6 rfl ?_
  refine md_stdn hX0 dX12_parts_7 rfl (fun M3 hX hf3 => ?_)
  have hX0 := hX
  obtain ⟨th, nx, tk, pl, va, fa, d0, d1, d2, dS, dB, dA, ik, h129, h130, h131, h132, h133, hk0, hk1, h134, h135, h136, h137, h138, h139, h140, h141, h142, h143, hsh⟩ := hX
  refine ev_iload_n (i := 1) dX12_parts_10 rfl rfl ?_
  refine ev_if_ne (tgt := 18) dX12_parts_11 (by decide) (fun h11 => False.elim (absurd rfl h11)) (fun h11 => ?_)
  refine ev_iconst (v := 0) dX12_parts_14 cni_0 ?_
  refine ev_goto (tgt := 28) dX12_parts_15 (by decide) ?_
  refine ev_istore_n (i := 2) dX12_parts_28 rfl (Nat.le_of_ble_eq_true rfl) rfl ?_
  refine ev_iconst (v := 0) dX12_parts_29 cni_0 ?_
  refine ev_istore_n (i := 3) dX12_parts_30 rfl (Nat.le_of_ble_eq_true rfl) rfl ?_
  refine ev_post (fun r M2 q => ⟨q.1, q.2.1, fun k hk => (q.2.2 k hk).trans ((hf3 k hk).trans (hf2 k hk))⟩) (l_parts_g (a := 0) hsz (by decide) hb 12 0 M3 _ _ _ _ _ rfl hX0 (fun _ _ => rfl))
theorem m_parts_1 {G : ev_G} {n : Nat} {M : ev_M} {tn c0 c1 c2 sh : Nat} {tx s kp bw ar tu : Nat → Int32} {k0 k1 : Bool} {tr : Int64} {one gof dof act : Nat → Int32} {sp of' ba go dr ki : Int32} {up dn : Int64} (hX : md_X M tn c0 c1 c2 sh tx s kp bw ar tu k0 k1 tr one gof dof act sp of' ba go dr ki up dn) (hsz : sh ≤ 60) (hb : ∀ g, g < 12 → ¬ pt_C s sh 2 g = 0 → pa_ok (pt_F (pt_S s sh 2) (pt_C s sh 2) g) (pt_S s sh 2 g * pt_S s sh 2 g) (pt_C s sh 2 g))  : ev_Cal G mX12_parts 3 0 0 [.ref 129, .int 1] n M (fun r M2 => r = none ∧ md_X M2 tn c0 c1 c2 sh tx s kp bw ar tu k0 k1 tr one gof dof act sp of' ba go dr ki (lI (pt_F (pt_S s sh 2) (pt_C s sh 2) 12).1) (lI ((pt_F (pt_S s sh 2) (pt_C s sh 2) 12).2 : Int)) ∧ ∀ k, k < 129 → M2 k = M k) := by
  refine ev_Cal_of (L := [some (.ref 129), some (.int 1), none, none, none, none, none, none, none]) (by decide +kernel) (Nat.le_of_ble_eq_true rfl) rfl ?_
  have hX0 := hX
  obtain ⟨th, nx, tk, pl, va, fa, d0, d1, d2, dS, dB, dA, ik, h129, h130, h131, h132, h133, hk0, hk1, h134, h135, h136, h137, h138, h139, h140, h141, h142, h143, hsh⟩ := hX
  refine ev_aload_n (i := 0) dX12_parts_0 rfl rfl ?_
  refine ev_lconst (v := 0) dX12_parts_1 rfl ?_
  refine md_stup hX0 dX12_parts_2 rfl (fun M2 hX hf2 => ?_)
  have hX0 := hX
  obtain ⟨th, nx, tk, pl, va, fa, d0, d1, d2, dS, dB, dA, ik, h129, h130, h131, h132, h133, hk0, hk1, h134, h135, h136, h137, h138, h139, h140, h141, h142, h143, hsh⟩ := hX
  refine ev_aload_n (i := 0) dX12_parts_5 rfl rfl ?_
  refine ev_lconst (v := 1) dX12_parts_6 rfl ?_
  refine md_stdn hX0 dX12_parts_7 rfl (fun M3 hX hf3 => ?_)
  have hX0 := hX
  obtain ⟨th, nx, tk, pl, va, fa, d0, d1, d2, dS, dB, dA, ik, h129, h130, h131, h132, h133, hk0, hk1, h134, h135, h136, h137, h138, h139, h140, h141, h142, h143, hsh⟩ := hX
  refine ev_iload_n (i := 1) dX12_parts_10 rfl rfl ?_
  refine ev_if_ne (tgt := 18) dX12_parts_11 (by decide) (fun h11 => ?_) (fun h11 => False.elim (absurd h11 (by decide)))
  refine ev_iload_n (i := 1) dX12_parts_18 rfl rfl ?_
  refine ev_iconst (v := 1) dX12_parts_19 cni_1 ?_
  refine ev_icmp_ne (tgt := 27) dX12_parts_20 (by decide) (fun h20 => False.elim (absurd rfl h20)) (fun h20 => ?_)
  refine ev_iconst (v := 2) dX12_parts_23 cni_2 ?_
  refine ev_goto (tgt := 28) dX12_parts_24 (by decide) ?_
  refine ev_istore_n (i := 2) dX12_parts_28 rfl (Nat.le_of_ble_eq_true rfl) rfl ?_
  refine ev_iconst (v := 0) dX12_parts_29 cni_0 ?_
  refine ev_istore_n (i := 3) dX12_parts_30 rfl (Nat.le_of_ble_eq_true rfl) rfl ?_
  refine ev_post (fun r M2 q => ⟨q.1, q.2.1, fun k hk => (q.2.2 k hk).trans ((hf3 k hk).trans (hf2 k hk))⟩) (l_parts_g (a := 2) hsz (by decide) hb 12 0 M3 _ _ _ _ _ rfl hX0 (fun _ _ => rfl))
theorem m_parts_2 {G : ev_G} {n : Nat} {M : ev_M} {tn c0 c1 c2 sh : Nat} {tx s kp bw ar tu : Nat → Int32} {k0 k1 : Bool} {tr : Int64} {one gof dof act : Nat → Int32} {sp of' ba go dr ki : Int32} {up dn : Int64} (hX : md_X M tn c0 c1 c2 sh tx s kp bw ar tu k0 k1 tr one gof dof act sp of' ba go dr ki up dn) (hsz : sh ≤ 60) (hb : ∀ g, g < 12 → ¬ pt_C s sh 1 g = 0 → pa_ok (pt_F (pt_S s sh 1) (pt_C s sh 1) g) (pt_S s sh 1 g * pt_S s sh 1 g) (pt_C s sh 1 g))  : ev_Cal G mX12_parts 3 0 0 [.ref 129, .int 2] n M (fun r M2 => r = none ∧ md_X M2 tn c0 c1 c2 sh tx s kp bw ar tu k0 k1 tr one gof dof act sp of' ba go dr ki (lI (pt_F (pt_S s sh 1) (pt_C s sh 1) 12).1) (lI ((pt_F (pt_S s sh 1) (pt_C s sh 1) 12).2 : Int)) ∧ ∀ k, k < 129 → M2 k = M k) := by
  refine ev_Cal_of (L := [some (.ref 129), some (.int 2), none, none, none, none, none, none, none]) (by decide +kernel) (Nat.le_of_ble_eq_true rfl) rfl ?_
  have hX0 := hX
  obtain ⟨th, nx, tk, pl, va, fa, d0, d1, d2, dS, dB, dA, ik, h129, h130, h131, h132, h133, hk0, hk1, h134, h135, h136, h137, h138, h139, h140, h141, h142, h143, hsh⟩ := hX
  refine ev_aload_n (i := 0) dX12_parts_0 rfl rfl ?_
  refine ev_lconst (v := 0) dX12_parts_1 rfl ?_
  refine md_stup hX0 dX12_parts_2 rfl (fun M2 hX hf2 => ?_)
  have hX0 := hX
  obtain ⟨th, nx, tk, pl, va, fa, d0, d1, d2, dS, dB, dA, ik, h129, h130, h131, h132, h133, hk0, hk1, h134, h135, h136, h137, h138, h139, h140, h141, h142, h143, hsh⟩ := hX
  refine ev_aload_n (i := 0) dX12_parts_5 rfl rfl ?_
  refine ev_lconst (v := 1) dX12_parts_6 rfl ?_
  refine md_stdn hX0 dX12_parts_7 rfl (fun M3 hX hf3 => ?_)
  have hX0 := hX
  obtain ⟨th, nx, tk, pl, va, fa, d0, d1, d2, dS, dB, dA, ik, h129, h130, h131, h132, h133, hk0, hk1, h134, h135, h136, h137, h138, h139, h140, h141, h142, h143, hsh⟩ := hX
  refine ev_iload_n (i := 1) dX12_parts_10 rfl rfl ?_
  refine ev_if_ne (tgt := 18) dX12_parts_11 (by decide) (fun h11 => ?_) (fun h11 => False.elim (absurd h11 (by decide)))
  refine ev_iload_n (i := 1) dX12_parts_18 rfl rfl ?_
  refine ev_iconst (v := 1) dX12_parts_19 cni_1 ?_
  refine ev_icmp_ne (tgt := 27) dX12_parts_20 (by decide) (fun h20 => ?_) (fun h20 => False.elim (absurd h20 (by decide)))
  refine ev_iconst (v := 1) dX12_parts_27 cni_1 ?_
  refine ev_istore_n (i := 2) dX12_parts_28 rfl (Nat.le_of_ble_eq_true rfl) rfl ?_
  refine ev_iconst (v := 0) dX12_parts_29 cni_0 ?_
  refine ev_istore_n (i := 3) dX12_parts_30 rfl (Nat.le_of_ble_eq_true rfl) rfl ?_
  refine ev_post (fun r M2 q => ⟨q.1, q.2.1, fun k hk => (q.2.2 k hk).trans ((hf3 k hk).trans (hf2 k hk))⟩) (l_parts_g (a := 1) hsz (by decide) hb 12 0 M3 _ _ _ _ _ rfl hX0 (fun _ _ => rfl))
/-- which of the three tells most -/
def pd_gt (F : Nat → Int × Nat) (w v : Nat) : Bool := decide (0 < (pa_add (F w) (-(F v).1) (F v).2).1)
def pd_1 (F : Nat → Int × Nat) : Nat := if pd_gt F 1 0 = true then 1 else 0
def pd_best (F : Nat → Int × Nat) : Nat := if pd_gt F 2 (pd_1 F) = true then 2 else pd_1 F
def pt_W (s : Nat → Int32) (sh w : Nat) : Int × Nat := pt_F (pt_S s sh (pt_at w)) (pt_C s sh (pt_at w)) 12
theorem l_parted_1 {G : ev_G} {n : Nat} {M : ev_M} {tn c0 c1 c2 sh : Nat} {tx s kp bw ar tu : Nat → Int32} {k0 k1 : Bool} {tr : Int64} (hsz : sh ≤ 60) (hb : ∀ w, w < 3 → ∀ g, g < 12 → ¬ pt_C s sh (pt_at w) g = 0 → pa_ok (pt_F (pt_S s sh (pt_at w)) (pt_C s sh (pt_at w)) g) (pt_S s sh (pt_at w) g * pt_S s sh (pt_at w) g) (pt_C s sh (pt_at w) g)) (hq : ∀ w v, w < 3 → v < w → pa_ok (pt_W s sh w) (-(pt_W s sh v).1) (pt_W s sh v).2) {Post : Option Value → ev_M → Prop} {v : Nat} (hv : v < 1) (K0 : ∀ M1 : ev_M, (∃ (one gof dof act : Nat → Int32) (sp of' ba go dr ki : Int32) (up dn : Int64), md_X M1 tn c0 c1 c2 sh tx s kp bw ar tu k0 k1 tr one gof dof act sp of' ba go dr ki up dn) → (∀ k, k < 129 → M1 k = M k) → pd_gt (pt_W s sh) 1 v = false → ev_E G mX12_parted 4 0 0 n M1 39 [some (.ref 129), some (.int (nI v)), some (.long (lI (pt_W s sh v).1)), none, some (.long (lI (((pt_W s sh v).2 : Nat) : Int))), none, some (.int (nI 2)), some (.long (lI (pt_W s sh 1).1)), none, some (.long (lI (((pt_W s sh 1).2 : Nat) : Int))), none] [] Post) (K1 : ∀ M1 : ev_M, (∃ (one gof dof act : Nat → Int32) (sp of' ba go dr ki : Int32) (up dn : Int64), md_X M1 tn c0 c1 c2 sh tx s kp bw ar tu k0 k1 tr one gof dof act sp of' ba go dr ki up dn) → (∀ k, k < 129 → M1 k = M k) → pd_gt (pt_W s sh) 1 v = true → ev_E G mX12_parted 4 0 0 n M1 39 [some (.ref 129), some (.int (nI 1)), some (.long (lI (pt_W s sh 1).1)), none, some (.long (lI (((pt_W s sh 1).2 : Nat) : Int))), none, some (.int (nI 2)), some (.long (lI (pt_W s sh 1).1)), none, some (.long (lI (((pt_W s sh 1).2 : Nat) : Int))), none] [] Post) {M1 : ev_M} (hX : (∃ (one gof dof act : Nat → Int32) (sp of' ba go dr ki : Int32) (up dn : Int64), md_X M1 tn c0 c1 c2 sh tx s kp bw ar tu k0 k1 tr one gof dof act sp of' ba go dr ki up dn)) (hf1 : (∀ k, k < 129 → M1 k = M k)) (z7 z9 : Option Value) : ev_E G mX12_parted 4 0 0 n M1 39 [some (.ref 129), some (.int (nI v)), some (.long (lI (pt_W s sh v).1)), none, some (.long (lI (((pt_W s sh v).2 : Nat) : Int))), none, some (.int (nI 1)), z7, none, z9, none] [] Post := by
  obtain ⟨one, gof, dof, act, sp, of', ba, go, dr, ki, up, dn, hX⟩ := hX
  have hX0 := hX
  obtain ⟨th, nx, tk, pl, va, fa, d0, d1, d2, dS, dB, dA, ik, h129, h130, h131, h132, h133, hk0, hk1, h134, h135, h136, h137, h138, h139, h140, h141, h142, h143, hsh⟩ := hX
  refine ev_iload dX12_parted_39 rfl ?_
  refine ev_iconst (v := 3) dX12_parted_41 cni_3 ?_
  refine ev_icmp_ge (tgt := 96) dX12_parted_42 (by decide) (fun h42 => False.elim (absurd h42 (by decide))) (fun h42 => ?_)
  refine ev_aload_n (i := 0) dX12_parted_45 rfl rfl ?_
  refine ev_iload dX12_parted_46 rfl ?_
  refine ev_d2 kX12_parted_48 (m_parts_1 hX0 hsz (hb 1 (by decide))) (ev_rv_of (by assumption) rfl rfl) (by decide) (by decide) (Nat.le_of_ble_eq_true rfl) ?_
  intro r M2 hr
  obtain ⟨rfl, hX, hf2⟩ := hr
  have hX0 := hX
  obtain ⟨th, nx, tk, pl, va, fa, d0, d1, d2, dS, dB, dA, ik, h129, h130, h131, h132, h133, hk0, hk1, h134, h135, h136, h137, h138, h139, h140, h141, h142, h143, hsh⟩ := hX
  refine ev_aload_n (i := 0) dX12_parted_51 rfl rfl ?_
  refine ev_getf dX12_parted_52 flX12_215 (by assumption) (by rfl) ?_
  refine ev_lstore dX12_parted_55 (Nat.le_of_ble_eq_true rfl) rfl ?_
  refine ev_aload_n (i := 0) dX12_parted_57 rfl rfl ?_
  refine ev_getf dX12_parted_58 flX12_207 (by assumption) (by rfl) ?_
  refine ev_lstore dX12_parted_61 (Nat.le_of_ble_eq_true rfl) rfl ?_
  refine ev_aload_n (i := 0) dX12_parted_63 rfl rfl ?_
  refine ev_lload_n (i := 2) dX12_parted_64 rfl rfl ?_
  refine ev_lneg dX12_parted_65 ?_
  refine ev_topl (lI_neg _) ?_
  refine ev_lload dX12_parted_66 rfl ?_
  refine ev_d3 kX12_parted_68 (m_adds (A := pt_W s sh 1) (z := -(pt_W s sh v).1) (B := (pt_W s sh v).2) hX0 (hq 1 v (by decide) hv)) (ev_rv_of (by assumption) rfl rfl) (by decide) (by decide) (Nat.le_of_ble_eq_true rfl) ?_
  intro r M3 hr
  obtain ⟨rfl, hX, hf3⟩ := hr
  have hX0 := hX
  obtain ⟨th, nx, tk, pl, va, fa, d0, d1, d2, dS, dB, dA, ik, h129, h130, h131, h132, h133, hk0, hk1, h134, h135, h136, h137, h138, h139, h140, h141, h142, h143, hsh⟩ := hX
  refine ev_aload_n (i := 0) dX12_parted_71 rfl rfl ?_
  refine ev_getf dX12_parted_72 flX12_215 (by assumption) (by rfl) ?_
  refine ev_lconst (v := 0) dX12_parted_75 rfl ?_
  refine ev_lcmp dX12_parted_76 ?_
  refine ev_if_le (tgt := 90) dX12_parted_77 (by decide) (fun h77 => ?_) (fun h77 => ?_)
  · skip
    refine ev_iinc (v := nI 2) dX12_parted_90 rfl rfl (Nat.le_of_ble_eq_true rfl) rfl ?_
    refine ev_goto (tgt := 39) dX12_parted_93 (by decide) ?_
    exact K0 M3 ⟨_, _, _, _, _, _, _, _, _, _, _, _, hX0⟩ (fun k hk => (hf3 k hk).trans ((hf2 k hk).trans (hf1 k hk))) (decide_eq_false (fun z => Int.not_le.mpr z ((lI_gt (Nat.lt_of_le_of_lt (Int.natAbs_tdiv_le_natAbs _ _) (hq 1 v (by decide) hv).2.2.1)).mp h77)))
  · skip
    refine ev_iload dX12_parted_80 rfl ?_
    refine ev_istore_n (i := 1) dX12_parted_82 rfl (Nat.le_of_ble_eq_true rfl) rfl ?_
    refine ev_lload dX12_parted_83 rfl ?_
    refine ev_lstore_n (i := 2) dX12_parted_85 rfl (Nat.le_of_ble_eq_true rfl) rfl ?_
    refine ev_lload dX12_parted_86 rfl ?_
    refine ev_lstore dX12_parted_88 (Nat.le_of_ble_eq_true rfl) rfl ?_
    refine ev_iinc (v := nI 2) dX12_parted_90 rfl rfl (Nat.le_of_ble_eq_true rfl) rfl ?_
    refine ev_goto (tgt := 39) dX12_parted_93 (by decide) ?_
    exact K1 M3 ⟨_, _, _, _, _, _, _, _, _, _, _, _, hX0⟩ (fun k hk => (hf3 k hk).trans ((hf2 k hk).trans (hf1 k hk))) (decide_eq_true (Int.not_le.mp (fun z => Int32.not_le.mpr h77 ((lI_gt (Nat.lt_of_le_of_lt (Int.natAbs_tdiv_le_natAbs _ _) (hq 1 v (by decide) hv).2.2.1)).mpr z))))
theorem l_parted_2 {G : ev_G} {n : Nat} {M : ev_M} {tn c0 c1 c2 sh : Nat} {tx s kp bw ar tu : Nat → Int32} {k0 k1 : Bool} {tr : Int64} (hsz : sh ≤ 60) (hb : ∀ w, w < 3 → ∀ g, g < 12 → ¬ pt_C s sh (pt_at w) g = 0 → pa_ok (pt_F (pt_S s sh (pt_at w)) (pt_C s sh (pt_at w)) g) (pt_S s sh (pt_at w) g * pt_S s sh (pt_at w) g) (pt_C s sh (pt_at w) g)) (hq : ∀ w v, w < 3 → v < w → pa_ok (pt_W s sh w) (-(pt_W s sh v).1) (pt_W s sh v).2) {Post : Option Value → ev_M → Prop} {v : Nat} (hv : v < 2) (K0 : ∀ M1 : ev_M, (∃ (one gof dof act : Nat → Int32) (sp of' ba go dr ki : Int32) (up dn : Int64), md_X M1 tn c0 c1 c2 sh tx s kp bw ar tu k0 k1 tr one gof dof act sp of' ba go dr ki up dn) → (∀ k, k < 129 → M1 k = M k) → pd_gt (pt_W s sh) 2 v = false → ev_E G mX12_parted 4 0 0 n M1 39 [some (.ref 129), some (.int (nI v)), some (.long (lI (pt_W s sh v).1)), none, some (.long (lI (((pt_W s sh v).2 : Nat) : Int))), none, some (.int (nI 3)), some (.long (lI (pt_W s sh 2).1)), none, some (.long (lI (((pt_W s sh 2).2 : Nat) : Int))), none] [] Post) (K1 : ∀ M1 : ev_M, (∃ (one gof dof act : Nat → Int32) (sp of' ba go dr ki : Int32) (up dn : Int64), md_X M1 tn c0 c1 c2 sh tx s kp bw ar tu k0 k1 tr one gof dof act sp of' ba go dr ki up dn) → (∀ k, k < 129 → M1 k = M k) → pd_gt (pt_W s sh) 2 v = true → ev_E G mX12_parted 4 0 0 n M1 39 [some (.ref 129), some (.int (nI 2)), some (.long (lI (pt_W s sh 2).1)), none, some (.long (lI (((pt_W s sh 2).2 : Nat) : Int))), none, some (.int (nI 3)), some (.long (lI (pt_W s sh 2).1)), none, some (.long (lI (((pt_W s sh 2).2 : Nat) : Int))), none] [] Post) {M1 : ev_M} (hX : (∃ (one gof dof act : Nat → Int32) (sp of' ba go dr ki : Int32) (up dn : Int64), md_X M1 tn c0 c1 c2 sh tx s kp bw ar tu k0 k1 tr one gof dof act sp of' ba go dr ki up dn)) (hf1 : (∀ k, k < 129 → M1 k = M k)) (z7 z9 : Option Value) : ev_E G mX12_parted 4 0 0 n M1 39 [some (.ref 129), some (.int (nI v)), some (.long (lI (pt_W s sh v).1)), none, some (.long (lI (((pt_W s sh v).2 : Nat) : Int))), none, some (.int (nI 2)), z7, none, z9, none] [] Post := by
  obtain ⟨one, gof, dof, act, sp, of', ba, go, dr, ki, up, dn, hX⟩ := hX
  have hX0 := hX
  obtain ⟨th, nx, tk, pl, va, fa, d0, d1, d2, dS, dB, dA, ik, h129, h130, h131, h132, h133, hk0, hk1, h134, h135, h136, h137, h138, h139, h140, h141, h142, h143, hsh⟩ := hX
  refine ev_iload dX12_parted_39 rfl ?_
  refine ev_iconst (v := 3) dX12_parted_41 cni_3 ?_
  refine ev_icmp_ge (tgt := 96) dX12_parted_42 (by decide) (fun h42 => False.elim (absurd h42 (by decide))) (fun h42 => ?_)
  refine ev_aload_n (i := 0) dX12_parted_45 rfl rfl ?_
  refine ev_iload dX12_parted_46 rfl ?_
  refine ev_d2 kX12_parted_48 (m_parts_2 hX0 hsz (hb 2 (by decide))) (ev_rv_of (by assumption) rfl rfl) (by decide) (by decide) (Nat.le_of_ble_eq_true rfl) ?_
  intro r M2 hr
  obtain ⟨rfl, hX, hf2⟩ := hr
  have hX0 := hX
  obtain ⟨th, nx, tk, pl, va, fa, d0, d1, d2, dS, dB, dA, ik, h129, h130, h131, h132, h133, hk0, hk1, h134, h135, h136, h137, h138, h139, h140, h141, h142, h143, hsh⟩ := hX
  refine ev_aload_n (i := 0) dX12_parted_51 rfl rfl ?_
  refine ev_getf dX12_parted_52 flX12_215 (by assumption) (by rfl) ?_
  refine ev_lstore dX12_parted_55 (Nat.le_of_ble_eq_true rfl) rfl ?_
  refine ev_aload_n (i := 0) dX12_parted_57 rfl rfl ?_
  refine ev_getf dX12_parted_58 flX12_207 (by assumption) (by rfl) ?_
  refine ev_lstore dX12_parted_61 (Nat.le_of_ble_eq_true rfl) rfl ?_
  refine ev_aload_n (i := 0) dX12_parted_63 rfl rfl ?_
  refine ev_lload_n (i := 2) dX12_parted_64 rfl rfl ?_
  refine ev_lneg dX12_parted_65 ?_
  refine ev_topl (lI_neg _) ?_
  refine ev_lload dX12_parted_66 rfl ?_
  refine ev_d3 kX12_parted_68 (m_adds (A := pt_W s sh 2) (z := -(pt_W s sh v).1) (B := (pt_W s sh v).2) hX0 (hq 2 v (by decide) hv)) (ev_rv_of (by assumption) rfl rfl) (by decide) (by decide) (Nat.le_of_ble_eq_true rfl) ?_
  intro r M3 hr
  obtain ⟨rfl, hX, hf3⟩ := hr
  have hX0 := hX
  obtain ⟨th, nx, tk, pl, va, fa, d0, d1, d2, dS, dB, dA, ik, h129, h130, h131, h132, h133, hk0, hk1, h134, h135, h136, h137, h138, h139, h140, h141, h142, h143, hsh⟩ := hX
  refine ev_aload_n (i := 0) dX12_parted_71 rfl rfl ?_
  refine ev_getf dX12_parted_72 flX12_215 (by assumption) (by rfl) ?_
  refine ev_lconst (v := 0) dX12_parted_75 rfl ?_
  refine ev_lcmp dX12_parted_76 ?_
  refine ev_if_le (tgt := 90) dX12_parted_77 (by decide) (fun h77 => ?_) (fun h77 => ?_)
  · skip
    refine ev_iinc (v := nI 3) dX12_parted_90 rfl rfl (Nat.le_of_ble_eq_true rfl) rfl ?_
    refine ev_goto (tgt := 39) dX12_parted_93 (by decide) ?_
    exact K0 M3 ⟨_, _, _, _, _, _, _, _, _, _, _, _, hX0⟩ (fun k hk => (hf3 k hk).trans ((hf2 k hk).trans (hf1 k hk))) (decide_eq_false (fun z => Int.not_le.mpr z ((lI_gt (Nat.lt_of_le_of_lt (Int.natAbs_tdiv_le_natAbs _ _) (hq 2 v (by decide) hv).2.2.1)).mp h77)))
  · skip
    refine ev_iload dX12_parted_80 rfl ?_
    refine ev_istore_n (i := 1) dX12_parted_82 rfl (Nat.le_of_ble_eq_true rfl) rfl ?_
    refine ev_lload dX12_parted_83 rfl ?_
    refine ev_lstore_n (i := 2) dX12_parted_85 rfl (Nat.le_of_ble_eq_true rfl) rfl ?_
    refine ev_lload dX12_parted_86 rfl ?_
    refine ev_lstore dX12_parted_88 (Nat.le_of_ble_eq_true rfl) rfl ?_
    refine ev_iinc (v := nI 3) dX12_parted_90 rfl rfl (Nat.le_of_ble_eq_true rfl) rfl ?_
    refine ev_goto (tgt := 39) dX12_parted_93 (by decide) ?_
    exact K1 M3 ⟨_, _, _, _, _, _, _, _, _, _, _, _, hX0⟩ (fun k hk => (hf3 k hk).trans ((hf2 k hk).trans (hf1 k hk))) (decide_eq_true (Int.not_le.mp (fun z => Int32.not_le.mpr h77 ((lI_gt (Nat.lt_of_le_of_lt (Int.natAbs_tdiv_le_natAbs _ _) (hq 2 v (by decide) hv).2.2.1)).mpr z))))
theorem m_parted {G : ev_G} {n : Nat} {M : ev_M} {tn c0 c1 c2 sh : Nat} {tx s kp bw ar tu : Nat → Int32} {k0 k1 : Bool} {tr : Int64} (hM : md_S M tn c0 c1 c2 sh tx s kp bw ar tu k0 k1 tr) (hs0 : 0 < sh) (hsz : sh ≤ 60) (hb : ∀ w, w < 3 → ∀ g, g < 12 → ¬ pt_C s sh (pt_at w) g = 0 → pa_ok (pt_F (pt_S s sh (pt_at w)) (pt_C s sh (pt_at w)) g) (pt_S s sh (pt_at w) g * pt_S s sh (pt_at w) g) (pt_C s sh (pt_at w) g)) (hq : ∀ w v, w < 3 → v < w → pa_ok (pt_W s sh w) (-(pt_W s sh v).1) (pt_W s sh v).2) : ev_Cal G mX12_parted 4 0 0 [.ref 129] n M (md_is M (.int (nI (pd_best (pt_W s sh)))) tn c0 c1 c2 sh tx s kp bw ar tu k0 k1 tr) := by
  refine ev_Cal_of (L := [some (.ref 129), none, none, none, none, none, none, none, none, none, none]) (by decide +kernel) (Nat.le_of_ble_eq_true rfl) rfl ?_
  refine md_thr hM dX12_parted_0 dX12_parted_1 dX12_parted_2 rfl rfl (fun M1 hM1 hf1 => ?_)
  obtain ⟨one, gof, dof, act, sp, of', ba, go, dr, ki, up, dn, hX⟩ := md_SX hM1
  have hX0 := hX
  obtain ⟨th, nx, tk, pl, va, fa, d0, d1, d2, dS, dB, dA, ik, h129, h130, h131, h132, h133, hk0, hk1, h134, h135, h136, h137, h138, h139, h140, h141, h142, h143, hsh⟩ := hX
  refine ev_aload_n (i := 0) dX12_parted_5 rfl rfl ?_
  refine ev_getf dX12_parted_6 flX12_13 (by assumption) (by rfl) ?_
  refine ev_bipush (v := 85) dX12_parted_9 cnb_85 ?_
  refine ev_iald (j := 85) dX12_parted_11 (by assumption) (ev_ixc (j := 85) rfl (by decide)) (by decide) ?_
  refine ev_topi hsh ?_
  refine ev_if_ne (tgt := 18) dX12_parted_12 (by decide) (fun h12 => ?_) (fun h12 => False.elim (nI_ne0 hs0 (by omega) h12))
  refine ev_iconst (v := 0) dX12_parted_18 cni_0 ?_
  refine ev_istore_n (i := 1) dX12_parted_19 rfl (Nat.le_of_ble_eq_true rfl) rfl ?_
  refine ev_aload_n (i := 0) dX12_parted_20 rfl rfl ?_
  refine ev_iconst (v := 0) dX12_parted_21 cni_0 ?_
  refine ev_d2 kX12_parted_22 (m_parts_0 hX0 hsz (hb 0 (by decide))) (ev_rv_of (by assumption) rfl rfl) (by decide) (by decide) (Nat.le_of_ble_eq_true rfl) ?_
  intro r M2 hr
  obtain ⟨rfl, hX, hf2⟩ := hr
  have hX0 := hX
  obtain ⟨th, nx, tk, pl, va, fa, d0, d1, d2, dS, dB, dA, ik, h129, h130, h131, h132, h133, hk0, hk1, h134, h135, h136, h137, h138, h139, h140, h141, h142, h143, hsh⟩ := hX
  refine ev_aload_n (i := 0) dX12_parted_25 rfl rfl ?_
  refine ev_getf dX12_parted_26 flX12_215 (by assumption) (by rfl) ?_
  refine ev_lstore_n (i := 2) dX12_parted_29 rfl (Nat.le_of_ble_eq_true rfl) rfl ?_
  refine ev_aload_n (i := 0) dX12_parted_30 rfl rfl ?_
  refine ev_getf dX12_parted_31 flX12_207 (by assumption) (by rfl) ?_
  refine ev_lstore dX12_parted_34 (Nat.le_of_ble_eq_true rfl) rfl ?_
  refine ev_iconst (v := 1) dX12_parted_36 cni_1 ?_
  refine ev_istore dX12_parted_37 (Nat.le_of_ble_eq_true rfl) rfl ?_
  refine ev_loc (L2 := [some (.ref 129), some (.int (nI 0)), some (.long (lI (pt_W s sh 0).1)), none, some (.long (lI (((pt_W s sh 0).2 : Nat) : Int))), none, some (.int (nI 1)), none, none, none, none]) rfl ?_
  refine l_parted_1 (M := M) hsz hb hq (v := 0) (by decide) (fun M3 hX3 hf3 hg => ?_) (fun M3 hX3 hf3 hg => ?_) ⟨_, _, _, _, _, _, _, _, _, _, _, _, hX0⟩ (fun k hk => (hf2 k hk).trans (hf1 k hk)) none none
  · skip
    have e1 : pd_1 (pt_W s sh) = 0 := by unfold pd_1; rw [if_neg (by rw [hg]; decide)]
    refine l_parted_2 (M := M) hsz hb hq (v := 0) (by decide) (fun M4 hX4 hfe hg2 => ?_) (fun M4 hX4 hfe hg2 => ?_) hX3 hf3 _ _
    · skip
      obtain ⟨one, gof, dof, act, sp, of', ba, go, dr, ki, up, dn, hX⟩ := hX4
      have e2 : pd_best (pt_W s sh) = 0 := by unfold pd_best; rw [e1, if_neg (by rw [hg2]; decide)]
      refine ev_iload dX12_parted_39 rfl ?_
      refine ev_iconst (v := 3) dX12_parted_41 cni_3 ?_
      refine ev_icmp_ge (tgt := 96) dX12_parted_42 (by decide) (fun h42 => ?_) (fun h42 => False.elim (absurd h42 (by decide)))
      refine ev_iload_n (i := 1) dX12_parted_96 rfl rfl ?_
      exact ev_reti dX12_parted_97 rfl rfl (⟨by rw [e2], md_XS hX, hfe⟩)
    · skip
      obtain ⟨one, gof, dof, act, sp, of', ba, go, dr, ki, up, dn, hX⟩ := hX4
      have e2 : pd_best (pt_W s sh) = 2 := by unfold pd_best; rw [e1, if_pos hg2]
      refine ev_iload dX12_parted_39 rfl ?_
      refine ev_iconst (v := 3) dX12_parted_41 cni_3 ?_
      refine ev_icmp_ge (tgt := 96) dX12_parted_42 (by decide) (fun h42 => ?_) (fun h42 => False.elim (absurd h42 (by decide)))
      refine ev_iload_n (i := 1) dX12_parted_96 rfl rfl ?_
      exact ev_reti dX12_parted_97 rfl rfl (⟨by rw [e2], md_XS hX, hfe⟩)
  · skip
    have e1 : pd_1 (pt_W s sh) = 1 := if_pos hg
    refine l_parted_2 (M := M) hsz hb hq (v := 1) (by decide) (fun M4 hX4 hfe hg2 => ?_) (fun M4 hX4 hfe hg2 => ?_) hX3 hf3 _ _
    · skip
      obtain ⟨one, gof, dof, act, sp, of', ba, go, dr, ki, up, dn, hX⟩ := hX4
      have e2 : pd_best (pt_W s sh) = 1 := by unfold pd_best; rw [e1, if_neg (by rw [hg2]; decide)]
      refine ev_iload dX12_parted_39 rfl ?_
      refine ev_iconst (v := 3) dX12_parted_41 cni_3 ?_
      refine ev_icmp_ge (tgt := 96) dX12_parted_42 (by decide) (fun h42 => ?_) (fun h42 => False.elim (absurd h42 (by decide)))
      refine ev_iload_n (i := 1) dX12_parted_96 rfl rfl ?_
      exact ev_reti dX12_parted_97 rfl rfl (⟨by rw [e2], md_XS hX, hfe⟩)
    · skip
      obtain ⟨one, gof, dof, act, sp, of', ba, go, dr, ki, up, dn, hX⟩ := hX4
      have e2 : pd_best (pt_W s sh) = 2 := by unfold pd_best; rw [e1, if_pos hg2]
      refine ev_iload dX12_parted_39 rfl ?_
      refine ev_iconst (v := 3) dX12_parted_41 cni_3 ?_
      refine ev_icmp_ge (tgt := 96) dX12_parted_42 (by decide) (fun h42 => ?_) (fun h42 => False.elim (absurd h42 (by decide)))
      refine ev_iload_n (i := 1) dX12_parted_96 rfl rfl ?_
      exact ev_reti dX12_parted_97 rfl rfl (⟨by rw [e2], md_XS hX, hfe⟩)
theorem m_parted_none {G : ev_G} {n : Nat} {M : ev_M} {tn c0 c1 c2 sh : Nat} {tx s kp bw ar tu : Nat → Int32} {k0 k1 : Bool} {tr : Int64} (hM : md_S M tn c0 c1 c2 sh tx s kp bw ar tu k0 k1 tr) (hs0 : sh = 0) : ev_Cal G mX12_parted 4 0 0 [.ref 129] n M (md_is M (.int (-9)) tn c0 c1 c2 sh tx s kp bw ar tu k0 k1 tr) := by
  refine ev_Cal_of (L := [some (.ref 129), none, none, none, none, none, none, none, none, none, none]) (by decide +kernel) (Nat.le_of_ble_eq_true rfl) rfl ?_
  refine md_thr hM dX12_parted_0 dX12_parted_1 dX12_parted_2 rfl rfl (fun M1 hM1 hf1 => ?_)
  obtain ⟨one, gof, dof, act, sp, of', ba, go, dr, ki, up, dn, hX⟩ := md_SX hM1
  have hX0 := hX
  obtain ⟨th, nx, tk, pl, va, fa, d0, d1, d2, dS, dB, dA, ik, h129, h130, h131, h132, h133, hk0, hk1, h134, h135, h136, h137, h138, h139, h140, h141, h142, h143, hsh⟩ := hX
  refine ev_aload_n (i := 0) dX12_parted_5 rfl rfl ?_
  refine ev_getf dX12_parted_6 flX12_13 (by assumption) (by rfl) ?_
  refine ev_bipush (v := 85) dX12_parted_9 cnb_85 ?_
  refine ev_iald (j := 85) dX12_parted_11 (by assumption) (ev_ixc (j := 85) rfl (by decide)) (by decide) ?_
  refine ev_topi hsh ?_
  refine ev_if_ne (tgt := 18) dX12_parted_12 (by decide) (fun h12 => False.elim (h12 (by rw [hs0]; rfl))) (fun h12 => ?_)
  refine ev_bipush (v := (-9)) dX12_parted_15 cnb_m9 ?_
  exact ev_reti dX12_parted_17 rfl rfl (⟨rfl, md_XS hX0, hf1⟩)
