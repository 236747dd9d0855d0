/-! ===== both sides: sets of sticks; turned ===== -/
def bs (N : Nat → Bool) : Nat → Nat
  | 0 => 0
  | k + 1 => bs N k + (if N k = true then 2 ^ k else 0)
def cn (N : Nat → Bool) : Nat → Nat
  | 0 => 0
  | k + 1 => cn N k + (if N k = true then 1 else 0)
theorem bs_lt {N : Nat → Bool} : ∀ k : Nat, bs N k < 2 ^ k
  | 0 => Nat.zero_lt_one
  | k + 1 => by
    have h := bs_lt (N := N) k
    rw [bs, Nat.pow_succ]
    split <;> omega
theorem cn_le {N : Nat → Bool} : ∀ k : Nat, cn N k ≤ k
  | 0 => Nat.le_refl _
  | k + 1 => by
    have h := cn_le (N := N) k
    rw [cn]
    split <;> omega
theorem bs_t0 {N : Nat → Bool} {n j : Nat} (h : n ≤ j) : al_t (bs N n) j = 0 := by
  have h1 := bs_lt (N := N) n
  have h2 : 2 ^ n ≤ 2 ^ j := Nat.pow_le_pow_right (by decide) h
  unfold al_t
  rw [Nat.div_eq_of_lt (by omega)]
theorem bs_t {N : Nat → Bool} : ∀ n j : Nat, j < n → al_t (bs N n) j = if N j = true then 1 else 0
  | 0, j, h => absurd h (Nat.not_lt_zero j)
  | n + 1, j, h => by
    by_cases e : j = n
    · subst e
      have h1 := bs_lt (N := N) j
      unfold al_t
      rw [bs]
      by_cases hN : N j = true
      · rw [if_pos hN, if_pos hN, Nat.add_div_right _ (Nat.two_pow_pos j), Nat.div_eq_of_lt h1]
      · rw [if_neg hN, if_neg hN, Nat.add_zero, Nat.div_eq_of_lt h1]
    · have ih := bs_t (N := N) n j (by omega)
      rw [← ih]
      unfold al_t
      rw [bs]
      by_cases hN : N n = true
      · rw [if_pos hN]
        have e2 : 2 ^ n = 2 ^ j * (2 * 2 ^ (n - j - 1)) := by
          rw [← Nat.mul_assoc, ← Nat.pow_succ, ← Nat.pow_add]
          congr 1
          omega
        rw [e2, Nat.add_mul_div_left _ _ (Nat.two_pow_pos j), Nat.add_mul_mod_self_left]
      · rw [if_neg hN, Nat.add_zero]
theorem pc_bs {N : Nat → Bool} {n : Nat} : ∀ m : Nat, m ≤ n → al_pc (bs N n) m = cn N m
  | 0, _ => rfl
  | m + 1, h => by rw [al_pc, cn, pc_bs m (by omega), bs_t n m (by omega)]
theorem pc_bs2 {N : Nat → Bool} {n : Nat} : ∀ j : Nat, al_pc (bs N n) (n + j) = cn N n
  | 0 => pc_bs n (Nat.le_refl _)
  | j + 1 => by
    show al_pc (bs N n) (n + j) + al_t (bs N n) (n + j) = cn N n
    rw [pc_bs2 j, bs_t0 (by omega), Nat.add_zero]
theorem sp_cnt_cn {N : Nat → Bool} : ∀ k : Nat, sp_cnt N k = nI (cn N k)
  | 0 => rfl
  | k + 1 => by
    rw [sp_cnt, cn, sp_cnt_cn k]
    split
    · exact (Int32.ofNat_add _ 1).symm
    · rw [Nat.add_zero]
theorem set_or {S k : Nat} (hS : S < 2 ^ k) (hk : k < 12) : nI S ||| (1 <<< (nI k &&& 31)) = nI (S + 2 ^ k) := by
  have h0 : 2 ^ k ≤ 2048 := Nat.pow_le_pow_right (by decide) (show k ≤ 11 by omega)
  have h1 : ∀ k, k < 12 → ((1 : Int32) <<< (nI k &&& 31)).toBitVec.toNat = 2 ^ k := by decide +kernel
  apply Int32.toBitVec_inj.mp
  apply BitVec.eq_of_toNat_eq
  rw [Int32.toBitVec_or, BitVec.toNat_or, h1 k hk, al_bv (by omega), al_bv (by omega), Nat.or_comm, Nat.add_comm]
  have h2 := Nat.two_pow_add_eq_or_of_lt hS 1
  rw [Nat.mul_one] at h2
  exact h2.symm
theorem set_bs {N : Nat → Bool} : ∀ k : Nat, k ≤ 12 → fl_set N k = nI (bs N k)
  | 0, _ => rfl
  | k + 1, h => by
    rw [fl_set, bs, set_bs k (by omega)]
    split
    · exact set_or (bs_lt k) (by omega)
    · rw [Nat.add_zero]
theorem bc_all0 : ∀ a, a < 64 → ∀ b, b < 64 → (sp_bc (nI (64 * a + b))).toBitVec.toNat = al_pc (64 * a + b) 12 := by decide +kernel
theorem bc_all {S : Nat} (h : S < 4096) : sp_bc (nI S) = nI (al_pc S 12) := by
  have h1 := bc_all0 (S / 64) (by omega) (S % 64) (by omega)
  rw [show 64 * (S / 64) + S % 64 = S by omega] at h1
  have h2 := al_pc_le S 12
  apply Int32.toBitVec_inj.mp
  apply BitVec.eq_of_toNat_eq
  rw [h1, al_bv (by omega)]
theorem bc_set {N : Nat → Bool} {k : Nat} (h : k ≤ 12) : sp_bc (fl_set N k) = nI (cn N k) := by
  have h1 := bs_lt (N := N) k
  have h2 : 2 ^ k ≤ 2 ^ 12 := Nat.pow_le_pow_right (by decide) h
  have h3 := pc_bs2 (N := N) (n := k) (12 - k)
  rw [show k + (12 - k) = 12 by omega] at h3
  rw [set_bs k h, bc_all (by omega), h3]
theorem nI_ltE {a b : Nat} (ha : a < 2 ^ 31) (hb : b < 2 ^ 31) : nI a < nI b ↔ a < b := by
  rw [Int32.lt_iff_toInt_lt, nI_toInt ha, nI_toInt hb]; omega
theorem nI_leE {a b : Nat} (ha : a < 2 ^ 31) (hb : b < 2 ^ 31) : nI a ≤ nI b ↔ a ≤ b := by
  rw [Int32.le_iff_toInt_le, nI_toInt ha, nI_toInt hb]; omega
theorem nI_eqE {a b : Nat} (ha : a < 2 ^ 31) (hb : b < 2 ^ 31) : nI a = nI b ↔ a = b := by
  rw [← Int32.toInt_inj, nI_toInt ha, nI_toInt hb]; omega
/-- the best of the tries so far: most members, then the smallest number -/
def fl_best (sz : Nat) (Tr : (Nat → Bool) → Prop) (B : Int32 × Int32) : Prop := ∃ S m : Nat, B = (nI S, nI m) ∧ (S < 4096 ∧ m ≤ 12) ∧ ((S = 0 ∧ m = 0) ∨ ∃ N, Tr N ∧ S = bs N sz ∧ m = cn N sz) ∧ ∀ N, Tr N → cn N sz < m ∨ (cn N sz = m ∧ S ≤ bs N sz)
theorem fl_best_0 {sz : Nat} : fl_best sz (fun _ => False) (0, 0) := ⟨0, 0, rfl, ⟨by decide, by decide⟩, Or.inl ⟨rfl, rfl⟩, fun _ h => h.elim⟩
theorem fl_best_iff {sz : Nat} {T T' : (Nat → Bool) → Prop} {B : Int32 × Int32} (h : fl_best sz T B) (e : ∀ N, T' N ↔ T N) : fl_best sz T' B := by
  obtain ⟨S, m, h1, h2, h3, h4⟩ := h
  exact ⟨S, m, h1, h2, h3.imp id (fun ⟨N, a, b⟩ => ⟨N, (e N).mpr a, b⟩), fun N hN => h4 N ((e N).mp hN)⟩
theorem fl_best_try {sz : Nat} (hsz : sz ≤ 12) {T : (Nat → Bool) → Prop} {B : Int32 × Int32} {N0 : Nat → Bool} (h : fl_best sz T B) : fl_best sz (fun N => T N ∨ N = N0) (fl_upd (fl_set N0 sz) (sp_bc (fl_set N0 sz)) B) := by
  obtain ⟨S, m, rfl, ⟨hS, hm⟩, h3, h4⟩ := h
  have b1 := bs_lt (N := N0) sz
  have b2 : 2 ^ sz ≤ 2 ^ 12 := Nat.pow_le_pow_right (by decide) hsz
  have b3 := cn_le (N := N0) sz
  rw [bc_set hsz, set_bs sz hsz]
  unfold fl_upd
  simp only [nI_ltE (show cn N0 sz < 2 ^ 31 by omega) (show m < 2 ^ 31 by omega), nI_eqE (show cn N0 sz < 2 ^ 31 by omega) (show m < 2 ^ 31 by omega), nI_leE (show S < 2 ^ 31 by omega) (show bs N0 sz < 2 ^ 31 by omega)]
  by_cases c : cn N0 sz < m ∨ (cn N0 sz = m ∧ S ≤ bs N0 sz)
  · rw [if_pos c]
    refine ⟨S, m, rfl, ⟨hS, hm⟩, h3.imp id (fun ⟨N, a, b⟩ => ⟨N, Or.inl a, b⟩), fun N hN => ?_⟩
    rcases hN with hN | rfl
    · exact h4 N hN
    · exact c
  · rw [if_neg c]
    refine ⟨bs N0 sz, cn N0 sz, rfl, ⟨by omega, by omega⟩, Or.inr ⟨N0, Or.inr rfl, rfl, rfl⟩, fun N hN => ?_⟩
    rcases hN with hN | rfl
    · have := h4 N hN
      omega
    · exact Or.inr ⟨rfl, Nat.le_refl _⟩
def fl_Tj (q0 q1 q2 : Nat → Int32) (d e : Int32) (i K : Nat) (N : Nat → Bool) : Prop := ∃ k, k < K ∧ (N = fl_near q0 q1 q2 (q0 i) d (q2 k) e ∨ N = fl_near q0 q1 q2 (q1 i) d (q2 k) e)
theorem fl_best_j {q0 q1 q2 : Nat → Int32} {sz : Nat} {d e : Int32} {i : Nat} (hsz : sz ≤ 12) {T : (Nat → Bool) → Prop} {B : Int32 × Int32} (h : fl_best sz T B) : ∀ K : Nat, fl_best sz (fun N => T N ∨ fl_Tj q0 q1 q2 d e i K N) (fl_j q0 q1 q2 sz d e i K B)
  | 0 => fl_best_iff h (fun N => ⟨fun x => x.elim id (fun ⟨k, hk, _⟩ => absurd hk (Nat.not_lt_zero k)), Or.inl⟩)
  | K + 1 => by
    rw [fl_j]
    have h1 := fl_best_try (N0 := fl_near q0 q1 q2 (q1 i) d (q2 K) e) hsz (fl_best_try (N0 := fl_near q0 q1 q2 (q0 i) d (q2 K) e) hsz (fl_best_j (q0 := q0) (q1 := q1) (q2 := q2) (d := d) (e := e) (i := i) hsz h K))
    refine fl_best_iff h1 (fun N => ⟨fun x => ?_, fun x => ?_⟩)
    · rcases x with x | ⟨k, hk, hN⟩
      · exact Or.inl (Or.inl (Or.inl x))
      · by_cases ek : k = K
        · subst ek
          rcases hN with hN | hN
          · exact Or.inl (Or.inr hN)
          · exact Or.inr hN
        · exact Or.inl (Or.inl (Or.inr ⟨k, by omega, hN⟩))
    · rcases x with ((x | ⟨k, hk, hN⟩) | hN) | hN
      · exact Or.inl x
      · exact Or.inr ⟨k, by omega, hN⟩
      · exact Or.inr ⟨K, by omega, Or.inl hN⟩
      · exact Or.inr ⟨K, by omega, Or.inr hN⟩
def fl_Ti (q0 q1 q2 : Nat → Int32) (sz : Nat) (d e : Int32) (I : Nat) (N : Nat → Bool) : Prop := ∃ i, i < I ∧ fl_Tj q0 q1 q2 d e i sz N
theorem fl_best_i {q0 q1 q2 : Nat → Int32} {sz : Nat} {d e : Int32} (hsz : sz ≤ 12) : ∀ I : Nat, fl_best sz (fl_Ti q0 q1 q2 sz d e I) (fl_i q0 q1 q2 sz d e I (0, 0))
  | 0 => fl_best_iff fl_best_0 (fun N => ⟨fun ⟨i, hi, _⟩ => absurd hi (Nat.not_lt_zero i), fun h => h.elim⟩)
  | I + 1 => by
    rw [fl_i]
    refine fl_best_iff (fl_best_j (q0 := q0) (q1 := q1) (q2 := q2) (d := d) (e := e) (i := I) hsz (fl_best_i (q0 := q0) (q1 := q1) (q2 := q2) (d := d) (e := e) hsz I) sz) (fun N => ⟨fun ⟨i, hi, hN⟩ => ?_, fun x => ?_⟩)
    · by_cases e : i = I
      · subst e; exact Or.inr hN
      · exact Or.inl ⟨i, by omega, hN⟩
    · rcases x with ⟨i, hi, hN⟩ | hN
      · exact ⟨i, by omega, hN⟩
      · exact ⟨I, by omega, hN⟩
/-- the model's greatest -/
theorem tm_j_b {C : Nat → Int32} {f : Nat → Nat} {m : Nat} (hm : m < 1000) (hf : ∀ j, C j = nI (f j) ∧ f j < 1000) : ∀ n : Nat, ∃ r : Nat, tm_j C (nI m) n = nI r ∧ r < 1000 ∧ m ≤ r ∧ (∀ j, j < n → f j ≤ r) ∧ (r = m ∨ ∃ j, j < n ∧ r = f j)
  | 0 => ⟨m, rfl, hm, Nat.le_refl _, fun j h => absurd h (Nat.not_lt_zero j), Or.inl rfl⟩
  | n + 1 => by
    obtain ⟨r, h1, h2, h3, h4, h5⟩ := tm_j_b hm hf n
    rw [tm_j, h1, (hf n).1]
    have hfn := (hf n).2
    by_cases c : r < f n
    · rw [if_pos ((nI_ltE (by omega) (by omega)).mpr c)]
      refine ⟨f n, rfl, hfn, by omega, fun j hj => ?_, Or.inr ⟨n, by omega, rfl⟩⟩
      by_cases e : j = n
      · subst e; exact Nat.le_refl _
      · have := h4 j (by omega); omega
    · rw [if_neg (fun z => c ((nI_ltE (by omega) (by omega)).mp z))]
      refine ⟨r, rfl, h2, h3, fun j hj => ?_, h5.imp id (fun ⟨j, a, b⟩ => ⟨j, by omega, b⟩)⟩
      by_cases e : j = n
      · subst e; omega
      · exact h4 j (by omega)
theorem tm_k_b {C : Nat → Nat → Int32} {f : Nat → Nat → Nat} {c : Nat} (hf : ∀ k j, C k j = nI (f k j) ∧ f k j < 1000) : ∀ n : Nat, ∃ r : Nat, tm_k C c n = nI r ∧ r < 1000 ∧ (∀ k, k < n → ∀ j, j < c → f k j ≤ r) ∧ (r = 0 ∨ ∃ k, k < n ∧ ∃ j, j < c ∧ r = f k j)
  | 0 => ⟨0, rfl, by decide, fun k h => absurd h (Nat.not_lt_zero k), Or.inl rfl⟩
  | n + 1 => by
    obtain ⟨r, h1, h2, h3, h4⟩ := tm_k_b hf n
    obtain ⟨r2, g1, g2, g3, g4, g5⟩ := tm_j_b (C := C n) h2 (hf n) c
    refine ⟨r2, by rw [tm_k, h1, g1], g2, fun k hk j hj => ?_, ?_⟩
    · by_cases e : k = n
      · subst e; exact g4 j hj
      · have := h3 k (by omega) j hj; omega
    · rcases g5 with rfl | ⟨j, hj, e⟩
      · exact h4.imp id (fun ⟨k, a, b⟩ => ⟨k, by omega, b⟩)
      · exact Or.inr ⟨n, by omega, j, hj, e⟩
theorem cn_c {P Q : Nat → Bool} : ∀ n : Nat, (∀ k, k < n → P k = Q k) → cn P n = cn Q n
  | 0, _ => rfl
  | n + 1, h => by rw [cn, cn, cn_c n (fun k hk => h k (by omega)), h n (by omega)]
theorem fl_near_c {p0 p1 p2 q0 q1 q2 : Nat → Int32} {g d dp e : Int32} {n : Nat} (h0 : ∀ k, k < n → p0 k = q0 k) (h1 : ∀ k, k < n → p1 k = q1 k) (h2 : ∀ k, k < n → p2 k = q2 k) : cn (fl_near p0 p1 p2 g d dp e) n = cn (fl_near q0 q1 q2 g d dp e) n := by
  refine cn_c n (fun k hk => ?_)
  simp only [fl_near, h0 k hk, h1 k hk, h2 k hk]
theorem fl_turned {tu s q0 q1 q2 : Nat → Int32} {dr wi d e : Int32} {c : Nat} (hc : c ≤ 12) : (fl_i (fl_mix c (fl_W tu s dr wi 1 0) q0) (fl_mix c (fl_W tu s dr wi 1 1) q1) (fl_mix c (fl_D s dr) q2) c d e c (0, 0)).2 = tm_k (tu_C tu s dr wi d e c) c (2 * c) := by
  have hW0 : ∀ k, k < c → fl_mix c (fl_W tu s dr wi 1 0) q0 k = fl_GO tu s dr wi (2 * k) := fun k hk => by
    rw [fl_mix_in hk, fl_W, if_pos rfl]; exact (fl_GO_2 (i := k) (w := 0) (by decide)).symm
  have hW1 : ∀ k, k < c → fl_mix c (fl_W tu s dr wi 1 1) q1 k = fl_GO tu s dr wi (2 * k + 1) := fun k hk => by
    rw [fl_mix_in hk, fl_W, if_pos rfl]; exact (fl_GO_2 (i := k) (w := 1) (by decide)).symm
  have hD : ∀ k, k < c → fl_mix c (fl_D s dr) q2 k = fl_D s dr k := fun k hk => fl_mix_in hk
  obtain ⟨S, m, hB, ⟨hS, hm⟩, h3, h4⟩ := fl_best_i (q0 := fl_mix c (fl_W tu s dr wi 1 0) q0) (q1 := fl_mix c (fl_W tu s dr wi 1 1) q1) (q2 := fl_mix c (fl_D s dr) q2) (d := d) (e := e) hc c
  have hcn := fun g dp => fl_near_c (g := g) (d := d) (dp := dp) (e := e) hW0 hW1 hD
  obtain ⟨r, g1, g2, g3, g4⟩ := tm_k_b (C := tu_C tu s dr wi d e c) (f := fun k j => cn (fl_near (fun i => fl_GO tu s dr wi (2 * i)) (fun i => fl_GO tu s dr wi (2 * i + 1)) (fl_D s dr) (fl_GO tu s dr wi k) d (fl_D s dr j) e) c) (c := c) (fun k j => ⟨sp_cnt_cn c, by
    have := cn_le (N := fl_near (fun i => fl_GO tu s dr wi (2 * i)) (fun i => fl_GO tu s dr wi (2 * i + 1)) (fl_D s dr) (fl_GO tu s dr wi k) d (fl_D s dr j) e) c
    omega⟩) (2 * c)
  rw [hB, g1]
  show nI m = nI r
  have le1 : m ≤ r := by
    rcases h3 with ⟨_, rfl⟩ | ⟨N, ⟨i, hi, k, hk, hN⟩, -, rfl⟩
    · exact Nat.zero_le _
    · rcases hN with rfl | rfl
      · rw [hcn, hW0 i hi, hD k hk]; exact g3 (2 * i) (by omega) k hk
      · rw [hcn, hW1 i hi, hD k hk]; exact g3 (2 * i + 1) (by omega) k hk
  have le2 : r ≤ m := by
    rcases g4 with rfl | ⟨k, hk, j, hj, rfl⟩
    · exact Nat.zero_le _
    · have hi : k / 2 < c := by omega
      rcases (show k = 2 * (k / 2) ∨ k = 2 * (k / 2) + 1 by omega) with e2 | e2
      · have := h4 _ ⟨k / 2, hi, j, hj, Or.inl rfl⟩
        rw [hcn, hW0 _ hi, hD j hj, ← e2] at this
        omega
      · have := h4 _ ⟨k / 2, hi, j, hj, Or.inr rfl⟩
        rw [hcn, hW1 _ hi, hD j hj, ← e2] at this
        omega
  rw [show m = r by omega]
theorem cl_S_35 {M : ev_M} {tn c0 c1 c2 sh : Nat} {tx s kp bw ar tu : Nat → Int32} {k0 k1 : Bool} {tr : Int64} {x0 x1 x2 y0 y1 y2 : Int32} {p0 p1 p2 : Nat → Int32} (hC : cl_S M tn c0 c1 c2 sh tx s kp bw ar tu k0 k1 tr) : cl_S (ev_set (ev_ml M [(35, .inr (2, [.ref 36, .ref 37, .ref 38, .int y0, .int y1, .int y2])), (36, .inl (0, 12, .inl p0)), (37, .inl (0, 12, .inl p1)), (38, .inl (0, 12, .inl p2))]) 35 (.inr (2, [.ref 36, .ref 37, .ref 38, .int x0, .int x1, .int x2]))) tn c0 c1 c2 sh tx s kp bw ar tu k0 k1 tr := by
  obtain ⟨g, g', d0, d1, d2, tb, sC, bC, aC, sD, bD, aD, nm, q0, q1, q2, pl, z0, z1, z2, t0, t1, t2, t3, t4, hgg, h20, h21, h22, htb, h24, h25, h26, h27, h85, h35, h36, h37, h38, h39, h40, h41, h63, hG, hsC, hbC, haC, hG', hd0, hd1, hd2⟩ := hC
  have hk : ∀ q, (q < 35 ∨ 38 < q) → ev_set (ev_ml M [(35, .inr (2, [.ref 36, .ref 37, .ref 38, .int y0, .int y1, .int y2])), (36, .inl (0, 12, .inl p0)), (37, .inl (0, 12, .inl p1)), (38, .inl (0, 12, .inl p2))]) 35 (.inr (2, [.ref 36, .ref 37, .ref 38, .int x0, .int x1, .int x2])) q = M q := fun q hq => (ev_set_ne (by omega)).trans (fl_out hq)
  exact ⟨g, g', d0, d1, d2, _, _, _, _, _, _, _, _, _, _, _, _, _, _, _, _, _, _, _, _, hgg, ((hk 21 (by omega)).trans h20), ((hk 22 (by omega)).trans h21), ((hk 23 (by omega)).trans h22), htb, ((hk 24 (by omega)).trans h24), ((hk 25 (by omega)).trans h25), ((hk 26 (by omega)).trans h26), (cl_sheet_keep (fun a z1 z2 => hk a (by omega)) h27), h85, ev_set_eq, rfl, rfl, rfl, ((hk 39 (by omega)).trans h39), ((hk 40 (by omega)).trans h40), (cl_img_keep (fun a z1 z2 => hk a (by omega)) h41), (cl_img_keep (fun a z1 z2 => hk a (by omega)) h63), (cl_gear_keep (fun a z1 z2 => hk a (by omega)) hG), hsC, hbC, haC, (cl_gear_keep (fun a z1 z2 => hk a (by omega)) hG'), hd0, hd1, hd2⟩
theorem cl_open35 {M : ev_M} {tn c0 c1 c2 sh : Nat} {tx s kp bw ar tu : Nat → Int32} {k0 k1 : Bool} {tr : Int64} (hC : cl_S M tn c0 c1 c2 sh tx s kp bw ar tu k0 k1 tr) : ∃ (zz b0 b1 : Int32) (q0 q1 q2 : Nat → Int32), M 35 = .inr (2, [.ref 36, .ref 37, .ref 38, .int zz, .int b0, .int b1]) ∧ M 36 = .inl (0, 12, .inl q0) ∧ M 37 = .inl (0, 12, .inl q1) ∧ M 38 = .inl (0, 12, .inl q2) := by
  obtain ⟨g, g', d0, d1, d2, tb, sC, bC, aC, sD, bD, aD, nm, q0, q1, q2, pl, z0, z1, z2, t0, t1, t2, t3, t4, hgg, h20, h21, h22, htb, h24, h25, h26, h27, h85, h35, h36, h37, h38, h39, h40, h41, h63, hG, hsC, hbC, haC, hG', hd0, hd1, hd2⟩ := hC
  exact ⟨z0, z1, z2, q0, q1, q2, h35, h36, h37, h38⟩
theorem x_turned (b d e : Int32) : x_ok mX11_turned mX12_turned 7 6 [.int b, .int d, .int e] := by
  refine x_ok_s (fun tn c0 c1 c2 sh tx s kp bw ar tu k0 k1 tr hR => ?_)
  have hR0 := hR
  obtain ⟨⟨htn, htx⟩, ⟨hc, hs⟩, ⟨hc1, hw⟩, ⟨hc2, ha⟩, ht, hsh, hk0, hk1⟩ := hR
  rcases sp_pos (i := b) (c := c1) (by omega) with ⟨b, hb, rfl⟩ | hb'
  · by_cases hd : sp_in d 0 999 = true
    · by_cases he : sp_in e 0 999 = true
      · refine ⟨tm_k (tu_C tu s (bw (2 * b)) (bw (2 * b + 1)) d e c0) c0 (2 * c0), tn, c0, c1, c2, sh, tx, s, kp, bw, ar, tu, k0, k1, tr, hR0, fun G n M hsio hC => ?_, fun G n M hM => ?_⟩
        · obtain ⟨g, g', fa, fb, fc, hgg, h20, hG, hA, hfa, hB, hfb, hCC, hfc, hst, hbo, har, hT, hV, h40⟩ := cl_open hc hc1 hc2 hC
          obtain ⟨zz, b0, b1, q0, q1, q2, h35, h36, h37, h38⟩ := cl_open35 hC
          have h := c12_turned (G := G) (n := n) (s := s) h20 hG hA hfa hB hfb hb hc1 (hbo b hb) hT hV hc hst (by omega) h35 h36 h37 h38 hd he
          rw [fl_turned hc] at h
          exact cl_us h (cl_S_35 hC) (fun k hk => (ev_set_ne (by omega)).trans (fl_out (by omega)))
        · exact m_turned hM hb hc1 hc (fun i hi => sk_of (hs i hi)) (bw_of (hw b hb)) (tu_of ht) (by rw [hd, he]; rfl)
      · have hef : sp_in e 0 999 = false := Bool.not_eq_true _ ▸ he
        refine ⟨-1, tn, c0, c1, c2, sh, tx, s, kp, bw, ar, tu, k0, k1, tr, hR0, fun G n M hsio hC => ?_, fun G n M hM => ?_⟩
        · obtain ⟨g, g', fa, fb, fc, hgg, h20, hG, hA, hfa, hB, hfb, hCC, hfc, hst, hbo, har, hT, hV, h40⟩ := cl_open hc hc1 hc2 hC
          exact cl_qs hC (c12_turned_no h20 hG hB hfb hb hc1 (by simp only [hef, Bool.and_false, Bool.false_and]))
        · exact m_turned_no hM (by simp only [hef, Bool.and_false, Bool.false_and])
    · have hdf : sp_in d 0 999 = false := Bool.not_eq_true _ ▸ hd
      refine ⟨-1, tn, c0, c1, c2, sh, tx, s, kp, bw, ar, tu, k0, k1, tr, hR0, fun G n M hsio hC => ?_, fun G n M hM => ?_⟩
      · obtain ⟨g, g', fa, fb, fc, hgg, h20, hG, hA, hfa, hB, hfb, hCC, hfc, hst, hbo, har, hT, hV, h40⟩ := cl_open hc hc1 hc2 hC
        exact cl_qs hC (c12_turned_no h20 hG hB hfb hb hc1 (by simp only [hdf, Bool.and_false, Bool.false_and]))
      · exact m_turned_no hM (by simp only [hdf, Bool.and_false, Bool.false_and])
  · refine ⟨-1, tn, c0, c1, c2, sh, tx, s, kp, bw, ar, tu, k0, k1, tr, hR0, fun G n M hsio hC => ?_, fun G n M hM => ?_⟩
    · obtain ⟨g, g', fa, fb, fc, hgg, h20, hG, hA, hfa, hB, hfb, hCC, hfc, hst, hbo, har, hT, hV, h40⟩ := cl_open hc hc1 hc2 hC
      exact cl_qs hC (c12_turned_b h20 hG hb')
    · exact m_turned_no hM (by simp only [sp_in_out (show c1 < 2 ^ 31 by omega) hb', Bool.false_and])
