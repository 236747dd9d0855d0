/-! ===== fractions: no step runs over; which is greater ===== -/
theorem fr_up {N U : Int} {D D' X : Nat} (h : N * (D : Int) = U * (D' : Int)) (h0 : 0 ≤ N) (hX : N ≤ ((X * D' : Nat) : Int)) (hD : 0 < D') : 0 ≤ U ∧ U ≤ ((X * D : Nat) : Int) := by
  have p : (0 : Int) < (D' : Int) := by omega
  constructor
  · refine Int.le_of_mul_le_mul_right (a := (D' : Int)) ?_ p
    rw [Int.zero_mul, ← h]
    exact Int.mul_nonneg h0 (Int.natCast_nonneg _)
  · refine Int.le_of_mul_le_mul_right (a := (D' : Int)) ?_ p
    rw [← h]
    refine Int.le_trans (Int.mul_le_mul_of_nonneg_right hX (Int.natCast_nonneg _)) ?_
    rw [← Int.natCast_mul, ← Int.natCast_mul]
    exact Int.ofNat_le.mpr (Nat.le_of_eq (by ac_rfl))
theorem sm_mono {c : Nat → Nat} {k : Nat} : ∀ m : Nat, sm c k ≤ sm c (k + m)
  | 0 => Nat.le_refl _
  | m + 1 => by
    have := sm_mono (c := c) (k := k) m
    show _ ≤ sm c (k + m) + c (k + m)
    omega
theorem sm_le2 {c : Nat → Nat} {k K : Nat} (h : k ≤ K) : sm c k ≤ sm c K := by
  have := sm_mono (c := c) (k := k) (K - k)
  rwa [show k + (K - k) = K by omega] at this
/-- what is known of a sum of fractions -/
theorem cF_all {S : Nat → Int} {C : Nat → Nat} (hS : ∀ g, (S g).natAbs ≤ 1000 * C g) {k : Nat} (h : sm C k ≤ 60) : 0 ≤ (cF S C k).1 ∧ (cF S C k).1 ≤ ((60000000 * (cF S C k).2 : Nat) : Int) ∧ 0 < (cF S C k).2 ∧ (cF S C k).2 ≤ 7983360 := by
  obtain ⟨h1, h2⟩ := cF_b hS k
  have hd := cF_d (S := S) (C := C) k
  refine ⟨h1, Int.le_trans h2 (Int.ofNat_le.mpr (Nat.mul_le_mul_right _ (by omega))), by rw [hd]; exact lm_pos k, by rw [hd]; exact lm_b h⟩
theorem pt_F_ok {S : Nat → Int} {C : Nat → Nat} (hS : ∀ g, (S g).natAbs ≤ 1000 * C g) {K g : Nat} (hK : sm C K ≤ 60) (hg : g < K) (h0 : ¬ C g = 0) : pa_ok (pt_F S C g) (S g * S g) (C g) := by
  have hs1 : sm C g ≤ 60 := Nat.le_trans (sm_le2 (by omega)) hK
  have hs2 : sm C (g + 1) ≤ 60 := Nat.le_trans (sm_le2 (by omega)) hK
  have hf := fr_F (S := S) (C := C) g
  obtain ⟨-, key, hdv⟩ := fr_step (Z := S g * S g) (c := C g) (show 0 < C g by omega) hf
  have a1 := cF_all hS hs1
  have a2 := cF_all hS hs2
  rw [cF, if_neg h0] at a2
  have b1 := Nat.le_of_dvd a1.2.2.1 hf.2.1
  have b2 := Nat.le_of_dvd a2.2.2.1 hdv
  have u := fr_up key a2.1 a2.2.1 a2.2.2.1
  have hC := Nat.le_trans (sm_le K g hg) hK
  have b3 : pa_D (pt_F S C g).2 (C g) ≤ 7983360 := Nat.le_trans b2 a2.2.2.2
  refine ⟨⟨hf.2.2.1, by omega⟩, ⟨by omega, by omega⟩, by omega, by omega⟩
/-- which of two is greater, told by the class's way and by the model's -/
def fq (A B : Int × Nat) : Prop := A.1 * (B.2 : Int) = B.1 * (A.2 : Int) ∧ 0 < B.2 ∧ 0 < A.2
theorem gt_iff {A1 B1 A2 B2 : Int × Nat} (h1 : fq A1 B1) (h2 : fq A2 B2) : (0 < (pa_add B1 (-B2.1) B2.2).1) ↔ A2.1 * (A1.2 : Int) < A1.1 * (A2.2 : Int) := by
  obtain ⟨N1, D1⟩ := A1
  obtain ⟨M1, d1⟩ := B1
  obtain ⟨N2, D2⟩ := A2
  obtain ⟨M2, d2⟩ := B2
  obtain ⟨e1, p1, q1⟩ := h1
  obtain ⟨e2, p2, q2⟩ := h2
  have e1 : N1 * (d1 : Int) = M1 * (D1 : Int) := e1
  have e2 : N2 * (d2 : Int) = M2 * (D2 : Int) := e2
  have p1 : 0 < d1 := p1
  have p2 : 0 < d2 := p2
  have q1 : 0 < D1 := q1
  have q2 : 0 < D2 := q2
  have hg0 : 0 < Nat.gcd d1 d2 := Nat.gcd_pos_of_pos_left _ p1
  have hh0 : 0 < pa_h M1 d1 (-M2) d2 := Nat.gcd_pos_of_pos_right _ (pa_D0 p1 p2)
  obtain ⟨u, hu⟩ : ∃ u : Int, pa_U M1 d1 (-M2) d2 = (pa_h M1 d1 (-M2) d2 : Int) * u := by
    have : (pa_h M1 d1 (-M2) d2 : Int) ∣ pa_U M1 d1 (-M2) d2 := Int.ofNat_dvd_left.mpr (Nat.gcd_dvd_left _ _)
    exact this
  have t1 : (pa_add (M1, d1) (-M2) d2).1 = u := by
    show (pa_U M1 d1 (-M2) d2).tdiv (pa_h M1 d1 (-M2) d2) = u
    rw [hu, Int.mul_tdiv_cancel_left _ (by omega)]
  show 0 < (pa_add (M1, d1) (-M2) d2).1 ↔ N2 * (D1 : Int) < N1 * (D2 : Int)
  rw [t1]
  obtain ⟨x, hx⟩ := Nat.gcd_dvd_left d1 d2
  obtain ⟨y, hy⟩ := Nat.gcd_dvd_right d1 d2
  have hx2 : d1 / Nat.gcd d1 d2 = x := by
    have : Nat.gcd d1 d2 * x / Nat.gcd d1 d2 = x := Nat.mul_div_cancel_left _ hg0
    rwa [← hx] at this
  have hy2 : d2 / Nat.gcd d1 d2 = y := by
    have : Nat.gcd d1 d2 * y / Nat.gcd d1 d2 = y := Nat.mul_div_cancel_left _ hg0
    rwa [← hy] at this
  have hU : pa_U M1 d1 (-M2) d2 = M1 * (y : Int) - M2 * (x : Int) := by
    rw [pa_U, hx2, hy2, Int.neg_mul, Int.sub_eq_add_neg]
  have g1 : (Nat.gcd d1 d2 : Int) * (x : Int) = (d1 : Int) := by rw [← Int.natCast_mul, ← hx]
  have g2 : (Nat.gcd d1 d2 : Int) * (y : Int) = (d2 : Int) := by rw [← Int.natCast_mul, ← hy]
  have big : (Nat.gcd d1 d2 : Int) * (pa_h M1 d1 (-M2) d2 : Int) * ((D1 : Int) * (D2 : Int)) * u = ((d1 : Int) * (d2 : Int)) * (N1 * (D2 : Int) - N2 * (D1 : Int)) := by
    calc (Nat.gcd d1 d2 : Int) * (pa_h M1 d1 (-M2) d2 : Int) * ((D1 : Int) * (D2 : Int)) * u = ((Nat.gcd d1 d2 : Int) * ((D1 : Int) * (D2 : Int))) * ((pa_h M1 d1 (-M2) d2 : Int) * u) := by ac_rfl
      _ = ((Nat.gcd d1 d2 : Int) * ((D1 : Int) * (D2 : Int))) * (M1 * (y : Int) - M2 * (x : Int)) := by rw [← hu, hU]
      _ = (M1 * (D1 : Int)) * ((Nat.gcd d1 d2 : Int) * (y : Int)) * (D2 : Int) - (M2 * (D2 : Int)) * ((Nat.gcd d1 d2 : Int) * (x : Int)) * (D1 : Int) := by
        rw [Int.mul_sub]; congr 1 <;> ac_rfl
      _ = (N1 * (d1 : Int)) * (d2 : Int) * (D2 : Int) - (N2 * (d2 : Int)) * (d1 : Int) * (D1 : Int) := by rw [g1, g2, e1, e2]
      _ = ((d1 : Int) * (d2 : Int)) * (N1 * (D2 : Int) - N2 * (D1 : Int)) := by
        rw [Int.mul_sub]; congr 1 <;> ac_rfl
  have c1 : (0 : Int) < (Nat.gcd d1 d2 : Int) * (pa_h M1 d1 (-M2) d2 : Int) * ((D1 : Int) * (D2 : Int)) := Int.mul_pos (Int.mul_pos (by omega) (by omega)) (Int.mul_pos (by omega) (by omega))
  have c2 : (0 : Int) < (d1 : Int) * (d2 : Int) := Int.mul_pos (by omega) (by omega)
  generalize (Nat.gcd d1 d2 : Int) * (pa_h M1 d1 (-M2) d2 : Int) * ((D1 : Int) * (D2 : Int)) = P at big c1
  generalize (d1 : Int) * (d2 : Int) = R at big c2
  constructor
  · intro h
    have := Int.mul_pos c1 h
    rw [big] at this
    have h3 := Int.lt_of_mul_lt_mul_left (a := R) (b := 0) (c := N1 * (D2 : Int) - N2 * (D1 : Int)) (by rw [Int.mul_zero]; exact this) (Int.le_of_lt c2)
    omega
  · intro h
    have := Int.mul_pos c2 (show 0 < N1 * (D2 : Int) - N2 * (D1 : Int) by omega)
    rw [← big] at this
    exact Int.lt_of_mul_lt_mul_left (a := P) (b := 0) (c := u) (by rw [Int.mul_zero]; exact this) (Int.le_of_lt c1)
