/-! ===== fractions: the class's in 64 bits; the same fractions as the model's ===== -/
theorem sh_gcd_lI : ∀ (k a b : Nat), b < k → a < 2 ^ 62 → b < 2 ^ 62 → sh_gcd k (lI (a : Int)) (lI (b : Int)) = lI ((Nat.gcd a b : Nat) : Int)
  | 0, a, b, h, _, _ => absurd h (Nat.not_lt_zero b)
  | k + 1, a, b, h, ha, hb => by
    rw [sh_gcd]
    by_cases e : b = 0
    · subst e
      rw [if_pos (show lI ((0 : Nat) : Int) = 0 from rfl), Nat.gcd_zero_right]
    · have h0 : 0 < b := by omega
      have hm := Nat.mod_lt a h0
      rw [if_neg (lI_ne0 h0 hb), lI_remN ha h0 hb, sh_gcd_lI k b (a % b) (by omega) hb (by omega), Nat.gcd_comm a b, Nat.gcd_comm b (a % b), ← Nat.gcd_rec]
theorem sh_add_lI {N u : Int} {d c : Nat} (hd : 0 < d) (hd2 : d < 2 ^ 62) (hc : 0 < c) (hc2 : c ≤ 60) : sh_add (lI N, lI (d : Int)) (lI u) (lI (c : Int)) = (lI (N * ((c / Nat.gcd d c : Nat) : Int) + u * ((d / Nat.gcd d c : Nat) : Int)), lI ((d * (c / Nat.gcd d c) : Nat) : Int)) := by
  have hg := sh_gcd_lI 100 d c (by omega) hd2 (by omega)
  have g0 : 0 < Nat.gcd d c := Nat.gcd_pos_of_pos_left _ hd
  have g1 : Nat.gcd d c ≤ d := Nat.le_of_dvd hd (Nat.gcd_dvd_left _ _)
  rw [sh_add]
  show (if sh_gcd 100 (lI (d : Int)) (lI (c : Int)) = 0 then _ else _) = _
  rw [hg, if_neg (lI_ne0 g0 (by omega)), lI_divN (by omega) g0 (by omega), lI_divN hd2 g0 (by omega), lI_mul, lI_mul, lI_add, lI_mul, ← Int.natCast_mul]
theorem sh_w_lI {S C : Nat → Int32} {s : Nat → Int} {c : Nat → Nat} (hS : ∀ g, (S g).toInt = s g) (hC : ∀ g, C g = nI (c g)) {K : Nat} (h60 : sm c K ≤ 60) : ∀ k : Nat, k ≤ K → sh_w S C k = (lI (cF s c k).1, lI (((cF s c k).2 : Nat) : Int))
  | 0, _ => rfl
  | k + 1, hk => by
    have ih := sh_w_lI hS hC h60 k (by omega)
    have hck : c k ≤ 60 := Nat.le_trans (sm_le K k (by omega)) h60
    rw [sh_w, cF, hC k]
    by_cases e : c k = 0
    · rw [if_pos e, e, if_neg (show ¬ (0 : Int32) < nI 0 by decide)]; exact ih
    · have h1 : (0 : Int32) < nI (c k) := (nI_ltE (a := 0) (by decide) (by omega)).mpr (by omega)
      have hsk : sm c k ≤ 60 := by
        have : ∀ m, sm c k ≤ sm c (k + m) := fun m => by
          induction m with
          | zero => exact Nat.le_refl _
          | succ m im => show _ ≤ sm c (k + m) + c (k + m); omega
        have h2 := this (K - k)
        rw [show k + (K - k) = K by omega] at h2
        omega
      have hd : (cF s c k).2 = lm c k := cF_d k
      have hd1 := lm_b hsk
      have hd0 := lm_pos (C := c) k
      rw [if_pos h1, if_neg e, ih, lI_i, lI_i, hS k, nI_toInt (by omega), lI_mul, sh_add_lI (by omega) (by omega) (by omega) hck]
/-- the same fraction -/
def fr (A B : Int × Nat) : Prop := A.1 * (B.2 : Int) = B.1 * (A.2 : Int) ∧ B.2 ∣ A.2 ∧ 0 < B.2 ∧ 0 < A.2
theorem fr_step {A B : Int × Nat} {Z : Int} {c : Nat} (hc : 0 < c) (h : fr A B) : fr (A.1 * ((c / Nat.gcd A.2 c : Nat) : Int) + Z * ((A.2 / Nat.gcd A.2 c : Nat) : Int), A.2 * (c / Nat.gcd A.2 c)) (pa_add B Z c) ∧ ((A.1 * ((c / Nat.gcd A.2 c : Nat) : Int) + Z * ((A.2 / Nat.gcd A.2 c : Nat) : Int)) * ((pa_D B.2 c : Nat) : Int) = pa_U B.1 B.2 Z c * ((A.2 * (c / Nat.gcd A.2 c) : Nat) : Int)) ∧ pa_D B.2 c ∣ A.2 * (c / Nat.gcd A.2 c) := by
  obtain ⟨N, d⟩ := A
  obtain ⟨M, d'⟩ := B
  obtain ⟨h1, h2, h3, h4⟩ := h
  have h1 : N * (d' : Int) = M * (d : Int) := h1
  have h2 : d' ∣ d := h2
  have h3 : 0 < d' := h3
  have h4 : 0 < d := h4
  have hg0 : 0 < Nat.gcd d c := Nat.gcd_pos_of_pos_left _ h4
  have hg0' : 0 < Nat.gcd d' c := Nat.gcd_pos_of_pos_left _ h3
  have a1 : d * (c / Nat.gcd d c) = d / Nat.gcd d c * c := by
    rw [← Nat.mul_div_assoc _ (Nat.gcd_dvd_right d c), Nat.mul_comm d c, Nat.mul_div_assoc _ (Nat.gcd_dvd_left d c), Nat.mul_comm]
  have a2 : d' * (c / Nat.gcd d' c) = d' / Nat.gcd d' c * c := by
    rw [← Nat.mul_div_assoc _ (Nat.gcd_dvd_right d' c), Nat.mul_comm d' c, Nat.mul_div_assoc _ (Nat.gcd_dvd_left d' c), Nat.mul_comm]
  have hD : pa_D d' c = Nat.lcm d' c := by rw [pa_D, ← a2, Nat.lcm, Nat.mul_div_assoc _ (Nat.gcd_dvd_right _ _)]
  have hD2 : d * (c / Nat.gcd d c) = Nat.lcm d c := by rw [Nat.lcm, Nat.mul_div_assoc _ (Nat.gcd_dvd_right _ _)]
  have hdv : pa_D d' c ∣ d * (c / Nat.gcd d c) := by
    rw [hD, hD2]
    exact Nat.lcm_dvd (Nat.dvd_trans h2 (Nat.dvd_lcm_left _ _)) (Nat.dvd_lcm_right _ _)
  have hD0 : 0 < pa_D d' c := pa_D0 h3 hc
  have hE0 : 0 < d * (c / Nat.gcd d c) := by rw [hD2]; exact Nat.lcm_pos h4 hc
  have key : (N * ((c / Nat.gcd d c : Nat) : Int) + Z * ((d / Nat.gcd d c : Nat) : Int)) * ((pa_D d' c : Nat) : Int) = pa_U M d' Z c * ((d * (c / Nat.gcd d c) : Nat) : Int) := by
    have e1 : ((pa_D d' c : Nat) : Int) = (d' : Int) * ((c / Nat.gcd d' c : Nat) : Int) := by rw [pa_D, ← a2, Int.natCast_mul]
    have e2 : ((pa_D d' c : Nat) : Int) = ((d' / Nat.gcd d' c : Nat) : Int) * (c : Int) := by rw [pa_D, Int.natCast_mul]
    have e3 : ((d * (c / Nat.gcd d c) : Nat) : Int) = (d : Int) * ((c / Nat.gcd d c : Nat) : Int) := Int.natCast_mul _ _
    have e4 : ((d * (c / Nat.gcd d c) : Nat) : Int) = ((d / Nat.gcd d c : Nat) : Int) * (c : Int) := by rw [a1, Int.natCast_mul]
    rw [pa_U, Int.add_mul, Int.add_mul]
    congr 1
    · rw [e1, e3]
      generalize ((c / Nat.gcd d c : Nat) : Int) = p
      generalize ((c / Nat.gcd d' c : Nat) : Int) = q
      calc N * p * ((d' : Int) * q) = (N * (d' : Int)) * (p * q) := by ac_rfl
        _ = (M * (d : Int)) * (p * q) := by rw [h1]
        _ = M * q * ((d : Int) * p) := by ac_rfl
    · rw [e2, e4]
      ac_rfl
  refine ⟨?_, key, hdv⟩
  have hh0 : 0 < pa_h M d' Z c := Nat.gcd_pos_of_pos_right _ hD0
  obtain ⟨u, hu⟩ : ∃ u : Int, pa_U M d' Z c = (pa_h M d' Z c : Int) * u := by
    have : (pa_h M d' Z c : Int) ∣ pa_U M d' Z c := Int.ofNat_dvd_left.mpr (Nat.gcd_dvd_left _ _)
    exact this
  obtain ⟨w, hw⟩ : ∃ w : Nat, pa_D d' c = pa_h M d' Z c * w := Nat.gcd_dvd_right (pa_U M d' Z c).natAbs (pa_D d' c)
  have t1 : (pa_add (M, d') Z c).1 = u := by
    show (pa_U M d' Z c).tdiv (pa_h M d' Z c) = u
    rw [hu, Int.mul_tdiv_cancel_left _ (by omega)]
  have t2 : (pa_add (M, d') Z c).2 = w := by
    show pa_D d' c / pa_h M d' Z c = w
    rw [hw, Nat.mul_div_cancel_left _ hh0]
  have w0 : 0 < w := by
    rcases Nat.eq_zero_or_pos w with z | z
    · rw [z, Nat.mul_zero] at hw; omega
    · exact z
  refine ⟨?_, ?_, ?_, hE0⟩
  · rw [t1, t2]
    rw [hu, hw, Int.natCast_mul] at key
    refine Int.eq_of_mul_eq_mul_left (a := (pa_h M d' Z c : Int)) (by omega) ?_
    calc (pa_h M d' Z c : Int) * ((N * ((c / Nat.gcd d c : Nat) : Int) + Z * ((d / Nat.gcd d c : Nat) : Int)) * (w : Int)) = (N * ((c / Nat.gcd d c : Nat) : Int) + Z * ((d / Nat.gcd d c : Nat) : Int)) * ((pa_h M d' Z c : Int) * (w : Int)) := by ac_rfl
      _ = (pa_h M d' Z c : Int) * u * ((d * (c / Nat.gcd d c) : Nat) : Int) := key
      _ = (pa_h M d' Z c : Int) * (u * ((d * (c / Nat.gcd d c) : Nat) : Int)) := by ac_rfl
  · rw [t2]; exact Nat.dvd_trans ⟨pa_h M d' Z c, by rw [hw, Nat.mul_comm]⟩ hdv
  · rw [t2]; exact w0
theorem fr_F {S : Nat → Int} {C : Nat → Nat} : ∀ g : Nat, fr (cF S C g) (pt_F S C g)
  | 0 => ⟨rfl, Nat.dvd_refl _, Nat.zero_lt_one, Nat.zero_lt_one⟩
  | g + 1 => by
    have ih := fr_F (S := S) (C := C) g
    by_cases e : C g = 0
    · rw [cF, if_pos e, pt_F_0 e]; exact ih
    · rw [cF, if_neg e, pt_F_1 e]; exact (fr_step (by omega) ih).1
