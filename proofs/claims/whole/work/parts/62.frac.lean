/-! ===== fractions: the class's sum, the model's sum ===== -/
theorem pt_sm {kf : Nat → Int32} : ∀ (n K : Nat), K ≤ 12 → sm (fun g => pt_c kf g n) K ≤ n := by
  intro n
  induction n with
  | zero =>
    intro K _
    have : ∀ K, sm (fun g => pt_c kf g 0) K = 0 := fun K => by
      induction K with
      | zero => rfl
      | succ K ih => rw [sm, ih]; rfl
    rw [this K]; exact Nat.le_refl _
  | succ n ih =>
    intro K hK
    have key : ∀ K, K ≤ 12 → sm (fun g => pt_c kf g (n + 1)) K ≤ sm (fun g => pt_c kf g n) K + 1 ∧ ((∀ g, g < K → ¬ kf n = nI g) → sm (fun g => pt_c kf g (n + 1)) K = sm (fun g => pt_c kf g n) K) := by
      intro K
      induction K with
      | zero => intro _; exact ⟨Nat.zero_le _, fun _ => rfl⟩
      | succ K ihK =>
        intro hK
        obtain ⟨i1, i2⟩ := ihK (by omega)
        rw [sm, sm]
        by_cases e : kf n = nI K
        · have h0 : ∀ g, g < K → ¬ kf n = nI g := fun g hg z => by
            have := (nI_eqE (show K < 2 ^ 31 by omega) (show g < 2 ^ 31 by omega)).mp (e.symm.trans z)
            omega
          have e1 : pt_c kf K (n + 1) = pt_c kf K n + 1 := by rw [pt_c, if_pos e]
          rw [i2 h0, e1]
          exact ⟨by omega, fun z => absurd e (z K (by omega))⟩
        · have e1 : pt_c kf K (n + 1) = pt_c kf K n := by rw [pt_c, if_neg e]
          rw [e1]
          exact ⟨by omega, fun z => by rw [i2 (fun g hg => z g (by omega))]⟩
    have h1 := (key K hK).1
    have h2 := ih K hK
    omega
theorem pt_s_b {kf xs : Nat → Int32} {g : Nat} : ∀ n : Nat, (∀ k, k < n → -1000 ≤ (xs k).toInt ∧ (xs k).toInt ≤ 1000) → (pt_s kf xs g n).natAbs ≤ 1000 * pt_c kf g n
  | 0, _ => Nat.le_refl _
  | n + 1, h => by
    have ih := pt_s_b (kf := kf) (g := g) n (fun k hk => h k (by omega))
    have hn := h n (by omega)
    rw [pt_s, pt_c]
    split
    · omega
    · exact ih
theorem sh_cnt_pt {kf : Nat → Int32} {g : Nat} : ∀ n : Nat, n ≤ 60 → sh_cnt kf g n = nI (pt_c kf g n) ∧ pt_c kf g n ≤ n
  | 0, _ => ⟨rfl, Nat.le_refl _⟩
  | n + 1, h => by
    obtain ⟨i1, i2⟩ := sh_cnt_pt (kf := kf) (g := g) n (by omega)
    rw [sh_cnt, pt_c, i1]
    split
    · exact ⟨(Int32.ofNat_add _ 1).symm, by omega⟩
    · exact ⟨rfl, by omega⟩
theorem sh_sum_pt {kf xs : Nat → Int32} {g : Nat} : ∀ n : Nat, n ≤ 60 → (∀ k, k < n → -1000 ≤ (xs k).toInt ∧ (xs k).toInt ≤ 1000) → (sh_sum kf xs g n).toInt = pt_s kf xs g n
  | 0, _, _ => rfl
  | n + 1, h, hx => by
    have ih := sh_sum_pt (kf := kf) (g := g) n (by omega) (fun k hk => hx k (by omega))
    have hb := pt_s_b (kf := kf) (g := g) n (fun k hk => hx k (by omega))
    have hc := (sh_cnt_pt (kf := kf) (g := g) n (by omega)).2
    have hn := hx n (by omega)
    rw [sh_sum, pt_s]
    split
    · exact ts_add ih rfl (by omega)
    · exact ih
/-- the class's sum of fractions -/
def cF (S : Nat → Int) (C : Nat → Nat) : Nat → Int × Nat
  | 0 => (0, 1)
  | g + 1 => if C g = 0 then cF S C g else ((cF S C g).1 * ((C g / Nat.gcd (cF S C g).2 (C g) : Nat) : Int) + S g * S g * (((cF S C g).2 / Nat.gcd (cF S C g).2 (C g) : Nat) : Int), (cF S C g).2 * (C g / Nat.gcd (cF S C g).2 (C g)))
theorem cF_d {S : Nat → Int} {C : Nat → Nat} : ∀ g : Nat, (cF S C g).2 = lm C g
  | 0 => rfl
  | g + 1 => by
    have ih := cF_d (S := S) (C := C) g
    rw [cF, lm]
    split
    · exact ih
    · show (cF S C g).2 * (C g / Nat.gcd (cF S C g).2 (C g)) = Nat.lcm (lm C g) (C g)
      rw [ih, Nat.lcm, Nat.mul_div_assoc _ (Nat.gcd_dvd_right _ _)]
theorem cF_b {S : Nat → Int} {C : Nat → Nat} (hS : ∀ g, (S g).natAbs ≤ 1000 * C g) : ∀ g : Nat, 0 ≤ (cF S C g).1 ∧ (cF S C g).1 ≤ ((1000000 * sm C g * (cF S C g).2 : Nat) : Int)
  | 0 => ⟨Int.le_refl _, Int.le_refl _⟩
  | g + 1 => by
    obtain ⟨i1, i2⟩ := cF_b hS g
    rw [cF, sm]
    by_cases c : C g = 0
    · rw [if_pos c, c]; exact ⟨i1, i2⟩
    · rw [if_neg c]
      have hd := Nat.gcd_dvd_left (cF S C g).2 (C g)
      have hc := Nat.gcd_dvd_right (cF S C g).2 (C g)
      generalize cF S C g = A at i1 i2 hd hc ⊢
      show 0 ≤ A.1 * ((C g / Nat.gcd A.2 (C g) : Nat) : Int) + S g * S g * ((A.2 / Nat.gcd A.2 (C g) : Nat) : Int) ∧ A.1 * ((C g / Nat.gcd A.2 (C g) : Nat) : Int) + S g * S g * ((A.2 / Nat.gcd A.2 (C g) : Nat) : Int) ≤ ((1000000 * (sm C g + C g) * (A.2 * (C g / Nat.gcd A.2 (C g))) : Nat) : Int)
      have hsq : (S g * S g).natAbs ≤ 1000 * C g * (1000 * C g) := by rw [Int.natAbs_mul]; exact Nat.mul_le_mul (hS g) (hS g)
      have hsq0 : 0 ≤ S g * S g := by rw [← Int.natAbs_mul_self]; exact Int.natCast_nonneg _
      have he : C g * (A.2 / Nat.gcd A.2 (C g)) = A.2 * (C g / Nat.gcd A.2 (C g)) := by
        rw [← Nat.mul_div_assoc _ hd, ← Nat.mul_div_assoc _ hc, Nat.mul_comm]
      generalize hp : C g / Nat.gcd A.2 (C g) = p at he ⊢
      generalize hq : A.2 / Nat.gcd A.2 (C g) = q at he ⊢
      refine ⟨Int.add_nonneg (Int.mul_nonneg i1 (Int.natCast_nonneg _)) (Int.mul_nonneg hsq0 (Int.natCast_nonneg _)), ?_⟩
      have t1 : A.1 * (p : Int) ≤ ((1000000 * sm C g * A.2 * p : Nat) : Int) := by
        rw [Int.natCast_mul _ p]; exact Int.mul_le_mul_of_nonneg_right i2 (Int.natCast_nonneg _)
      have t2 : S g * S g * (q : Int) ≤ ((1000 * C g * (1000 * C g) * q : Nat) : Int) := by
        rw [Int.natCast_mul _ q]
        exact Int.mul_le_mul_of_nonneg_right (by omega) (Int.natCast_nonneg _)
      have t3 : 1000 * C g * (1000 * C g) * q = 1000000 * C g * (A.2 * p) := by
        rw [← he]
        simp only [Nat.mul_assoc, Nat.mul_comm, Nat.mul_left_comm]
      have t4 : 1000000 * (sm C g + C g) * (A.2 * p) = 1000000 * sm C g * A.2 * p + 1000000 * C g * (A.2 * p) := by
        rw [Nat.mul_add, Nat.add_mul, Nat.mul_assoc (1000000 * sm C g)]
      rw [t3] at t2
      rw [t4, Int.natCast_add]
      exact Int.add_le_add t1 t2
