/-! ===== the best of three ===== -/
theorem lI_ltE {a b c d : Int} (h1 : (a * b).natAbs < 2 ^ 62) (h2 : (c * d).natAbs < 2 ^ 62) : (lI a * lI b < lI c * lI d) ↔ a * b < c * d := by
  rw [lI_mul, lI_mul, Int64.lt_iff_toInt_lt, lI_T h1, lI_T h2]
theorem mulb {a : Int} {b d x y : Nat} (h0 : 0 ≤ a) (h1 : a ≤ ((60000000 * b : Nat) : Int)) (hb : b ≤ x) (hd : d ≤ y) (hxy : 60000000 * x * y < 2 ^ 62) : (a * (d : Int)).natAbs < 2 ^ 62 := by
  have h2 : a.natAbs ≤ 60000000 * b := by omega
  have h3 : (a * (d : Int)).natAbs ≤ 60000000 * b * d := by rw [Int.natAbs_mul, Int.natAbs_natCast]; exact Nat.mul_le_mul_right _ h2
  have h4 : 60000000 * b * d ≤ 60000000 * x * y := Nat.mul_le_mul (Nat.mul_le_mul_left _ hb) hd
  omega
theorem best_eq {A F : Nat → Int × Nat} {W : Nat → Int64 × Int64} (hW : ∀ v, v < 3 → W v = (lI (A v).1, lI (((A v).2 : Nat) : Int))) (hf : ∀ v, v < 3 → fq (A v) (F v)) (hA : ∀ v, v < 3 → 0 ≤ (A v).1 ∧ (A v).1 ≤ ((60000000 * (A v).2 : Nat) : Int)) (h0 : (A 0).2 ≤ 7983360) (h1 : (A 1).2 ≤ 8000) (h2 : (A 2).2 ≤ 8000) : (sh_best W 3).1 = nI (pd_best F) := by
  obtain ⟨a, b, hS1, hq, hab⟩ : ∃ (a : Int) (b : Nat), sh_best W 1 = (nI 0, lI a, lI (b : Int)) ∧ fq (a, b) (F 0) ∧ (0 ≤ a ∧ a ≤ ((60000000 * b : Nat) : Int) ∧ b ≤ 7983360) := by
    have hf0 := hf 0 (by decide)
    have hA0 := hA 0 (by decide)
    rw [sh_best]
    by_cases c : (sh_best W 0).2.1 * (W 0).2 < (W 0).1 * (sh_best W 0).2.2
    · rw [if_pos c, hW 0 (by decide)]
      exact ⟨(A 0).1, (A 0).2, rfl, hf0, hA0.1, hA0.2, h0⟩
    · rw [if_neg c]
      refine ⟨0, 1, rfl, ?_, by omega, by omega, by omega⟩
      have z : (A 0).1 = 0 := by
        rw [hW 0 (by decide)] at c
        have c : ¬ (lI 0 * lI (((A 0).2 : Nat) : Int) < lI (A 0).1 * lI 1) := c
        have hb : ((A 0).1 * 1).natAbs < 2 ^ 62 := mulb (d := 1) (y := 1) hA0.1 hA0.2 h0 (by omega) (by decide)
        have c2 := mt (lI_ltE (a := 0) (b := (((A 0).2 : Nat) : Int)) (by rw [Int.zero_mul]; decide) hb).mpr c
        rw [Int.zero_mul, Int.mul_one] at c2
        omega
      have e := hf0.1
      rw [z, Int.zero_mul] at e
      have hF : (F 0).1 = 0 := by
        rcases Int.mul_eq_zero.mp e.symm with q | q
        · exact q
        · have := hf0.2.2; omega
      exact ⟨by rw [hF, Int.zero_mul, Int.zero_mul], hf0.2.1, Nat.zero_lt_one⟩
  have key : ∀ (i v w : Nat) (p : Int) (q : Nat), v < 3 → w < 3 → fq (p, q) (F v) → (0 ≤ p ∧ p ≤ ((60000000 * q : Nat) : Int)) → q ≤ 7983360 → (A w).2 ≤ 8000 → ((lI p * (W w).2 < (W w).1 * lI (q : Int)) ↔ pd_gt F w v = true) := by
    intro i v w p q hv hw hfq hp hq hw8
    have hAw := hA w hw
    rw [hW w hw]
    show (lI p * lI (((A w).2 : Nat) : Int) < lI (A w).1 * lI (q : Int)) ↔ _
    rw [lI_ltE (mulb hp.1 hp.2 hq hw8 (by decide)) (mulb hAw.1 hAw.2 hw8 hq (by decide)), pd_gt, decide_eq_true_iff, gt_iff (hf w hw) hfq]
  have s2 : sh_best W 2 = if pd_gt F 1 0 = true then (nI 1, (W 1).1, (W 1).2) else (nI 0, lI a, lI (b : Int)) := by
    rw [sh_best, hS1]
    have k := key 0 0 1 a b (by decide) (by decide) hq ⟨hab.1, hab.2.1⟩ hab.2.2 h1
    by_cases c : pd_gt F 1 0 = true
    · rw [if_pos c, if_pos (k.mpr c)]
    · rw [if_neg c, if_neg (fun z => c (k.mp z))]
  rw [sh_best, s2, pd_best, pd_1]
  by_cases c : pd_gt F 1 0 = true
  · rw [if_pos c, if_pos c]
    have hA1 := hA 1 (by decide)
    have k := key 0 1 2 (A 1).1 (A 1).2 (by decide) (by decide) (hf 1 (by decide)) hA1 (by omega) h2
    have hw1 := hW 1 (by decide)
    rw [hw1]
    by_cases z : pd_gt F 2 1 = true
    · rw [if_pos z, if_pos (k.mpr z)]
    · rw [if_neg z, if_neg (fun y => z (k.mp y))]
  · rw [if_neg c, if_neg c]
    have k := key 0 0 2 a b (by decide) (by decide) hq ⟨hab.1, hab.2.1⟩ hab.2.2 h2
    by_cases z : pd_gt F 2 0 = true
    · rw [if_pos z, if_pos (k.mpr z)]
    · rw [if_neg z, if_neg (fun y => z (k.mp y))]
