/-! ===== numbers: different counts with a small sum have a small common multiple ===== -/
def sv (b : Nat → Bool) : Nat → Nat
  | 0 => 0
  | v + 1 => sv b v + (if b (v + 1) = true then v + 1 else 0)
def pv (b : Nat → Bool) : Nat → Nat
  | 0 => 1
  | v + 1 => pv b v * (if b (v + 1) = true then v + 1 else 1)
/-- the greatest product of different numbers, none above v, their sum at most n: rows for all n up to 60 -/
def dpr : Nat → List Nat
  | 0 => List.replicate 61 1
  | v + 1 => let r := dpr v; (List.range 61).map fun n => if v + 1 ≤ n then max (r.getD n 0) ((v + 1) * r.getD (n - (v + 1)) 0) else r.getD n 0
theorem dpr_0 {n : Nat} (h : n < 61) : (dpr 0).getD n 0 = 1 := by
  rw [dpr, List.getD_eq_getElem?_getD, List.getElem?_replicate, if_pos h]; rfl
theorem dpr_S {v n : Nat} (h : n < 61) : (dpr (v + 1)).getD n 0 = if v + 1 ≤ n then max ((dpr v).getD n 0) ((v + 1) * (dpr v).getD (n - (v + 1)) 0) else (dpr v).getD n 0 := by
  rw [dpr, List.getD_eq_getElem?_getD, List.getElem?_map, List.getElem?_range h]; rfl
theorem pv_le {b : Nat → Bool} : ∀ v n : Nat, n < 61 → sv b v ≤ n → pv b v ≤ (dpr v).getD n 0
  | 0, n, hn, _ => by rw [dpr_0 hn]; exact Nat.le_refl _
  | v + 1, n, hn, h => by
    rw [sv] at h
    rw [pv, dpr_S hn]
    by_cases c : b (v + 1) = true
    · rw [if_pos c] at h
      rw [if_pos c, if_pos (by omega)]
      have ih := pv_le (b := b) v (n - (v + 1)) (by omega) (by omega)
      exact Nat.le_trans (by rw [Nat.mul_comm]; exact Nat.mul_le_mul_left _ ih) (Nat.le_max_right _ _)
    · rw [if_neg c] at h
      rw [if_neg c, Nat.mul_one]
      have ih := pv_le (b := b) v n hn (by omega)
      split
      · exact Nat.le_trans ih (Nat.le_max_left _ _)
      · exact ih
theorem dpr_60 : (dpr 60).getD 60 0 = 7983360 := by decide +kernel
theorem pv_60 {b : Nat → Bool} (h : sv b 60 ≤ 60) : pv b 60 ≤ 7983360 := by
  have := pv_le (b := b) 60 60 (by decide) h
  rw [dpr_60] at this
  exact this
theorem pv_pos {b : Nat → Bool} : ∀ v : Nat, 0 < pv b v
  | 0 => Nat.zero_lt_one
  | v + 1 => by
    rw [pv]
    refine Nat.mul_pos (pv_pos v) ?_
    split <;> omega
theorem pv_dvd {b b' : Nat → Bool} (h : ∀ v, b v = true → b' v = true) : ∀ v : Nat, pv b v ∣ pv b' v
  | 0 => Nat.dvd_refl _
  | v + 1 => by
    rw [pv, pv]
    by_cases c : b (v + 1) = true
    · rw [if_pos c, if_pos (h _ c)]
      exact Nat.mul_dvd_mul (pv_dvd h v) (Nat.dvd_refl _)
    · rw [if_neg c, Nat.mul_one]
      exact Nat.dvd_trans (pv_dvd h v) (Nat.dvd_mul_right _ _)
theorem pv_in {b : Nat → Bool} {c : Nat} (hc : 0 < c) (hb : b c = true) : ∀ v : Nat, c ≤ v → c ∣ pv b v
  | 0, h => by omega
  | v + 1, h => by
    rw [pv]
    by_cases e : c = v + 1
    · subst e
      rw [if_pos hb]
      exact Nat.dvd_mul_left _ _
    · exact Nat.dvd_trans (pv_in hc hb v (by omega)) (Nat.dvd_mul_right _ _)
theorem sv_or {b : Nat → Bool} {c : Nat} : ∀ v : Nat, sv (fun x => b x || decide (x = c)) v ≤ sv b v + (if c ≤ v then c else 0)
  | 0 => by
    show 0 ≤ _
    exact Nat.zero_le _
  | v + 1 => by
    have ih := sv_or (b := b) (c := c) v
    rw [sv, sv]
    by_cases e : v + 1 = c
    · subst e
      rw [if_neg (by omega)] at ih
      rw [if_pos (Nat.le_refl _)]
      split <;> split <;> omega
    · rw [show (b (v + 1) || decide (v + 1 = c)) = b (v + 1) by rw [decide_eq_false e, Bool.or_false]]
      by_cases z : c ≤ v
      · rw [if_pos z] at ih
        rw [if_pos (show c ≤ v + 1 by omega)]
        omega
      · rw [if_neg z] at ih
        rw [if_neg (show ¬ c ≤ v + 1 by omega)]
        omega
/-- the counts that there are, of the first k groups -/
def cts (C : Nat → Nat) : Nat → Nat → Bool
  | 0 => fun _ => false
  | k + 1 => if C k = 0 then cts C k else fun x => cts C k x || decide (x = C k)
def sm (C : Nat → Nat) : Nat → Nat
  | 0 => 0
  | k + 1 => sm C k + C k
theorem sv_0 : ∀ v : Nat, sv (fun _ => false) v = 0
  | 0 => rfl
  | v + 1 => by rw [sv, sv_0 v]; rfl
theorem sv_cts {C : Nat → Nat} : ∀ k : Nat, sv (cts C k) 60 ≤ sm C k
  | 0 => Nat.le_of_eq (sv_0 60)
  | k + 1 => by
    have ih := sv_cts (C := C) k
    rw [cts, sm]
    split
    · omega
    · have h := sv_or (b := cts C k) (c := C k) 60
      split at h <;> omega
/-- the least common multiple of the counts there are -/
def lm (C : Nat → Nat) : Nat → Nat
  | 0 => 1
  | k + 1 => if C k = 0 then lm C k else Nat.lcm (lm C k) (C k)
theorem lm_dvd {C : Nat → Nat} : ∀ k : Nat, (∀ j, j < k → C j ≤ 60) → lm C k ∣ pv (cts C k) 60
  | 0, _ => Nat.one_dvd _
  | k + 1, h => by
    have ih := lm_dvd (C := C) k (fun j hj => h j (by omega))
    rw [lm, cts]
    by_cases c : C k = 0
    · rw [if_pos c, if_pos c]; exact ih
    · rw [if_neg c, if_neg c]
      refine Nat.lcm_dvd (Nat.dvd_trans ih (pv_dvd (fun v hv => by rw [hv, Bool.true_or]) 60)) (pv_in (by omega) (by rw [decide_eq_true rfl, Bool.or_true]) 60 (h k (by omega)))
theorem lm_pos {C : Nat → Nat} : ∀ k : Nat, 0 < lm C k
  | 0 => Nat.zero_lt_one
  | k + 1 => by
    rw [lm]
    split
    · exact lm_pos k
    · exact Nat.lcm_pos (lm_pos k) (by omega)
theorem sm_le {C : Nat → Nat} : ∀ k j : Nat, j < k → C j ≤ sm C k
  | 0, j, h => absurd h (Nat.not_lt_zero j)
  | k + 1, j, h => by
    rw [sm]
    by_cases e : j = k
    · subst e; omega
    · have := sm_le (C := C) k j (by omega); omega
/-- whatever the groups: with sixty shots at most, the common multiple is small -/
theorem lm_b {C : Nat → Nat} {k : Nat} (h : sm C k ≤ 60) : lm C k ≤ 7983360 :=
  Nat.le_trans (Nat.le_of_dvd (pv_pos 60) (lm_dvd k (fun j hj => Nat.le_trans (sm_le k j hj) h))) (pv_60 (Nat.le_trans (sv_cts k) h))
theorem mx_3 : ∀ a, a < 61 → ∀ b, b < 61 → a + b ≤ 60 → max 1 a * max 1 b * max 1 (60 - a - b) ≤ 8000 := by decide +kernel
/-- of three groups -/
theorem lm_3 {C : Nat → Nat} {k : Nat} (hz : ∀ j, 3 ≤ j → j < 3 + k → C j = 0) (h : sm C 3 ≤ 60) : lm C (3 + k) ≤ 8000 := by
  have e : ∀ m, m ≤ k → lm C (3 + m) = lm C 3 := fun m => by
    induction m with
    | zero => intro _; rfl
    | succ m ih => intro hm; show (if C (3 + m) = 0 then lm C (3 + m) else _) = _; rw [if_pos (hz _ (by omega) (by omega)), ih (by omega)]
  rw [e k (Nat.le_refl _)]
  have h0 : sm C 3 = C 0 + C 1 + C 2 := by show 0 + C 0 + C 1 + C 2 = _; omega
  have g : ∀ a b : Nat, 0 < b → Nat.lcm a b ≤ a * b := fun a b _ => Nat.div_le_self _ _
  have step : ∀ a c : Nat, 0 < a → (if c = 0 then a else Nat.lcm a c) ≤ a * max 1 c := fun a c ha => by
    split
    · exact Nat.le_mul_of_pos_right a (by omega)
    · exact Nat.le_trans (g a c (by omega)) (Nat.mul_le_mul_left a (by omega))
  have p1 : lm C 1 ≤ max 1 (C 0) := by have := step 1 (C 0) (by decide); rw [Nat.one_mul] at this; exact this
  have p2 : lm C 2 ≤ max 1 (C 0) * max 1 (C 1) := Nat.le_trans (step (lm C 1) (C 1) (lm_pos 1)) (Nat.mul_le_mul_right _ p1)
  have p3 : lm C 3 ≤ max 1 (C 0) * max 1 (C 1) * max 1 (C 2) := Nat.le_trans (step (lm C 2) (C 2) (lm_pos 2)) (Nat.mul_le_mul_right _ p2)
  refine Nat.le_trans p3 ?_
  have q := mx_3 (C 0) (by omega) (C 1) (by omega) (by omega)
  exact Nat.le_trans (Nat.mul_le_mul_left _ (show max 1 (C 2) ≤ max 1 (60 - C 0 - C 1) by omega)) q
