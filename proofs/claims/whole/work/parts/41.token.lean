/-! ===== tokens: what the model finds of a run of letters, of digits ===== -/
def dg_v (f : Nat → Nat) : Nat → Nat
  | 0 => 0
  | j + 1 => 256 * dg_v f j + f j
theorem dg_inj {f g : Nat → Nat} : ∀ (a b : Nat), (∀ j, j < a → 0 < f j ∧ f j < 256) → (∀ j, j < b → 0 < g j ∧ g j < 256) → dg_v f a = dg_v g b → a = b ∧ ∀ j, j < a → f j = g j := by
  intro a
  induction a with
  | zero =>
    intro b hf hg h
    cases b with
    | zero => exact ⟨rfl, fun j hj => absurd hj (Nat.not_lt_zero _)⟩
    | succ b =>
      have := (hg b (by omega)).1
      have h2 : (0 : Nat) = 256 * dg_v g b + g b := h
      omega
  | succ a ih =>
    intro b hf hg h
    cases b with
    | zero =>
      have := (hf a (by omega)).1
      have h2 : 256 * dg_v f a + f a = 0 := h
      omega
    | succ b =>
      have h1 := hf a (by omega)
      have h2 := hg b (by omega)
      have h3 : 256 * dg_v f a + f a = 256 * dg_v g b + g b := h
      have e1 : f a = g b := by omega
      have e2 : dg_v f a = dg_v g b := by omega
      obtain ⟨e3, e4⟩ := ih b (fun j hj => hf j (by omega)) (fun j hj => hg j (by omega)) e2
      subst e3
      refine ⟨rfl, fun j hj => ?_⟩
      by_cases q : j = a
      · subst q; exact e1
      · exact e4 j (by omega)
theorem dg_lt {f : Nat → Nat} : ∀ a, (∀ j, j < a → f j < 256) → dg_v f a < 256 ^ a
  | 0, _ => Nat.zero_lt_one
  | a + 1, h => by
    have h1 := dg_lt a (fun j hj => h j (by omega))
    have h2 := h a (by omega)
    have e : 256 ^ (a + 1) = 256 ^ a * 256 := Nat.pow_succ _ _
    rw [e, dg_v]; omega
/-- a byte as a natural number -/
def by_n (tb : Nat → Int32) (q j : Nat) : Nat := (tb (q + j)).toInt.toNat
def wd_N (tb : Nat → Int32) (q : Nat) : Nat → Nat
  | 0 => 0
  | j + 1 => if j < 7 then 256 * wd_N tb q j + by_n tb q j else wd_N tb q j
theorem wd_N_le {tb : Nat → Int32} {q : Nat} : ∀ j, j ≤ 7 → wd_N tb q j = dg_v (by_n tb q) j
  | 0, _ => rfl
  | j + 1, h => by rw [wd_N, if_pos (by omega), dg_v, wd_N_le j (by omega)]
theorem wd_N_ge {tb : Nat → Int32} {q : Nat} : ∀ m, wd_N tb q (7 + m) = dg_v (by_n tb q) 7
  | 0 => wd_N_le 7 (Nat.le_refl _)
  | m + 1 => by rw [show 7 + (m + 1) = (7 + m) + 1 by omega, wd_N, if_neg (by omega)]; exact wd_N_ge m
def is_l (x : Int32) : Bool := sp_in x 97 122
theorem is_l_n {tb : Nat → Int32} {q j : Nat} (h : sp_in (tb (q + j)) 97 122 = true) : 97 ≤ by_n tb q j ∧ by_n tb q j ≤ 122 ∧ tb (q + j) = nI (by_n tb q j) := by
  have := sp_in_to h (a := 97) (b := 122) (by decide +kernel) (by decide +kernel)
  have e : ((by_n tb q j : Nat) : Int) = (tb (q + j)).toInt := by unfold by_n; omega
  refine ⟨by omega, by omega, ?_⟩
  apply Int32.toInt_inj.mp
  rw [nI_toInt (by omega), e]
theorem wd_N_lt {tb : Nat → Int32} {q : Nat} : ∀ j, (∀ k, k < j → sp_in (tb (q + k)) 97 122 = true) → wd_N tb q j < 2 ^ 60 := by
  intro j h
  by_cases hj : j ≤ 7
  · rw [wd_N_le j hj]
    have h1 := dg_lt (f := by_n tb q) j (fun k hk => by have := is_l_n (h k hk); omega)
    have h2 : 256 ^ j ≤ 256 ^ 7 := Nat.pow_le_pow_right (by omega) hj
    omega
  · obtain ⟨m, rfl⟩ : ∃ m, j = 7 + m := ⟨j - 7, by omega⟩
    rw [wd_N_ge]
    have h1 := dg_lt (f := by_n tb q) 7 (fun k hk => by have := is_l_n (h k (by omega)); omega)
    omega
def ch_u (i j : Nat) : Nat := (ch_at i j).toInt.toNat
def ch_N (i : Nat) : Nat := dg_v (ch_u i) (ch_n i)
theorem ch_ok : ∀ i, i < 5 → ∀ j, j < ch_n i → sp_in (ch_at i j) 97 122 = true ∧ (97 ≤ ch_u i j ∧ ch_u i j ≤ 122) ∧ ch_at i j = nI (ch_u i j) := by decide +kernel
theorem ch_6 : ∀ i, i < 5 → ch_n i ≤ 6 := by decide +kernel
theorem ch_N_lt : ∀ i, i < 5 → ch_N i < 2 ^ 60 := by decide +kernel
theorem ch_N_ne : ∀ i, i < 5 → ∀ j, j < 5 → ch_N i = ch_N j → i = j := by decide +kernel
/-- a run of L letters at q, no letter behind it -/
def lt_run (tn : Nat) (tb : Nat → Int32) (q L : Nat) : Prop := q + L ≤ tn ∧ (∀ j, j < L → sp_in (tb (q + j)) 97 122 = true) ∧ sp_in (rd_at tn tb (q + L)) 97 122 = false
theorem rd_at_in {tn : Nat} {tb : Nat → Int32} {q : Nat} (h : q < tn) : rd_at tn tb q = tb q := if_pos h
theorem rd_at_out {tn : Nat} {tb : Nat → Int32} {q : Nat} (h : tn ≤ q) : rd_at tn tb q = -1 := if_neg (by omega)
theorem wd_big {tb : Nat → Int32} {q L i : Nat} (h2 : ∀ j, j < L → sp_in (tb (q + j)) 97 122 = true) (hi : i < 5) (hL : 7 < L) : ¬ wd_N tb q L = ch_N i := by
  intro h
  have e : wd_N tb q L = dg_v (by_n tb q) 7 := by
    have := wd_N_ge (tb := tb) (q := q) (L - 7)
    rwa [show 7 + (L - 7) = L by omega] at this
  have h' : dg_v (by_n tb q) 7 = dg_v (ch_u i) (ch_n i) := e.symm.trans h
  have hb : ∀ j, j < 7 → 0 < by_n tb q j ∧ by_n tb q j < 256 := fun j hj => by have := is_l_n (h2 j (by omega)); omega
  have hc : ∀ j, j < ch_n i → 0 < ch_u i j ∧ ch_u i j < 256 := fun j hj => by have := (ch_ok i hi j hj).2.1; omega
  have e1 := (dg_inj 7 (ch_n i) hb hc h').1
  have := ch_6 i hi
  omega
theorem wd_small {tn : Nat} {tb : Nat → Int32} {q L i : Nat} (hr : lt_run tn tb q L) (hi : i < 5) (hL : L ≤ 7) (h : wd_N tb q L = ch_N i) : L = ch_n i ∧ rd_W tn tb i q := by
  obtain ⟨h1, h2, h3⟩ := hr
  have h' : dg_v (by_n tb q) L = dg_v (ch_u i) (ch_n i) := (wd_N_le L hL).symm.trans h
  have hb : ∀ j, j < L → 0 < by_n tb q j ∧ by_n tb q j < 256 := fun j hj => by have := is_l_n (h2 j hj); omega
  have hc : ∀ j, j < ch_n i → 0 < ch_u i j ∧ ch_u i j < 256 := fun j hj => by have := (ch_ok i hi j hj).2.1; omega
  obtain ⟨e1, e2⟩ := dg_inj L (ch_n i) hb hc h'
  refine ⟨e1, fun j hj => ?_, by rw [← e1]; exact h3⟩
  rw [rd_at_in (by omega), (is_l_n (h2 j (by omega))).2.2, (ch_ok i hi j hj).2.2, e2 j (by omega)]
theorem dg_congr {f g : Nat → Nat} : ∀ k, (∀ j, j < k → f j = g j) → dg_v f k = dg_v g k
  | 0, _ => rfl
  | k + 1, h => by rw [dg_v, dg_v, dg_congr k (fun j hj => h j (by omega)), h k (by omega)]
theorem wd_back {tn : Nat} {tb : Nat → Int32} {q i : Nat} (h1 : q + ch_n i ≤ tn) (hi : i < 5) (hw : rd_W tn tb i q) : wd_N tb q (ch_n i) = ch_N i := by
  have := ch_6 i hi
  rw [wd_N_le (ch_n i) (by omega)]
  show dg_v (by_n tb q) (ch_n i) = dg_v (ch_u i) (ch_n i)
  refine dg_congr _ (fun k hk => ?_)
  have e := hw.1 k hk
  rw [rd_at_in (by omega)] at e
  unfold by_n ch_u
  rw [e]
theorem wd_iff {tn : Nat} {tb : Nat → Int32} {q L i : Nat} (hr : lt_run tn tb q L) (hi : i < 5) : wd_N tb q L = ch_N i ↔ (L = ch_n i ∧ rd_W tn tb i q) := by
  constructor
  · intro h
    by_cases hL : L ≤ 7
    · exact wd_small hr hi hL h
    · exact absurd h (wd_big hr.2.1 hi (by omega))
  · rintro ⟨e1, hw⟩
    have h1 := hr.1
    rw [e1] at h1 ⊢
    exact wd_back h1 hi hw
theorem W_len {tn : Nat} {tb : Nat → Int32} {q L i : Nat} (hr : lt_run tn tb q L) (hi : i < 5) (h : rd_W tn tb i q) : L = ch_n i := by
  obtain ⟨h1, h2, h3⟩ := hr
  rcases Nat.lt_trichotomy L (ch_n i) with e | e | e
  · have a := h.1 L e
    rw [a, (ch_ok i hi L e).1] at h3
    cases h3
  · exact e
  · have a := h.2
    rw [rd_at_in (by omega), h2 _ e] at a
    cases a
/-- the number that a word is told by -/
def wo_v (v : Int64) : Int32 := if v = lN (ch_N 0) then 0 else if v = lN (ch_N 1) then 1 else if v = lN (ch_N 2) then 2 else if v = lN (ch_N 3) then 3 else if v = lN (ch_N 4) then 4 else -9
theorem wo_is {tn : Nat} {tb : Nat → Int32} {q L i : Nat} (hr : lt_run tn tb q L) (hi : i < 5) : wo_v (lN (wd_N tb q L)) = nI i ↔ rd_W tn tb i q := by
  have hlt := wd_N_lt L hr.2.1
  have key : ∀ k, k < 5 → (lN (wd_N tb q L) = lN (ch_N k) ↔ rd_W tn tb k q) := by
    intro k hk
    rw [pk_lEQ (by omega) (by have := ch_N_lt k hk; omega), wd_iff hr hk]
    exact ⟨fun h => h.2, fun h => ⟨W_len hr hk h, h⟩⟩
  have uniq : ∀ k l, k < 5 → l < 5 → lN (wd_N tb q L) = lN (ch_N k) → lN (wd_N tb q L) = lN (ch_N l) → k = l := by
    intro k l hk hl h1 h2
    rw [h1] at h2
    have := (pk_lEQ (by have := ch_N_lt k hk; omega) (by have := ch_N_lt l hl; omega)).mp h2
    exact ch_N_ne k hk l hl this
  have nn : ∀ a, a < 5 → ∀ b, b < 5 → nI a = nI b → a = b := by decide +kernel
  have n9 : ∀ a, a < 5 → ¬ (-9 : Int32) = nI a := by decide +kernel
  unfold wo_v
  by_cases h0 : lN (wd_N tb q L) = lN (ch_N 0)
  · rw [if_pos h0]
    exact ⟨fun e => by have e2 := nn 0 (by omega) i hi e; subst e2; exact (key 0 (by omega)).mp h0, fun h => by have e2 := uniq 0 i (by omega) hi h0 ((key i hi).mpr h); subst e2; rfl⟩
  rw [if_neg h0]
  by_cases h1 : lN (wd_N tb q L) = lN (ch_N 1)
  · rw [if_pos h1]
    exact ⟨fun e => by have e2 := nn 1 (by omega) i hi e; subst e2; exact (key 1 (by omega)).mp h1, fun h => by have e2 := uniq 1 i (by omega) hi h1 ((key i hi).mpr h); subst e2; rfl⟩
  rw [if_neg h1]
  by_cases h2 : lN (wd_N tb q L) = lN (ch_N 2)
  · rw [if_pos h2]
    exact ⟨fun e => by have e2 := nn 2 (by omega) i hi e; subst e2; exact (key 2 (by omega)).mp h2, fun h => by have e2 := uniq 2 i (by omega) hi h2 ((key i hi).mpr h); subst e2; rfl⟩
  rw [if_neg h2]
  by_cases h3 : lN (wd_N tb q L) = lN (ch_N 3)
  · rw [if_pos h3]
    exact ⟨fun e => by have e2 := nn 3 (by omega) i hi e; subst e2; exact (key 3 (by omega)).mp h3, fun h => by have e2 := uniq 3 i (by omega) hi h3 ((key i hi).mpr h); subst e2; rfl⟩
  rw [if_neg h3]
  by_cases h4 : lN (wd_N tb q L) = lN (ch_N 4)
  · rw [if_pos h4]
    exact ⟨fun e => by have e2 := nn 4 (by omega) i hi e; subst e2; exact (key 4 (by omega)).mp h4, fun h => by have e2 := uniq 4 i (by omega) hi h4 ((key i hi).mpr h); subst e2; rfl⟩
  rw [if_neg h4]
  refine ⟨fun e => absurd e (n9 i hi), fun h => ?_⟩
  have hk := (key i hi).mpr h
  match i, hi, hk with
  | 0, _, hk => exact absurd hk h0
  | 1, _, hk => exact absurd hk h1
  | 2, _, hk => exact absurd hk h2
  | 3, _, hk => exact absurd hk h3
  | 4, _, hk => exact absurd hk h4
  | n + 5, h, _ => omega
theorem wo_all (v : Int64) : wo_v v = -9 ∨ ∃ i, i < 5 ∧ wo_v v = nI i := by
  unfold wo_v
  split
  · exact Or.inr ⟨0, by omega, rfl⟩
  split
  · exact Or.inr ⟨1, by omega, rfl⟩
  split
  · exact Or.inr ⟨2, by omega, rfl⟩
  split
  · exact Or.inr ⟨3, by omega, rfl⟩
  split
  · exact Or.inr ⟨4, by omega, rfl⟩
  · exact Or.inl rfl
theorem rd_V_no {tn : Nat} {tb : Nat → Int32} {q : Nat} {lo hi : Int32} (h : q < tn → sp_in (tb q) 48 57 = false) : rd_V tn tb q lo hi = false := by
  cases hv : rd_V tn tb q lo hi with
  | false => rfl
  | true => exact absurd ((rd_V_dig hv).symm.trans (h (rd_V_tn hv))) (by decide)
theorem l_no_d {x : Int32} (h : sp_in x 97 122 = true) : sp_in x 48 57 = false := by
  have := sp_in_to h (a := 97) (b := 122) (by decide +kernel) (by decide +kernel)
  exact sp_in_2 (Int32.lt_iff_toInt_lt.mpr (by rw [show (57 : Int32).toInt = 57 from by decide +kernel]; omega))
theorem d_no_l {x : Int32} (h : sp_in x 48 57 = true) : sp_in x 97 122 = false := by
  have := sp_in_to h (a := 48) (b := 57) (by decide +kernel) (by decide +kernel)
  exact sp_in_1 (Int32.lt_iff_toInt_lt.mpr (by rw [show (97 : Int32).toInt = 97 from by decide +kernel]; omega))
theorem W_first {tn : Nat} {tb : Nat → Int32} {q i : Nat} (hi : i < 5) (h : rd_W tn tb i q) : q < tn ∧ sp_in (tb q) 97 122 = true := by
  have h0 := (ch_pos i hi).1
  have e := h.1 0 h0
  have hq : q < tn := by have := rd_W_le hi h; omega
  rw [Nat.add_zero, rd_at_in hq] at e
  exact ⟨hq, by rw [e]; exact (ch_ok i hi 0 h0).1⟩
theorem tok_end {tn : Nat} {tb : Nat → Int32} {va : Int32} : tok_ok tn tb tn 0 va tn := by
  have hV : ∀ lo hi : Int32, rd_V tn tb tn lo hi = false := fun lo hi => rd_V_no (fun h => absurd h (Nat.lt_irrefl _))
  have hW : ∀ i, i < 5 → ¬ rd_W tn tb i tn := fun i hi h => absurd (W_first hi h).1 (Nat.lt_irrefl _)
  have hat : rd_at tn tb tn = -1 := rd_at_out (Nat.le_refl _)
  refine ⟨⟨fun _ => rfl, fun _ => rfl⟩, fun i hi => ⟨fun h => absurd h.1 (by decide), fun h => absurd h (hW i hi)⟩, fun i hi h => absurd h (hW i hi), fun lo hi _ => ⟨fun h => absurd h.1 (by decide), fun h => ?_⟩, fun lo hi _ h => ?_, ⟨fun h => absurd h (by decide), fun h => ?_⟩, fun h => ?_, fun h => absurd h (by decide), Nat.le_refl _⟩
  · rw [hV] at h; cases h
  · rw [hV] at h; cases h
  · rw [hat] at h; exact absurd h (by decide)
  · rw [hat] at h; exact absurd h (by decide)
theorem tok_word {tn : Nat} {tb : Nat → Int32} {q L : Nat} {tk : Int32} (hr : lt_run tn tb q L) (hL : 0 < L) (h4 : wo_v (lN (wd_N tb q L)) = -9 → tk = 4) (h1 : ¬ wo_v (lN (wd_N tb q L)) = -9 → tk = 1) : tok_ok tn tb q tk (wo_v (lN (wd_N tb q L))) (q + L) := by
  have hq : q < tn := by have := hr.1; omega
  have hl : sp_in (tb q) 97 122 = true := hr.2.1 0 hL
  have hV : ∀ lo hi : Int32, rd_V tn tb q lo hi = false := fun lo hi => rd_V_no (fun _ => l_no_d hl)
  have hat : rd_at tn tb q = tb q := rd_at_in hq
  have n59 : ¬ tb q = 59 := fun e => by rw [e] at hl; exact absurd hl (by decide)
  have htk : tk = 4 ∨ tk = 1 := by
    by_cases h : wo_v (lN (wd_N tb q L)) = -9
    · exact Or.inl (h4 h)
    · exact Or.inr (h1 h)
  have n9 : ∀ a, a < 5 → ¬ (-9 : Int32) = nI a := by decide +kernel
  refine ⟨⟨fun h => ?_, fun h => absurd h (by omega)⟩, fun i hi => ⟨fun h => (wo_is hr hi).mp h.2, fun h => ⟨h1 (fun e => n9 i hi (e.symm.trans ((wo_is hr hi).mpr h))), (wo_is hr hi).mpr h⟩⟩, fun i hi h => by rw [W_len hr hi h], fun lo hi _ => ⟨fun h => ?_, fun h => ?_⟩, fun lo hi _ h => ?_, ⟨fun h => ?_, fun h => ?_⟩, fun h => ?_, fun h => ?_, hr.1⟩
  · rcases htk with e | e <;> (rw [e] at h; exact absurd h (by decide))
  · rcases htk with e | e <;> (have := h.1; rw [e] at this; exact absurd this (by decide))
  · rw [hV] at h; cases h
  · rw [hV] at h; cases h
  · rcases htk with e | e <;> (rw [e] at h; exact absurd h (by decide))
  · rw [hat] at h; exact absurd h n59
  · rw [hat] at h; exact absurd h n59
  · rcases wo_all (lN (wd_N tb q L)) with e | e
    · have := h4 e; rw [this] at h; exact absurd h (by decide)
    · exact e
theorem tok_sign {tn : Nat} {tb : Nat → Int32} {q : Nat} {tk va : Int32} (hq : q < tn) (hl : sp_in (tb q) 97 122 = false) (hd : sp_in (tb q) 48 57 = false) (h3 : tb q = 59 → tk = 3) (h4 : ¬ tb q = 59 → tk = 4) : tok_ok tn tb q tk va (q + 1) := by
  have hV : ∀ lo hi : Int32, rd_V tn tb q lo hi = false := fun lo hi => rd_V_no (fun _ => hd)
  have hW : ∀ i, i < 5 → ¬ rd_W tn tb i q := fun i hi h => by have := (W_first hi h).2; rw [hl] at this; cases this
  have hat : rd_at tn tb q = tb q := rd_at_in hq
  have htk : tk = 3 ∨ tk = 4 := by
    by_cases h : tb q = 59
    · exact Or.inl (h3 h)
    · exact Or.inr (h4 h)
  refine ⟨⟨fun h => ?_, fun h => absurd h (by omega)⟩, fun i hi => ⟨fun h => ?_, fun h => absurd h (hW i hi)⟩, fun i hi h => absurd h (hW i hi), fun lo hi _ => ⟨fun h => ?_, fun h => ?_⟩, fun lo hi _ h => ?_, ⟨fun h => ?_, fun h => ?_⟩, fun _ => rfl, fun h => ?_, hq⟩
  · rcases htk with e | e <;> (rw [e] at h; exact absurd h (by decide))
  · rcases htk with e | e <;> (have := h.1; rw [e] at this; exact absurd this (by decide))
  · rcases htk with e | e <;> (have := h.1; rw [e] at this; exact absurd this (by decide))
  · rw [hV] at h; cases h
  · rw [hV] at h; cases h
  · rw [hat]
    by_cases e : tb q = 59
    · exact e
    · rw [h4 e] at h; exact absurd h (by decide)
  · rw [hat] at h; exact h3 h
  · rcases htk with e | e <;> (rw [e] at h; exact absurd h (by decide))
/-! digits -/
def dm_v (tb : Nat → Int32) (q : Nat) : Nat → Int32
  | 0 => 0
  | j + 1 => if 999 < dm_v tb q j then dm_v tb q j else 10 * dm_v tb q j + tb (q + j) - 48
def dc_v (tb : Nat → Int32) (q : Nat) : Nat → Int32
  | 0 => 0
  | j + 1 => sp_min 1000 (dc_v tb q j * 10 + tb (q + j) - 48)
def dg_run (tn : Nat) (tb : Nat → Int32) (q L : Nat) : Prop := q + L ≤ tn ∧ (∀ j, j < L → sp_in (tb (q + j)) 48 57 = true) ∧ sp_in (rd_at tn tb (q + L)) 48 57 = false
theorem dg_num {tn : Nat} {tb : Nat → Int32} {q L : Nat} (hr : dg_run tn tb q L) : ∀ m j, j + m = L → rd_num tb (tn - (q + j)) (q + j, dc_v tb q j) = (q + L, dc_v tb q L) := by
  intro m
  induction m with
  | zero =>
    intro j hj
    have e : j = L := by omega
    subst e
    by_cases h : q + j < tn
    · obtain ⟨k, hk⟩ : ∃ k, tn - (q + j) = k + 1 := ⟨tn - (q + j) - 1, by omega⟩
      rw [hk, rd_num_0]
      have := hr.2.2
      rwa [rd_at_in h] at this
    · rw [show tn - (q + j) = 0 by omega]; rfl
  | succ m ih =>
    intro j hj
    have h1 := hr.1
    obtain ⟨k, hk⟩ : ∃ k, tn - (q + j) = k + 1 := ⟨tn - (q + j) - 1, by omega⟩
    rw [hk, rd_num_1 (hr.2.1 j (by omega)), show k = tn - (q + (j + 1)) by omega, show q + j + 1 = q + (j + 1) by omega]
    exact ih (j + 1) (by omega)
theorem dg_nm {tn : Nat} {tb : Nat → Int32} {q L : Nat} (hr : dg_run tn tb q L) : rd_nm tn tb q = (q + L, dc_v tb q L) := dg_num hr L 0 (Nat.zero_add _)
theorem dg_rel {tn : Nat} {tb : Nat → Int32} {q L : Nat} (hr : dg_run tn tb q L) : ∀ j, j ≤ L → (0 ≤ (dm_v tb q j).toInt ∧ (dm_v tb q j).toInt ≤ 999 ∧ dc_v tb q j = dm_v tb q j) ∨ (999 < (dm_v tb q j).toInt ∧ (dm_v tb q j).toInt ≤ 10000 ∧ dc_v tb q j = 1000) := by
  intro j
  induction j with
  | zero => intro _; left; exact ⟨show 0 ≤ (0 : Int32).toInt by decide +kernel, show (0 : Int32).toInt ≤ 999 by decide +kernel, rfl⟩
  | succ j ih =>
    intro hj
    have hd := sp_in_to (hr.2.1 j (by omega)) (a := 48) (b := 57) (by decide +kernel) (by decide +kernel)
    have rd : rb (tb (q + j)) 57 := rb_of hd.1 hd.2 (by omega) (by omega)
    have e48 : (48 : Int32).toInt = 48 := by decide +kernel
    have r48 : rb (48 : Int32) 48 := rb_l (by decide +kernel)
    have r10 : rb (10 : Int32) 10 := rb_l (by decide +kernel)
    have e1000 : (1000 : Int32).toInt = 1000 := by decide +kernel
    have e999 : (999 : Int32).toInt = 999 := by decide +kernel
    rcases ih (by omega) with ⟨h0, h1, h2⟩ | ⟨h0, h1, h2⟩
    · have r : rb (dm_v tb q j) 999 := rb_of h0 h1 (by omega) (by omega)
      have rm : rb (10 * dm_v tb q j) 9990 := rb_mul r10 r (by omega) (by omega)
      have em : (10 * dm_v tb q j).toInt = 10 * (dm_v tb q j).toInt := by rw [ti_mul r10 r (by omega), ti_10]
      have ra : rb (10 * dm_v tb q j + tb (q + j)) 10047 := rb_add rm rd (by omega) (by omega)
      have ea : (10 * dm_v tb q j + tb (q + j) - 48).toInt = 10 * (dm_v tb q j).toInt + (tb (q + j)).toInt - 48 := by rw [ti_sub ra r48 (by omega), ti_add rm rd (by omega), em, e48]
      have ev : dm_v tb q (j + 1) = 10 * dm_v tb q j + tb (q + j) - 48 := by
        rw [dm_v, if_neg (fun z => by have := Int32.lt_iff_toInt_lt.mp z; omega)]
      have ec : dc_v tb q (j + 1) = sp_min 1000 (10 * dm_v tb q j + tb (q + j) - 48) := by rw [dc_v, h2, Int32.mul_comm]
      rw [ev, ec, ea]
      by_cases hb : (10 * dm_v tb q j + tb (q + j) - 48) < (1000 : Int32)
      · left
        have := Int32.lt_iff_toInt_lt.mp hb
        refine ⟨by omega, by omega, if_pos hb⟩
      · right
        have : ¬ (10 * dm_v tb q j + tb (q + j) - 48).toInt < (1000 : Int32).toInt := fun z => hb (Int32.lt_iff_toInt_lt.mpr z)
        refine ⟨by omega, by omega, if_neg hb⟩
    · right
      have ev : dm_v tb q (j + 1) = dm_v tb q j := by rw [dm_v, if_pos (Int32.lt_iff_toInt_lt.mpr (by omega))]
      have r3 : rb (1000 * 10 + tb (q + j)) 10057 := rb_add (A := 10000) (rb_l (by decide +kernel)) rd (by omega) (by omega)
      have e3 : ((1000 : Int32) * 10 + tb (q + j) - 48).toInt = 10000 + (tb (q + j)).toInt - 48 := by rw [ti_sub r3 r48 (by omega), ti_add (A := 10000) (rb_l (by decide +kernel)) rd (by omega), e48, show ((1000 : Int32) * 10).toInt = 10000 from by decide +kernel]
      refine ⟨by rw [ev]; omega, by rw [ev]; omega, ?_⟩
      rw [dc_v, h2]
      exact if_neg (fun z => by have := Int32.lt_iff_toInt_lt.mp z; omega)
theorem tok_num {tn : Nat} {tb : Nat → Int32} {q L : Nat} {tk : Int32} (hr : dg_run tn tb q L) (hL : 0 < L) (h4 : (999 < dm_v tb q L ∨ (tb q = 48 ∧ 1 < L)) → tk = 4) (h2 : ¬ (999 < dm_v tb q L ∨ (tb q = 48 ∧ 1 < L)) → tk = 2) : tok_ok tn tb q tk (dm_v tb q L) (q + L) := by
  have hq : q < tn := by have := hr.1; omega
  have hd : sp_in (tb q) 48 57 = true := hr.2.1 0 hL
  have hW : ∀ i, i < 5 → ¬ rd_W tn tb i q := fun i hi h => by have := (W_first hi h).2; rw [d_no_l hd] at this; cases this
  have hat : rd_at tn tb q = tb q := rd_at_in hq
  have n59 : ¬ tb q = 59 := fun e => by rw [e] at hd; exact absurd hd (by decide)
  have htk : tk = 4 ∨ tk = 2 := by
    by_cases h : (999 < dm_v tb q L ∨ (tb q = 48 ∧ 1 < L))
    · exact Or.inl (h4 h)
    · exact Or.inr (h2 h)
  have e999 : (999 : Int32).toInt = 999 := by decide +kernel
  have hrel := dg_rel hr L (Nat.le_refl _)
  have hV : ∀ lo hi : Int32, hi ≤ 999 → (tk = 2 ∧ sp_in (dm_v tb q L) lo hi = true ↔ rd_V tn tb q lo hi = true) := by
    intro lo hi hhi
    have hh := Int32.le_iff_toInt_le.mp hhi
    show _ ↔ rd_okx q (rd_nm tn tb q).1 (rd_at tn tb q) (rd_nm tn tb q).2 lo hi = true
    rw [dg_nm hr, hat]
    constructor
    · rintro ⟨ht, hs⟩
      have hn : ¬ (999 < dm_v tb q L ∨ (tb q = 48 ∧ 1 < L)) := fun z => by rw [h4 z] at ht; exact absurd ht (by decide)
      rcases hrel with ⟨-, -, e⟩ | ⟨e, -, -⟩
      · exact rd_x0 (by show q < q + L; omega) (fun z => hn (Or.inr ⟨z.2, by have : q + 1 < q + L := z.1; omega⟩)) (by show sp_in (dc_v tb q L) lo hi = true; rw [e]; exact hs)
      · exact absurd (Or.inl (Int32.lt_iff_toInt_lt.mpr (by omega))) hn
    · intro h
      obtain ⟨g1, g2, g3⟩ := rd_x1 h
      have g3' : sp_in (dc_v tb q L) lo hi = true := g3
      rcases hrel with ⟨e0, e1, e⟩ | ⟨e0, e1, e⟩
      · refine ⟨h2 (fun z => ?_), by rw [← e]; exact g3'⟩
        rcases z with z | z
        · have := Int32.lt_iff_toInt_lt.mp z; omega
        · exact g2 ⟨by show q + 1 < q + L; omega, z.1⟩
      · rw [e] at g3'
        have := (sp_in_iff.mp g3').2
        have := Int32.le_iff_toInt_le.mp this
        rw [show (1000 : Int32).toInt = 1000 from by decide +kernel] at this
        omega
  refine ⟨⟨fun h => ?_, fun h => absurd h (by omega)⟩, fun i hi => ⟨fun h => ?_, fun h => absurd h (hW i hi)⟩, fun i hi h => absurd h (hW i hi), hV, fun lo hi hhi h => ?_, ⟨fun h => ?_, fun h => ?_⟩, fun h => ?_, fun h => ?_, hr.1⟩
  · rcases htk with e | e <;> (rw [e] at h; exact absurd h (by decide))
  · rcases htk with e | e <;> (have := h.1; rw [e] at this; exact absurd this (by decide))
  · have h0 := (hV lo hi hhi).mpr h
    rw [dg_nm hr]
    refine ⟨rfl, ?_⟩
    rcases hrel with ⟨-, -, e⟩ | ⟨e0, e1, e⟩
    · exact e.symm
    · exfalso
      have := (h2 · )
      have h5 : tk = 4 := h4 (Or.inl (Int32.lt_iff_toInt_lt.mpr (by omega)))
      rw [h5] at h0; exact absurd h0.1 (by decide)
  · rcases htk with e | e <;> (rw [e] at h; exact absurd h (by decide))
  · rw [hat] at h; exact absurd h n59
  · rw [hat] at h; exact absurd h n59
  · rcases htk with e | e <;> (rw [e] at h; exact absurd h (by decide))
