/-! ===== what a text tells: tokens, items ===== -/
/-- the token at a place, as the model holds it: its kind, its value, where the next begins -/
def tok_ok (tn : Nat) (tb : Nat → Int32) (q : Nat) (tk va : Int32) (nx : Nat) : Prop :=
  (tk = 0 ↔ q = tn) ∧ (∀ i, i < 5 → (tk = 1 ∧ va = nI i ↔ rd_W tn tb i q)) ∧ (∀ i, i < 5 → rd_W tn tb i q → nx = q + ch_n i) ∧
  (∀ lo hi : Int32, hi ≤ 999 → (tk = 2 ∧ sp_in va lo hi = true ↔ rd_V tn tb q lo hi = true)) ∧ (∀ lo hi : Int32, hi ≤ 999 → rd_V tn tb q lo hi = true → nx = (rd_nm tn tb q).1 ∧ va = (rd_nm tn tb q).2) ∧
  (tk = 3 ↔ rd_at tn tb q = 59) ∧ (rd_at tn tb q = 59 → nx = q + 1) ∧ (tk = 1 → ∃ i, i < 5 ∧ va = nI i) ∧ nx ≤ tn
def rd_Wd (tn : Nat) (tb : Nat → Int32) (i q : Nat) : Decidable (rd_W tn tb i q) := inferInstanceAs (Decidable ((∀ j, j < ch_n i → rd_at tn tb (q + j) = ch_at i j) ∧ sp_in (rd_at tn tb (q + ch_n i)) 97 122 = false))
def rd_Wb (tn : Nat) (tb : Nat → Int32) (i q : Nat) : Bool := @decide (rd_W tn tb i q) (rd_Wd tn tb i q)
theorem rd_Wb_iff {tn : Nat} {tb : Nat → Int32} {i q : Nat} : rd_Wb tn tb i q = true ↔ rd_W tn tb i q := ⟨fun h => @of_decide_eq_true _ (rd_Wd tn tb i q) h, fun h => @decide_eq_true _ (rd_Wd tn tb i q) h⟩
/-- a number asked for, well at a place (true) or faulted at one (false) -/
def nb_v (tn : Nat) (tb : Nat → Int32) (ps : Bool × Nat) (lo hi : Int32) : Int32 := if ps.1 = true ∧ rd_V tn tb (rd_skip tn tb ps.2) lo hi = true then (rd_nm tn tb (rd_skip tn tb ps.2)).2 else 0
def nb_s (tn : Nat) (tb : Nat → Int32) (ps : Bool × Nat) (lo hi : Int32) : Bool × Nat := if ps.1 = true then (if rd_V tn tb (rd_skip tn tb ps.2) lo hi = true then (true, (rd_nm tn tb (rd_skip tn tb ps.2)).1) else (false, rd_skip tn tb ps.2)) else ps
def nb_p (tn : Nat) (tb lo hi : Nat → Int32) (p : Nat) : Nat → Bool × Nat
  | 0 => (true, p)
  | k + 1 => nb_s tn tb (nb_p tn tb lo hi p k) (lo k) (hi k)
def nb_w (tn : Nat) (tb lo hi : Nat → Int32) (p k : Nat) : Int32 := nb_v tn tb (nb_p tn tb lo hi p k) (lo k) (hi k)
def it_end (tn : Nat) (tb : Nat → Int32) (ps : Bool × Nat) : Bool × Nat := if ps.1 = true then (if rd_at tn tb (rd_skip tn tb ps.2) = 59 then (true, rd_skip tn tb ps.2 + 1) else (false, rd_skip tn tb ps.2)) else ps
abbrev rs_T : Type := Nat × Nat × Nat × (Nat → Int32) × (Nat → Int32) × (Nat → Int32)
def rs_stk (S : Nat → Int32) (c : Nat) (v : Nat → Int32) : Nat → Int32 := fun q => if 7 * c ≤ q ∧ q < 7 * c + 6 then v (q - 7 * c) else if q = 7 * c + 6 then 0 else S q
def rs_two (B : Nat → Int32) (c : Nat) (x y : Int32) : Nat → Int32 := upd (upd B (2 * c) x) (2 * c + 1) y
def lo_S : Nat → Int32 := fun k => (ev_stA 2).getD k 0
def hi_S : Nat → Int32 := fun k => (ev_stA 3).getD k 0
def lo_B : Nat → Int32 := fun k => (ev_stA 4).getD k 0
def hi_B : Nat → Int32 := fun k => (ev_stA 5).getD k 0
def lo_A : Nat → Int32 := fun k => (ev_stA 6).getD k 0
def hi_A : Nat → Int32 := fun k => (ev_stA 7).getD k 0
/-- an item at a place: where it ends or fails, what is there then -/
def it_S (tn : Nat) (tb : Nat → Int32) (p : Nat) (A : rs_T) : (Bool × Nat) × rs_T := (it_end tn tb (nb_p tn tb lo_S hi_S (p + 5) 6), (A.1 + 1, A.2.1, A.2.2.1, rs_stk A.2.2.2.1 A.1 (nb_w tn tb lo_S hi_S (p + 5)), A.2.2.2.2.1, A.2.2.2.2.2))
def it_B (tn : Nat) (tb : Nat → Int32) (p : Nat) (A : rs_T) : (Bool × Nat) × rs_T := (it_end tn tb (nb_p tn tb lo_B hi_B (p + 3) 2), (A.1, A.2.1 + 1, A.2.2.1, A.2.2.2.1, rs_two A.2.2.2.2.1 A.2.1 (nb_w tn tb lo_B hi_B (p + 3) 0) (nb_w tn tb lo_B hi_B (p + 3) 1), A.2.2.2.2.2))
def it_L (tn : Nat) (tb : Nat → Int32) (q : Nat) (A : rs_T) : (Bool × Nat) × rs_T := (it_end tn tb (nb_p tn tb lo_A hi_A (q + 4) 2), (A.1, A.2.1, A.2.2.1 + 1, A.2.2.2.1, A.2.2.2.2.1, rs_two A.2.2.2.2.2 A.2.2.1 (-nb_w tn tb lo_A hi_A (q + 4) 0) (nb_w tn tb lo_A hi_A (q + 4) 1)))
def it_R (tn : Nat) (tb : Nat → Int32) (q : Nat) (A : rs_T) : (Bool × Nat) × rs_T := (it_end tn tb (nb_p tn tb lo_A hi_A (q + 5) 2), (A.1, A.2.1, A.2.2.1 + 1, A.2.2.2.1, A.2.2.2.2.1, rs_two A.2.2.2.2.2 A.2.2.1 (nb_w tn tb lo_A hi_A (q + 5) 0) (nb_w tn tb lo_A hi_A (q + 5) 1)))
def it_A (tn : Nat) (tb : Nat → Int32) (p : Nat) (A : rs_T) : (Bool × Nat) × rs_T := if rd_Wb tn tb 3 (rd_skip tn tb (p + 6)) = true then it_L tn tb (rd_skip tn tb (p + 6)) A else if rd_Wb tn tb 4 (rd_skip tn tb (p + 6)) = true then it_R tn tb (rd_skip tn tb (p + 6)) A else ((false, rd_skip tn tb (p + 6)), A)
def it_x (tn : Nat) (tb : Nat → Int32) (p : Nat) (A : rs_T) : (Bool × Nat) × rs_T := if A.1 < 12 ∧ rd_Wb tn tb 0 p = true then it_S tn tb p A else if A.2.1 < 3 ∧ rd_Wb tn tb 1 p = true then it_B tn tb p A else if A.2.2.1 < 3 ∧ rd_Wb tn tb 2 p = true then it_A tn tb p A else ((false, p), A)
/-- all of them from a place on: whether all is well; how many, or where it fails; what is there then -/
def rdr (tn : Nat) (tb : Nat → Int32) : Nat → Nat → Nat → rs_T → Bool × Nat × rs_T
  | 0, _, k, A => (true, k, A)
  | f + 1, p, k, A => if p = tn then (true, k, A) else if (it_x tn tb p A).1.1 = true then rdr tn tb f (rd_skip tn tb (it_x tn tb p A).1.2) (k + 1) (it_x tn tb p A).2 else (false, (it_x tn tb p A).1.2, A)
theorem rdr_end {tn : Nat} {tb : Nat → Int32} {p k : Nat} {A : rs_T} (f : Nat) (h : p = tn) : rdr tn tb f p k A = (true, k, A) := by
  cases f with
  | zero => rfl
  | succ f => rw [rdr, if_pos h]
theorem rdr_go {tn : Nat} {tb : Nat → Int32} {p k : Nat} {A : rs_T} {f : Nat} (h : ¬ p = tn) (h2 : (it_x tn tb p A).1.1 = true) : rdr tn tb (f + 1) p k A = rdr tn tb f (rd_skip tn tb (it_x tn tb p A).1.2) (k + 1) (it_x tn tb p A).2 := by rw [rdr, if_neg h, if_pos h2]
theorem rdr_no {tn : Nat} {tb : Nat → Int32} {p k : Nat} {A : rs_T} {f : Nat} (h : ¬ p = tn) (h2 : (it_x tn tb p A).1.1 = false) : rdr tn tb (f + 1) p k A = (false, (it_x tn tb p A).1.2, A) := by rw [rdr, if_neg h, if_neg (by rw [h2]; decide)]
theorem rd_V_lt {tn : Nat} {tb : Nat → Int32} {q : Nat} {lo hi : Int32} (h : rd_V tn tb q lo hi = true) : q < (rd_nm tn tb q).1 := (rd_x1 h).1
theorem rd_num_dig {tb : Nat → Int32} : ∀ (m : Nat) (a : Nat × Int32), a.1 < (rd_num tb m a).1 → sp_in (tb a.1) 48 57 = true := by
  intro m
  cases m with
  | zero => intro a h; exact absurd h (Nat.lt_irrefl _)
  | succ m =>
    intro a h
    cases hd : sp_in (tb a.1) 48 57 with
    | true => rfl
    | false =>
      have : rd_num tb (m + 1) a = a := rd_num_0 (q := a.1) (v := a.2) hd
      rw [this] at h
      exact absurd h (Nat.lt_irrefl _)
theorem rd_V_dig {tn : Nat} {tb : Nat → Int32} {q : Nat} {lo hi : Int32} (h : rd_V tn tb q lo hi = true) : sp_in (tb q) 48 57 = true := rd_num_dig (tn - q) (q, 0) (rd_V_lt h)
theorem rd_V_tn {tn : Nat} {tb : Nat → Int32} {q : Nat} {lo hi : Int32} (h : rd_V tn tb q lo hi = true) : q < tn := by
  have h1 := rd_V_lt h
  have h2 := rd_num_le (tb := tb) (tn - q) (q, 0)
  have h3 : (rd_nm tn tb q).1 ≤ q + (tn - q) := h2.2
  omega
theorem nb_s_le {tn : Nat} {tb : Nat → Int32} {ps : Bool × Nat} {lo hi : Int32} (h : ps.2 ≤ tn) : (nb_s tn tb ps lo hi).2 ≤ tn := by
  unfold nb_s
  split
  · split
    · exact (rd_nm_le (rd_skip_le h).2).2
    · exact (rd_skip_le h).2
  · exact h
theorem nb_p_le {tn : Nat} {tb lo hi : Nat → Int32} {p : Nat} (h : p ≤ tn) : ∀ k, (nb_p tn tb lo hi p k).2 ≤ tn
  | 0 => h
  | k + 1 => nb_s_le (nb_p_le h k)
