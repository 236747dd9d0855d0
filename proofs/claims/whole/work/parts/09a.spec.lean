/-! ===== what is computed: plain functions ===== -/
def sp_in (v lo hi : Int32) : Bool := decide (lo ≤ v) && decide (v ≤ hi)
theorem sp_in_t {v lo hi : Int32} (h1 : lo ≤ v) (h2 : v ≤ hi) : sp_in v lo hi = true := by simp [sp_in, h1, h2]
theorem sp_in_1 {v lo hi : Int32} (h : v < lo) : sp_in v lo hi = false := by simp [sp_in, Int32.not_le.mpr h]
theorem sp_in_2 {v lo hi : Int32} (h : hi < v) : sp_in v lo hi = false := by simp [sp_in, Int32.not_le.mpr h]
theorem sp_in_iff {v lo hi : Int32} : sp_in v lo hi = true ↔ lo ≤ v ∧ v ≤ hi := by simp [sp_in]
theorem sp_in_no {v lo hi : Int32} : sp_in v lo hi = false ↔ v < lo ∨ hi < v := by
  simp only [sp_in, Bool.and_eq_false_iff, decide_eq_false_iff_not, Int32.not_le]
def sp_abs (a : Int32) : Int32 := if 0 ≤ a then a else 0 - a
def sp_div (v b : Int32) : Int32 := if b = 0 then 0 else v / b
def sp_rem (v b : Int32) : Int32 := if b = 0 then 0 else v - v / b * b
def sp_spine (st l t : Int32) : Int32 := sp_div (st * 112) l - t / 10
def sp_need (d w : Int32) : Int32 := d + 2 * w
def sp_stiff (s0 s1 side : Int32) : Int32 := if side = 0 then s0 else s1
def sp_min (a b : Int32) : Int32 := if b < a then b else a
def sp_max (a b : Int32) : Int32 := if a < b then b else a
def sp_scr (s0 s1 w : Int32) : Int32 := sp_min (sp_min s0 s1 - 20) ((w - 200) / 2)
def sp_clean (c off : Int32) : Bool := decide (sp_abs off ≤ c)
def sp_kind (c sl off : Int32) : Int32 := if sp_abs off ≤ c then 1 else if sl < sp_abs off then 4 else if 0 < off then 2 else 5
def sp_bare (c sl sd off : Int32) : Int32 := if sp_kind c sl off = 1 then 0 else if sp_kind c sl off = 4 then 2 * -(off * sd / 10) else -(off * sd / 10)
def sp_fth (c sl sd off fe : Int32) : Int32 := sp_bare c sl sd off * (10 - fe) / 10
def sp_goes (c sl sd wi off fe mass : Int32) : Int32 := sp_fth c sl sd off fe + sp_div (wi * 600) mass
def sp_drop (mass draw fe : Int32) : Int32 := sp_div (10 * mass) draw + fe
theorem sp_kind_cases (c sl off : Int32) : sp_kind c sl off = 1 ∨ sp_kind c sl off = 4 ∨ sp_kind c sl off = 2 ∨ sp_kind c sl off = 5 := by
  unfold sp_kind; split
  · exact Or.inl rfl
  · split
    · exact Or.inr (Or.inl rfl)
    · split
      · exact Or.inr (Or.inr (Or.inl rfl))
      · exact Or.inr (Or.inr (Or.inr rfl))
