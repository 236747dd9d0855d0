/-! ===== what a state is: the class (cells 21 .. 128), the model (cells 129 .. 143), one flat picture for both ===== -/
abbrev ev_q (f : Nat → Option Nat) : (Nat → Int32) ⊕ (Nat → Int64) ⊕ (Nat → UInt32) ⊕ (Nat → UInt64) ⊕ (Nat → Option Nat) := .inr (.inr (.inr (.inr f)))
def cl_stk (M : ev_M) (a : Nat) (s : Nat → Int32) : Prop := M a = .inr (9, [.int (s 0), .int (s 1), .int (s 2), .int (s 3), .int (s 4), .int (s 5), .int (s 6)])
def cl_gear (M : ev_M) (g c0 c1 c2 : Nat) (s bw ar : Nat → Int32) : Prop :=
  M g = .inr (3, [.ref (g + 1), .ref (g + 2), .ref (g + 3), .int (nI c0), .int (nI c1), .int (nI c2)]) ∧ (∃ f, M (g + 1) = .inl (2, 12, ev_q f) ∧ ∀ i, i < 12 → f i = some (g + 4 + i)) ∧ (∃ f, M (g + 2) = .inl (3, 3, ev_q f) ∧ ∀ i, i < 3 → f i = some (g + 16 + i)) ∧ (∃ f, M (g + 3) = .inl (4, 3, ev_q f) ∧ ∀ i, i < 3 → f i = some (g + 19 + i)) ∧
  (∀ i, i < 12 → cl_stk M (g + 4 + i) (fun k => s (7 * i + k))) ∧ (∀ i, i < 3 → M (g + 16 + i) = .inr (1, [.int (bw (2 * i)), .int (bw (2 * i + 1))])) ∧ ∀ i, i < 3 → M (g + 19 + i) = .inr (0, [.int (ar (2 * i)), .int (ar (2 * i + 1))])
def cl_sheet (M : ev_M) (a n : Nat) (f : Nat → Int32) : Prop := ∃ (f0 f1 f2 f3 f4 f5 f6 : Nat → Int32) (up dn : Int64),
  M a = .inr (8, [.ref (a + 1), .ref (a + 2), .ref (a + 3), .ref (a + 4), .ref (a + 5), .ref (a + 6), .ref (a + 7), .long up, .long dn, .int (nI n)]) ∧ M (a + 1) = .inl (0, 60, .inl f0) ∧ M (a + 2) = .inl (0, 60, .inl f1) ∧ M (a + 3) = .inl (0, 60, .inl f2) ∧ M (a + 4) = .inl (0, 60, .inl f3) ∧ M (a + 5) = .inl (0, 60, .inl f4) ∧ M (a + 6) = .inl (0, 12, .inl f5) ∧ M (a + 7) = .inl (0, 12, .inl f6) ∧
  ∀ k, k < n → f0 k = f (5 * k) ∧ f1 k = f (5 * k + 1) ∧ f2 k = f (5 * k + 2) ∧ f3 k = f (5 * k + 3) ∧ f4 k = f (5 * k + 4)
def cl_img (M : ev_M) (a c0 : Nat) (kp : Nat → Int32) (kept : Bool) : Prop := ∃ (lt : Int32) (s : Nat → Int32) (m : Nat) (f : Nat → Int32),
  M a = .inr (4, [.ref (a + 1), .ref (a + 2), .int lt, .int (ev_b kept)]) ∧ (∃ q, M (a + 1) = .inl (2, 12, ev_q q) ∧ ∀ i, i < 12 → q i = some (a + 10 + i)) ∧ cl_sheet M (a + 2) m f ∧ (∀ i, i < 12 → cl_stk M (a + 10 + i) (fun k => s (7 * i + k))) ∧ m ≤ 60 ∧
  (kept = true → lt = kp 84 ∧ kp 85 = nI m ∧ (∀ k, k < 7 * c0 → s k = kp k) ∧ ∀ k, k < 5 * m → f k = kp (86 + k))
/-- the class: g the gear that is now, sh how many shots -/
def cl_S (M : ev_M) (tn c0 c1 c2 sh : Nat) (tx s kp bw ar tu : Nat → Int32) (k0 k1 : Bool) (tr : Int64) : Prop := ∃ (g g' d0 d1 d2 : Nat) (tb sC bC aC sD bD aD nm q0 q1 q2 : Nat → Int32) (pl z0 z1 z2 t0 t1 t2 t3 t4 : Int32),
  ((g = 85 ∧ g' = 107) ∨ (g = 107 ∧ g' = 85)) ∧ M 21 = .inr (11, [.ref 22, .ref 25, .ref 27, .ref 35, .ref 39, .ref 40, .ref 41, .ref 63, .ref g, .ref g', .int (s 84)]) ∧
  M 22 = .inr (7, [.ref 23, .ref 24, .int pl, .int (nI tn)]) ∧ M 23 = .inl (0, 400, .inl tb) ∧ (∀ k, k < tn → tb k = tx k) ∧ M 24 = .inl (0, 6, .inl nm) ∧ M 25 = .inr (10, [.ref 26]) ∧ M 26 = .inl (0, 4, .inl tu) ∧
  cl_sheet M 27 sh (fun k => s (86 + k)) ∧ s 85 = nI sh ∧ M 35 = .inr (2, [.ref 36, .ref 37, .ref 38, .int z0, .int z1, .int z2]) ∧ M 36 = .inl (0, 12, .inl q0) ∧ M 37 = .inl (0, 12, .inl q1) ∧ M 38 = .inl (0, 12, .inl q2) ∧
  M 39 = .inr (6, [.int t0, .int t1, .int t2, .int t3, .int t4]) ∧ M 40 = .inr (5, [.long tr]) ∧ cl_img M 41 c0 kp k0 ∧ cl_img M 63 c0 (fun k => kp (386 + k)) k1 ∧
  cl_gear M g c0 c1 c2 sC bC aC ∧ (∀ k, k < 7 * c0 → sC k = s k) ∧ (∀ k, k < 2 * c1 → bC k = bw k) ∧ (∀ k, k < 2 * c2 → aC k = ar k) ∧ cl_gear M g' d0 d1 d2 sD bD aD ∧ d0 ≤ 12 ∧ d1 ≤ 3 ∧ d2 ≤ 3
/-- the model's object -/
abbrev md_o (th : Int32) (tr : Int64) (tn nx tk pl va fa c0 c1 c2 d0 d1 d2 sp of ba go dr ki : Int32) (up dn : Int64) : ev_MC := .inr (12, [.int th, .long tr, .ref 130, .int tn, .int nx, .int tk, .int pl, .int va, .int fa, .ref 131, .ref 132, .ref 133, .int c0, .int c1, .int c2, .ref 134, .ref 135, .ref 136, .ref 137, .ref 138, .int d0, .int d1, .int d2, .ref 139, .ref 140, .int sp, .int of, .int ba, .int go, .int dr, .int ki, .ref 141, .ref 142, .ref 143, .long up, .long dn])
/-- the model's cells that calls may change for themselves -/
def md_S (M : ev_M) (tn c0 c1 c2 sh : Nat) (tx s kp bw ar tu : Nat → Int32) (k0 k1 : Bool) (tr : Int64) : Prop := ∃ (th nx tk pl va fa d0 d1 d2 sp of ba go dr ki : Int32) (up dn : Int64) (dS dB dA one gof dof act ik : Nat → Int32),
  M 129 = md_o th tr (nI tn) nx tk pl va fa (nI c0) (nI c1) (nI c2) d0 d1 d2 sp of ba go dr ki up dn ∧ M 130 = .inl (0, 400, .inl tx) ∧ M 131 = .inl (0, 386, .inl s) ∧ M 132 = .inl (0, 772, .inl kp) ∧ M 133 = .inl (1, 2, .inl ik) ∧ ik 0 = ev_b k0 ∧ ik 1 = ev_b k1 ∧ M 134 = .inl (0, 6, .inl bw) ∧ M 135 = .inl (0, 6, .inl ar) ∧ M 136 = .inl (0, 84, .inl dS) ∧ M 137 = .inl (0, 6, .inl dB) ∧ M 138 = .inl (0, 6, .inl dA) ∧ M 139 = .inl (0, 4, .inl tu) ∧ M 140 = .inl (0, 7, .inl one) ∧ M 141 = .inl (0, 24, .inl gof) ∧ M 142 = .inl (0, 12, .inl dof) ∧ M 143 = .inl (0, 5, .inl act) ∧ s 85 = nI sh
/-- what may be relied on -/
def st_stk (s : Nat → Int32) : Prop := (80 ≤ s 0 ∧ s 0 ≤ 130) ∧ (200 ≤ s 1 ∧ s 1 ≤ 600) ∧ (20 ≤ s 2 ∧ s 2 ≤ 99) ∧ (20 ≤ s 3 ∧ s 3 ≤ 99) ∧ (0 ≤ s 4 ∧ s 4 ≤ 200) ∧ (0 ≤ s 5 ∧ s 5 ≤ 9) ∧ (s 6 = 0 ∨ s 6 = 1)
def st_shots (c0 n : Nat) (f : Nat → Int32) : Prop := n ≤ 60 ∧ ∀ k, k < n → (∃ i, i < c0 ∧ f (5 * k) = nI i) ∧ (0 ≤ f (5 * k + 1) ∧ f (5 * k + 1) < 3) ∧ (0 ≤ f (5 * k + 2) ∧ f (5 * k + 2) < 3) ∧ (-1000 ≤ f (5 * k + 3) ∧ f (5 * k + 3) ≤ 1000)
def st_R (tn c0 c1 c2 sh : Nat) (tx s kp bw ar tu : Nat → Int32) (k0 k1 : Bool) : Prop :=
  (tn ≤ 400 ∧ ∀ k, k < tn → 0 ≤ tx k ∧ tx k ≤ 255) ∧ (c0 ≤ 12 ∧ ∀ i, i < c0 → st_stk (fun k => s (7 * i + k))) ∧ (c1 ≤ 3 ∧ ∀ i, i < c1 → (20 ≤ bw (2 * i) ∧ bw (2 * i) ≤ 70) ∧ (0 ≤ bw (2 * i + 1) ∧ bw (2 * i + 1) ≤ 9)) ∧ (c2 ≤ 3 ∧ ∀ i, i < c2 → (-30 ≤ ar (2 * i) ∧ ar (2 * i) ≤ 30) ∧ (0 ≤ ar (2 * i + 1) ∧ ar (2 * i + 1) ≤ 20)) ∧
  ((0 ≤ tu 0 ∧ tu 0 ≤ 20) ∧ (0 ≤ tu 1 ∧ tu 1 ≤ 60) ∧ (0 ≤ tu 2 ∧ tu 2 ≤ 30) ∧ (-9 ≤ tu 3 ∧ tu 3 ≤ 9)) ∧ st_shots c0 sh (fun k => s (86 + k)) ∧
  (k0 = true → (∀ i, i < c0 → st_stk (fun k => kp (7 * i + k))) ∧ ∃ m, kp 85 = nI m ∧ st_shots c0 m (fun k => kp (86 + k))) ∧ (k1 = true → (∀ i, i < c0 → st_stk (fun k => kp (386 + (7 * i + k)))) ∧ ∃ m, kp 471 = nI m ∧ st_shots c0 m (fun k => kp (472 + k)))
theorem sp_pos {i : Int32} {c : Nat} (hc : c < 2 ^ 31) : (∃ j, j < c ∧ i = nI j) ∨ i < 0 ∨ nI c ≤ i := by
  by_cases h : i < 0
  · exact Or.inr (Or.inl h)
  · obtain ⟨j, hj, rfl⟩ := nI_of h
    by_cases h2 : j < c
    · exact Or.inl ⟨j, h2, rfl⟩
    · exact Or.inr (Or.inr (nI_le (by omega) hj))
theorem ev_ix_nI {j : Nat} (h : j < 2 ^ 31) : ev_ix (nI j) j := ⟨nI_pos h, nI_clamp h⟩
theorem ev_fa1 {M : ev_M} {q : Nat × ev_MC} {l : List (Nat × ev_MC)} (h : M q.1 = q.2) (k : ∀ x ∈ l, M x.1 = x.2) : ∀ x ∈ q :: l, M x.1 = x.2 := List.forall_mem_cons.mpr ⟨h, k⟩
theorem ev_fa0 {M : ev_M} : ∀ x ∈ ([] : List (Nat × ev_MC)), M x.1 = x.2 := fun _ h => absurd h List.not_mem_nil
