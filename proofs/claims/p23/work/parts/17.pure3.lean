/-- low and high parts are leaves or numbers of forks -/
def lhOk (M : Nat → Nat → Int32) (g n : Nat) : Prop := ∀ k : Nat, k < n → (M (g + 2) k < 0 ∨ ∃ j : Nat, j < 626 ∧ M (g + 2) k = nI j) ∧ (M (g + 3) k < 0 ∨ ∃ j : Nat, j < 626 ∧ M (g + 3) k = nI j)
def pr1 (M : Nat → Nat → Int32) (b : Nat) : Nat → Nat → Int32 := mst M b 2 0
def pr2 (M : Nat → Nat → Int32) (g b : Nat) : Nat → Nat → Int32 := mrow (pr1 M b) (g + 9) (flF (-1) 626 (pr1 M b (g + 9)))
def pr3 (M : Nat → Nat → Int32) (g b : Nat) (part : Int32) : Nat → Nat → Int32 := wkF g b 8 (pr2 M g b) part
def prA (M : Nat → Nat → Int32) (g k : Nat) : Nat → Nat → Int32 := mst M (g + 4) k (M (g + 4) k + 1)
def prB (M : Nat → Nat → Int32) (g b i k : Nat) : Nat → Nat → Int32 := mst M (b + 3) i (polF M g (M (g + 2) k))
def prC (M : Nat → Nat → Int32) (g b i k : Nat) : Nat → Nat → Int32 := mst M (b + 4) i (polF M g (M (g + 3) k))
def prL (M : Nat → Nat → Int32) (g b : Nat) : Nat → Nat → Nat → Int32
  | 0 => M
  | i + 1 => prC (prB (prA (prL M g b i) g (prL M g b i (b + 2) i).toNatClampNeg) g b i (prL M g b i (b + 2) i).toNatClampNeg) g b i (prL M g b i (b + 2) i).toNatClampNeg
def prF (M : Nat → Nat → Int32) (g b : Nat) (part : Int32) : Nat → Nat → Int32 := prL (pr3 M g b part) g b (pr3 M g b part b 2).toNatClampNeg
theorem prL_row {M : Nat → Nat → Int32} {g b i : Nat} (h1 : i ≠ g + 4) (h2 : i ≠ b + 3) (h3 : i ≠ b + 4) : ∀ j : Nat, prL M g b j i = M i := by
  intro j
  induction j with
  | zero => rfl
  | succ j ih => rw [prL, prC, mst_ne h3, prB, mst_ne h2, prA, mst_ne h1, ih]
theorem pr2_row {M : Nat → Nat → Int32} {g b i : Nat} (h1 : i ≠ b) (h2 : i ≠ g + 9) : pr2 M g b i = M i := by rw [pr2, mrow_ne h2, pr1, mst_ne h1]
theorem pr2_ok {M : Nat → Nat → Int32} {g b n : Nat} (hgb : g + 9 < b) (hn : n ≤ 626) (h0 : M g 0 = nI n) : wkOk (pr2 M g b) g b n := by
  refine ⟨hn, by rw [pr2_row (by omega) (by omega)]; exact h0, 0, by omega, ?_, fun k hk => Or.inl ?_, fun i hi => by omega⟩
  · rw [pr2, mrow_ne (by omega), pr1, mst_same, pk_us]; rfl
  · rw [pr2, mrow_same, flF, if_pos hk]; decide
theorem pr3_ok {M : Nat → Nat → Int32} {g b n : Nat} (hgb : g + 9 < b) (hn : n ≤ 626) (h0 : M g 0 = nI n) (part : Int32) : wkOk (pr3 M g b part) g b n := wkF_ok hgb _ _ _ (pr2_ok hgb hn h0)
theorem pr3_row {M : Nat → Nat → Int32} {g b i : Nat} {part : Int32} (h1 : i ≠ b) (h2 : i ≠ b + 2) (h3 : i ≠ g + 9) (h5 : i ≠ b + 5) : pr3 M g b part i = M i := by
  rw [pr3, wkF_row h1 h2 h3 h5, pr2_row h1 h3]
theorem prF_row {M : Nat → Nat → Int32} {g b i : Nat} {part : Int32} (h1 : i < b ∨ b + 5 < i ∨ i = b + 1) (h4 : i ≠ g + 4) (h9 : i ≠ g + 9) : prF M g b part i = M i := by
  rw [prF, prL_row h4 (by omega) (by omega), pr3_row (by omega) (by omega) h9 (by omega)]
