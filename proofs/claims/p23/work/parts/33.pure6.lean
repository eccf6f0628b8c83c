/-! ===== new folds ===== -/
/-- the fold f, which was free, says T; all is laid anew -/
def nwF (M : Nat → Nat → Int32) (f : Nat) (T : Nat → Int32) : Nat → Nat → Int32 := laF (mst (flC M (25 + 6 * f + 1) T 256) (25 + 6 * f) 0 1)
def ysOk (M : Nat → Nat → Int32) : Prop := ∀ f : Nat, f < 12 → ∀ j : Nat, j < 256 → M (25 + 6 * f + 1) j = 0 ∨ M (25 + 6 * f + 1) j = 1
def ksOk (M : Nat → Nat → Int32) : Prop := ∀ f : Nat, f < 12 → M (25 + 6 * f) 0 = 0 ∨ M (25 + 6 * f) 0 = 1
def rwsOk (M : Nat → Nat → Int32) (n : Nat) : Prop := n ≤ 626 ∧ M 3 0 = nI n ∧ ∀ f : Nat, f < 12 → ¬ M (25 + 6 * f) 0 = 0 → ∃ z : Nat, z ≤ 77 ∧ M (25 + 6 * f) 2 = nI z ∧ ∀ i : Nat, i < z → ∃ k : Nat, k < n ∧ M (25 + 6 * f + 2) i = nI k
/-- what may be thrown: a wrong argument first, then too many folds -/
def xpN (M : Nat → Nat → Int32) (ok : Prop) (E : String) : Prop := (E = xIO ∧ ¬ ok) ∨ (E = xIS ∧ ok ∧ frNo M)
def inB (x : Int32) (n : Nat) : Prop := ∃ k : Nat, k < n ∧ x = nI k
theorem inB_no {x : Int32} {n : Nat} (hn : n < 2 ^ 31) (h : x < 0 ∨ nI n ≤ x) : ¬ inB x n := by
  rintro ⟨k, hk, rfl⟩
  rcases h with h | h
  · exact nI_pos (by omega) h
  · exact nI_ge hk hn h
theorem inB_of {x : Int32} {n : Nat} (hn : n ≤ 626) (h0 : ¬ x < 0) (h1 : x < nI n) : inB x n := part_of hn h0 (Int32.not_le.mpr h1)
def chT (M : Nat → Nat → Int32) (ka kb kc : Nat) : Nat → Int32 := fun j => if M (25 + 6 * ka + 1) j = 0 then M (25 + 6 * kc + 1) j else M (25 + 6 * kb + 1) j
def gvT (M : Nat → Nat → Int32) (k : Nat) (q y : Int32) : Nat → Int32 := fun j => M (25 + 6 * k + 1) (waF (nI j) q y).toNatClampNeg
def woT (M : Nat → Nat → Int32) (k : Nat) (q y : Int32) : Nat → Int32 := fun j => if y = 0 then b2 (¬ M (25 + 6 * k + 1) (waF (nI j) q 0).toNatClampNeg = 0 ∨ ¬ M (25 + 6 * k + 1) (waF (nI j) q 1).toNatClampNeg = 0) else b2 (¬ M (25 + 6 * k + 1) (waF (nI j) q 0).toNatClampNeg = 0 ∧ ¬ M (25 + 6 * k + 1) (waF (nI j) q 1).toNatClampNeg = 0)
theorem waF_in0 : ∀ q : Nat, q < 8 → ∀ j : Nat, j < 256 → ¬ waF (nI j) (nI q) 0 < 0 ∧ waF (nI j) (nI q) 0 ≤ 255 ∧ ¬ waF (nI j) (nI q) 1 < 0 ∧ waF (nI j) (nI q) 1 ≤ 255 := by decide +kernel
theorem waF_in (q : Nat) (hq : q < 8) (j : Nat) (hj : j < 256) (y : Int32) : ∃ a : Nat, a < 256 ∧ waF (nI j) (nI q) y = nI a := by
  obtain ⟨h1, h2, h3, h4⟩ := waF_in0 q hq j hj
  have key : ∀ x : Int32, ¬ x < 0 → x ≤ 255 → ∃ a : Nat, a < 256 ∧ x = nI a := fun x a b => by
    obtain ⟨k, hk, e⟩ := nI_of2 (M := 255) (n := 255) rfl a b
    exact ⟨k, by omega, e⟩
  by_cases hy : y = 0
  · subst hy; exact key _ h1 h2
  · have e : waF (nI j) (nI q) y = waF (nI j) (nI q) 1 := by rw [waF, waF, if_neg hy, if_neg (by decide)]
    rw [e]; exact key _ h3 h4
theorem frOk_ne {M : Nat → Nat → Int32} {f k : Nat} (hf : frOk M f) (hk : ¬ M (25 + 6 * k) 0 = 0) : f ≠ k := fun h => hk (h ▸ hf.2.1)
