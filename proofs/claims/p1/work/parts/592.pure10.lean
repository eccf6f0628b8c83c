theorem mtz_congr {X Y : Nat → Int64} {q w : Nat} (h : ∀ k : Nat, k < 4 → X k = Y k) (hq : q < 8) (hw : w < 4) : mtz X q w = mtz Y q w := by
  unfold mtz
  split
  · rw [h w hw]
  · rename_i h5
    rw [h w hw, h _ (wxF_e hq h5 hw).2]
theorem gv1_congr {X Y : Nat → Int64} {q w : Nat} {y : Int32} (h : ∀ k : Nat, k < 4 → X k = Y k) (hq : q < 8) (hw : w < 4) : gv1 X q y w = gv1 Y q y w := by
  unfold gv1
  split
  · rw [h w hw]
  · rename_i h5
    exact h _ (gxF_e y hq h5 hw).2
/-- the words of a question -/
def ywF (q k : Nat) : Int64 := ysF (nI q) (nI k)
theorem gvL_at {L : Nat → Nat → Int64} {f t q : Nat} {y : Int32} (hft : f + 4 ≤ t ∨ t + 4 ≤ f) (hq : q < 8) : ∀ i : Nat, i ≤ 4 → (∀ a j : Nat, ¬ (a = 10 ∧ t ≤ j ∧ j < t + 4) → gvL L f t q y i a j = L a j) ∧ ∀ k : Nat, k < i → gvL L f t q y i 10 (t + k) = gv1 (fun k => L 10 (f + k)) q y k := by
  intro i
  induction i with
  | zero => intro _; exact ⟨fun _ _ _ => rfl, fun k hk => absurd hk (Nat.not_lt_zero k)⟩
  | succ i ih =>
    intro hi
    obtain ⟨h1, h2⟩ := ih (by omega)
    constructor
    · intro a j hj
      rw [gvL, lst]
      by_cases ha : a = 10
      · subst ha
        rw [lrow_same, pk_uLn (by omega)]
        exact h1 10 j hj
      · rw [lrow_ne ha]
        exact h1 a j hj
    · intro k hk
      rw [gvL, lst, lrow_same]
      by_cases hki : k = i
      · subst hki
        rw [pk_uLs]
        exact gv1_congr (fun k hk => h1 10 (f + k) (by omega)) hq (by omega)
      · rw [pk_uLn (by omega)]
        exact h2 k (by omega)
theorem yw_0 : ∀ q : Nat, q < 8 → ¬ ywF q 3 = 0 := by decide +kernel
theorem yw_1 : ∀ q : Nat, q < 8 → ¬ ywF q 0 = -1 := by decide +kernel
theorem yw_m : ∀ q : Nat, q < 8 → ∀ p : Nat, p < q → ∀ k : Nat, k < 4 → mtz (ywF q) p k = true := by decide +kernel
theorem yw_q : ∀ q : Nat, q < 8 → ¬ ∀ k : Nat, k < 4 → mtz (ywF q) q k = true := by decide +kernel
theorem yw_g0 : ∀ q : Nat, q < 8 → ∀ k : Nat, k < 4 → gv1 (ywF q) q 0 k = 0 := by decide +kernel
theorem yw_g1 : ∀ q : Nat, q < 8 → ∀ k : Nat, k < 4 → gv1 (ywF q) q 1 k = -1 := by decide +kernel
