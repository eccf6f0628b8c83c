/-! ===== the row of a fold ===== -/
def plM (M : Nat → Nat → Int32) (g b z k : Nat) : Nat → Nat → Int32 := mst (mst (mst M b 2 (nI (z + 1))) (b + 2) z (nI k)) (g + 9) k (nI z)
def wkF (g b : Nat) : Nat → (Nat → Nat → Int32) → Int32 → Nat → Nat → Int32
  | 0, M, _ => M
  | d + 1, M, part => if part < 0 then M else if M g 0 ≤ part then M else
    if M (g + 9) part.toNatClampNeg < 0 then
      (if 77 ≤ M b 2 then M else
        wkF g b d (wkF g b d (mst (plM M g b (M b 2).toNatClampNeg part.toNatClampNeg) (b + 5) (M b 2).toNatClampNeg (nI (7 - d))) ((mst (plM M g b (M b 2).toNatClampNeg part.toNatClampNeg) (b + 5) (M b 2).toNatClampNeg (nI (7 - d))) (g + 2) part.toNatClampNeg)) ((wkF g b d (mst (plM M g b (M b 2).toNatClampNeg part.toNatClampNeg) (b + 5) (M b 2).toNatClampNeg (nI (7 - d))) ((mst (plM M g b (M b 2).toNatClampNeg part.toNatClampNeg) (b + 5) (M b 2).toNatClampNeg (nI (7 - d))) (g + 2) part.toNatClampNeg)) (g + 3) part.toNatClampNeg))
    else
      (if M (b + 5) (M (g + 9) part.toNatClampNeg).toNatClampNeg ≤ nI (7 - d) then M else
        wkF g b d (wkF g b d (mst M (b + 5) (M (g + 9) part.toNatClampNeg).toNatClampNeg (nI (7 - d))) ((mst M (b + 5) (M (g + 9) part.toNatClampNeg).toNatClampNeg (nI (7 - d))) (g + 2) part.toNatClampNeg)) ((wkF g b d (mst M (b + 5) (M (g + 9) part.toNatClampNeg).toNatClampNeg (nI (7 - d))) ((mst M (b + 5) (M (g + 9) part.toNatClampNeg).toNatClampNeg (nI (7 - d))) (g + 2) part.toNatClampNeg)) (g + 3) part.toNatClampNeg))
/-- what the walk needs, and keeps: n forks, z places so far -/
def wkOk (M : Nat → Nat → Int32) (g b n : Nat) : Prop := n ≤ 626 ∧ M g 0 = nI n ∧ ∃ z : Nat, z ≤ 77 ∧ M b 2 = nI z ∧ (∀ k : Nat, k < 626 → M (g + 9) k < 0 ∨ ∃ i : Nat, i < z ∧ M (g + 9) k = nI i) ∧ ∀ i : Nat, i < z → ∃ k : Nat, k < n ∧ M (b + 2) i = nI k
theorem wkOk_pl {M : Nat → Nat → Int32} {g b n z k : Nat} (hgb : g + 9 < b) (h : wkOk M g b n) (hz : M b 2 = nI z) (hz7 : z < 77) (hk : k < n) (x : Int32) : wkOk (mst (plM M g b z k) (b + 5) z x) g b n := by
  obtain ⟨hn, h0, z0, hz0, e0, h9, h2⟩ := h
  obtain rfl : z0 = z := by rw [hz] at e0; exact ((nI_eq (by omega) (by omega)).mp e0).symm
  refine ⟨hn, ?_, z0 + 1, by omega, ?_, fun i hi => ?_, fun i hi => ?_⟩
  · unfold plM; rw [mst_ne (by omega), mst_ne (by omega), mst_ne (by omega), mst_ne (by omega)]; exact h0
  · unfold plM; rw [mst_ne (by omega), mst_ne (by omega), mst_ne (by omega), mst_same, pk_us]
  · unfold plM; rw [mst_ne (by omega), mst_same, upd_at]
    split
    · exact Or.inr ⟨z0, by omega, rfl⟩
    · rw [mst_ne (by omega), mst_ne (by omega)]
      rcases h9 i hi with h | ⟨j, hj, e⟩
      · exact Or.inl h
      · exact Or.inr ⟨j, by omega, e⟩
  · unfold plM; rw [mst_ne (by omega), mst_ne (by omega), mst_same, upd_at]
    split
    · exact ⟨k, hk, rfl⟩
    · rw [mst_ne (by omega)]; exact h2 i (by omega)
theorem wkOk_st {M : Nat → Nat → Int32} {g b n : Nat} (hgb : g + 9 < b) (h : wkOk M g b n) (i : Nat) (x : Int32) : wkOk (mst M (b + 5) i x) g b n := by
  obtain ⟨hn, h0, z, hz, e, h9, h2⟩ := h
  refine ⟨hn, by rw [mst_ne (by omega)]; exact h0, z, hz, by rw [mst_ne (by omega)]; exact e, fun i hi => ?_, fun i hi => ?_⟩
  · rw [mst_ne (by omega)]; exact h9 i hi
  · rw [mst_ne (by omega)]; exact h2 i hi
theorem part_of {part : Int32} {n : Nat} (hn : n ≤ 626) (h0 : ¬ part < 0) (h1 : ¬ nI n ≤ part) : ∃ k : Nat, k < n ∧ part = nI k := by
  obtain ⟨k, hk, rfl⟩ := nI_of h0
  refine ⟨k, ?_, rfl⟩
  rcases Nat.lt_or_ge k n with h | h
  · exact h
  · exact absurd (nI_le h hk) h1
theorem wkF_ok {g b n : Nat} (hgb : g + 9 < b) : ∀ (d : Nat) (M : Nat → Nat → Int32) (part : Int32), wkOk M g b n → wkOk (wkF g b d M part) g b n := by
  intro d
  induction d with
  | zero => intro M part h; exact h
  | succ d ih =>
    intro M part h
    rw [wkF]
    split
    · exact h
    · split
      · exact h
      · rename_i c1 c2
        rw [h.2.1] at c2
        obtain ⟨k, hk, rfl⟩ := part_of h.1 c1 c2
        rw [nI_clamp (show k < 2 ^ 31 by have := h.1; omega)]
        split
        · split
          · exact h
          · rename_i c3 c4
            obtain ⟨hn, h0, z, hz, e, h9, h2⟩ := id h
            have hz7 : z < 77 := by
              rcases Nat.lt_or_ge z 77 with q | q
              · exact q
              · exact absurd (by rw [e]; exact nI_le q (by omega)) c4
            rw [e, nI_clamp (show z < 2 ^ 31 by omega)]
            exact ih _ _ (ih _ _ (wkOk_pl hgb h e hz7 hk _))
        · split
          · exact h
          · exact ih _ _ (ih _ _ (wkOk_st hgb h _ _))
theorem plM_row {M : Nat → Nat → Int32} {g b z k i : Nat} (h1 : i ≠ b) (h2 : i ≠ b + 2) (h3 : i ≠ g + 9) : plM M g b z k i = M i := by
  unfold plM; rw [mst_ne h3, mst_ne h2, mst_ne h1]
theorem wkF_row {g b i : Nat} (h1 : i ≠ b) (h2 : i ≠ b + 2) (h3 : i ≠ g + 9) (h5 : i ≠ b + 5) : ∀ (d : Nat) (M : Nat → Nat → Int32) (part : Int32), wkF g b d M part i = M i := by
  intro d
  induction d with
  | zero => intro M part; rfl
  | succ d ih =>
    intro M part
    rw [wkF]
    split
    · rfl
    · split
      · rfl
      · split
        · split
          · rfl
          · rw [ih, ih, mst_ne h5, plM_row h1 h2 h3]
        · split
          · rfl
          · rw [ih, ih, mst_ne h5]
