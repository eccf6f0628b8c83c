/-! ===== the answers to which a fold says yes ===== -/
def v_y (M : Nat → Nat → Int32) (b : Nat) (j : Nat) : Bool := decide (¬ M (b + 1) j = 0)
def v_c (M : Nat → Nat → Int32) (b : Nat) : Nat := ((List.range 256).filter (v_y M b)).length
theorem v_cy (M : Nat → Nat → Int32) (b : Nat) : sI (cyT M b) 256 = nI (v_c M b) := sI_cnt 256 (fun k _ => by
  unfold cyT v_y
  by_cases c : M (b + 1) k = 0
  · rw [if_pos c, if_neg (by simp [c])]; rfl
  · rw [if_neg c, if_pos (by simp [c])]; rfl)
theorem v_sm {M : Nat → Nat → Int32} {b : Nat} : ∀ q i : Nat, (∀ j : Nat, j < i → M (b + 1) j = 0) → ((∀ j : Nat, j < i + q → M (b + 1) j = 0) ∧ syL M b q i = -1) ∨ ∃ s : Nat, s < i + q ∧ syL M b q i = nI s ∧ ¬ M (b + 1) s = 0 ∧ ∀ j : Nat, j < s → M (b + 1) j = 0 := by
  intro q
  induction q with
  | zero => intro i h; exact Or.inl ⟨h, rfl⟩
  | succ q ih =>
    intro i h
    rw [syL]
    by_cases c : M (b + 1) i = 0
    · rw [if_pos c]
      rcases ih (i + 1) (fun j hj => by
        by_cases e : j = i
        · rw [e]; exact c
        · exact h j (by omega)) with ⟨h1, h2⟩ | ⟨s, h1, h2⟩
      · exact Or.inl ⟨fun j hj => h1 j (by omega), h2⟩
      · exact Or.inr ⟨s, by omega, h2⟩
    · rw [if_neg c]
      exact Or.inr ⟨i, by omega, rfl, c, h⟩
theorem v_gr {M : Nat → Nat → Int32} {b : Nat} : ∀ N : Nat, ((∀ j : Nat, j < N → M (b + 1) j = 0) ∧ gyL M b N = -1) ∨ ∃ s : Nat, s < N ∧ gyL M b N = nI s ∧ ¬ M (b + 1) s = 0 ∧ ∀ j : Nat, s < j → j < N → M (b + 1) j = 0 := by
  intro N
  induction N with
  | zero => exact Or.inl ⟨fun j h => absurd h (Nat.not_lt_zero _), rfl⟩
  | succ N ih =>
    rw [gyL]
    by_cases c : M (b + 1) N = 0
    · rw [if_pos c]
      rcases ih with ⟨h1, h2⟩ | ⟨s, h1, h2, h3, h4⟩
      · exact Or.inl ⟨fun j hj => by
          by_cases e : j = N
          · rw [e]; exact c
          · exact h1 j (by omega), h2⟩
      · exact Or.inr ⟨s, by omega, h2, h3, fun j h5 h6 => by
          by_cases e : j = N
          · rw [e]; exact c
          · exact h4 j h5 (by omega)⟩
    · rw [if_neg c]
      exact Or.inr ⟨N, by omega, rfl, c, fun j h1 h2 => by omega⟩
/-- all of it -/
theorem v_all (M : Nat → Nat → Int32) (b : Nat) : v_c M b ≤ 256 ∧ ((v_c M b = 0 ∧ syL M b 256 0 = -1 ∧ gyL M b 256 = -1) ∨ ∃ s g : Nat, s ≤ g ∧ g < 256 ∧ syL M b 256 0 = nI s ∧ gyL M b 256 = nI g ∧ ¬ M (b + 1) s = 0 ∧ ¬ M (b + 1) g = 0 ∧ 1 ≤ v_c M b ∧ v_c M b ≤ g - s + 1) := by
  refine ⟨Nat.le_trans (List.length_filter_le _ _) (by rw [List.length_range]; exact Nat.le_refl _), ?_⟩
  rcases v_sm (M := M) (b := b) 256 0 (fun j h => absurd h (Nat.not_lt_zero _)) with ⟨h1, h2⟩ | ⟨s, h1, h2, h3, h4⟩
  · rcases v_gr (M := M) (b := b) 256 with ⟨h5, h6⟩ | ⟨g, h5, h6, h7, h8⟩
    · refine Or.inl ⟨?_, h2, h6⟩
      unfold v_c
      rw [List.filter_eq_nil_iff.mpr (fun j hj => by
        unfold v_y
        rw [h5 j (List.mem_range.mp hj)]
        decide)]
      rfl
    · exact absurd (h1 g (by omega)) h7
  · rcases v_gr (M := M) (b := b) 256 with ⟨h5, h6⟩ | ⟨g, h5, h6, h7, h8⟩
    · exact absurd (h5 s (by omega)) h3
    · have hsg : s ≤ g := by
        rcases Nat.lt_or_ge g s with c | c
        · exact absurd (h4 g c) h7
        · exact c
      refine Or.inr ⟨s, g, hsg, h5, h2, h6, h3, h7, ?_, ?_⟩
      · exact List.length_pos_of_mem (a := s) (List.mem_filter.mpr ⟨List.mem_range.mpr (by omega), by unfold v_y; exact decide_eq_true h3⟩)
      · have h9 := nodup_le ((List.range 256).filter (v_y M b)) ((List.range (g - s + 1)).map (fun k => k + s)) (List.nodup_range.filter _) (fun j hj => by
          obtain ⟨h10, h11⟩ := List.mem_filter.mp hj
          have h12 : ¬ M (b + 1) j = 0 := of_decide_eq_true h11
          have h13 := List.mem_range.mp h10
          have h14 : s ≤ j := by
            rcases Nat.lt_or_ge j s with c | c
            · exact absurd (h4 j c) h12
            · exact c
          have h15 : j ≤ g := by
            rcases Nat.lt_or_ge g j with c | c
            · exact absurd (h8 j c h13) h12
            · exact c
          exact List.mem_map.mpr ⟨j - s, List.mem_range.mpr (by omega), by omega⟩)
        rw [List.length_map, List.length_range] at h9
        exact h9
