/-! ===== the cells while they are made ===== -/
def cWn (ad : Nat → Nat) (E : Nat → va_E) (n : Nat) : va_W := (List.range n).map (fun i => (ad i, E i))
theorem cWn_get (ad : Nat → Nat) (E : Nat → va_E) {i n : Nat} (h : i < n) : (cWn ad E n)[i]? = some (ad i, E i) := by
  simp [cWn, List.getElem?_map, List.getElem?_range, h]
theorem cWn_len (ad : Nat → Nat) (E : Nat → va_E) (n : Nat) : (cWn ad E n).length = n := by simp [cWn]
theorem cWn_of {ad : Nat → Nat} {E : Nat → va_E} {n k : Nat} {q : Nat × va_E} (h : (cWn ad E n)[k]? = some q) : k < n ∧ q = (ad k, E k) := by
  have hk : k < n := by
    have := (List.getElem?_eq_some_iff.mp h).1
    rwa [cWn_len] at this
  rw [cWn_get ad E hk] at h
  exact ⟨hk, (Option.some.inj h).symm⟩
theorem cWn_set (ad : Nat → Nat) (E : Nat → va_E) (n i : Nat) (x : va_E) : (cWn ad E n).set i (ad i, x) = cWn ad (va_up E i x) n := by
  apply List.ext_getElem?
  intro j
  by_cases hj : j < n
  · by_cases hji : i = j
    · subst hji
      rw [List.getElem?_set_self (by rw [cWn_len]; exact hj), cWn_get ad _ hj, va_up_self]
    · rw [List.getElem?_set_ne hji, cWn_get ad _ hj, cWn_get ad _ hj, va_up_ne _ _ (fun h => hji h.symm)]
  · rw [List.getElem?_eq_none (by rw [List.length_set, cWn_len]; omega), List.getElem?_eq_none (by rw [cWn_len]; omega)]
theorem cWn_congr {ad ad' : Nat → Nat} {E E' : Nat → va_E} {n : Nat} (h : ∀ i : Nat, i < n → ad i = ad' i ∧ E i = E' i) : cWn ad E n = cWn ad' E' n := by
  apply List.map_congr_left
  intro i hi
  obtain ⟨h1, h2⟩ := h i (List.mem_range.mp hi)
  rw [h1, h2]
theorem cWn_6 (ad : Nat → Nat) (E : Nat → va_E) (n : Nat) : cWn ad E (n + 6) = cWn ad E n ++ [(ad n, E n), (ad (n + 1), E (n + 1)), (ad (n + 2), E (n + 2)), (ad (n + 3), E (n + 3)), (ad (n + 4), E (n + 4)), (ad (n + 5), E (n + 5))] := by
  unfold cWn
  rw [show n + 6 = n + 1 + 1 + 1 + 1 + 1 + 1 from rfl]
  simp only [List.range_succ, List.map_append, List.map_cons, List.map_nil, List.append_assoc, List.cons_append, List.nil_append]
/-- zeros, and the order's numbers as far as k -/
def M0k (k : Nat) : Nat → Nat → Int32 := fun i j => if i = 2 then (if j < k then nI j else 0) else 0
/-- the cells with the first k folds -/
def cEk (I Z F : ClassId) (ad : Nat → Nat) (k : Nat) (i : Nat) : va_E := if i = 1 then .inl (F, 12, .inr (.inr (.inr (.inr (fun j => if j < k then some (ad (25 + 6 * j)) else none))))) else cE I Z F ad (M0k 0) i
theorem cEk_ne {I Z F : ClassId} {ad : Nat → Nat} {k i : Nat} (h : i ≠ 1) : cEk I Z F ad k i = cE I Z F ad (M0k 0) i := if_neg h
/-- the addresses with one more block of six -/
def adx (ad : Nat → Nat) (n h : Nat) (q : Nat → Nat) : Nat → Nat := fun i => if i < n then ad i else if i = n then h else q (i - n)
theorem adx_lo {ad : Nat → Nat} {n h i : Nat} {q : Nat → Nat} (hi : i < n) : adx ad n h q i = ad i := if_pos hi
theorem adx_n {ad : Nat → Nat} {n h : Nat} {q : Nat → Nat} : adx ad n h q n = h := by rw [adx, if_neg (by omega), if_pos rfl]
theorem adx_hi {ad : Nat → Nat} {n h j : Nat} {q : Nat → Nat} (hj : 0 < j) : adx ad n h q (n + j) = q j := by rw [adx, if_neg (by omega), if_neg (by omega), Nat.add_sub_cancel_left]
/-- a cell below the fold blocks' end speaks of addresses below it alone -/
theorem cE_adx {I Z F : ClassId} {ad : Nat → Nat} {M : Nat → Nat → Int32} {k h : Nat} {q : Nat → Nat} {i : Nat} (hi : i < 25 + 6 * k) (h1 : i ≠ 1) : cE I Z F (adx ad (25 + 6 * k) h q) M i = cE I Z F ad M i := by
  show cS I Z F (adx ad (25 + 6 * k) h q) i (M i) = cS I Z F ad i (M i)
  unfold cS
  split
  · rfl
  · split
    · rfl
    · split
      · rename_i h2 h3 h4
        exfalso
        revert h4
        unfold cKd
        split
        · intro h4
          have : ∀ i : Nat, i < 25 → i ≠ 1 → ¬ [0, 3, 1, 0, 1, 1, 1, 1, 1, 1, 1, 1, 1, 2, 1, 0, 1, 1, 1, 1, 1, 1, 1, 1, 1].getD i 0 = 3 := by decide
          exact this i (by omega) h1 h4
        · split
          · intro h4; cases h4
          · split <;> (intro h4; cases h4)
      · rename_i h2 h3 h4
        have hk : cKd i = 0 ∨ cKd i = 1 ∨ cKd i = 2 ∨ cKd i = 3 := by
          unfold cKd
          split
          · rename_i h5
            have : ∀ i : Nat, i < 25 → [0, 3, 1, 0, 1, 1, 1, 1, 1, 1, 1, 1, 1, 2, 1, 0, 1, 1, 1, 1, 1, 1, 1, 1, 1].getD i 0 = 0 ∨ [0, 3, 1, 0, 1, 1, 1, 1, 1, 1, 1, 1, 1, 2, 1, 0, 1, 1, 1, 1, 1, 1, 1, 1, 1].getD i 0 = 1 ∨ [0, 3, 1, 0, 1, 1, 1, 1, 1, 1, 1, 1, 1, 2, 1, 0, 1, 1, 1, 1, 1, 1, 1, 1, 1].getD i 0 = 2 ∨ [0, 3, 1, 0, 1, 1, 1, 1, 1, 1, 1, 1, 1, 2, 1, 0, 1, 1, 1, 1, 1, 1, 1, 1, 1].getD i 0 = 3 := by decide
            exact this i h5
          · split
            · exact Or.inl rfl
            · split
              · exact Or.inr (Or.inr (Or.inl rfl))
              · exact Or.inr (Or.inl rfl)
        have h0 : cKd i = 0 := by omega
        by_cases h25 : i < 25
        · have hz : i = 0 ∨ i = 3 ∨ i = 15 := by
            rw [cKd, if_pos h25] at h0
            have : ∀ i : Nat, i < 25 → [0, 3, 1, 0, 1, 1, 1, 1, 1, 1, 1, 1, 1, 2, 1, 0, 1, 1, 1, 1, 1, 1, 1, 1, 1].getD i 0 = 0 → i = 0 ∨ i = 3 ∨ i = 15 := by decide
            exact this i h25 h0
          have lo : ∀ j : Nat, j < 25 → adx ad (25 + 6 * k) h q j = ad j := fun j hj => adx_lo (by omega)
          rcases hz with rfl | rfl | rfl <;> simp [cOb, lo]
        · have h6 : (i - 25) % 6 = 0 := by
            rw [cKd, if_neg h25] at h0
            by_cases h7 : (i - 25) % 6 = 0
            · exact h7
            · rw [if_neg h7] at h0
              by_cases h8 : (i - 25) % 6 = 1
              · rw [if_pos h8] at h0; cases h0
              · rw [if_neg h8] at h0; cases h0
          have lo : ∀ j : Nat, j ≤ 5 → adx ad (25 + 6 * k) h q (i + j) = ad (i + j) := fun j hj => adx_lo (by omega)
          rw [cOb, if_neg (by omega), if_neg h25, cOb, if_neg (by omega), if_neg h25, lo 1 (by omega), lo 2 (by omega), lo 3 (by omega), lo 4 (by omega), lo 5 (by omega)]
/-- one more fold: its six cells behind the others, and its place in the row of folds -/
theorem cWn_fold {I Z F : ClassId} {ad : Nat → Nat} {k h : Nat} {q : Nat → Nat} (hk : k < 12) : (cWn ad (va_up (cEk I Z F ad k) 1 (.inl (F, 12, .inr (.inr (.inr (.inr (va_up (fun j => if j < k then some (ad (25 + 6 * j)) else none) k (some h)))))))) (25 + 6 * k)) ++ fdCells I Z h q = cWn (adx ad (25 + 6 * k) h q) (cEk I Z F (adx ad (25 + 6 * k) h q) (k + 1)) (25 + 6 * (k + 1)) := by
  rw [show 25 + 6 * (k + 1) = 25 + 6 * k + 6 by omega, cWn_6]
  congr 1
  · apply cWn_congr
    intro i hi
    refine ⟨(adx_lo hi).symm, ?_⟩
    by_cases h1 : i = 1
    · subst h1
      rw [va_up_self, cEk, if_pos rfl]
      congr 7
      funext j
      by_cases hj : j = k
      · subst hj; rw [va_up_self, if_pos (by omega), adx_n]
      · rw [va_up_ne _ _ hj]
        by_cases hj2 : j < k
        · rw [if_pos hj2, if_pos (by omega), adx_lo (by omega)]
        · rw [if_neg hj2, if_neg (by omega)]
    · rw [va_up_ne _ _ h1, cEk_ne h1, cEk_ne h1, cE_adx hi h1]
  · rw [cEk_ne (by omega), cEk_ne (by omega), cEk_ne (by omega), cEk_ne (by omega), cEk_ne (by omega), cEk_ne (by omega), cE_d0, cE_d1, cE_d2, cE_d3, cE_d4, cE_d5, adx_n, adx_hi (by omega), adx_hi (by omega), adx_hi (by omega), adx_hi (by omega), adx_hi (by omega)]
    have z : ∀ i : Nat, i ≠ 2 → M0k 0 i = fun _ => 0 := fun i hi => by funext j; simp [M0k, hi]
    rw [z _ (by omega), z _ (by omega), z _ (by omega), z _ (by omega), z _ (by omega), z _ (by omega)]
    rfl
