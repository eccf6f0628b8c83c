/-! ===== what the making of forks keeps ===== -/
def fkOk (M : Nat → Nat → Int32) (g : Nat) : Prop := ∃ n : Nat, n ≤ 626 ∧ M g 0 = nI n ∧ slOk M g n
theorem upd_at (f : Nat → Int32) (k : Nat) (x : Int32) (j : Nat) : upd f k x j = if j = k then x else f j := by
  by_cases h : j = k
  · subst h; rw [pk_us, if_pos rfl]
  · rw [pk_un h, if_neg h]
theorem mst_at (M : Nat → Nat → Int32) (i j : Nat) (x : Int32) (a b : Nat) : mst M i j x a b = if a = i ∧ b = j then x else M a b := by
  by_cases h : a = i
  · subst h; rw [mst_same, upd_at]
    by_cases h2 : b = j
    · rw [if_pos h2, if_pos ⟨rfl, h2⟩]
    · rw [if_neg h2, if_neg (fun h => h2 h.2)]
  · rw [mst_ne h, if_neg (fun h2 => h h2.1)]
theorem mkM_row {M : Nat → Nat → Int32} {g n j : Nat} {a no yes : Int32} {i : Nat} (h : i < g ∨ g + 5 < i) : mkM M g n j a no yes i = M i := by
  unfold mkM
  rw [mst_ne (by omega), mst_ne (by omega), mst_ne (by omega), mst_ne (by omega), mst_ne (by omega), mst_ne (by omega)]
theorem mkM_0 {M : Nat → Nat → Int32} {g n j : Nat} {a no yes : Int32} : mkM M g n j a no yes g 0 = nI (n + 1) := by
  unfold mkM
  rw [mst_ne (by omega), mst_ne (by omega), mst_ne (by omega), mst_ne (by omega), mst_ne (by omega), mst_same, pk_us]
theorem mkM_5 {M : Nat → Nat → Int32} {g n j : Nat} {a no yes : Int32} : mkM M g n j a no yes (g + 5) = upd (M (g + 5)) j (nI n) := by
  unfold mkM
  rw [mst_ne (by omega), mst_ne (by omega), mst_ne (by omega), mst_ne (by omega), mst_same, mst_ne (by omega)]
theorem mkM_1 {M : Nat → Nat → Int32} {g n j : Nat} {a no yes : Int32} : mkM M g n j a no yes (g + 1) = upd (M (g + 1)) n a := by
  unfold mkM
  rw [mst_ne (by omega), mst_ne (by omega), mst_ne (by omega), mst_same, mst_ne (by omega), mst_ne (by omega)]
theorem mkM_2 {M : Nat → Nat → Int32} {g n j : Nat} {a no yes : Int32} : mkM M g n j a no yes (g + 2) = upd (M (g + 2)) n no := by
  unfold mkM
  rw [mst_ne (by omega), mst_ne (by omega), mst_same, mst_ne (by omega), mst_ne (by omega), mst_ne (by omega)]
theorem mkM_3 {M : Nat → Nat → Int32} {g n j : Nat} {a no yes : Int32} : mkM M g n j a no yes (g + 3) = upd (M (g + 3)) n yes := by
  unfold mkM
  rw [mst_ne (by omega), mst_same, mst_ne (by omega), mst_ne (by omega), mst_ne (by omega), mst_ne (by omega)]
theorem mkM_4 {M : Nat → Nat → Int32} {g n j : Nat} {a no yes : Int32} : mkM M g n j a no yes (g + 4) = upd (M (g + 4)) n 0 := by
  unfold mkM
  rw [mst_same, mst_ne (by omega), mst_ne (by omega), mst_ne (by omega), mst_ne (by omega), mst_ne (by omega)]
theorem mkF_row {M : Nat → Nat → Int32} {g j : Nat} {a no yes : Int32} {i : Nat} (h : i < g ∨ g + 5 < i) : (mkF M g j a no yes).1 i = M i := by
  unfold mkF; split
  · exact mkM_row h
  · rfl
theorem mkF_ok {M : Nat → Nat → Int32} {g j : Nat} {a no yes : Int32} (h : fkOk M g) : fkOk (mkF M g j a no yes).1 g := by
  obtain ⟨n, hn, h0, hs⟩ := h
  unfold mkF
  rw [szF_of h0 hn]
  split
  · refine ⟨n + 1, by omega, mkM_0, fun i hi => ?_⟩
    dsimp only
    rw [mkM_5, upd_at]
    split
    · exact Or.inr ⟨n, by omega, rfl⟩
    · rcases hs i hi with h | ⟨k, hk, e⟩
      · exact Or.inl h
      · exact Or.inr ⟨k, by omega, e⟩
  · exact ⟨n, hn, h0, hs⟩
theorem ptL_row {M : Nat → Nat → Int32} {g : Nat} {st a no yes : Int32} {i : Nat} (h : i < g ∨ g + 5 < i) : ∀ r k : Nat, (ptL M g st a no yes r k).1 i = M i := by
  intro r
  induction r with
  | zero => intro k; rfl
  | succ r ih =>
    intro k
    rw [ptL]
    split
    · exact mkF_row h
    · split
      · rfl
      · exact ih (k + 1)
theorem ptL_ok {M : Nat → Nat → Int32} {g : Nat} {st a no yes : Int32} (h : fkOk M g) : ∀ r k : Nat, fkOk (ptL M g st a no yes r k).1 g := by
  intro r
  induction r with
  | zero => intro k; exact h
  | succ r ih =>
    intro k
    rw [ptL]
    split
    · exact mkF_ok h
    · split
      · exact h
      · exact ih (k + 1)
theorem ptF_row {M : Nat → Nat → Int32} {g : Nat} {a no yes : Int32} {i : Nat} (h : i < g ∨ g + 5 < i) : (ptF M g a no yes).1 i = M i := by
  unfold ptF; split
  · rfl
  · exact ptL_row h _ _
theorem ptF_ok {M : Nat → Nat → Int32} {g : Nat} {a no yes : Int32} (h : fkOk M g) : fkOk (ptF M g a no yes).1 g := by
  unfold ptF; split
  · exact h
  · exact ptL_ok h _ _
theorem fkOk_mst {M : Nat → Nat → Int32} {g i j : Nat} {x : Int32} (h : fkOk M g) (h1 : i ≠ g) (h2 : i ≠ g + 5) : fkOk (mst M i j x) g := by
  obtain ⟨n, hn, h0, hs⟩ := h
  exact ⟨n, hn, by rw [mst_ne (Ne.symm h1)]; exact h0, fun j hj => by rw [mst_ne (Ne.symm h2)]; exact hs j hj⟩
theorem fkOk_mrow {M : Nat → Nat → Int32} {g i : Nat} {f : Nat → Int32} (h : fkOk M g) (h1 : i ≠ g) (h2 : i ≠ g + 5) : fkOk (mrow M i f) g := by
  obtain ⟨n, hn, h0, hs⟩ := h
  exact ⟨n, hn, by rw [mrow_ne (Ne.symm h1)]; exact h0, fun j hj => by rw [mrow_ne (Ne.symm h2)]; exact hs j hj⟩
/-- laying a fold: the leaves of the ways, then the parts from the last place up -/
def lyR (aw ye : Nat → Int32) (k : Nat) (r : Nat → Int32) : Nat → Int32 := fun w => if w < k then (if ye (aw w).toNatClampNeg = 0 then -1 else -2) else r w
def ly0 (M : Nat → Nat → Int32) (g yi k : Nat) : Nat → Nat → Int32 := mrow M (g + 8) (lyR (M (g + 7)) (M yi) k (M (g + 8)))
def lyW (M : Nat → Nat → Int32) (g place : Nat) : Nat → Nat → Nat → Int32
  | 0 => M
  | w + 1 => mst (ptF (lyW M g place w) g (lyW M g place w (g + 6) place) (lyW M g place w (g + 8) (2 * w)) (lyW M g place w (g + 8) (2 * w + 1))).1 (g + 8) w (ptF (lyW M g place w) g (lyW M g place w (g + 6) place) (lyW M g place w (g + 8) (2 * w)) (lyW M g place w (g + 8) (2 * w + 1))).2
def lyD (M : Nat → Nat → Int32) (g : Nat) : Nat → Nat → Nat → Int32
  | 0 => M
  | r + 1 => lyD (lyW M g r (2 ^ r)) g r
def lyF (M : Nat → Nat → Int32) (g yi : Nat) : Nat → Nat → Int32 := lyD (ly0 M g yi 256) g 8
theorem lyR_0 (aw ye r : Nat → Int32) : lyR aw ye 0 r = r := by funext j; simp [lyR]
theorem lyR_s (aw ye : Nat → Int32) (k : Nat) (r : Nat → Int32) : upd (lyR aw ye k r) k (if ye (aw k).toNatClampNeg = 0 then -1 else -2) = lyR aw ye (k + 1) r := by
  funext j
  by_cases h : j = k
  · subst h; rw [pk_us]; simp [lyR]
  · rw [pk_un h]; simp only [lyR]; by_cases h2 : j < k
    · rw [if_pos h2, if_pos (show j < k + 1 by omega)]
    · rw [if_neg h2, if_neg (show ¬ j < k + 1 by omega)]
theorem ly0_s (M : Nat → Nat → Int32) (g yi k : Nat) : mst (ly0 M g yi k) (g + 8) k (if M yi (M (g + 7) k).toNatClampNeg = 0 then -1 else -2) = ly0 M g yi (k + 1) := by
  rw [ly0, mst_mrow, lyR_s]; rfl
theorem lyW_ok {M : Nat → Nat → Int32} {g place : Nat} (h : fkOk M g) : ∀ w : Nat, fkOk (lyW M g place w) g := by
  intro w
  induction w with
  | zero => exact h
  | succ w ih => rw [lyW]; exact fkOk_mst (ptF_ok ih) (by omega) (by omega)
theorem lyW_row {M : Nat → Nat → Int32} {g place i : Nat} (h : i < g ∨ g + 5 < i) (h8 : i ≠ g + 8) : ∀ w : Nat, lyW M g place w i = M i := by
  intro w
  induction w with
  | zero => rfl
  | succ w ih => rw [lyW, mst_ne h8, ptF_row h, ih]
theorem lyD_ok {g : Nat} : ∀ (r : Nat) {M : Nat → Nat → Int32}, fkOk M g → fkOk (lyD M g r) g := by
  intro r
  induction r with
  | zero => intro M h; exact h
  | succ r ih => intro M h; exact ih (lyW_ok h _)
theorem lyD_row {g i : Nat} (h : i < g ∨ g + 5 < i) (h8 : i ≠ g + 8) : ∀ (r : Nat) (M : Nat → Nat → Int32), lyD M g r i = M i := by
  intro r
  induction r with
  | zero => intro M; rfl
  | succ r ih => intro M; rw [lyD, ih, lyW_row h h8]
theorem lyF_ok {M : Nat → Nat → Int32} {g yi : Nat} (h : fkOk M g) : fkOk (lyF M g yi) g := lyD_ok _ (fkOk_mrow h (by omega) (by omega))
theorem lyF_row {M : Nat → Nat → Int32} {g yi i : Nat} (h : i < g ∨ g + 5 < i) (h8 : i ≠ g + 8) : lyF M g yi i = M i := by
  rw [lyF, lyD_row h h8, ly0, mrow_ne h8]
theorem sh1 : ∀ r : Nat, r < 8 → ((1 : Int32) <<< (nI r &&& 31)) = nI (2 ^ r) := by decide
theorem pw8 : ∀ r : Nat, r < 8 → 2 ^ r ≤ 128 := by decide
theorem two_mul (w : Nat) : (2 : Int32) * nI w = nI (2 * w) := by rw [show (2 : Int32) = nI 2 from rfl, pk_mul]
theorem nI_m1 (r : Nat) : nI r + (-1) = nI r - 1 := (Int32.sub_eq_add_neg _ _).symm
