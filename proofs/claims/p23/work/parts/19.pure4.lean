/-! ===== numbers of forks are in range ===== -/
def vP (n : Nat) (x : Int32) : Prop := x < 0 ∨ ∃ j : Nat, j < n ∧ x = nI j
theorem vP.mono {n n' : Nat} {x : Int32} (h : vP n x) (hn : n ≤ n') : vP n' x := by
  rcases h with h | ⟨j, hj, e⟩
  · exact Or.inl h
  · exact Or.inr ⟨j, by omega, e⟩
def fk2 (M : Nat → Nat → Int32) (g n : Nat) : Prop := n ≤ 626 ∧ M g 0 = nI n ∧ slOk M g n ∧ ∀ k : Nat, k < n → vP n (M (g + 2) k) ∧ vP n (M (g + 3) k)
theorem fk2.ok {M : Nat → Nat → Int32} {g n : Nat} (h : fk2 M g n) : fkOk M g := ⟨n, h.1, h.2.1, h.2.2.1⟩
theorem fk2.lh {M : Nat → Nat → Int32} {g n : Nat} (h : fk2 M g n) : lhOk M g n := by
  have hn := h.1
  intro k hk
  exact ⟨(h.2.2.2 k hk).1.mono hn, (h.2.2.2 k hk).2.mono hn⟩
theorem fk2_row {M M' : Nat → Nat → Int32} {g n : Nat} (h : fk2 M g n) (h0 : M' g = M g) (h2 : M' (g + 2) = M (g + 2)) (h3 : M' (g + 3) = M (g + 3)) (h5 : M' (g + 5) = M (g + 5)) : fk2 M' g n := by
  obtain ⟨a, b, c, d⟩ := h
  exact ⟨a, by rw [h0]; exact b, fun j hj => by rw [h5]; exact c j hj, fun k hk => by rw [h2, h3]; exact d k hk⟩
theorem mkF_fk2 {M : Nat → Nat → Int32} {g n j : Nat} {a no yes : Int32} (h : fk2 M g n) (hno : vP n no) (hye : vP n yes) : ∃ n' : Nat, n ≤ n' ∧ fk2 (mkF M g j a no yes).1 g n' ∧ vP n' (mkF M g j a no yes).2 := by
  obtain ⟨hn, h0, hs, hl⟩ := id h
  unfold mkF
  rw [szF_of h0 hn]
  split
  · refine ⟨n + 1, by omega, ⟨by omega, mkM_0, fun i hi => ?_, fun k hk => ?_⟩, Or.inr ⟨n, by omega, rfl⟩⟩
    · dsimp only
      rw [mkM_5, upd_at]
      split
      · exact Or.inr ⟨n, by omega, rfl⟩
      · rcases hs i hi with h | ⟨k, hk, e⟩
        · exact Or.inl h
        · exact Or.inr ⟨k, by omega, e⟩
    · dsimp only
      rw [mkM_2, mkM_3, upd_at, upd_at]
      split
      · exact ⟨hno.mono (by omega), hye.mono (by omega)⟩
      · exact ⟨(hl k (by omega)).1.mono (by omega), (hl k (by omega)).2.mono (by omega)⟩
  · exact ⟨n, Nat.le_refl _, h, Or.inl (by show (-1 : Int32) < 0; decide)⟩
theorem ptL_fk2 {M : Nat → Nat → Int32} {g n : Nat} {st a no yes : Int32} (h : fk2 M g n) (hno : vP n no) (hye : vP n yes) : ∀ r k : Nat, ∃ n' : Nat, n ≤ n' ∧ fk2 (ptL M g st a no yes r k).1 g n' ∧ vP n' (ptL M g st a no yes r k).2 := by
  intro r
  induction r with
  | zero => intro k; exact ⟨n, Nat.le_refl _, h, Or.inl (by show (-1 : Int32) < 0; decide)⟩
  | succ r ih =>
    intro k
    rw [ptL]
    split
    · exact mkF_fk2 h hno hye
    · rename_i c1
      split
      · refine ⟨n, Nat.le_refl _, h, Or.inr ?_⟩
        obtain ⟨j, hj, -, ej⟩ := ptS_of st k
        rw [ej] at c1 ⊢
        exact (h.2.2.1 j hj).resolve_left c1
      · exact ih (k + 1)
theorem ptF_fk2 {M : Nat → Nat → Int32} {g n : Nat} {a no yes : Int32} (h : fk2 M g n) (hno : vP n no) (hye : vP n yes) : ∃ n' : Nat, n ≤ n' ∧ fk2 (ptF M g a no yes).1 g n' ∧ vP n' (ptF M g a no yes).2 := by
  unfold ptF; split
  · exact ⟨n, Nat.le_refl _, h, hno⟩
  · exact ptL_fk2 h hno hye _ _
def pwOk (M : Nat → Nat → Int32) (g n : Nat) : Prop := ∀ w : Nat, w < 256 → vP n (M (g + 8) w)
theorem lyW_fk2 {M : Nat → Nat → Int32} {g n place : Nat} (h : fk2 M g n) (hp : pwOk M g n) : ∀ w : Nat, w ≤ 128 → ∃ n' : Nat, n ≤ n' ∧ fk2 (lyW M g place w) g n' ∧ pwOk (lyW M g place w) g n' := by
  intro w
  induction w with
  | zero => intro _; exact ⟨n, Nat.le_refl _, h, hp⟩
  | succ w ih =>
    intro hw
    obtain ⟨n1, h1, f1, p1⟩ := ih (by omega)
    obtain ⟨n2, h2, f2, v2⟩ := ptF_fk2 (a := lyW M g place w (g + 6) place) f1 (p1 (2 * w) (by omega)) (p1 (2 * w + 1) (by omega))
    rw [lyW]
    refine ⟨n2, by omega, fk2_row f2 (mst_ne (by omega)) (mst_ne (by omega)) (mst_ne (by omega)) (mst_ne (by omega)), fun j hj => ?_⟩
    rw [mst_same, upd_at]
    split
    · exact v2
    · rw [ptF_row (by omega)]; exact (p1 j hj).mono h2
theorem lyD_fk2 {g : Nat} : ∀ (r : Nat), r ≤ 8 → ∀ {M : Nat → Nat → Int32} {n : Nat}, fk2 M g n → pwOk M g n → ∃ n' : Nat, n ≤ n' ∧ fk2 (lyD M g r) g n' ∧ pwOk (lyD M g r) g n' := by
  intro r
  induction r with
  | zero => intro _ M n h hp; exact ⟨n, Nat.le_refl _, h, hp⟩
  | succ r ih =>
    intro hr M n h hp
    obtain ⟨n1, h1, f1, p1⟩ := lyW_fk2 (place := r) h hp (2 ^ r) (pw8 r (by omega))
    obtain ⟨n2, h2, f2, p2⟩ := ih (by omega) f1 p1
    exact ⟨n2, by omega, f2, p2⟩
theorem lyF_fk2 {M : Nat → Nat → Int32} {g n yi : Nat} (h : fk2 M g n) : ∃ n' : Nat, n ≤ n' ∧ fk2 (lyF M g yi) g n' ∧ pwOk (lyF M g yi) g n' := by
  refine lyD_fk2 8 (Nat.le_refl _) (fk2_row h (mrow_ne (by omega)) (mrow_ne (by omega)) (mrow_ne (by omega)) (mrow_ne (by omega))) (fun w hw => ?_)
  rw [ly0, mrow_same, lyR, if_pos hw]
  split <;> exact Or.inl (by decide)
theorem aoF_in (f : Nat → Int32) (way : Int32) : ∃ a : Nat, a < 256 ∧ aoF f way = nI a := pk_andE (aoL f way 8) (m := 255) 8 (by decide)
theorem soF_7 (M : Nat → Nat → Int32) (g qi w : Nat) (hw : w < 256) : ∃ a : Nat, a < 256 ∧ soF M g qi (g + 7) w = nI a := by
  rw [soF, soL, mrow_same, aoR, if_pos hw]
  exact aoF_in _ _
theorem soF_row {M : Nat → Nat → Int32} {g qi i : Nat} (h : i ≠ g) (h5 : i ≠ g + 5) (h6 : i ≠ g + 6) (h7 : i ≠ g + 7) : soF M g qi i = M i := by
  rw [soF, soL, mrow_ne h7, so3, mrow_ne h6, so2, mrow_ne h5, so1, mst_ne h]
theorem soF_fk2 (M : Nat → Nat → Int32) (g qi : Nat) : fk2 (soF M g qi) g 0 := by
  refine ⟨by decide, ?_, fun j hj => Or.inl ?_, fun k hk => by omega⟩
  · rw [soF, soL, mrow_ne (by omega), so3, mrow_ne (by omega), so2, mrow_ne (by omega), so1, mst_same, pk_us]; rfl
  · rw [soF, soL, mrow_ne (by omega), so3, mrow_ne (by omega), so2, mrow_same, flF, if_pos hj]; decide
theorem prF_fk2 {M : Nat → Nat → Int32} {g b n : Nat} {part : Int32} (hgb : g + 9 < b) (h : fk2 M g n) : fk2 (prF M g b part) g n :=
  fk2_row h (prF_row (by omega) (by omega) (by omega)) (prF_row (by omega) (by omega) (by omega)) (prF_row (by omega) (by omega) (by omega)) (prF_row (by omega) (by omega) (by omega))
/-- all folds laid: the first f of them -/
def laL (M : Nat → Nat → Int32) : Nat → Nat → Nat → Int32
  | 0 => M
  | f + 1 => if laL M f (25 + 6 * f) 0 = 0 then laL M f else prF (lyF (laL M f) 3 (25 + 6 * f + 1)) 3 (25 + 6 * f) (lyF (laL M f) 3 (25 + 6 * f + 1) (3 + 8) 0)
def laF (M : Nat → Nat → Int32) : Nat → Nat → Int32 := laL (soF M 3 2) 12
/-- what stands between the folds that are laid -/
def laOk (M : Nat → Nat → Int32) : Prop := (∃ n : Nat, fk2 M 3 n) ∧ ∀ w : Nat, w < 256 → ∃ a : Nat, a < 256 ∧ M (3 + 7) w = nI a
theorem laL_ok {M : Nat → Nat → Int32} (h : laOk M) : ∀ f : Nat, f ≤ 12 → laOk (laL M f) := by
  intro f
  induction f with
  | zero => intro _; exact h
  | succ f ih =>
    intro hf
    obtain ⟨⟨n, h1⟩, h2⟩ := ih (by omega)
    rw [laL]
    split
    · exact ⟨⟨n, h1⟩, h2⟩
    · obtain ⟨n', -, h3, -⟩ := lyF_fk2 (yi := 25 + 6 * f + 1) h1
      refine ⟨⟨n', prF_fk2 (by omega) h3⟩, fun w hw => ?_⟩
      rw [prF_row (by omega) (by omega) (by omega), lyF_row (by omega) (by omega)]
      exact h2 w hw
theorem soF_laOk (M : Nat → Nat → Int32) (qi : Nat) : laOk (soF M 3 qi) := ⟨⟨0, soF_fk2 M 3 qi⟩, soF_7 M 3 qi⟩
