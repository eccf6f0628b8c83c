/-! ===== a fold is laid ===== -/
/-- an abstract table: closed, and each of its functions has a witness -/
def t_P (o : Nat → Nat) (Wt : (Nat → Bool) → Nat → Prop) (n : Nat) (tb : Nat → Nat → Bool) (pl : Nat → Nat) : Prop := tt_T o n tb pl ∧ (∀ k b : Nat, k < n → b < 2 → b_c (tb k) (o (pl k)) b = b_0 ∨ b_c (tb k) (o (pl k)) b = b_1 ∨ ∃ j : Nat, j < n ∧ tb j = b_c (tb k) (o (pl k)) b) ∧ ∀ k : Nat, k < n → Wt (tb k) (pl k)
/-- a table that has grown -/
def t_E (n : Nat) (tb : Nat → Nat → Bool) (pl : Nat → Nat) (n' : Nat) (tb' : Nat → Nat → Bool) (pl' : Nat → Nat) : Prop := n ≤ n' ∧ ∀ k : Nat, k < n → tb' k = tb k ∧ pl' k = pl k
theorem t_E.rf {n : Nat} {tb : Nat → Nat → Bool} {pl : Nat → Nat} : t_E n tb pl n tb pl := ⟨Nat.le_refl _, fun _ _ => ⟨rfl, rfl⟩⟩
theorem t_E.tr {n n' n2 : Nat} {tb tb' tb2 : Nat → Nat → Bool} {pl pl' pl2 : Nat → Nat} (h : t_E n tb pl n' tb' pl') (h2 : t_E n' tb' pl' n2 tb2 pl2) : t_E n tb pl n2 tb2 pl2 := ⟨Nat.le_trans h.1 h2.1, fun k hk => by
  have hk' : k < n' := Nat.lt_of_lt_of_le hk h.1
  exact ⟨(h2.2 k hk').1.trans (h.2 k hk).1, (h2.2 k hk').2.trans (h.2 k hk).2⟩⟩
theorem t_E.one {n : Nat} {tb : Nat → Nat → Bool} {pl : Nat → Nat} {f : Nat → Bool} {p : Nat} : t_E n tb pl (n + 1) (fun k => if k = n then f else tb k) (fun k => if k = n then p else pl k) := ⟨Nat.le_succ n, fun k hk => ⟨if_neg (by omega), if_neg (by omega)⟩⟩
theorem t_E.c {n n' : Nat} {tb tb' : Nat → Nat → Bool} {pl pl' : Nat → Nat} (h : t_E n tb pl n' tb' pl') {f : Nat → Bool} {x : Int32} (hx : t_c n tb f x) : t_c n' tb' f x := hx.mono h.1 (fun k hk => (h.2 k hk).1)
theorem t_M.row {M M' : Nat → Nat → Int32} {g : Nat} {o : Nat → Nat} {n : Nat} {tb : Nat → Nat → Bool} {pl : Nat → Nat} (h : t_M M g o n tb pl) (h0 : M' g = M g) (h1 : M' (g + 1) = M (g + 1)) (h2 : M' (g + 2) = M (g + 2)) (h3 : M' (g + 3) = M (g + 3)) (h5 : M' (g + 5) = M (g + 5)) : t_M M' g o n tb pl := by
  have hst : ∀ k : Nat, t_st M' g k = t_st M g k := fun k => by rw [t_st, t_st, h1, h2, h3]
  refine ⟨h.1, by rw [h0]; exact h.2.1, h.2.2.1, fun k hk => by rw [h1, h2, h3]; exact h.2.2.2.1 k hk, ?_, ?_, ?_⟩
  · rw [h5]; exact h.2.2.2.2.1
  · rw [h5]; exact h.2.2.2.2.2.1
  · intro k hk
    rw [h5, hst]
    exact h.2.2.2.2.2.2 k hk
theorem t_c.leaf {n : Nat} {tb : Nat → Nat → Bool} {f : Nat → Bool} {x : Int32} (h : t_c n tb f x) : f = b_0 ∨ f = b_1 ∨ ∃ j : Nat, j < n ∧ tb j = f := by
  rcases h with h | h | ⟨k, hk, e, -⟩
  · exact Or.inl h.1
  · exact Or.inr (Or.inl h.1)
  · exact Or.inr (Or.inr ⟨k, hk, e⟩)
theorem t_M.P {M : Nat → Nat → Int32} {g : Nat} {o : Nat → Nat} {n : Nat} {tb : Nat → Nat → Bool} {pl : Nat → Nat} {Wt : (Nat → Bool) → Nat → Prop} (h : t_M M g o n tb pl) (hW : ∀ k : Nat, k < n → Wt (tb k) (pl k)) : t_P o Wt n tb pl := by
  refine ⟨h.2.2.1, fun k b hk hb => ?_, hW⟩
  obtain ⟨-, h2, h3⟩ := h.2.2.2.1 k hk
  rcases (show b = 0 ∨ b = 1 by omega) with rfl | rfl
  · exact h2.leaf
  · exact h3.leaf
theorem t_cap {M : Nat → Nat → Int32} {g : Nat} {o : Nat → Nat} {n : Nat} {tb : Nat → Nat → Bool} {pl : Nat → Nat} {Wt : (Nat → Bool) → Nat → Prop} (cap : ∀ (n : Nat) (tb : Nat → Nat → Bool) (pl : Nat → Nat), t_P o Wt n tb pl → n ≤ 626) (h : t_M M g o n tb pl) (hW : ∀ k : Nat, k < n → Wt (tb k) (pl k)) {f : Nat → Bool} (hf : b_S f) {p : Nat} (hA : b_A o f p) (hWf : Wt f p) {x y : Int32} (hx : t_c n tb (b_c f (o p) 0) x) (hy : t_c n tb (b_c f (o p) 1) y) (hnew : ¬ ∃ k : Nat, k < n ∧ tb k = f) : n < 626 := by
  have hP := h.P hW
  have hE : t_E n tb pl (n + 1) (fun k => if k = n then f else tb k) (fun k => if k = n then p else pl k) := t_E.one
  refine cap (n + 1) (fun k => if k = n then f else tb k) (fun k => if k = n then p else pl k) ⟨⟨fun k hk => ?_, fun i j hi hj e => ?_⟩, fun k b hk hb => ?_, fun k hk => ?_⟩
  · by_cases c : k = n
    · simp only [c, if_true]; exact ⟨hf, hA⟩
    · simp only [c, if_false]; exact hP.1.1 k (by omega)
  · by_cases ci : i = n <;> by_cases cj : j = n
    · omega
    · simp only [ci, cj, if_true, if_false] at e; exact absurd ⟨j, by omega, e.symm⟩ hnew
    · simp only [ci, cj, if_true, if_false] at e; exact absurd ⟨i, by omega, e⟩ hnew
    · simp only [ci, cj, if_false] at e; exact hP.1.2 i j (by omega) (by omega) e
  · by_cases c : k = n
    · simp only [c, if_true]
      rcases (show b = 0 ∨ b = 1 by omega) with rfl | rfl
      · exact (hE.c hx).leaf
      · exact (hE.c hy).leaf
    · simp only [c, if_false]
      rcases hP.2.1 k b (by omega) hb with h1 | h1 | ⟨j, hj, e⟩
      · exact Or.inl h1
      · exact Or.inr (Or.inl h1)
      · exact Or.inr (Or.inr ⟨j, by omega, by rw [if_neg (show ¬ j = n by omega)]; exact e⟩)
  · by_cases c : k = n
    · simp only [c, if_true]; exact hWf
    · simp only [c, if_false]; exact hW k (by omega)
/-- what laying a fold f has made of a table -/
def t_G (o : Nat → Nat) (f : Nat → Bool) (M M' : Nat → Nat → Int32) (g n : Nat) (tb : Nat → Nat → Bool) (pl : Nat → Nat) (n' : Nat) (tb' : Nat → Nat → Bool) (pl' : Nat → Nat) : Prop := t_M M' g o n' tb' pl' ∧ t_E n tb pl n' tb' pl' ∧ (∀ k : Nat, k < n → M' (g + 4) k = M (g + 4) k) ∧ (∀ k : Nat, n ≤ k → k < n' → M' (g + 4) k = 0 ∧ ∃ u : Nat, u < 2 ^ pl' k ∧ tb' k = b_s o f (pl' k) u)
theorem t_G.rf {o : Nat → Nat} {f : Nat → Bool} {M : Nat → Nat → Int32} {g n : Nat} {tb : Nat → Nat → Bool} {pl : Nat → Nat} (h : t_M M g o n tb pl) : t_G o f M M g n tb pl n tb pl := ⟨h, t_E.rf, fun _ _ => rfl, fun k h1 h2 => by omega⟩
theorem t_G.tr {o : Nat → Nat} {f : Nat → Bool} {M M1 M2 : Nat → Nat → Int32} {g n n1 n2 : Nat} {tb tb1 tb2 : Nat → Nat → Bool} {pl pl1 pl2 : Nat → Nat} (h : t_G o f M M1 g n tb pl n1 tb1 pl1) (h2 : t_G o f M1 M2 g n1 tb1 pl1 n2 tb2 pl2) : t_G o f M M2 g n tb pl n2 tb2 pl2 := by
  refine ⟨h2.1, h.2.1.tr h2.2.1, fun k hk => ?_, fun k h3 h4 => ?_⟩
  · have := h.2.1.1
    rw [h2.2.2.1 k (by omega), h.2.2.1 k hk]
  · rcases Nat.lt_or_ge k n1 with c | c
    · obtain ⟨e1, u, hu, e2⟩ := h.2.2.2 k h3 c
      obtain ⟨e3, e4⟩ := h2.2.1.2 k c
      exact ⟨by rw [h2.2.2.1 k c]; exact e1, u, by rw [e4]; exact hu, by rw [e3, e4]; exact e2⟩
    · exact h2.2.2.2 k c h4
theorem t_G.W {o : Nat → Nat} {f : Nat → Bool} {M M' : Nat → Nat → Int32} {g n n' : Nat} {tb tb' : Nat → Nat → Bool} {pl pl' : Nat → Nat} {Wt : (Nat → Bool) → Nat → Prop} (h : t_G o f M M' g n tb pl n' tb' pl') (hW : ∀ k : Nat, k < n → Wt (tb k) (pl k)) (hWf : ∀ p u : Nat, p < 8 → u < 2 ^ p → b_A o (b_s o f p u) p → Wt (b_s o f p u) p) : ∀ k : Nat, k < n' → Wt (tb' k) (pl' k) := by
  intro k hk
  rcases Nat.lt_or_ge k n with c | c
  · obtain ⟨e1, e2⟩ := h.2.1.2 k c
    rw [e1, e2]; exact hW k c
  · obtain ⟨-, u, hu, e⟩ := h.2.2.2 k c hk
    obtain ⟨-, hA⟩ := h.1.2.2.1.1 k hk
    rw [e] at hA ⊢
    exact hWf _ u hA.1 hu hA
theorem t_lyW {g : Nat} {o : Nat → Nat} (ho : b_O o) {f : Nat → Bool} (hf : b_S f) {Wt : (Nat → Bool) → Nat → Prop} (cap : ∀ (n : Nat) (tb : Nat → Nat → Bool) (pl : Nat → Nat), t_P o Wt n tb pl → n ≤ 626) (hWf : ∀ p u : Nat, p < 8 → u < 2 ^ p → b_A o (b_s o f p u) p → Wt (b_s o f p u) p) {p : Nat} (hp : p < 8) {M : Nat → Nat → Int32} {n : Nat} {tb : Nat → Nat → Bool} {pl : Nat → Nat} (hM : t_M M g o n tb pl) (hW : ∀ k : Nat, k < n → Wt (tb k) (pl k)) (hord : M (g + 6) p = nI (o p)) (hent : ∀ j : Nat, j < 2 ^ (p + 1) → t_c n tb (b_s o f (p + 1) j) (M (g + 8) j)) : ∀ w : Nat, w ≤ 2 ^ p → ∃ (n' : Nat) (tb' : Nat → Nat → Bool) (pl' : Nat → Nat), t_G o f M (lyW M g p w) g n tb pl n' tb' pl' ∧ (∀ u : Nat, u < w → t_c n' tb' (b_s o f p u) (lyW M g p w (g + 8) u)) ∧ ∀ j : Nat, 2 * w ≤ j → j < 2 ^ (p + 1) → t_c n' tb' (b_s o f (p + 1) j) (lyW M g p w (g + 8) j) := by
  intro w
  induction w with
  | zero => intro _; exact ⟨n, tb, pl, t_G.rf hM, fun u hu => absurd hu (Nat.not_lt_zero _), fun j _ hj => hent j hj⟩
  | succ w ih =>
    intro hw
    obtain ⟨n1, tb1, pl1, hG, h1, h2⟩ := ih (by omega)
    have hW1 := hG.W hW hWf
    have hpow : 2 ^ (p + 1) = 2 ^ p * 2 := Nat.pow_succ 2 p
    have hx := h2 (2 * w) (Nat.le_refl _) (by omega)
    have hy := h2 (2 * w + 1) (by omega) (by omega)
    rw [b_s_lo] at hx
    rw [b_s_hi] at hy
    have hq : lyW M g p w (g + 6) p = nI (o p) := by rw [lyW_row (by omega) (by omega)]; exact hord
    rw [lyW, hq]
    have hS := b_s_S ho hf p (by omega) w
    rcases t_part ho hG.1 hS hp (b_s_i ho (by omega)) hx hy (fun hA hnew => t_cap cap hG.1 hW1 hS hA (hWf p w hp (by omega) hA) hx hy hnew) with ⟨hM2, hc2, e2⟩ | ⟨hA, hnew, hlt, hM2, hc2, hown⟩
    · refine ⟨n1, tb1, pl1, ?_, fun u hu => ?_, fun j hj hj2 => ?_⟩
      · refine hG.tr ⟨hM2.row (mst_ne (by omega)) (mst_ne (by omega)) (mst_ne (by omega)) (mst_ne (by omega)) (mst_ne (by omega)), t_E.rf, fun k hk => by rw [mst_ne (by omega), e2], fun k h3 h4 => by omega⟩
      · rw [mst_same, upd_at]
        split
        · rename_i c; rw [c]; exact hc2
        · rw [e2]; exact h1 u (by omega)
      · rw [mst_same, upd_ne (by omega), e2]
        exact h2 j (by omega) hj2
    · have hE : t_E n1 tb1 pl1 (n1 + 1) (fun k => if k = n1 then b_s o f p w else tb1 k) (fun k => if k = n1 then p else pl1 k) := t_E.one
      refine ⟨n1 + 1, _, _, hG.tr ⟨hM2.row (mst_ne (by omega)) (mst_ne (by omega)) (mst_ne (by omega)) (mst_ne (by omega)) (mst_ne (by omega)), hE, fun k hk => ?_, fun k h3 h4 => ?_⟩, fun u hu => ?_, fun j hj hj2 => ?_⟩
      · rw [mst_ne (by omega), hown, upd_ne (by omega)]
      · obtain rfl : k = n1 := by omega
        refine ⟨by rw [mst_ne (by omega), hown, pk_us], w, ?_, ?_⟩
        · simp only [if_true]; omega
        · simp only [if_true]
      · rw [mst_same, upd_at]
        split
        · rename_i c; rw [c, hc2]; exact Or.inr (Or.inr ⟨n1, by omega, if_pos rfl, rfl⟩)
        · rw [ptF_row (by omega)]; exact hE.c (h1 u (by omega))
      · rw [mst_same, upd_ne (by omega), ptF_row (by omega)]
        exact hE.c (h2 j (by omega) hj2)
theorem t_lyD {g : Nat} {o : Nat → Nat} (ho : b_O o) {f : Nat → Bool} (hf : b_S f) {Wt : (Nat → Bool) → Nat → Prop} (cap : ∀ (n : Nat) (tb : Nat → Nat → Bool) (pl : Nat → Nat), t_P o Wt n tb pl → n ≤ 626) (hWf : ∀ p u : Nat, p < 8 → u < 2 ^ p → b_A o (b_s o f p u) p → Wt (b_s o f p u) p) : ∀ r : Nat, r ≤ 8 → ∀ {M : Nat → Nat → Int32} {n : Nat} {tb : Nat → Nat → Bool} {pl : Nat → Nat}, t_M M g o n tb pl → (∀ k : Nat, k < n → Wt (tb k) (pl k)) → (∀ p : Nat, p < 8 → M (g + 6) p = nI (o p)) → (∀ p j : Nat, r ≤ p → p ≤ 8 → j < 2 ^ p → ∃ x : Int32, t_c n tb (b_s o f p j) x) → (∀ j : Nat, j < 2 ^ r → t_c n tb (b_s o f r j) (M (g + 8) j)) → ∃ (n' : Nat) (tb' : Nat → Nat → Bool) (pl' : Nat → Nat), t_G o f M (lyD M g r) g n tb pl n' tb' pl' ∧ t_c n' tb' f (lyD M g r (g + 8) 0) ∧ ∀ p j : Nat, p ≤ 8 → j < 2 ^ p → ∃ x : Int32, t_c n' tb' (b_s o f p j) x := by
  intro r
  induction r with
  | zero =>
    intro _ M n tb pl hM _ _ hall hent
    exact ⟨n, tb, pl, t_G.rf hM, hent 0 (by decide), fun p j hp hj => hall p j (Nat.zero_le _) hp hj⟩
  | succ r ih =>
    intro hr M n tb pl hM hW hord hall hent
    obtain ⟨n1, tb1, pl1, hG, h1, -⟩ := t_lyW ho hf cap hWf (p := r) (by omega) hM hW (hord r (by omega)) hent (2 ^ r) (Nat.le_refl _)
    obtain ⟨n2, tb2, pl2, hG2, h2, h3⟩ := ih (by omega) hG.1 (hG.W hW hWf) (fun p hp => by rw [lyW_row (by omega) (by omega)]; exact hord p hp) (fun p j hp hp8 hj => by
      by_cases c : p = r
      · subst c; exact ⟨_, h1 j hj⟩
      · obtain ⟨x, hx⟩ := hall p j (by omega) hp8 hj
        exact ⟨x, hG.2.1.c hx⟩) h1
    rw [lyD]
    exact ⟨n2, tb2, pl2, hG.tr hG2, h2, h3⟩
/-- a fold's row of answers is laid -/
theorem tt_lay {M : Nat → Nat → Int32} {g yi : Nat} {o : Nat → Nat} (ho : b_O o) {Wt : (Nat → Bool) → Nat → Prop} (cap : ∀ (n : Nat) (tb : Nat → Nat → Bool) (pl : Nat → Nat), t_P o Wt n tb pl → n ≤ 626) (hWf : ∀ p u : Nat, p < 8 → u < 2 ^ p → b_A o (b_s o (y_f (M yi)) p u) p → Wt (b_s o (y_f (M yi)) p u) p) {n : Nat} {tb : Nat → Nat → Bool} {pl : Nat → Nat} (hM : t_M M g o n tb pl) (hW : ∀ k : Nat, k < n → Wt (tb k) (pl k)) (hord : ∀ p : Nat, p < 8 → M (g + 6) p = nI (o p)) (haw : ∀ w : Nat, w < 256 → M (g + 7) w = nI (b_a o 8 w 0)) : ∃ (n' : Nat) (tb' : Nat → Nat → Bool) (pl' : Nat → Nat), t_G o (y_f (M yi)) M (lyF M g yi) g n tb pl n' tb' pl' ∧ t_c n' tb' (y_f (M yi)) (lyF M g yi (g + 8) 0) ∧ ∀ p j : Nat, p ≤ 8 → j < 2 ^ p → ∃ x : Int32, t_c n' tb' (b_s o (y_f (M yi)) p j) x := by
  have hent : ∀ w : Nat, w < 256 → t_c n tb (b_s o (y_f (M yi)) 8 w) (ly0 M g yi 256 (g + 8) w) := by
    intro w hw
    have hk := b_a_lt ho 8 (Nat.le_refl _) w 0 (by decide)
    rw [ly0, mrow_same, lyR, if_pos hw, haw w hw, nI_clamp (by omega)]
    obtain ⟨h0, h1⟩ := b_s8 ho (y_fS (M yi)) w
    by_cases c : M yi (b_a o 8 w 0) = 0
    · rw [if_pos c]; exact Or.inl ⟨h0 ((y_f_at hk).mpr c), rfl⟩
    · rw [if_neg c]
      refine Or.inr (Or.inl ⟨h1 ?_, rfl⟩)
      cases e : y_f (M yi) (b_a o 8 w 0) with
      | true => rfl
      | false => exact absurd ((y_f_at hk).mp e) c
  have hM0 : t_M (ly0 M g yi 256) g o n tb pl := hM.row (mrow_ne (by omega)) (mrow_ne (by omega)) (mrow_ne (by omega)) (mrow_ne (by omega)) (mrow_ne (by omega))
  obtain ⟨n', tb', pl', hG, h1, h2⟩ := t_lyD ho (y_fS (M yi)) cap hWf 8 (Nat.le_refl _) hM0 hW (fun p hp => by rw [ly0, mrow_ne (by omega)]; exact hord p hp) (fun p j hp hp8 hj => by
    obtain rfl : p = 8 := by omega
    exact ⟨_, hent j hj⟩) hent
  refine ⟨n', tb', pl', ⟨hG.1, hG.2.1, fun k hk => ?_, hG.2.2.2⟩, h1, h2⟩
  show lyD (ly0 M g yi 256) g 8 (g + 4) k = _
  rw [hG.2.2.1 k hk, ly0, mrow_ne (by omega)]
