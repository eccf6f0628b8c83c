/-! ===== the table of forks: each function once ===== -/
/-- the number of a function: of a leaf, or of its fork -/
def t_c (n : Nat) (tb : Nat → Nat → Bool) (f : Nat → Bool) (x : Int32) : Prop := (f = b_0 ∧ x = -1) ∨ (f = b_1 ∧ x = -2) ∨ ∃ k : Nat, k < n ∧ tb k = f ∧ x = nI k
/-- n functions, each of them once, and the place of the first question that matters -/
def tt_T (o : Nat → Nat) (n : Nat) (tb : Nat → Nat → Bool) (pl : Nat → Nat) : Prop := (∀ k : Nat, k < n → b_S (tb k) ∧ b_A o (tb k) (pl k)) ∧ ∀ i j : Nat, i < n → j < n → tb i = tb j → i = j
/-- where the search for a fork begins -/
def t_st (M : Nat → Nat → Int32) (g k : Nat) : Int32 := (M (g + 2) k * 31 + M (g + 3) k) * 31 + M (g + 1) k
/-- the slots: each fork is found -/
def t_H (M : Nat → Nat → Int32) (g n : Nat) : Prop := (∀ j : Nat, j < 1024 → M (g + 5) j < 0 ∨ ∃ k : Nat, k < n ∧ M (g + 5) j = nI k) ∧ (∀ j j' : Nat, j < 1024 → j' < 1024 → ¬ M (g + 5) j < 0 → M (g + 5) j = M (g + 5) j' → j = j') ∧ ∀ k : Nat, k < n → ∃ t : Nat, t < 1024 ∧ M (g + 5) (ptS (t_st M g k) t) = nI k ∧ ∀ t' : Nat, t' < t → ¬ M (g + 5) (ptS (t_st M g k) t') < 0
/-- the memory holds the table -/
def t_M (M : Nat → Nat → Int32) (g : Nat) (o : Nat → Nat) (n : Nat) (tb : Nat → Nat → Bool) (pl : Nat → Nat) : Prop := n ≤ 626 ∧ M g 0 = nI n ∧ tt_T o n tb pl ∧ (∀ k : Nat, k < n → M (g + 1) k = nI (o (pl k)) ∧ t_c n tb (b_c (tb k) (o (pl k)) 0) (M (g + 2) k) ∧ t_c n tb (b_c (tb k) (o (pl k)) 1) (M (g + 3) k)) ∧ t_H M g n
theorem nI_nn {k : Nat} (h : k ≤ 626) : ¬ nI k < 0 := nI_pos (by omega)
theorem t_c.uniq {o : Nat → Nat} (ho : b_O o) {n : Nat} {tb : Nat → Nat → Bool} {pl : Nat → Nat} (hn : n ≤ 626) (hT : tt_T o n tb pl) {f : Nat → Bool} {x y : Int32} (hx : t_c n tb f x) (hy : t_c n tb f y) : x = y := by
  rcases hx with ⟨e1, e2⟩ | ⟨e1, e2⟩ | ⟨k, hk, e1, e2⟩ <;> rcases hy with ⟨d1, d2⟩ | ⟨d1, d2⟩ | ⟨j, hj, d1, d2⟩
  · rw [e2, d2]
  · exact absurd (e1.symm.trans d1) b_01
  · exact absurd (d1.trans e1) (hT.1 j hj).2.n0
  · exact absurd (d1.symm.trans e1) b_01
  · rw [e2, d2]
  · exact absurd (d1.trans e1) ((hT.1 j hj).2.n1 ho)
  · exact absurd (e1.trans d1) (hT.1 k hk).2.n0
  · exact absurd (e1.trans d1) ((hT.1 k hk).2.n1 ho)
  · rw [e2, d2, hT.2 k j hk hj (e1.trans d1.symm)]
theorem t_c.fn {n : Nat} {tb : Nat → Nat → Bool} (hn : n ≤ 626) {f g : Nat → Bool} {x : Int32} (hf : t_c n tb f x) (hg : t_c n tb g x) : f = g := by
  rcases hf with ⟨e1, e2⟩ | ⟨e1, e2⟩ | ⟨k, hk, e1, e2⟩ <;> rcases hg with ⟨d1, d2⟩ | ⟨d1, d2⟩ | ⟨j, hj, d1, d2⟩
  · rw [e1, d1]
  · rw [e2] at d2; exact absurd d2 (by decide)
  · exact absurd (show nI j < 0 by rw [← d2, e2]; decide) (nI_nn (by omega))
  · rw [e2] at d2; exact absurd d2 (by decide)
  · rw [e1, d1]
  · exact absurd (show nI j < 0 by rw [← d2, e2]; decide) (nI_nn (by omega))
  · exact absurd (show nI k < 0 by rw [← e2, d2]; decide) (nI_nn (by omega))
  · exact absurd (show nI k < 0 by rw [← e2, d2]; decide) (nI_nn (by omega))
  · have : k = j := (nI_eq (by omega) (by omega)).mp (e2.symm.trans d2)
    rw [← e1, ← d1, this]
theorem t_c.mono {n n' : Nat} {tb tb' : Nat → Nat → Bool} {f : Nat → Bool} {x : Int32} (h : t_c n tb f x) (hn : n ≤ n') (ht : ∀ k : Nat, k < n → tb' k = tb k) : t_c n' tb' f x := by
  rcases h with h | h | ⟨k, hk, e, e2⟩
  · exact Or.inl h
  · exact Or.inr (Or.inl h)
  · exact Or.inr (Or.inr ⟨k, by omega, (ht k hk).trans e, e2⟩)
/-- the search, from a step on where all before is taken by others -/
theorem t_find {M : Nat → Nat → Int32} {g n : Nat} {st a x y : Int32} (hn : n ≤ 626) (hH : t_H M g n) : ∀ r k : Nat, k + r = 1024 → (∀ t' : Nat, t' < k → ¬ M (g + 5) (ptS st t') < 0) → (∃ t j : Nat, t < 1024 ∧ j < n ∧ M (g + 5) (ptS st t) = nI j ∧ M (g + 1) j = a ∧ M (g + 2) j = x ∧ M (g + 3) j = y ∧ ptL M g st a x y r k = (M, nI j)) ∨ ∃ t : Nat, k ≤ t ∧ t < 1024 ∧ M (g + 5) (ptS st t) < 0 ∧ (∀ t' : Nat, t' < t → ¬ M (g + 5) (ptS st t') < 0) ∧ (∀ t' j : Nat, k ≤ t' → t' < t → j < n → M (g + 5) (ptS st t') = nI j → ¬ (M (g + 1) j = a ∧ M (g + 2) j = x ∧ M (g + 3) j = y)) ∧ ptL M g st a x y r k = mkF M g (ptS st t) a x y := by
  intro r
  induction r with
  | zero =>
    intro k hk hb
    exfalso
    have hk2 : k = 1024 := by omega
    have h1 : ∀ t : Nat, t < 1024 → ∃ j : Nat, j < n ∧ M (g + 5) (ptS st t) = nI j := fun t ht => (hH.1 _ (ptS_lt st ht)).resolve_left (hb t (by omega))
    have h2 := pig (a := 1024) (b := n) (fun t => (M (g + 5) (ptS st t)).toNatClampNeg) (fun t ht => by
      obtain ⟨j, hj, e⟩ := h1 t ht
      show (M (g + 5) (ptS st t)).toNatClampNeg < n
      rw [e, nI_clamp (by omega)]; exact hj) (fun t t' ht ht' e => by
      obtain ⟨j, hj, ej⟩ := h1 t ht
      obtain ⟨j', hj', ej'⟩ := h1 t' ht'
      rw [ej, ej', nI_clamp (by omega), nI_clamp (by omega)] at e
      exact ptS_inj st ht ht' (hH.2.1 _ _ (ptS_lt st ht) (ptS_lt st ht') (hb t (by omega)) (by rw [ej, ej', e])))
    omega
  | succ r ih =>
    intro k hk hb
    rw [ptL]
    by_cases h1 : M (g + 5) (ptS st k) < 0
    · rw [if_pos h1]
      exact Or.inr ⟨k, Nat.le_refl _, by omega, h1, hb, fun t' j h2 h3 => absurd h3 (by omega), rfl⟩
    · rw [if_neg h1]
      obtain ⟨j, hj, e⟩ := (hH.1 _ (ptS_lt st (show k < 1024 by omega))).resolve_left h1
      rw [e, nI_clamp (by omega)]
      by_cases h2 : M (g + 1) j = a ∧ M (g + 2) j = x ∧ M (g + 3) j = y
      · rw [if_pos h2]
        exact Or.inl ⟨k, j, by omega, hj, e, h2.1, h2.2.1, h2.2.2, rfl⟩
      · rw [if_neg h2]
        rcases ih (k + 1) (by omega) (fun t' ht' => by
          by_cases c : t' = k
          · rw [c]; exact h1
          · exact hb t' (by omega)) with h3 | ⟨t, h3, h4, h5, h6, h7, h8⟩
        · exact Or.inl h3
        · refine Or.inr ⟨t, by omega, h4, h5, h6, fun t' j' h9 h10 h11 h12 => ?_, h8⟩
          by_cases c : t' = k
          · rw [c, e] at h12
            have : j = j' := (nI_eq (by omega) (by omega)).mp h12
            rw [← this]; exact h2
          · exact h7 t' j' (by omega) h10 h11 h12
theorem upd_ne {f : Nat → Int32} {k j : Nat} {x : Int32} (h : j ≠ k) : upd f k x j = f j := pk_un h
/-- a table with one more fork -/
theorem t_make {M : Nat → Nat → Int32} {g : Nat} {o : Nat → Nat} (ho : b_O o) {n : Nat} {tb : Nat → Nat → Bool} {pl : Nat → Nat} (hM : t_M M g o n tb pl) {f : Nat → Bool} (hf : b_S f) {p : Nat} (hA : b_A o f p) {x y : Int32} (hx : t_c n tb (b_c f (o p) 0) x) (hy : t_c n tb (b_c f (o p) 1) y) (hn : n < 626) (hnew : ¬ ∃ k : Nat, k < n ∧ tb k = f) {t : Nat} (ht : t < 1024) (hsl : M (g + 5) (ptS ((x * 31 + y) * 31 + nI (o p)) t) < 0) (hbef : ∀ t' : Nat, t' < t → ¬ M (g + 5) (ptS ((x * 31 + y) * 31 + nI (o p)) t') < 0) : t_M (mkM M g n (ptS ((x * 31 + y) * 31 + nI (o p)) t) (nI (o p)) x y) g o (n + 1) (fun k => if k = n then f else tb k) (fun k => if k = n then p else pl k) := by
  obtain ⟨h626, h0, hT, hN, hH⟩ := hM
  have hext : ∀ k : Nat, k < n → (fun k => if k = n then f else tb k) k = tb k := fun k hk => if_neg (by omega)
  refine ⟨by omega, mkM_0, ⟨fun k hk => ?_, fun i j hi hj e => ?_⟩, fun k hk => ?_, ?_, ?_, fun k hk => ?_⟩
  · by_cases c : k = n
    · simp only [c, if_true]; exact ⟨hf, hA⟩
    · simp only [c, if_false]; exact hT.1 k (by omega)
  · by_cases ci : i = n <;> by_cases cj : j = n
    · omega
    · simp only [ci, cj, if_true, if_false] at e; exact absurd ⟨j, by omega, e.symm⟩ hnew
    · simp only [ci, cj, if_true, if_false] at e; exact absurd ⟨i, by omega, e⟩ hnew
    · simp only [ci, cj, if_false] at e; exact hT.2 i j (by omega) (by omega) e
  · by_cases c : k = n
    · simp only [c, if_true]
      rw [mkM_1, mkM_2, mkM_3, pk_us, pk_us, pk_us]
      exact ⟨rfl, hx.mono (by omega) hext, hy.mono (by omega) hext⟩
    · simp only [c, if_false]
      rw [mkM_1, mkM_2, mkM_3, upd_ne c, upd_ne c, upd_ne c]
      obtain ⟨h1, h2, h3⟩ := hN k (by omega)
      exact ⟨h1, h2.mono (by omega) hext, h3.mono (by omega) hext⟩
  · intro j hj
    rw [mkM_5, upd_at]
    split
    · exact Or.inr ⟨n, by omega, rfl⟩
    · rcases hH.1 j hj with h | ⟨k, hk, e⟩
      · exact Or.inl h
      · exact Or.inr ⟨k, by omega, e⟩
  · intro j j' hj hj' h1 h2
    rw [mkM_5, upd_at, upd_at] at h2
    rw [mkM_5, upd_at] at h1
    split at h1
    · rename_i c
      rw [if_pos c] at h2
      split at h2
      · rename_i c2; rw [c, c2]
      · exfalso
        rcases hH.1 j' hj' with h | ⟨k, hk, e⟩
        · rw [← h2] at h; exact nI_nn (by omega) h
        · rw [e] at h2; have := (nI_eq (by omega) (by omega)).mp h2; omega
    · rename_i c
      rw [if_neg c] at h2
      split at h2
      · exfalso
        rcases hH.1 j hj with h | ⟨k, hk, e⟩
        · exact h1 h
        · rw [e] at h2; have := (nI_eq (by omega) (by omega)).mp h2; omega
      · exact hH.2.1 j j' hj hj' h1 h2
  · by_cases c : k = n
    · refine ⟨t, ht, ?_, fun t' ht' => ?_⟩
      · rw [c, t_st, mkM_1, mkM_2, mkM_3, pk_us, pk_us, pk_us, mkM_5, pk_us]
      · rw [c, t_st, mkM_1, mkM_2, mkM_3, pk_us, pk_us, pk_us, mkM_5, upd_at]
        split
        · exact nI_nn (by omega)
        · exact hbef t' ht'
    · obtain ⟨t1, ht1, e1, b1⟩ := hH.2.2 k (by omega)
      have est : t_st (mkM M g n (ptS ((x * 31 + y) * 31 + nI (o p)) t) (nI (o p)) x y) g k = t_st M g k := by
        rw [t_st, mkM_1, mkM_2, mkM_3, upd_ne c, upd_ne c, upd_ne c, t_st]
      refine ⟨t1, ht1, ?_, fun t' ht' => ?_⟩
      · rw [est, mkM_5, upd_at, if_neg, e1]
        intro e2
        rw [← e2, e1] at hsl
        exact nI_nn (by omega) hsl
      · rw [est, mkM_5, upd_at]
        split
        · exact nI_nn (by omega)
        · exact b1 t' ht'
/-- the fork of a function, found or made -/
theorem t_part {M : Nat → Nat → Int32} {g : Nat} {o : Nat → Nat} (ho : b_O o) {n : Nat} {tb : Nat → Nat → Bool} {pl : Nat → Nat} (hM : t_M M g o n tb pl) {f : Nat → Bool} (hf : b_S f) {p : Nat} (hp : p < 8) (hi : b_i o f p) {x y : Int32} (hx : t_c n tb (b_c f (o p) 0) x) (hy : t_c n tb (b_c f (o p) 1) y) (hcap : b_A o f p → (¬ ∃ k : Nat, k < n ∧ tb k = f) → n < 626) :
    (t_M (ptF M g (nI (o p)) x y).1 g o n tb pl ∧ t_c n tb f (ptF M g (nI (o p)) x y).2 ∧ (ptF M g (nI (o p)) x y).1 = M) ∨ (b_A o f p ∧ (¬ ∃ k : Nat, k < n ∧ tb k = f) ∧ n < 626 ∧ t_M (ptF M g (nI (o p)) x y).1 g o (n + 1) (fun k => if k = n then f else tb k) (fun k => if k = n then p else pl k) ∧ (ptF M g (nI (o p)) x y).2 = nI n ∧ (ptF M g (nI (o p)) x y).1 (g + 4) = upd (M (g + 4)) n 0) := by
  obtain ⟨h626, h0, hT, hN, hH⟩ := id hM
  unfold ptF
  by_cases hxy : x = y
  · rw [if_pos hxy]
    refine Or.inl ⟨hM, ?_, rfl⟩
    have hnd : ¬ b_d f (o p) := fun hd => hd (t_c.fn h626 hx (hxy ▸ hy))
    rw [← b_nd hnd (b := 0) (by decide)]
    exact hx
  · rw [if_neg hxy]
    have hd : b_d f (o p) := fun e => hxy (t_c.uniq ho h626 hT hx (e ▸ hy))
    have hA : b_A o f p := ⟨hp, hi, hd⟩
    rcases t_find (st := (x * 31 + y) * 31 + nI (o p)) (a := nI (o p)) (x := x) (y := y) h626 hH 1024 0 rfl (fun t' h => absurd h (Nat.not_lt_zero _)) with ⟨t, j, ht, hj, e, e1, e2, e3, er⟩ | ⟨t, -, ht, hsl, hbef, hno, er⟩
    · rw [er]
      refine Or.inl ⟨hM, Or.inr (Or.inr ⟨j, hj, ?_, rfl⟩), rfl⟩
      obtain ⟨g1, g2, g3⟩ := hN j hj
      have hpl : pl j = p := ho.2.1 _ _ (hT.1 j hj).2.1 hp ((nI_eq (by have := ho.1 _ (hT.1 j hj).2.1; omega) (by have := ho.1 _ hp; omega)).mp (g1.symm.trans e1))
      rw [hpl, e2] at g2
      rw [hpl, e3] at g3
      exact b_ext2 (t_c.fn h626 g2 hx) (t_c.fn h626 g3 hy)
    · rw [er]
      have hnew : ¬ ∃ k : Nat, k < n ∧ tb k = f := by
        rintro ⟨k, hk, ek⟩
        obtain ⟨g1, g2, g3⟩ := hN k hk
        have hpl : pl k = p := ((hT.1 k hk).2).uniq (ek ▸ hA)
        rw [hpl, ek] at g2 g3
        rw [hpl] at g1
        have ex := t_c.uniq ho h626 hT g2 hx
        have ey := t_c.uniq ho h626 hT g3 hy
        obtain ⟨t1, ht1, es, bs⟩ := hH.2.2 k hk
        have est : t_st M g k = (x * 31 + y) * 31 + nI (o p) := by rw [t_st, ex, ey, g1]
        rw [est] at es bs
        rcases Nat.lt_trichotomy t1 t with c | c | c
        · exact hno t1 k (Nat.zero_le _) c hk es ⟨g1, ex, ey⟩
        · rw [c] at es; rw [es] at hsl; exact nI_nn (by omega) hsl
        · exact bs t c hsl
      have hlt := hcap hA hnew
      have hsz : szF M g = n := by rw [szF, h0, nI_clamp (by omega)]
      unfold mkF
      rw [hsz, if_pos hlt]
      exact Or.inr ⟨hA, hnew, hlt, t_make ho hM hf hA hx hy hlt hnew ht hsl hbef, rfl, mkM_4⟩
