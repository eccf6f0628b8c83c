/-! ===== how many forks there can be ===== -/
theorem nodup_map {α β : Type} {l : List α} (φ : α → β) (h : l.Nodup) (hinj : ∀ x y : α, x ∈ l → y ∈ l → φ x = φ y → x = y) : (l.map φ).Nodup := by
  rw [List.nodup_iff_pairwise_ne] at *
  rw [List.pairwise_map]
  exact List.Pairwise.imp_of_mem (fun hx hy hne e => hne (hinj _ _ hx hy e)) h
theorem pig_rel {α β : Type} [Nonempty β] (l : List α) (L : List β) (R : α → β → Prop) (hn : l.Nodup) (h : ∀ x ∈ l, ∃ y ∈ L, R x y) (hinj : ∀ (x x' : α) (y : β), x ∈ l → x' ∈ l → R x y → R x' y → x = x') : l.length ≤ L.length := by
  obtain ⟨φ, hφ⟩ : ∃ φ : α → β, ∀ x ∈ l, φ x ∈ L ∧ R x (φ x) := ⟨fun x => Classical.epsilon (fun y => y ∈ L ∧ R x y), fun x hx => Classical.epsilon_spec (p := fun y => y ∈ L ∧ R x y) (by obtain ⟨y, h1, h2⟩ := h x hx; exact ⟨y, h1, h2⟩)⟩
  have h1 := nodup_le (l.map φ) L (nodup_map φ hn (fun x y hx hy e => hinj x y (φ x) hx hy (hφ x hx).2 (by rw [e]; exact (hφ y hy).2))) (fun y hy => by
    obtain ⟨x, hx, rfl⟩ := List.mem_map.mp hy
    exact (hφ x hx).1)
  rw [List.length_map] at h1
  exact h1
/-- pairs of two that differ -/
def c_pr (L : List Nat) : List (Nat × Nat) := L.flatMap (fun a => (L.erase a).map (fun b => (a, b)))
theorem c_pr_len (L : List Nat) : (c_pr L).length = L.length * (L.length - 1) := by
  have key : ∀ l' : List Nat, (∀ a ∈ l', a ∈ L) → (l'.flatMap (fun a => (L.erase a).map (fun b => (a, b)))).length = l'.length * (L.length - 1) := by
    intro l'
    induction l' with
    | nil => intro _; rw [List.flatMap_nil, List.length_nil, List.length_nil, Nat.zero_mul]
    | cons a l' ih =>
      intro h
      rw [List.flatMap_cons, List.length_append, List.length_map, List.length_erase_of_mem (h a List.mem_cons_self), ih (fun x hx => h x (List.mem_cons_of_mem _ hx)), List.length_cons, Nat.succ_mul, Nat.add_comm]
  exact key L (fun a h => h)
theorem c_pr_mem {L : List Nat} {a b : Nat} (ha : a ∈ L) (hb : b ∈ L) (h : b ≠ a) : (a, b) ∈ c_pr L := List.mem_flatMap.mpr ⟨a, ha, List.mem_map.mpr ⟨b, (List.mem_erase_of_ne h).mpr hb, rfl⟩⟩
/-- the forks at a place -/
def c_L (n : Nat) (pl : Nat → Nat) (p : Nat) : List Nat := (List.range n).filter (fun k => decide (pl k = p))
theorem c_L_mem {n : Nat} {pl : Nat → Nat} {p k : Nat} : k ∈ c_L n pl p ↔ k < n ∧ pl k = p := by
  unfold c_L
  rw [List.mem_filter, List.mem_range, decide_eq_true_eq]
theorem c_L_nd (n : Nat) (pl : Nat → Nat) (p : Nat) : (c_L n pl p).Nodup := List.nodup_range.filter _
theorem c_sum (pl : Nat → Nat) : ∀ l : List Nat, (∀ k ∈ l, pl k < 8) → l.length = (l.filter (fun k => decide (pl k = 0))).length + (l.filter (fun k => decide (pl k = 1))).length + (l.filter (fun k => decide (pl k = 2))).length + (l.filter (fun k => decide (pl k = 3))).length + (l.filter (fun k => decide (pl k = 4))).length + (l.filter (fun k => decide (pl k = 5))).length + (l.filter (fun k => decide (pl k = 6))).length + (l.filter (fun k => decide (pl k = 7))).length := by
  intro l
  induction l with
  | nil => intro _; rfl
  | cons k l ih =>
    intro h
    have h1 := ih (fun x hx => h x (List.mem_cons_of_mem _ hx))
    have h2 := h k List.mem_cons_self
    simp only [List.filter_cons, decide_eq_true_eq, List.length_cons]
    rcases (show pl k = 0 ∨ pl k = 1 ∨ pl k = 2 ∨ pl k = 3 ∨ pl k = 4 ∨ pl k = 5 ∨ pl k = 6 ∨ pl k = 7 by omega) with e | e | e | e | e | e | e | e <;> simp [e] <;> omega
theorem c_gt (pl : Nat → Nat) (p : Nat) : ∀ l : List Nat, (∀ k ∈ l, pl k < 8) → (p = 7 → (l.filter (fun k => decide (p < pl k))).length = 0) ∧ (p = 6 → (l.filter (fun k => decide (p < pl k))).length = (l.filter (fun k => decide (pl k = 7))).length) ∧ (p = 5 → (l.filter (fun k => decide (p < pl k))).length = (l.filter (fun k => decide (pl k = 6))).length + (l.filter (fun k => decide (pl k = 7))).length) := by
  intro l
  induction l with
  | nil => intro _; exact ⟨fun _ => rfl, fun _ => rfl, fun _ => rfl⟩
  | cons k l ih =>
    intro h
    obtain ⟨h7, h6, h5⟩ := ih (fun x hx => h x (List.mem_cons_of_mem _ hx))
    have h2 := h k List.mem_cons_self
    refine ⟨fun e => ?_, fun e => ?_, fun e => ?_⟩
    · have h1 := h7 e
      subst e
      simp only [List.filter_cons, decide_eq_true_eq]
      rw [if_neg (by omega)]; exact h1
    · have h1 := h6 e
      subst e
      simp only [List.filter_cons, decide_eq_true_eq]
      by_cases c : pl k = 7
      · rw [if_pos (by omega), if_pos c, List.length_cons, List.length_cons, h1]
      · rw [if_neg (by omega), if_neg c, h1]
    · have h1 := h5 e
      subst e
      simp only [List.filter_cons, decide_eq_true_eq]
      by_cases c : pl k = 7
      · rw [if_pos (by omega), if_neg (by omega), if_pos c, List.length_cons, List.length_cons, h1]; omega
      · by_cases c2 : pl k = 6
        · rw [if_pos (by omega), if_pos c2, if_neg c, List.length_cons, List.length_cons, h1]; omega
        · rw [if_neg (by omega), if_neg c2, if_neg c, h1]
/-- a fork of one of N folds -/
def w_W (o : Nat → Nat) (Y : Nat → Nat → Bool) (N : Nat) (f : Nat → Bool) (p : Nat) : Prop := ∃ fo : Nat, fo < N ∧ ∃ u : Nat, u < 2 ^ p ∧ f = b_s o (Y fo) p u
theorem c_ways {o : Nat → Nat} {Y : Nat → Nat → Bool} {N n : Nat} {tb : Nat → Nat → Bool} {pl : Nat → Nat} (h : t_P o (w_W o Y N) n tb pl) (p : Nat) : (c_L n pl p).length ≤ N * 2 ^ p := by
  have h1 := pig_rel (c_L n pl p) (List.range (N * 2 ^ p)) (fun k y => ∃ fo u : Nat, u < 2 ^ p ∧ y = 2 ^ p * fo + u ∧ tb k = b_s o (Y fo) p u) (c_L_nd n pl p) (fun k hk => by
    obtain ⟨hk1, hk2⟩ := c_L_mem.mp hk
    obtain ⟨fo, hfo, u, hu, e⟩ := h.2.2 k hk1
    rw [hk2] at hu e
    refine ⟨2 ^ p * fo + u, List.mem_range.mpr ?_, fo, u, hu, rfl, e⟩
    calc 2 ^ p * fo + u < 2 ^ p * fo + 2 ^ p := by omega
      _ = 2 ^ p * (fo + 1) := by rw [Nat.mul_succ]
      _ ≤ 2 ^ p * N := Nat.mul_le_mul_left _ hfo
      _ = N * 2 ^ p := Nat.mul_comm _ _) (fun k k' y hk hk' ⟨fo, u, hu, e, e2⟩ ⟨fo', u', hu', e', e2'⟩ => by
    have hq : 0 < 2 ^ p := Nat.two_pow_pos p
    have d : fo = fo' := by
      have a1 : (2 ^ p * fo + u) / 2 ^ p = fo := by rw [Nat.mul_add_div hq, Nat.div_eq_of_lt hu, Nat.add_zero]
      have a2 : (2 ^ p * fo' + u') / 2 ^ p = fo' := by rw [Nat.mul_add_div hq, Nat.div_eq_of_lt hu', Nat.add_zero]
      rw [← a1, ← a2, ← e, ← e']
    have d2 : u = u' := by
      have a1 : (2 ^ p * fo + u) % 2 ^ p = u := by rw [Nat.mul_add_mod, Nat.mod_eq_of_lt hu]
      have a2 : (2 ^ p * fo' + u') % 2 ^ p = u' := by rw [Nat.mul_add_mod, Nat.mod_eq_of_lt hu']
      rw [← a1, ← a2, ← e, ← e']
    exact h.1.2 k k' (c_L_mem.mp hk).1 (c_L_mem.mp hk').1 (by rw [e2, e2', d, d2]))
  rw [List.length_range] at h1
  exact h1
/-- numbers for leaves and forks -/
def c_n (n : Nat) (tb : Nat → Nat → Bool) (f : Nat → Bool) (a : Nat) : Prop := (f = b_0 ∧ a = 0) ∨ (f = b_1 ∧ a = 1) ∨ ∃ k : Nat, k < n ∧ tb k = f ∧ a = k + 2
theorem c_n.fn {n : Nat} {tb : Nat → Nat → Bool} {f g : Nat → Bool} {a : Nat} (hf : c_n n tb f a) (hg : c_n n tb g a) : f = g := by
  rcases hf with ⟨e1, e2⟩ | ⟨e1, e2⟩ | ⟨k, hk, e1, e2⟩ <;> rcases hg with ⟨d1, d2⟩ | ⟨d1, d2⟩ | ⟨j, hj, d1, d2⟩
  · rw [e1, d1]
  · omega
  · omega
  · omega
  · rw [e1, d1]
  · omega
  · omega
  · omega
  · have : k = j := by omega
    rw [← e1, ← d1, this]
def c_V (n : Nat) (pl : Nat → Nat) (p : Nat) : List Nat := 0 :: 1 :: ((List.range n).filter (fun k => decide (p < pl k))).map (fun k => k + 2)
theorem c_pairs {o : Nat → Nat} (ho : b_O o) {Wt : (Nat → Bool) → Nat → Prop} {n : Nat} {tb : Nat → Nat → Bool} {pl : Nat → Nat} (h : t_P o Wt n tb pl) (p : Nat) : (c_L n pl p).length ≤ (2 + ((List.range n).filter (fun k => decide (p < pl k))).length) * (1 + ((List.range n).filter (fun k => decide (p < pl k))).length) := by
  have hV : (c_V n pl p).length = 2 + ((List.range n).filter (fun k => decide (p < pl k))).length := by
    unfold c_V
    rw [List.length_cons, List.length_cons, List.length_map]; omega
  have child : ∀ k b : Nat, k ∈ c_L n pl p → b < 2 → ∃ a : Nat, a ∈ c_V n pl p ∧ c_n n tb (b_c (tb k) (o p) b) a := by
    intro k b hk hb
    obtain ⟨hk1, hk2⟩ := c_L_mem.mp hk
    obtain ⟨-, hA⟩ := h.1.1 k hk1
    have h2 := h.2.1 k b hk1 hb
    rw [hk2] at hA h2
    rcases h2 with e | e | ⟨j, hj, e⟩
    · exact ⟨0, List.mem_cons_self, Or.inl ⟨e, rfl⟩⟩
    · exact ⟨1, List.mem_cons_of_mem _ List.mem_cons_self, Or.inr (Or.inl ⟨e, rfl⟩)⟩
    · refine ⟨j + 2, List.mem_cons_of_mem _ (List.mem_cons_of_mem _ (List.mem_map.mpr ⟨j, List.mem_filter.mpr ⟨List.mem_range.mpr hj, decide_eq_true ?_⟩, rfl⟩)), Or.inr (Or.inr ⟨j, hj, e, rfl⟩)⟩
      exact hA.clt ho hb (e ▸ (h.1.1 j hj).2)
  have h1 := pig_rel (c_L n pl p) (c_pr (c_V n pl p)) (fun k y => c_n n tb (b_c (tb k) (o p) 0) y.1 ∧ c_n n tb (b_c (tb k) (o p) 1) y.2) (c_L_nd n pl p) (fun k hk => by
    obtain ⟨a, ha, ca⟩ := child k 0 hk (by decide)
    obtain ⟨b, hb, cb⟩ := child k 1 hk (by decide)
    refine ⟨(a, b), c_pr_mem ha hb (fun e => ?_), ca, cb⟩
    obtain ⟨hk1, hk2⟩ := c_L_mem.mp hk
    obtain ⟨-, hA⟩ := h.1.1 k hk1
    rw [hk2] at hA
    rw [e] at cb
    exact hA.2.2 (ca.fn cb)) (fun k k' y hk hk' hy hy' => h.1.2 k k' (c_L_mem.mp hk).1 (c_L_mem.mp hk').1 (b_ext2 (hy.1.fn hy'.1) (hy.2.fn hy'.2)))
  rw [c_pr_len, hV] at h1
  rw [show 2 + ((List.range n).filter (fun k => decide (p < pl k))).length - 1 = 1 + ((List.range n).filter (fun k => decide (p < pl k))).length by omega] at h1
  exact h1
theorem c_bound {o : Nat → Nat} (ho : b_O o) {Y : Nat → Nat → Bool} {N n : Nat} {tb : Nat → Nat → Bool} {pl : Nat → Nat} (h : t_P o (w_W o Y N) n tb pl) : ∃ c0 c1 c2 c3 c4 c5 c6 c7 : Nat, n = c0 + c1 + c2 + c3 + c4 + c5 + c6 + c7 ∧ c0 ≤ N ∧ c1 ≤ N * 2 ∧ c2 ≤ N * 4 ∧ c3 ≤ N * 8 ∧ c4 ≤ N * 16 ∧ c5 ≤ N * 32 ∧ c5 ≤ 240 ∧ c6 ≤ 12 ∧ c7 ≤ 2 := by
  have h8 : ∀ k ∈ List.range n, pl k < 8 := fun k hk => (h.1.1 k (List.mem_range.mp hk)).2.1
  have hs := c_sum pl (List.range n) h8
  rw [List.length_range] at hs
  have w := c_ways h
  have q := c_pairs ho h
  have b7 : (c_L n pl 7).length ≤ 2 := by
    have := q 7
    rw [(c_gt pl 7 (List.range n) h8).1 rfl] at this
    exact this
  have b6 : (c_L n pl 6).length ≤ 12 := by
    have := q 6
    rw [(c_gt pl 6 (List.range n) h8).2.1 rfl] at this
    refine Nat.le_trans this (Nat.le_trans (Nat.mul_le_mul (Nat.add_le_add_left b7 2) (Nat.add_le_add_left b7 1)) (by decide))
  have b5 : (c_L n pl 5).length ≤ 240 := by
    have := q 5
    rw [(c_gt pl 5 (List.range n) h8).2.2 rfl] at this
    refine Nat.le_trans this (Nat.le_trans (Nat.mul_le_mul (Nat.add_le_add_left (Nat.add_le_add b6 b7) 2) (Nat.add_le_add_left (Nat.add_le_add b6 b7) 1)) (by decide))
  refine ⟨_, _, _, _, _, _, _, _, hs, ?_, ?_, ?_, ?_, ?_, ?_, b5, b6, b7⟩
  · have := w 0; rw [Nat.pow_zero, Nat.mul_one] at this; exact this
  · exact w 1
  · exact w 2
  · exact w 3
  · exact w 4
  · exact w 5
theorem cap12 {o : Nat → Nat} (ho : b_O o) {Y : Nat → Nat → Bool} {n : Nat} {tb : Nat → Nat → Bool} {pl : Nat → Nat} (h : t_P o (w_W o Y 12) n tb pl) : n ≤ 626 := by
  obtain ⟨c0, c1, c2, c3, c4, c5, c6, c7, e, h0, h1, h2, h3, h4, h5, h6, h7, h8⟩ := c_bound ho h
  omega
theorem cap1 {o : Nat → Nat} (ho : b_O o) {Y : Nat → Nat → Bool} {n : Nat} {tb : Nat → Nat → Bool} {pl : Nat → Nat} (h : t_P o (w_W o Y 1) n tb pl) : n ≤ 77 := by
  obtain ⟨c0, c1, c2, c3, c4, c5, c6, c7, e, h0, h1, h2, h3, h4, h5, h6, h7, h8⟩ := c_bound ho h
  omega
