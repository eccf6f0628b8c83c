/-! ===== the row of a fold: its forks as they are met, and how far they are ===== -/
noncomputable def cIf {α : Type} (P : Prop) (a b : α) : α := @ite α P (Classical.propDecidable P) a b
theorem cIf_pos {α : Type} {P : Prop} {a b : α} (h : P) : cIf P a b = a := by unfold cIf; exact if_pos h
theorem cIf_neg {α : Type} {P : Prop} {a b : α} (h : ¬ P) : cIf P a b = b := by unfold cIf; exact if_neg h
/-- the place of the first question that matters -/
noncomputable def r_p (o : Nat → Nat) (f : Nat → Bool) : Nat := Classical.epsilon (fun p => b_A o f p)
theorem r_p_eq {o : Nat → Nat} {f : Nat → Bool} {p : Nat} (h : b_A o f p) : r_p o f = p := (Classical.epsilon_spec (p := fun p => b_A o f p) ⟨p, h⟩).uniq h
noncomputable def r_k (o : Nat → Nat) (f : Nat → Bool) (b : Nat) : Nat → Bool := b_c f (o (r_p o f)) b
theorem r_k_eq {o : Nat → Nat} {f : Nat → Bool} {p b : Nat} (h : b_A o f p) : r_k o f b = b_c f (o p) b := by rw [r_k, r_p_eq h]
def r_l (f : Nat → Bool) : Prop := f = b_0 ∨ f = b_1
/-- a leaf, or a fork at the place q or behind it -/
def r_h (o : Nat → Nat) (f : Nat → Bool) (q : Nat) : Prop := b_S f ∧ (r_l f ∨ ∃ p : Nat, b_A o f p ∧ q ≤ p)
theorem r_h.mono {o : Nat → Nat} {f : Nat → Bool} {q q' : Nat} (h : r_h o f q) (hq : q' ≤ q) : r_h o f q' := ⟨h.1, h.2.imp id (fun ⟨p, h1, h2⟩ => ⟨p, h1, Nat.le_trans hq h2⟩)⟩
theorem b_A.nl {o : Nat → Nat} (ho : b_O o) {f : Nat → Bool} {p : Nat} (h : b_A o f p) : ¬ r_l f := fun hl => hl.elim h.n0 (h.n1 ho)
theorem r_h.kid {o : Nat → Nat} (ho : b_O o) {f : Nat → Bool} (hf : b_S f) {p b : Nat} (h : b_A o f p) (hb : b < 2) : r_h o (r_k o f b) (p + 1) := by
  rw [r_k_eq h]
  have hS : b_S (b_c f (o p) b) := hf.c (ho.1 p h.1) hb
  refine ⟨hS, ?_⟩
  by_cases h0 : r_l (b_c f (o p) b)
  · exact Or.inl h0
  · obtain ⟨p', hp'⟩ := b_top ho hS (fun e => h0 (Or.inl e)) (fun e => h0 (Or.inr e))
    exact Or.inr ⟨p', hp', h.clt ho hb hp'⟩
theorem r_h.top {o : Nat → Nat} {f : Nat → Bool} {q : Nat} (h : r_h o f q) (hl : ¬ r_l f) : ∃ p : Nat, b_A o f p ∧ q ≤ p := h.2.resolve_left hl
theorem r_h.all {o : Nat → Nat} (ho : b_O o) {f : Nat → Bool} (hf : b_S f) : r_h o f 0 := by
  refine ⟨hf, ?_⟩
  by_cases h0 : r_l f
  · exact Or.inl h0
  · obtain ⟨p', hp'⟩ := b_top ho hf (fun e => h0 (Or.inl e)) (fun e => h0 (Or.inr e))
    exact Or.inr ⟨p', hp', Nat.zero_le _⟩
noncomputable def r_D (o : Nat → Nat) : Nat → List (Nat → Bool) → (Nat → Bool) → List (Nat → Bool)
  | 0, l, _ => l
  | d + 1, l, f => cIf (r_l f ∨ f ∈ l) l (r_D o d (r_D o d (l ++ [f]) (r_k o f 0)) (r_k o f 1))
noncomputable def r_u (A : (Nat → Bool) → Nat) (f : Nat → Bool) (x : Nat) : (Nat → Bool) → Nat := fun g => cIf (g = f) x (A g)
noncomputable def r_Z (o : Nat → Nat) : Nat → ((Nat → Bool) → Nat) → (Nat → Bool) → (Nat → Bool) → Nat
  | 0, A, _ => A
  | d + 1, A, f => cIf (r_l f ∨ A f ≤ 7 - d) A (r_Z o d (r_Z o d (r_u A f (7 - d)) (r_k o f 0)) (r_k o f 1))
theorem r_D_in {o : Nat → Nat} {d : Nat} {l : List (Nat → Bool)} {f : Nat → Bool} (h : r_l f ∨ f ∈ l) : r_D o d l f = l := by
  cases d with
  | zero => rfl
  | succ d => rw [r_D, cIf_pos h]
theorem r_D_out {o : Nat → Nat} {d : Nat} {l : List (Nat → Bool)} {f : Nat → Bool} (h1 : ¬ r_l f) (h2 : f ∉ l) : r_D o (d + 1) l f = r_D o d (r_D o d (l ++ [f]) (r_k o f 0)) (r_k o f 1) := by rw [r_D, cIf_neg (fun h => h.elim h1 h2)]
theorem r_D_pre {o : Nat → Nat} : ∀ (d : Nat) (l : List (Nat → Bool)) (f : Nat → Bool), ∃ l' : List (Nat → Bool), r_D o d l f = l ++ l' := by
  intro d
  induction d with
  | zero => intro l f; exact ⟨[], (List.append_nil l).symm⟩
  | succ d ih =>
    intro l f
    by_cases h : r_l f ∨ f ∈ l
    · exact ⟨[], by rw [r_D_in h, List.append_nil]⟩
    · rw [r_D, cIf_neg h]
      obtain ⟨l1, e1⟩ := ih (l ++ [f]) (r_k o f 0)
      obtain ⟨l2, e2⟩ := ih (r_D o d (l ++ [f]) (r_k o f 0)) (r_k o f 1)
      exact ⟨[f] ++ l1 ++ l2, by rw [e2, e1]; simp only [List.append_assoc]⟩
theorem r_D_sub {o : Nat → Nat} {d : Nat} {l : List (Nat → Bool)} {f g : Nat → Bool} (h : g ∈ l) : g ∈ r_D o d l f := by
  obtain ⟨l', e⟩ := r_D_pre (o := o) d l f
  rw [e]; exact List.mem_append_left _ h
theorem r_D_len {o : Nat → Nat} {d : Nat} {l : List (Nat → Bool)} {f : Nat → Bool} : l.length ≤ (r_D o d l f).length := by
  obtain ⟨l', e⟩ := r_D_pre (o := o) d l f
  rw [e, List.length_append]; exact Nat.le_add_right _ _
theorem r_D_nd {o : Nat → Nat} : ∀ (d : Nat) (l : List (Nat → Bool)) (f : Nat → Bool), l.Nodup → (r_D o d l f).Nodup := by
  intro d
  induction d with
  | zero => intro l f h; exact h
  | succ d ih =>
    intro l f h
    by_cases c : r_l f ∨ f ∈ l
    · rw [r_D_in c]; exact h
    · rw [r_D, cIf_neg c]
      refine ih _ _ (ih _ _ (List.nodup_append.mpr ⟨h, List.nodup_cons.mpr ⟨List.not_mem_nil, List.nodup_nil⟩, fun a ha b hb e => ?_⟩))
      rw [List.mem_singleton] at hb
      exact c (Or.inr (by rw [← hb, ← e]; exact ha))
theorem r_D_mem {o : Nat → Nat} {Q : (Nat → Bool) → Prop} (hQ : ∀ g : Nat → Bool, Q g → ¬ r_l g → ∀ b : Nat, b < 2 → Q (r_k o g b)) : ∀ (d : Nat) (l : List (Nat → Bool)) (f : Nat → Bool), Q f → ∀ g ∈ r_D o d l f, g ∈ l ∨ (Q g ∧ ¬ r_l g) := by
  intro d
  induction d with
  | zero => intro l f _ g hg; exact Or.inl hg
  | succ d ih =>
    intro l f hf g hg
    by_cases c : r_l f ∨ f ∈ l
    · rw [r_D_in c] at hg; exact Or.inl hg
    · rw [r_D, cIf_neg c] at hg
      have c1 : ¬ r_l f := fun h => c (Or.inl h)
      rcases ih _ _ (hQ f hf c1 1 (by decide)) g hg with h | h
      · rcases ih _ _ (hQ f hf c1 0 (by decide)) g h with h | h
        · rcases List.mem_append.mp h with h | h
          · exact Or.inl h
          · rw [List.mem_singleton] at h; rw [h]; exact Or.inr ⟨hf, c1⟩
        · exact Or.inr h
      · exact Or.inr h
theorem r_D_self {o : Nat → Nat} {d : Nat} {l : List (Nat → Bool)} {f : Nat → Bool} (h : r_h o f (8 - d)) : r_l f ∨ f ∈ r_D o d l f := by
  by_cases hl : r_l f
  · exact Or.inl hl
  · cases d with
    | zero =>
      obtain ⟨p, hp, h8⟩ := h.top hl
      exact absurd hp.1 (by omega)
    | succ d =>
      by_cases c : f ∈ l
      · exact Or.inr (r_D_sub c)
      · rw [r_D_out hl c]
        exact Or.inr (r_D_sub (r_D_sub (List.mem_append_right _ (List.mem_singleton.mpr rfl))))
/-- the forks at the place q and behind it have their parts in the row -/
def r_C (o : Nat → Nat) (q : Nat) (l : List (Nat → Bool)) : Prop := ∀ g ∈ l, ∀ p : Nat, b_A o g p → q ≤ p → ∀ b : Nat, b < 2 → r_l (r_k o g b) ∨ r_k o g b ∈ l
theorem r_C.mono {o : Nat → Nat} {q q' : Nat} {l : List (Nat → Bool)} (h : r_C o q l) (hq : q ≤ q') : r_C o q' l := fun g hg p hp h2 b hb => h g hg p hp (Nat.le_trans hq h2) b hb
theorem r_C_D {o : Nat → Nat} (ho : b_O o) : ∀ (d : Nat), d ≤ 8 → ∀ (l : List (Nat → Bool)) (f : Nat → Bool) (q : Nat), r_h o f (8 - d) → r_C o q l → r_C o q (r_D o d l f) := by
  intro d
  induction d with
  | zero => intro _ l f q _ h; exact h
  | succ d ih =>
    intro hd l f q hh h
    by_cases c : r_l f ∨ f ∈ l
    · rw [r_D_in c]; exact h
    · have c1 : ¬ r_l f := fun h => c (Or.inl h)
      have c2 : f ∉ l := fun h => c (Or.inr h)
      obtain ⟨p, hp, h7⟩ := hh.top c1
      rw [r_D_out c1 c2]
      have k0 := r_h.kid ho hh.1 hp (b := 0) (by decide)
      have k1 := r_h.kid ho hh.1 hp (b := 1) (by decide)
      have hl0 : r_C o (Nat.max q (p + 1)) (l ++ [f]) := by
        intro g hg p' hp' hq' b hb
        rcases List.mem_append.mp hg with hg | hg
        · rcases h g hg p' hp' (Nat.le_trans (Nat.le_max_left _ _) hq') b hb with h1 | h1
          · exact Or.inl h1
          · exact Or.inr (List.mem_append_left _ h1)
        · rw [List.mem_singleton] at hg
          rw [hg] at hp'
          have e9 := hp.uniq hp'
          have e8 : p + 1 ≤ p' := Nat.le_trans (Nat.le_max_right q (p + 1)) hq'
          omega
      have h1 := ih (by omega) _ _ (Nat.max q (p + 1)) (k0.mono (by omega)) hl0
      have h2 := ih (by omega) _ _ (Nat.max q (p + 1)) (k1.mono (by omega)) h1
      have hmem := fun (g : Nat → Bool) (hg : g ∈ r_D o d (r_D o d (l ++ [f]) (r_k o f 0)) (r_k o f 1)) => r_D_mem (o := o) (Q := fun g => r_h o g (p + 1)) (fun g hg hl b hb => by
        obtain ⟨p1, hp1, e1⟩ := hg.top hl
        exact (r_h.kid ho hg.1 hp1 hb).mono (by omega)) d _ _ k1 g hg
      have hmem0 := fun (g : Nat → Bool) (hg : g ∈ r_D o d (l ++ [f]) (r_k o f 0)) => r_D_mem (o := o) (Q := fun g => r_h o g (p + 1)) (fun g hg hl b hb => by
        obtain ⟨p1, hp1, e1⟩ := hg.top hl
        exact (r_h.kid ho hg.1 hp1 hb).mono (by omega)) d _ _ k0 g hg
      intro g hg p' hp' hq' b hb
      by_cases c3 : p + 1 ≤ p'
      · exact h2 g hg p' hp' (Nat.max_le.mpr ⟨hq', c3⟩) b hb
      · have hold : g ∈ l ++ [f] := by
          rcases hmem g hg with h3 | ⟨h3, h4⟩
          · rcases hmem0 g h3 with h5 | ⟨h5, h6⟩
            · exact h5
            · obtain ⟨p2, hp2, e2⟩ := h5.top h6
              have := hp2.uniq hp'; omega
          · obtain ⟨p2, hp2, e2⟩ := h3.top h4
            have := hp2.uniq hp'; omega
        rcases List.mem_append.mp hold with h3 | h3
        · rcases h g h3 p' hp' hq' b hb with h4 | h4
          · exact Or.inl h4
          · exact Or.inr (r_D_sub (r_D_sub (List.mem_append_left _ h4)))
        · rw [List.mem_singleton] at h3
          subst h3
          rcases (show b = 0 ∨ b = 1 by omega) with rfl | rfl
          · rcases r_D_self (d := d) (l := l ++ [g]) (k0.mono (by omega)) with h4 | h4
            · exact Or.inl h4
            · exact Or.inr (r_D_sub h4)
          · exact r_D_self (k1.mono (by omega))
/-- the row of a fold -/
noncomputable def r_R (o : Nat → Nat) (f : Nat → Bool) : List (Nat → Bool) := r_D o 8 [] f
theorem r_R_nd (o : Nat → Nat) (f : Nat → Bool) : (r_R o f).Nodup := r_D_nd 8 [] f List.nodup_nil
theorem r_R_cl {o : Nat → Nat} (ho : b_O o) {f : Nat → Bool} (hf : b_S f) : ∀ g ∈ r_R o f, ∀ p : Nat, b_A o g p → ∀ b : Nat, b < 2 → r_l (r_k o g b) ∨ r_k o g b ∈ r_R o f := fun g hg p hp b hb => r_C_D ho 8 (Nat.le_refl _) [] f 0 (r_h.all ho hf) (fun g hg => absurd hg List.not_mem_nil) g hg p hp (Nat.zero_le _) b hb
theorem r_R_root {o : Nat → Nat} (ho : b_O o) {f : Nat → Bool} (hf : b_S f) : r_l f ∨ f ∈ r_R o f := r_D_self (r_h.all ho hf)
/-- what stands in the row: forks of the fold -/
theorem r_R_w {o : Nat → Nat} (ho : b_O o) {f : Nat → Bool} (hf : b_S f) : ∀ g ∈ r_R o f, ∃ p u : Nat, b_A o g p ∧ u < 2 ^ p ∧ g = b_s o f p u := by
  have key := r_D_mem (o := o) (Q := fun g => ∃ p u : Nat, p ≤ 8 ∧ u < 2 ^ p ∧ g = b_s o f p u) (fun g hg hl b hb => ?_) 8 [] f ⟨0, 0, by decide, by decide, rfl⟩
  · intro g hg
    rcases key g hg with h | ⟨⟨p, u, hp, hu, e⟩, hl⟩
    · exact absurd h List.not_mem_nil
    · have hS := b_s_S ho hf p hp u
      rw [← e] at hS
      obtain ⟨p1, hp1⟩ := b_top ho hS (fun e => hl (Or.inl e)) (fun e => hl (Or.inr e))
      have hle : p ≤ p1 := by
        rcases Nat.lt_or_ge p1 p with c | c
        · have := b_s_i ho (f := f) (j := u) hp p1 c
          rw [← e] at this
          exact absurd hp1.2.2 this
        · exact c
      refine ⟨p1, u * 2 ^ (p1 - p), hp1, ?_, ?_⟩
      · calc u * 2 ^ (p1 - p) < 2 ^ p * 2 ^ (p1 - p) := Nat.mul_lt_mul_of_pos_right hu (Nat.two_pow_pos _)
          _ = 2 ^ p1 := by rw [← Nat.pow_add]; congr 1; omega
      · have := b_s_more (o := o) (f := f) (p := p) (u := u) (p1 - p) (fun p' h1 h2 => by
          rw [← e]; exact hp1.2.1 p' (by omega))
        rw [show p + (p1 - p) = p1 by omega] at this
        rw [this]; exact e
  · obtain ⟨p, u, hp, hu, e⟩ := hg
    have hS := b_s_S ho hf p hp u
    rw [← e] at hS
    obtain ⟨p1, hp1⟩ := b_top ho hS (fun e => hl (Or.inl e)) (fun e => hl (Or.inr e))
    have hle : p ≤ p1 := by
      rcases Nat.lt_or_ge p1 p with c | c
      · have := b_s_i ho (f := f) (j := u) hp p1 c
        rw [← e] at this
        exact absurd hp1.2.2 this
      · exact c
    have h2 := b_s_more (o := o) (f := f) (p := p) (u := u) (p1 - p) (fun p' h1 h2 => by
      rw [← e]; exact hp1.2.1 p' (by omega))
    rw [show p + (p1 - p) = p1 by omega, ← e] at h2
    have h8 := hp1.1
    have hu2 : u * 2 ^ (p1 - p) < 2 ^ p1 := by
      calc u * 2 ^ (p1 - p) < 2 ^ p * 2 ^ (p1 - p) := Nat.mul_lt_mul_of_pos_right hu (Nat.two_pow_pos _)
        _ = 2 ^ p1 := by rw [← Nat.pow_add]; congr 1; omega
    rw [r_k_eq hp1]
    have hpow : 2 ^ (p1 + 1) = 2 ^ p1 * 2 := Nat.pow_succ 2 p1
    rcases (show b = 0 ∨ b = 1 by omega) with rfl | rfl
    · exact ⟨p1 + 1, 2 * (u * 2 ^ (p1 - p)), by omega, by omega, by rw [b_s_lo, h2]⟩
    · exact ⟨p1 + 1, 2 * (u * 2 ^ (p1 - p)) + 1, by omega, by omega, by rw [b_s_hi, h2]⟩
/-- every fork of the fold stands in the row -/
theorem r_R_all {o : Nat → Nat} (ho : b_O o) {f : Nat → Bool} (hf : b_S f) : ∀ p : Nat, p ≤ 8 → ∀ u : Nat, r_l (b_s o f p u) ∨ b_s o f p u ∈ r_R o f := by
  intro p
  induction p with
  | zero => intro _ u; exact r_R_root ho hf
  | succ p ih =>
    intro hp u
    have hb : u % 2 < 2 := Nat.mod_lt _ (by decide)
    rw [b_s]
    rcases ih (by omega) (u / 2) with h | h
    · rcases h with h | h
      · rw [h]; exact Or.inl (Or.inl b_c0)
      · rw [h]; exact Or.inl (Or.inr (b_c1 (ho.1 p (by omega)) hb))
    · by_cases hd : b_d (b_s o f p (u / 2)) (o p)
      · have hA : b_A o (b_s o f p (u / 2)) p := ⟨by omega, b_s_i ho (by omega), hd⟩
        have h2 := r_R_cl ho hf _ h p hA (u % 2) hb
        rw [r_k_eq hA] at h2
        exact h2
      · rw [b_nd hd hb]; exact Or.inr h
/-- 77 at the most -/
theorem r_R_77 {o : Nat → Nat} (ho : b_O o) {f : Nat → Bool} (hf : b_S f) : (r_R o f).length ≤ 77 := by
  refine cap1 ho (Y := fun _ => f) (n := (r_R o f).length) (tb := fun k => (r_R o f).getD k b_0) (pl := fun k => r_p o ((r_R o f).getD k b_0)) ?_
  have hget : ∀ k : Nat, k < (r_R o f).length → (r_R o f).getD k b_0 ∈ r_R o f := fun k hk => by
    rw [List.getD_eq_getElem?_getD, List.getElem?_eq_getElem hk]; exact List.getElem_mem hk
  have hS : ∀ g ∈ r_R o f, b_S g ∧ b_A o g (r_p o g) := fun g hg => by
    obtain ⟨p, u, hA, hu, e⟩ := r_R_w ho hf g hg
    refine ⟨by rw [e]; exact b_s_S ho hf p (by have := hA.1; omega) u, by rw [r_p_eq hA]; exact hA⟩
  refine ⟨⟨fun k hk => hS _ (hget k hk), fun i j hi hj e => ?_⟩, fun k b hk hb => ?_, fun k hk => ?_⟩
  · have e : (r_R o f).getD i b_0 = (r_R o f).getD j b_0 := e
    rw [List.getD_eq_getElem?_getD, List.getElem?_eq_getElem hi, List.getD_eq_getElem?_getD, List.getElem?_eq_getElem hj] at e
    exact (List.getElem_inj (r_R_nd o f)).mp e
  · have hA := (hS _ (hget k hk)).2
    rcases r_R_cl ho hf _ (hget k hk) _ hA b hb with h | h
    · exact h.elim Or.inl (fun h => Or.inr (Or.inl h))
    · obtain ⟨j, hj, e⟩ := List.getElem_of_mem h
      refine Or.inr (Or.inr ⟨j, hj, ?_⟩)
      show (r_R o f).getD j b_0 = r_k o ((r_R o f).getD k b_0) b
      rw [List.getD_eq_getElem?_getD, List.getElem?_eq_getElem hj]
      exact e
  · obtain ⟨p, u, hA, hu, e⟩ := r_R_w ho hf _ (hget k hk)
    refine ⟨0, by decide, u, ?_, ?_⟩
    · show u < 2 ^ r_p o ((r_R o f).getD k b_0)
      rw [r_p_eq hA]; exact hu
    · show (r_R o f).getD k b_0 = b_s o f (r_p o ((r_R o f).getD k b_0)) u
      rw [r_p_eq hA]; exact e
