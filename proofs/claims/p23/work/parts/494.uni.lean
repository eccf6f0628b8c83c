/-! ===== the forks of all folds, each once ===== -/
/-- the forks of the first f folds -/
noncomputable def u_L (o : Nat → Nat) (kp : Nat → Prop) (Y : Nat → Nat → Bool) : Nat → List (Nat → Bool)
  | 0 => []
  | f + 1 => u_L o kp Y f ++ cIf (kp f) ((r_R o (Y f)).filter (fun g => @decide (g ∉ u_L o kp Y f) (Classical.propDecidable _))) []
theorem u_mem {o : Nat → Nat} {kp : Nat → Prop} {Y : Nat → Nat → Bool} {g : Nat → Bool} : ∀ f : Nat, g ∈ u_L o kp Y f ↔ ∃ e : Nat, e < f ∧ kp e ∧ g ∈ r_R o (Y e) := by
  intro f
  induction f with
  | zero => exact ⟨fun h => absurd h List.not_mem_nil, fun ⟨e, h, _⟩ => absurd h (Nat.not_lt_zero _)⟩
  | succ f ih =>
    rw [u_L, List.mem_append]
    constructor
    · rintro (h | h)
      · obtain ⟨e, h1, h2⟩ := ih.mp h
        exact ⟨e, by omega, h2⟩
      · by_cases c : kp f
        · rw [cIf_pos c] at h
          exact ⟨f, by omega, c, (List.mem_filter.mp h).1⟩
        · rw [cIf_neg c] at h
          exact absurd h List.not_mem_nil
    · rintro ⟨e, h1, h2, h3⟩
      by_cases c : e = f
      · subst c
        rw [cIf_pos h2]
        by_cases c2 : g ∈ u_L o kp Y e
        · exact Or.inl c2
        · exact Or.inr (List.mem_filter.mpr ⟨h3, @decide_eq_true _ (Classical.propDecidable _) c2⟩)
      · exact Or.inl (ih.mpr ⟨e, by omega, h2, h3⟩)
theorem u_nd {o : Nat → Nat} {kp : Nat → Prop} {Y : Nat → Nat → Bool} : ∀ f : Nat, (u_L o kp Y f).Nodup := by
  intro f
  induction f with
  | zero => exact List.nodup_nil
  | succ f ih =>
    rw [u_L]
    refine List.nodup_append.mpr ⟨ih, ?_, fun a ha b hb e => ?_⟩
    · by_cases c : kp f
      · rw [cIf_pos c]; exact (r_R_nd o (Y f)).filter _
      · rw [cIf_neg c]; exact List.nodup_nil
    · by_cases c : kp f
      · rw [cIf_pos c] at hb
        have := @of_decide_eq_true _ (Classical.propDecidable _) (List.mem_filter.mp hb).2
        exact this (e ▸ ha)
      · rw [cIf_neg c] at hb; exact absurd hb List.not_mem_nil
/-- the functions of a table -/
def uu_T (n : Nat) (tb : Nat → Nat → Bool) : List (Nat → Bool) := (List.range n).map tb
theorem u_T_nd {o : Nat → Nat} {n : Nat} {tb : Nat → Nat → Bool} {pl : Nat → Nat} (h : tt_T o n tb pl) : (uu_T n tb).Nodup := nodup_map tb List.nodup_range (fun x y hx hy e => h.2 x y (List.mem_range.mp hx) (List.mem_range.mp hy) e)
theorem u_T_mem {n : Nat} {tb : Nat → Nat → Bool} {g : Nat → Bool} : g ∈ uu_T n tb ↔ ∃ k : Nat, k < n ∧ tb k = g := by
  unfold uu_T
  rw [List.mem_map]
  constructor
  · rintro ⟨k, h, e⟩; exact ⟨k, List.mem_range.mp h, e⟩
  · rintro ⟨k, h, e⟩; exact ⟨k, List.mem_range.mpr h, e⟩
theorem u_T_len {n : Nat} {tb : Nat → Nat → Bool} : (uu_T n tb).length = n := by unfold uu_T; rw [List.length_map, List.length_range]
/-- a table that holds just the forks of the folds -/
def u_E (o : Nat → Nat) (kp : Nat → Prop) (Y : Nat → Nat → Bool) (n : Nat) (tb : Nat → Nat → Bool) : Prop := ∀ g : Nat → Bool, (∃ k : Nat, k < n ∧ tb k = g) ↔ ∃ e : Nat, e < 12 ∧ kp e ∧ g ∈ r_R o (Y e)
theorem a_L.E {M : Nat → Nat → Int32} {o : Nat → Nat} {kp : Nat → Prop} {Y : Nat → Nat → Bool} {n : Nat} {tb : Nat → Nat → Bool} {pl : Nat → Nat} (h : a_L M o kp Y 12 n tb pl) : u_E o kp Y n tb := by
  intro g
  constructor
  · rintro ⟨k, hk, rfl⟩; exact h.2.2.1 k hk
  · rintro ⟨e, he, hk, hg⟩; exact (h.2.2.2.1 e he hk).2 g hg
theorem u_n {o : Nat → Nat} {kp : Nat → Prop} {Y : Nat → Nat → Bool} {n : Nat} {tb : Nat → Nat → Bool} {pl : Nat → Nat} (hT : tt_T o n tb pl) (h : u_E o kp Y n tb) : n = (u_L o kp Y 12).length := by
  have := nodup_eq (u_T_nd hT) (u_nd (o := o) (kp := kp) (Y := Y) 12) (fun g => by rw [u_T_mem, u_mem]; exact h g)
  rw [u_T_len] at this
  exact this
/-- so many of them have some property -/
theorem u_nP {o : Nat → Nat} {kp : Nat → Prop} {Y : Nat → Nat → Bool} {n : Nat} {tb : Nat → Nat → Bool} {pl : Nat → Nat} (hT : tt_T o n tb pl) (h : u_E o kp Y n tb) (P : (Nat → Bool) → Bool) : ((List.range n).filter (fun k => P (tb k))).length = ((u_L o kp Y 12).filter P).length := by
  have h1 : ((List.range n).filter (fun k => P (tb k))).length = ((uu_T n tb).filter P).length := by
    unfold uu_T
    rw [List.filter_map, List.length_map]
    rfl
  rw [h1]
  exact nodup_eq ((u_T_nd hT).filter _) ((u_nd 12).filter _) (fun g => by rw [List.mem_filter, List.mem_filter, u_T_mem, u_mem, h g])
/-- no fewer than of any fold -/
theorem u_most {o : Nat → Nat} {kp : Nat → Prop} {Y : Nat → Nat → Bool} {e : Nat} (he : e < 12) (hk : kp e) : (r_R o (Y e)).length ≤ (u_L o kp Y 12).length := nodup_le _ _ (r_R_nd o (Y e)) (fun g hg => (u_mem 12).mpr ⟨e, he, hk, hg⟩)
/-- the folds' forks, added -/
noncomputable def u_sum (kp : Nat → Prop) (v : Nat → Nat) : Nat → Nat
  | 0 => 0
  | f + 1 => u_sum kp v f + cIf (kp f) (v f) 0
theorem u_sum_le {kp : Nat → Prop} {v w : Nat → Nat} : ∀ f : Nat, (∀ e : Nat, e < f → kp e → v e ≤ w e) → u_sum kp v f ≤ u_sum kp w f := by
  intro f
  induction f with
  | zero => intro _; exact Nat.le_refl _
  | succ f ih =>
    intro h
    have h1 := ih (fun e he => h e (by omega))
    rw [u_sum, u_sum]
    by_cases c : kp f
    · rw [cIf_pos c, cIf_pos c]; have := h f (by omega) c; omega
    · rw [cIf_neg c, cIf_neg c]; exact h1
theorem u_add {o : Nat → Nat} {kp : Nat → Prop} {Y : Nat → Nat → Bool} : ∀ f : Nat, (u_L o kp Y f).length ≤ u_sum kp (fun e => (r_R o (Y e)).length) f := by
  intro f
  induction f with
  | zero => exact Nat.le_refl _
  | succ f ih =>
    rw [u_L, u_sum, List.length_append]
    by_cases c : kp f
    · rw [cIf_pos c, cIf_pos c]
      exact Nat.add_le_add ih (List.length_filter_le _ _)
    · rw [cIf_neg c, cIf_neg c]; exact ih
/-- the forks that only one fold has -/
noncomputable def u_own (o : Nat → Nat) (kp : Nat → Prop) (Y : Nat → Nat → Bool) (e : Nat) : List (Nat → Bool) := (r_R o (Y e)).filter (fun g => decide (o_N o kp Y g 12 = 1))
theorem o_N_2 {o : Nat → Nat} {kp : Nat → Prop} {Y : Nat → Nat → Bool} {g : Nat → Bool} : ∀ f : Nat, (∀ e : Nat, e < f → kp e → g ∈ r_R o (Y e) → 1 ≤ o_N o kp Y g f) ∧ ∀ e e' : Nat, e < f → e' < f → e ≠ e' → kp e → kp e' → g ∈ r_R o (Y e) → g ∈ r_R o (Y e') → 2 ≤ o_N o kp Y g f := by
  intro f
  induction f with
  | zero => exact ⟨fun e h => absurd h (Nat.not_lt_zero _), fun e e' h => absurd h (Nat.not_lt_zero _)⟩
  | succ f ih =>
    refine ⟨fun e he hk hg => ?_, fun e e' he he' hne hk hk' hg hg' => ?_⟩
    · rw [o_N]
      by_cases c : e = f
      · subst c; rw [cIf_pos ⟨hk, hg⟩]; omega
      · have := ih.1 e (by omega) hk hg; omega
    · rw [o_N]
      by_cases c : e = f
      · subst c
        have := ih.1 e' (by omega) hk' hg'
        rw [cIf_pos ⟨hk, hg⟩]; omega
      · by_cases c' : e' = f
        · subst c'
          have := ih.1 e (by omega) hk hg
          rw [cIf_pos ⟨hk', hg'⟩]; omega
        · have := ih.2 e e' (by omega) (by omega) hne hk hk' hg hg'; omega
noncomputable def u_ownL (o : Nat → Nat) (kp : Nat → Prop) (Y : Nat → Nat → Bool) : Nat → List (Nat → Bool)
  | 0 => []
  | f + 1 => u_ownL o kp Y f ++ cIf (kp f) (u_own o kp Y f) []
theorem u_ownL_mem {o : Nat → Nat} {kp : Nat → Prop} {Y : Nat → Nat → Bool} {g : Nat → Bool} : ∀ f : Nat, g ∈ u_ownL o kp Y f → ∃ e : Nat, e < f ∧ kp e ∧ g ∈ u_own o kp Y e := by
  intro f
  induction f with
  | zero => intro h; exact absurd h List.not_mem_nil
  | succ f ih =>
    intro h
    rw [u_ownL, List.mem_append] at h
    rcases h with h | h
    · obtain ⟨e, h1, h2⟩ := ih h
      exact ⟨e, by omega, h2⟩
    · by_cases c : kp f
      · rw [cIf_pos c] at h; exact ⟨f, by omega, c, h⟩
      · rw [cIf_neg c] at h; exact absurd h List.not_mem_nil
theorem u_ownL_nd {o : Nat → Nat} {kp : Nat → Prop} {Y : Nat → Nat → Bool} : ∀ f : Nat, f ≤ 12 → (u_ownL o kp Y f).Nodup := by
  intro f
  induction f with
  | zero => intro _; exact List.nodup_nil
  | succ f ih =>
    intro hf
    rw [u_ownL]
    by_cases c : kp f
    · rw [cIf_pos c]
      refine List.nodup_append.mpr ⟨ih (by omega), (r_R_nd o (Y f)).filter _, fun a ha b hb e => ?_⟩
      subst e
      obtain ⟨e, he, hk, hg⟩ := u_ownL_mem f ha
      have h1 := (List.mem_filter.mp hg).1
      obtain ⟨h2, h3⟩ := List.mem_filter.mp hb
      have h4 := of_decide_eq_true h3
      have := (o_N_2 (o := o) (kp := kp) (Y := Y) (g := a) 12).2 e f (by omega) (by omega) (by omega) hk c h1 h2
      omega
    · rw [cIf_neg c, List.append_nil]; exact ih (by omega)
theorem u_ownL_len {o : Nat → Nat} {kp : Nat → Prop} {Y : Nat → Nat → Bool} : ∀ f : Nat, (u_ownL o kp Y f).length = u_sum kp (fun e => (u_own o kp Y e).length) f := by
  intro f
  induction f with
  | zero => rfl
  | succ f ih =>
    rw [u_ownL, u_sum, List.length_append, ih]
    by_cases c : kp f
    · rw [cIf_pos c, cIf_pos c]
    · rw [cIf_neg c, cIf_neg c]; rfl
/-- no fewer than all folds have alone -/
theorem u_mine {o : Nat → Nat} {kp : Nat → Prop} {Y : Nat → Nat → Bool} : u_sum kp (fun e => (u_own o kp Y e).length) 12 ≤ (u_L o kp Y 12).length := by
  rw [← u_ownL_len]
  refine nodup_le _ _ (u_ownL_nd 12 (Nat.le_refl _)) (fun g hg => (u_mem 12).mpr ?_)
  obtain ⟨e, he, hk, h⟩ := u_ownL_mem 12 hg
  exact ⟨e, he, hk, (List.mem_filter.mp h).1⟩
/-- a table of one fold alone -/
theorem u_one {o : Nat → Nat} (ho : b_O o) {f : Nat → Bool} (hf : b_S f) {n : Nat} {tb : Nat → Nat → Bool} {pl : Nat → Nat} (hT : tt_T o n tb pl) (h1 : ∀ k : Nat, k < n → ∃ u : Nat, tb k = b_s o f (pl k) u) (h2 : ∀ p u : Nat, p ≤ 8 → u < 2 ^ p → ∃ x : Int32, t_c n tb (b_s o f p u) x) : n = (r_R o f).length := by
  have := nodup_eq (u_T_nd hT) (r_R_nd o f) (fun g => by
    rw [u_T_mem]
    constructor
    · rintro ⟨k, hk, rfl⟩
      obtain ⟨u, e⟩ := h1 k hk
      have hA := (hT.1 k hk).2
      rcases r_R_all ho hf (pl k) (by have := hA.1; omega) u with h | h
      · rw [← e] at h; exact absurd h (hA.nl ho)
      · rw [e]; exact h
    · intro hg
      obtain ⟨p, u, hA, hu, e⟩ := r_R_w ho hf g hg
      obtain ⟨x, hx⟩ := h2 p u (by have := hA.1; omega) hu
      rw [← e] at hx
      rcases hx.leaf with h | h | h
      · exact absurd h hA.n0
      · exact absurd h (hA.n1 ho)
      · exact h)
  rw [u_T_len] at this
  exact this
