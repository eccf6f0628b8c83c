/-! ===== what folds say, as functions of answers ===== -/
/-- the answers k, with the answer b to question q -/
def sB (k q b : Nat) : Nat := ((k ||| (1 <<< q)) ^^^ (1 <<< q)) ||| (b <<< q)
theorem sB_bit {k q b j : Nat} (hb : b < 2) : (sB k q b).testBit j = if j = q then decide (b = 1) else k.testBit j := by
  unfold sB
  rw [Nat.testBit_or, Nat.testBit_xor, Nat.testBit_or, Nat.one_shiftLeft, Nat.testBit_two_pow]
  rcases (show b = 0 ∨ b = 1 by omega) with rfl | rfl
  · rw [Nat.zero_shiftLeft, Nat.zero_testBit]
    by_cases h : j = q
    · subst h; simp
    · have h2 : ¬ q = j := fun e => h e.symm
      simp [h, h2]
  · rw [Nat.one_shiftLeft, Nat.testBit_two_pow]
    by_cases h : j = q
    · subst h; simp
    · have h2 : ¬ q = j := fun e => h e.symm
      simp [h, h2]
theorem sB_lt : ∀ k : Nat, k < 256 → ∀ q : Nat, q < 8 → ∀ b : Nat, b < 2 → sB k q b < 256 := by decide +kernel
theorem bit_hi {k j : Nat} (hk : k < 256) (hj : 8 ≤ j) : k.testBit j = false := Nat.testBit_lt_two_pow (Nat.lt_of_lt_of_le (show k < 2 ^ 8 from hk) (Nat.pow_le_pow_right (by decide) hj))
theorem lt_of_hi {k : Nat} (h : ∀ j : Nat, 8 ≤ j → k.testBit j = false) : k < 256 := Nat.lt_pow_two_of_testBit (n := 8) k h
theorem sB_ge {k q b : Nat} (hk : 256 ≤ k) (hq : q < 8) (hb : b < 2) : 256 ≤ sB k q b := by
  rcases Nat.lt_or_ge (sB k q b) 256 with h | h
  · exfalso
    have : k < 256 := lt_of_hi (fun j hj => by
      have h1 := bit_hi h hj
      rw [sB_bit hb, if_neg (by omega)] at h1
      exact h1)
    omega
  · exact h
theorem bit_ext {k k' : Nat} (hk : k < 256) (hk' : k' < 256) (h : ∀ j : Nat, j < 8 → k.testBit j = k'.testBit j) : k = k' := by
  apply Nat.eq_of_testBit_eq
  intro j
  rcases Nat.lt_or_ge j 8 with hj | hj
  · exact h j hj
  · rw [bit_hi hk hj, bit_hi hk' hj]
theorem sB_sB {k q b c : Nat} (hb : b < 2) (hc : c < 2) : sB (sB k q c) q b = sB k q b := by
  apply Nat.eq_of_testBit_eq
  intro j
  rw [sB_bit hb, sB_bit hb, sB_bit hc]
  split <;> rfl
theorem sB_comm {k q q' b c : Nat} (hq : q ≠ q') (hb : b < 2) (hc : c < 2) : sB (sB k q' c) q b = sB (sB k q b) q' c := by
  apply Nat.eq_of_testBit_eq
  intro j
  rw [sB_bit hb, sB_bit hc, sB_bit hc, sB_bit hb]
  by_cases h : j = q
  · subst h; rw [if_pos rfl, if_neg hq, if_pos rfl]
  · rw [if_neg h, if_neg h]
theorem sB_self (k q : Nat) : ∃ b : Nat, b < 2 ∧ sB k q b = k := by
  refine ⟨if k.testBit q then 1 else 0, by split <;> decide, ?_⟩
  apply Nat.eq_of_testBit_eq
  intro j
  rw [sB_bit (by split <;> decide)]
  by_cases h : j = q
  · subst h
    rw [if_pos rfl]
    cases hk : k.testBit j <;> simp
  · rw [if_neg h]
theorem sB_zero : ∀ k : Nat, k < 256 → sB (sB (sB (sB (sB (sB (sB (sB k 0 0) 1 0) 2 0) 3 0) 4 0) 5 0) 6 0) 7 0 = 0 := by decide +kernel
/-- nothing is said of what are no answers -/
def b_S (f : Nat → Bool) : Prop := ∀ k : Nat, 256 ≤ k → f k = false
/-- a function of answers, the answer b to q given -/
def b_c (f : Nat → Bool) (q b : Nat) : Nat → Bool := fun k => f (sB k q b)
def b_0 : Nat → Bool := fun _ => false
def b_1 : Nat → Bool := fun k => decide (k < 256)
theorem b_0S : b_S b_0 := fun _ _ => rfl
theorem b_1S : b_S b_1 := fun k hk => by simp [b_1]; omega
theorem b_01 : b_0 ≠ b_1 := fun h => absurd (congrFun h 0) (by decide)
theorem b_S.c {f : Nat → Bool} (h : b_S f) {q b : Nat} (hq : q < 8) (hb : b < 2) : b_S (b_c f q b) := fun k hk => h _ (sB_ge hk hq hb)
theorem b_S.ext {f g : Nat → Bool} (hf : b_S f) (hg : b_S g) (h : ∀ k : Nat, k < 256 → f k = g k) : f = g := by
  funext k
  rcases Nat.lt_or_ge k 256 with hk | hk
  · exact h k hk
  · rw [hf k hk, hg k hk]
theorem b_cc {f : Nat → Bool} {q b c : Nat} (hb : b < 2) (hc : c < 2) : b_c (b_c f q b) q c = b_c f q b := by
  funext k
  show f (sB (sB k q c) q b) = f (sB k q b)
  rw [sB_sB hb hc]
theorem b_cm {f : Nat → Bool} {q q' b c : Nat} (hq : q ≠ q') (hb : b < 2) (hc : c < 2) : b_c (b_c f q b) q' c = b_c (b_c f q' c) q b := by
  funext k
  show f (sB (sB k q' c) q b) = f (sB (sB k q b) q' c)
  rw [sB_comm hq hb hc]
theorem b_c0 {q b : Nat} : b_c b_0 q b = b_0 := rfl
theorem b_c1 {q b : Nat} (hq : q < 8) (hb : b < 2) : b_c b_1 q b = b_1 := by
  refine (b_1S.c hq hb).ext b_1S (fun k hk => ?_)
  show decide (sB k q b < 256) = decide (k < 256)
  rw [decide_eq_true hk, decide_eq_true (sB_lt k hk q hq b hb)]
/-- a question matters -/
def b_d (f : Nat → Bool) (q : Nat) : Prop := b_c f q 0 ≠ b_c f q 1
theorem b_nd {f : Nat → Bool} {q b : Nat} (h : ¬ b_d f q) (hb : b < 2) : b_c f q b = f := by
  have h0 : b_c f q 0 = b_c f q 1 := Classical.not_not.mp h
  have key : ∀ c : Nat, c < 2 → b_c f q c = b_c f q b := by
    intro c hc
    rcases (show c = 0 ∨ c = 1 by omega) with rfl | rfl <;> rcases (show b = 0 ∨ b = 1 by omega) with rfl | rfl
    · rfl
    · exact h0
    · exact h0.symm
    · rfl
  funext k
  obtain ⟨c, hc, e⟩ := sB_self k q
  rw [← key c hc]
  show f (sB k q c) = f k
  rw [e]
theorem b_nd_of {f : Nat → Bool} {q : Nat} (h : ∀ b : Nat, b < 2 → b_c f q b = f) : ¬ b_d f q := fun hd => hd ((h 0 (by decide)).trans (h 1 (by decide)).symm)
/-- an order of the questions -/
def b_O (o : Nat → Nat) : Prop := (∀ p : Nat, p < 8 → o p < 8) ∧ (∀ p p' : Nat, p < 8 → p' < 8 → o p = o p' → p = p') ∧ ∀ q : Nat, q < 8 → ∃ p : Nat, p < 8 ∧ o p = q
/-- the first p questions answered by the bits of j -/
def b_s (o : Nat → Nat) (f : Nat → Bool) : Nat → Nat → Nat → Bool
  | 0, _ => f
  | p + 1, j => b_c (b_s o f p (j / 2)) (o p) (j % 2)
/-- none of the first p questions matters -/
def b_i (o : Nat → Nat) (f : Nat → Bool) (p : Nat) : Prop := ∀ p' : Nat, p' < p → ¬ b_d f (o p')
/-- the question at place p is the first that matters -/
def b_A (o : Nat → Nat) (f : Nat → Bool) (p : Nat) : Prop := p < 8 ∧ b_i o f p ∧ b_d f (o p)
theorem b_s_S {o : Nat → Nat} (ho : b_O o) {f : Nat → Bool} (hf : b_S f) : ∀ p : Nat, p ≤ 8 → ∀ j : Nat, b_S (b_s o f p j) := by
  intro p
  induction p with
  | zero => intro _ j; exact hf
  | succ p ih => intro hp j; exact (ih (by omega) (j / 2)).c (ho.1 p (by omega)) (Nat.mod_lt _ (by decide))
theorem b_s_fix {o : Nat → Nat} (ho : b_O o) {f : Nat → Bool} : ∀ p : Nat, p ≤ 8 → ∀ (j p' b : Nat), p' < p → b < 2 → b_c (b_s o f p j) (o p') b = b_s o f p j := by
  intro p
  induction p with
  | zero => intro _ j p' b h; exact absurd h (Nat.not_lt_zero _)
  | succ p ih =>
    intro hp j p' b hp' hb
    rw [b_s]
    by_cases h : p' = p
    · subst h; exact b_cc (Nat.mod_lt _ (by decide)) hb
    · rw [b_cm (fun e => h (ho.2.1 p' p (by omega) (by omega) e.symm)) (Nat.mod_lt _ (by decide)) hb, ih (by omega) (j / 2) p' b (by omega) hb]
theorem b_s_i {o : Nat → Nat} (ho : b_O o) {f : Nat → Bool} {p j : Nat} (hp : p ≤ 8) : b_i o (b_s o f p j) p := fun p' hp' => b_nd_of (fun b hb => b_s_fix ho p hp j p' b hp' hb)
theorem b_s_lo {o : Nat → Nat} {f : Nat → Bool} (p u : Nat) : b_s o f (p + 1) (2 * u) = b_c (b_s o f p u) (o p) 0 := by
  rw [b_s, show 2 * u / 2 = u by omega, show 2 * u % 2 = 0 by omega]
theorem b_s_hi {o : Nat → Nat} {f : Nat → Bool} (p u : Nat) : b_s o f (p + 1) (2 * u + 1) = b_c (b_s o f p u) (o p) 1 := by
  rw [b_s, show (2 * u + 1) / 2 = u by omega, show (2 * u + 1) % 2 = 1 by omega]
/-- nothing matters: always yes or always no -/
theorem b_const {o : Nat → Nat} (ho : b_O o) {f : Nat → Bool} (hf : b_S f) (h : b_i o f 8) : f = b_0 ∨ f = b_1 := by
  have hq : ∀ q b : Nat, q < 8 → b < 2 → ∀ k : Nat, f (sB k q b) = f k := by
    intro q b hq hb k
    obtain ⟨p, hp, e⟩ := ho.2.2 q hq
    have := congrFun (b_nd (h p hp) hb) k
    rw [e] at this
    exact this
  have h0 : ∀ k : Nat, k < 256 → f k = f 0 := by
    intro k hk
    rw [← sB_zero k hk, hq 7 0 (by decide) (by decide), hq 6 0 (by decide) (by decide), hq 5 0 (by decide) (by decide), hq 4 0 (by decide) (by decide), hq 3 0 (by decide) (by decide), hq 2 0 (by decide) (by decide), hq 1 0 (by decide) (by decide), hq 0 0 (by decide) (by decide)]
  cases e : f 0 with
  | false => exact Or.inl (hf.ext b_0S (fun k hk => by rw [h0 k hk, e]; rfl))
  | true => exact Or.inr (hf.ext b_1S (fun k hk => by rw [h0 k hk, e]; exact (decide_eq_true hk).symm))
theorem b_d0 {q : Nat} : ¬ b_d b_0 q := fun h => h rfl
theorem b_d1 {q : Nat} (hq : q < 8) : ¬ b_d b_1 q := fun h => h ((b_c1 hq (by decide)).trans (b_c1 hq (by decide)).symm)
/-- what isn't a leaf has a first question that matters -/
theorem b_top {o : Nat → Nat} (ho : b_O o) {f : Nat → Bool} (hf : b_S f) (h0 : f ≠ b_0) (h1 : f ≠ b_1) : ∃ p : Nat, b_A o f p := by
  have key : ∀ n : Nat, n ≤ 8 → b_i o f n ∨ ∃ p : Nat, b_A o f p := by
    intro n
    induction n with
    | zero => intro _; exact Or.inl (fun p' h => absurd h (Nat.not_lt_zero _))
    | succ n ih =>
      intro hn
      rcases ih (by omega) with h | h
      · by_cases hd : b_d f (o n)
        · exact Or.inr ⟨n, by omega, h, hd⟩
        · refine Or.inl (fun p' hp' => ?_)
          by_cases e : p' = n
          · rw [e]; exact hd
          · exact h p' (by omega)
      · exact Or.inr h
  rcases key 8 (Nat.le_refl _) with h | h
  · rcases b_const ho hf h with h | h
    · exact absurd h h0
    · exact absurd h h1
  · exact h
theorem b_A.uniq {o : Nat → Nat} {f : Nat → Bool} {p p' : Nat} (h : b_A o f p) (h' : b_A o f p') : p = p' := by
  rcases Nat.lt_trichotomy p p' with c | c | c
  · exact absurd h.2.2 (h'.2.1 p c)
  · exact c
  · exact absurd h'.2.2 (h.2.1 p' c)
theorem b_A.n0 {o : Nat → Nat} {f : Nat → Bool} {p : Nat} (h : b_A o f p) : f ≠ b_0 := fun e => b_d0 (e ▸ h.2.2)
theorem b_A.n1 {o : Nat → Nat} (ho : b_O o) {f : Nat → Bool} {p : Nat} (h : b_A o f p) : f ≠ b_1 := fun e => b_d1 (ho.1 p h.1) (e ▸ h.2.2)
/-- a child's first question stands behind -/
theorem b_A.child {o : Nat → Nat} (ho : b_O o) {f : Nat → Bool} {p b : Nat} (h : b_A o f p) (hb : b < 2) : b_i o (b_c f (o p) b) (p + 1) := by
  intro p' hp'
  refine b_nd_of (fun c hc => ?_)
  by_cases e : p' = p
  · rw [e]; exact b_cc hb hc
  · rw [b_cm (fun e2 => e (ho.2.1 p' p (by have := h.1; omega) h.1 e2.symm)) hb hc, b_nd (h.2.1 p' (by omega)) hc]
theorem b_A.clt {o : Nat → Nat} (ho : b_O o) {f : Nat → Bool} {p p' b : Nat} (h : b_A o f p) (hb : b < 2) (h' : b_A o (b_c f (o p) b) p') : p < p' := by
  rcases Nat.lt_or_ge p p' with c | c
  · exact c
  · exact absurd h'.2.2 (h.child ho hb p' (by omega))
/-- where questions between don't matter, more of them may be answered -/
theorem b_s_more {o : Nat → Nat} {f : Nat → Bool} {p u : Nat} : ∀ r : Nat, (∀ p' : Nat, p ≤ p' → p' < p + r → ¬ b_d (b_s o f p u) (o p')) → b_s o f (p + r) (u * 2 ^ r) = b_s o f p u := by
  intro r
  induction r with
  | zero => intro _; rw [Nat.pow_zero, Nat.mul_one]; rfl
  | succ r ih =>
    intro h
    have e := ih (fun p' h1 h2 => h p' h1 (by omega))
    rw [show p + (r + 1) = p + r + 1 from rfl, show u * 2 ^ (r + 1) = 2 * (u * 2 ^ r) by rw [Nat.pow_succ, ← Nat.mul_assoc, Nat.mul_comm], b_s_lo, e]
    exact b_nd (h (p + r) (by omega) (by omega)) (by decide)
/-- all questions answered: where the answers stand -/
def b_a (o : Nat → Nat) : Nat → Nat → Nat → Nat
  | 0, _, k => k
  | p + 1, j, k => b_a o p (j / 2) (sB k (o p) (j % 2))
theorem b_s_a {o : Nat → Nat} {f : Nat → Bool} : ∀ (p j k : Nat), b_s o f p j k = f (b_a o p j k) := by
  intro p
  induction p with
  | zero => intro j k; rfl
  | succ p ih => intro j k; rw [b_s, b_a]; exact ih (j / 2) (sB k (o p) (j % 2))
theorem b_a_lt {o : Nat → Nat} (ho : b_O o) : ∀ p : Nat, p ≤ 8 → ∀ j k : Nat, k < 256 → b_a o p j k < 256 := by
  intro p
  induction p with
  | zero => intro _ j k hk; exact hk
  | succ p ih => intro hp j k hk; exact ih (by omega) _ _ (sB_lt k hk _ (ho.1 p (by omega)) _ (Nat.mod_lt _ (by decide)))
theorem b_a_bit {o : Nat → Nat} (ho : b_O o) : ∀ p : Nat, p ≤ 8 → ∀ j k q : Nat, (b_a o p j k).testBit q = (if ∃ p' : Nat, p' < p ∧ o p' = q then decide (∃ p' : Nat, p' < p ∧ o p' = q ∧ j / 2 ^ (p - 1 - p') % 2 = 1) else k.testBit q) := by
  intro p
  induction p with
  | zero =>
    intro _ j k q
    rw [b_a, if_neg (fun ⟨p', h, _⟩ => absurd h (Nat.not_lt_zero _))]
  | succ p ih =>
    intro hp j k q
    rw [b_a, ih (by omega), sB_bit (Nat.mod_lt _ (by decide))]
    have key : ∀ p2 : Nat, p2 < p → j / 2 / 2 ^ (p - 1 - p2) = j / 2 ^ (p + 1 - 1 - p2) := by
      intro p2 h2
      rw [Nat.div_div_eq_div_mul, show 2 * 2 ^ (p - 1 - p2) = 2 ^ (p + 1 - 1 - p2) by rw [Nat.mul_comm, ← Nat.pow_succ]; congr 1; omega]
    by_cases h : ∃ p' : Nat, p' < p ∧ o p' = q
    · obtain ⟨p1, h1, e1⟩ := id h
      rw [if_pos h, if_pos ⟨p1, by omega, e1⟩]
      apply decide_eq_decide.mpr
      constructor
      · rintro ⟨p2, h2, e2, d2⟩
        refine ⟨p2, by omega, e2, ?_⟩
        rw [← key p2 h2]
        exact d2
      · rintro ⟨p2, h2, e2, d2⟩
        have h3 : p2 < p := by
          rcases Nat.lt_or_ge p2 p with c | c
          · exact c
          · exfalso
            have := ho.2.1 p1 p2 (by omega) (by omega) (e1.trans e2.symm)
            omega
        refine ⟨p2, h3, e2, ?_⟩
        rw [key p2 h3]
        exact d2
    · rw [if_neg h]
      by_cases e : q = o p
      · subst e
        rw [if_pos rfl, if_pos ⟨p, by omega, rfl⟩]
        apply decide_eq_decide.mpr
        constructor
        · intro h5; exact ⟨p, by omega, rfl, by rw [show p + 1 - 1 - p = 0 by omega, Nat.pow_zero, Nat.div_one]; exact h5⟩
        · rintro ⟨p2, h2, e2, d2⟩
          obtain rfl : p2 = p := ho.2.1 p2 p (by omega) (by omega) e2
          rw [show p2 + 1 - 1 - p2 = 0 by omega, Nat.pow_zero, Nat.div_one] at d2
          exact d2
      · rw [if_neg e, if_neg]
        rintro ⟨p2, h2, e2⟩
        rcases Nat.lt_or_ge p2 p with c | c
        · exact h ⟨p2, c, e2⟩
        · exact e (by rw [← e2, show p2 = p by omega])
