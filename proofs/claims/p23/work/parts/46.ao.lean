/-! ===== the answers of a way, and leaves ===== -/
theorem ao_s1 : ∀ w : Nat, w < 256 → ∀ p : Nat, p < 8 → (nI w >>> ((7 - nI p) &&& 31)) &&& 1 = nI (w / 2 ^ (7 - p) % 2) := by decide +kernel
theorem ao_s2 : ∀ a : Nat, a < 256 → ∀ q : Nat, q < 8 → ∀ b : Nat, b < 2 → nI a ||| (nI b <<< (nI q &&& 31)) = nI (a ||| (b <<< q)) ∧ a ||| (b <<< q) < 256 := by decide +kernel
theorem ao_s3 : ∀ a : Nat, a < 256 → nI a &&& 255 = nI a := by decide +kernel
def ao_N (o : Nat → Nat) (w : Nat) : Nat → Nat
  | 0 => 0
  | p + 1 => ao_N o w p ||| ((w / 2 ^ (7 - p) % 2) <<< o p)
theorem ao_L {o : Nat → Nat} (ho : b_O o) {F : Nat → Int32} (hF : ∀ p : Nat, p < 8 → F p = nI (o p)) {w : Nat} (hw : w < 256) : ∀ p : Nat, p ≤ 8 → aoL F (nI w) p = nI (ao_N o w p) ∧ ao_N o w p < 256 := by
  intro p
  induction p with
  | zero => intro _; exact ⟨rfl, by show 0 < 256; decide⟩
  | succ p ih =>
    intro hp
    obtain ⟨h1, h2⟩ := ih (by omega)
    obtain ⟨h3, h4⟩ := ao_s2 (ao_N o w p) h2 (o p) (ho.1 p (by omega)) (w / 2 ^ (7 - p) % 2) (Nat.mod_lt _ (by decide))
    rw [aoL, ao_N, h1, hF p (by omega), ao_s1 w hw p (by omega)]
    exact ⟨h3, h4⟩
theorem ao_bit {o : Nat → Nat} {w : Nat} : ∀ p q : Nat, (ao_N o w p).testBit q = decide (∃ p' : Nat, p' < p ∧ o p' = q ∧ w / 2 ^ (7 - p') % 2 = 1) := by
  intro p
  induction p with
  | zero =>
    intro q
    rw [ao_N, Nat.zero_testBit]
    exact (decide_eq_false (fun ⟨p', h, _⟩ => absurd h (Nat.not_lt_zero _))).symm
  | succ p ih =>
    intro q
    rw [ao_N, Nat.testBit_or, ih]
    have h2 : ∀ b : Nat, b < 2 → (b <<< o p).testBit q = decide (o p = q ∧ b = 1) := by
      intro b hb
      rcases (show b = 0 ∨ b = 1 by omega) with rfl | rfl
      · rw [Nat.zero_shiftLeft, Nat.zero_testBit]; simp
      · rw [Nat.one_shiftLeft, Nat.testBit_two_pow]; simp
    rw [h2 _ (Nat.mod_lt _ (by decide)), ← Bool.decide_or]
    apply decide_eq_decide.mpr
    constructor
    · rintro (⟨p', h, e, d⟩ | ⟨e, d⟩)
      · exact ⟨p', by omega, e, d⟩
      · exact ⟨p, by omega, e, d⟩
    · rintro ⟨p', h, e, d⟩
      by_cases hp : p' = p
      · subst hp; exact Or.inr ⟨e, d⟩
      · exact Or.inl ⟨p', by omega, e, d⟩
theorem ao_eq {o : Nat → Nat} (ho : b_O o) {F : Nat → Int32} (hF : ∀ p : Nat, p < 8 → F p = nI (o p)) {w : Nat} (hw : w < 256) : aoF F (nI w) = nI (b_a o 8 w 0) := by
  obtain ⟨h1, h2⟩ := ao_L ho hF hw 8 (Nat.le_refl _)
  rw [aoF, h1, ao_s3 _ h2]
  congr 1
  apply bit_ext h2 (b_a_lt ho 8 (Nat.le_refl _) w 0 (by decide))
  intro q hq
  rw [ao_bit, b_a_bit ho 8 (Nat.le_refl _), if_pos (ho.2.2 q hq)]
/-- what a fold's row of answers says -/
def y_f (Y : Nat → Int32) : Nat → Bool := fun k => decide (k < 256 ∧ Y k ≠ 0)
theorem y_fS (Y : Nat → Int32) : b_S (y_f Y) := fun k hk => decide_eq_false (fun h => by omega)
theorem y_f_at {Y : Nat → Int32} {k : Nat} (hk : k < 256) : (y_f Y k = false ↔ Y k = 0) := by
  unfold y_f
  rw [decide_eq_false_iff_not]
  constructor
  · intro h; exact Classical.byContradiction fun c => h ⟨hk, c⟩
  · intro h c; exact c.2 h
/-- all questions answered: a leaf -/
theorem b_s8 {o : Nat → Nat} (ho : b_O o) {f : Nat → Bool} (hf : b_S f) (w : Nat) : (f (b_a o 8 w 0) = false → b_s o f 8 w = b_0) ∧ (f (b_a o 8 w 0) = true → b_s o f 8 w = b_1) := by
  have h := b_const ho (b_s_S ho hf 8 (Nat.le_refl _) w) (b_s_i ho (Nat.le_refl _))
  have e : b_s o f 8 w 0 = f (b_a o 8 w 0) := b_s_a 8 w 0
  constructor
  · intro h0
    rcases h with h | h
    · exact h
    · rw [h, h0] at e; exact absurd e (by decide)
  · intro h0
    rcases h with h | h
    · rw [h, h0] at e; exact absurd e (by decide)
    · exact h
/-- both cofactors tell a function -/
theorem b_ext2 {f g : Nat → Bool} {q : Nat} (h0 : b_c f q 0 = b_c g q 0) (h1 : b_c f q 1 = b_c g q 1) : f = g := by
  funext k
  obtain ⟨b, hb, e⟩ := sB_self k q
  rcases (show b = 0 ∨ b = 1 by omega) with rfl | rfl
  · have := congrFun h0 k; show f k = g k; rw [← e]; exact this
  · have := congrFun h1 k; show f k = g k; rw [← e]; exact this
/-! ===== so many at the most ===== -/
theorem pig_list : ∀ (B : Nat) (l : List Nat), l.Nodup → (∀ x ∈ l, x < B) → l.length ≤ B := by
  intro B
  induction B with
  | zero =>
    intro l _ h
    cases l with
    | nil => exact Nat.le_refl _
    | cons x l => exact absurd (h x List.mem_cons_self) (Nat.not_lt_zero _)
  | succ B ih =>
    intro l hn h
    by_cases hB : B ∈ l
    · have h1 := ih (l.erase B) (hn.erase B) (fun x hx => by
        have h2 := (hn.mem_erase_iff).mp hx
        have := h x h2.2
        have := h2.1
        omega)
      rw [List.length_erase_of_mem hB] at h1
      omega
    · exact Nat.le_succ_of_le (ih l hn (fun x hx => by
        have h1 := h x hx
        have h2 : x ≠ B := fun e => hB (e ▸ hx)
        omega))
theorem pig {a b : Nat} (φ : Nat → Nat) (h : ∀ i : Nat, i < a → φ i < b) (hinj : ∀ i j : Nat, i < a → j < a → φ i = φ j → i = j) : a ≤ b := by
  have h1 : ((List.range a).map φ).Nodup := by
    rw [List.nodup_iff_pairwise_ne] at *
    rw [List.pairwise_map]
    have h2 : (List.range a).Pairwise (· < ·) := List.pairwise_lt_range
    refine List.Pairwise.imp_of_mem ?_ h2
    intro i j hi hj hlt e
    have := hinj i j (List.mem_range.mp hi) (List.mem_range.mp hj) e
    omega
  have h3 := pig_list b _ h1 (fun x hx => by
    obtain ⟨i, hi, rfl⟩ := List.mem_map.mp hx
    exact h i (List.mem_range.mp hi))
  rw [List.length_map, List.length_range] at h3
  exact h3
theorem nodup_le {α : Type} : ∀ (l l' : List α), l.Nodup → (∀ x ∈ l, x ∈ l') → l.length ≤ l'.length := by
  intro l
  induction l with
  | nil => intro l' _ _; exact Nat.zero_le _
  | cons x l ih =>
    intro l' hn h
    obtain ⟨a, b, rfl⟩ := List.append_of_mem (h x List.mem_cons_self)
    have hn2 := List.nodup_cons.mp hn
    have h1 := ih (a ++ b) hn2.2 (fun y hy => by
      have h2 := h y (List.mem_cons_of_mem _ hy)
      have h3 : y ≠ x := fun e => hn2.1 (e ▸ hy)
      rcases List.mem_append.mp h2 with h4 | h4
      · exact List.mem_append_left _ h4
      · rcases List.mem_cons.mp h4 with h5 | h5
        · exact absurd h5 h3
        · exact List.mem_append_right _ h5)
    rw [List.length_append] at h1
    rw [List.length_append, List.length_cons, List.length_cons]
    omega
theorem nodup_eq {α : Type} {l l' : List α} (h1 : l.Nodup) (h2 : l'.Nodup) (h : ∀ x, x ∈ l ↔ x ∈ l') : l.length = l'.length := Nat.le_antisymm (nodup_le l l' h1 (fun x hx => (h x).mp hx)) (nodup_le l' l h2 (fun x hx => (h x).mpr hx))
/-- the slots that are looked at are all of them -/
theorem nI_bv {t : Nat} (ht : t < 2 ^ 32) : (nI t).toBitVec.toNat = t := by
  show (BitVec.ofNat 32 t).toNat = t
  rw [BitVec.toNat_ofNat]
  exact Nat.mod_eq_of_lt ht
theorem ptS_eq (st : Int32) {t : Nat} (ht : t < 1024) : ptS st t = (st.toBitVec.toNat + t) % 1024 := by
  have h1 := pk_and (st + nI t) (m := 1023) 10 (by decide)
  rw [ptS, h1, nI_clamp (by omega)]
  have h2 : (st + nI t).toBitVec.toNat = (st.toBitVec.toNat + t) % 2 ^ 32 := by
    show (st.toBitVec + (nI t).toBitVec).toNat = _
    rw [BitVec.toNat_add, nI_bv (by omega)]
  rw [h2]
  omega
theorem ptS_lt (st : Int32) {t : Nat} (ht : t < 1024) : ptS st t < 1024 := by rw [ptS_eq st ht]; exact Nat.mod_lt _ (by decide)
theorem ptS_inj (st : Int32) {t t' : Nat} (ht : t < 1024) (ht' : t' < 1024) (h : ptS st t = ptS st t') : t = t' := by
  rw [ptS_eq st ht, ptS_eq st ht'] at h
  omega
