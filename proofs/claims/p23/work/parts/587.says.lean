/-! ===== what new folds say ===== -/
theorem isF_01 (a q : Int32) : isF a q = 0 ∨ isF a q = 1 := b2_01 _
theorem ask_bit : ∀ k : Nat, k < 256 → ∀ q : Nat, q < 8 → ((nI k >>> (nI q &&& 31)) - (nI k >>> (nI q &&& 31)) / 2 * 2 = 1 ↔ ¬ isF (nI k) (nI q) = 0) := by decide +kernel
theorem y_ff {T : Nat → Int32} {k : Nat} (h : T k = 0) : y_f T k = false := decide_eq_false (fun h9 => h9.2 h)
theorem y_ft {T : Nat → Int32} {k : Nat} (hk : k < 256) (h : ¬ T k = 0) : y_f T k = true := decide_eq_true ⟨hk, h⟩
theorem y_f0 : y_f (fun _ => 0) = b_0 := by funext k; exact y_ff rfl
theorem ys_b2 {M : Nat → Nat → Int32} (h : ysOk M) {k j : Nat} (hk : k < 12) (hj : j < 256) : b2 (a_Y M k j = true) = M (25 + 6 * k + 1) j := by
  have e : a_Y M k j = decide (j < 256 ∧ M (25 + 6 * k + 1) j ≠ 0) := rfl
  rcases h k hk j hj with h0 | h0
  · rw [e, h0, decide_eq_false (fun h9 => h9.2 rfl)]; rfl
  · rw [e, h0, decide_eq_true ⟨hj, by decide⟩]; rfl
theorem sj_Y {M : Nat → Nat → Int32} (h : ysOk M) {ka kb wh : Nat} (hka : ka < 12) (hkb : kb < 12) : y_f (sjT M ka kb wh) = b_j (a_Y M ka) (a_Y M kb) wh := by
  funext k
  unfold b_j
  by_cases hk : k < 256
  · rw [ys_b2 h hka hk, ys_b2 h hkb hk]
    by_cases c : jnF (M (25 + 6 * ka + 1) k) (M (25 + 6 * kb + 1) k) wh = 0
    · rw [y_ff (show sjT M ka kb wh k = 0 from c), c]; simp
    · rw [y_ft hk (show ¬ sjT M ka kb wh k = 0 from c), decide_eq_true hk, decide_eq_true c]; rfl
  · rw [y_fS _ k (by omega), decide_eq_false hk]; rfl
theorem sj_T {M : Nat → Nat → Int32} {ka kb wh : Nat} : ∀ j : Nat, j < 256 → sjT M ka kb wh j = 0 ∨ sjT M ka kb wh j = 1 := fun _ _ => jnF_01 _ _ _
theorem ch_0 {M : Nat → Nat → Int32} {ka kb kc i : Nat} (hi : i < 256) (h : a_Y M ka i = false) : y_f (chT M ka kb kc) i = a_Y M kc i := by
  have h0 : M (25 + 6 * ka + 1) i = 0 := (y_f_at hi).mp h
  show decide (i < 256 ∧ chT M ka kb kc i ≠ 0) = decide (i < 256 ∧ M (25 + 6 * kc + 1) i ≠ 0)
  unfold chT
  rw [if_pos h0]
theorem ch_1 {M : Nat → Nat → Int32} {ka kb kc i : Nat} (hi : i < 256) (h : a_Y M ka i = true) : y_f (chT M ka kb kc) i = a_Y M kb i := by
  have h0 : ¬ M (25 + 6 * ka + 1) i = 0 := fun e => by rw [show a_Y M ka i = false from (y_f_at hi).mpr e] at h; cases h
  show decide (i < 256 ∧ chT M ka kb kc i ≠ 0) = decide (i < 256 ∧ M (25 + 6 * kb + 1) i ≠ 0)
  unfold chT
  rw [if_neg h0]
theorem ch_T {M : Nat → Nat → Int32} (h : ysOk M) {ka kb kc : Nat} (hkb : kb < 12) (hkc : kc < 12) : ∀ j : Nat, j < 256 → chT M ka kb kc j = 0 ∨ chT M ka kb kc j = 1 := by
  intro j hj
  unfold chT
  split
  · exact h kc hkc j hj
  · exact h kb hkb j hj
theorem waF_sB : ∀ j : Nat, j < 256 → ∀ q : Nat, q < 8 → ∀ b : Nat, b < 2 → waF (nI j) (nI q) (nI b) = nI (sB j q b) := by decide +kernel
theorem waF_s0 : ∀ j : Nat, j < 256 → ∀ q : Nat, q < 8 → waF (nI j) (nI q) 0 = nI (sB j q 0) := by decide +kernel
theorem waF_s1 : ∀ j : Nat, j < 256 → ∀ q : Nat, q < 8 → waF (nI j) (nI q) 1 = nI (sB j q 1) := by decide +kernel
theorem gv_at {M : Nat → Nat → Int32} {k q b j : Nat} (hj : j < 256) (hq : q < 8) (hb : b < 2) : gvT M k (nI q) (nI b) j = M (25 + 6 * k + 1) (sB j q b) := by
  unfold gvT
  rw [waF_sB j hj q hq b hb, nI_clamp (by have := sB_lt j hj q hq b hb; omega)]
theorem gv_Y {M : Nat → Nat → Int32} {k q b : Nat} (hq : q < 8) (hb : b < 2) : y_f (gvT M k (nI q) (nI b)) = b_c (a_Y M k) q b := by
  funext j
  by_cases hj : j < 256
  · show decide (j < 256 ∧ gvT M k (nI q) (nI b) j ≠ 0) = decide (sB j q b < 256 ∧ M (25 + 6 * k + 1) (sB j q b) ≠ 0)
    rw [gv_at hj hq hb]
    have := sB_lt j hj q hq b hb
    exact decide_eq_decide.mpr ⟨fun h => ⟨this, h.2⟩, fun h => ⟨hj, h.2⟩⟩
  · rw [y_fS _ j (by omega)]
    exact ((y_fS (M (25 + 6 * k + 1))).c hq hb j (by omega)).symm
theorem gv_T {M : Nat → Nat → Int32} (h : ysOk M) {k q b : Nat} (hk : k < 12) (hq : q < 8) (hb : b < 2) : ∀ j : Nat, j < 256 → gvT M k (nI q) (nI b) j = 0 ∨ gvT M k (nI q) (nI b) j = 1 := by
  intro j hj
  rw [gv_at hj hq hb]
  exact h k hk _ (sB_lt j hj q hq b hb)
theorem wo_Y {M : Nat → Nat → Int32} (h : ysOk M) {k q : Nat} (hk : k < 12) (hq : q < 8) {y : Int32} {wh : Nat} (hy : (y = 1 ∧ wh = 0) ∨ (y = 0 ∧ wh = 1)) : y_f (woT M k (nI q) y) = b_j (b_c (a_Y M k) q 0) (b_c (a_Y M k) q 1) wh := by
  funext j
  unfold b_j
  by_cases hj : j < 256
  · have l0 := sB_lt j hj q hq 0 (by decide)
    have l1 := sB_lt j hj q hq 1 (by decide)
    have e0 : b2 (b_c (a_Y M k) q 0 j = true) = M (25 + 6 * k + 1) (sB j q 0) := ys_b2 h hk l0
    have e1 : b2 (b_c (a_Y M k) q 1 j = true) = M (25 + 6 * k + 1) (sB j q 1) := ys_b2 h hk l1
    rw [e0, e1]
    have ew : woT M k (nI q) y j = jnF (M (25 + 6 * k + 1) (sB j q 0)) (M (25 + 6 * k + 1) (sB j q 1)) wh := by
      unfold woT
      rw [waF_s0 j hj q hq, waF_s1 j hj q hq, nI_clamp (by omega), nI_clamp (by omega)]
      rcases hy with ⟨rfl, rfl⟩ | ⟨rfl, rfl⟩
      · rw [if_neg (by decide)]; rfl
      · rw [if_pos rfl]; rfl
    by_cases c : jnF (M (25 + 6 * k + 1) (sB j q 0)) (M (25 + 6 * k + 1) (sB j q 1)) wh = 0
    · rw [y_ff (ew.trans c), c]; simp
    · rw [y_ft hj (by rw [ew]; exact c), decide_eq_true hj, decide_eq_true c]; rfl
  · rw [y_fS _ j (by omega), decide_eq_false hj]; rfl
theorem wo_T {M : Nat → Nat → Int32} {k : Nat} {q y : Int32} : ∀ j : Nat, j < 256 → woT M k q y j = 0 ∨ woT M k q y j = 1 := by
  intro j _
  unfold woT
  split <;> exact b2_01 _
theorem is_T {q : Int32} : ∀ j : Nat, j < 256 → (fun j => isF (nI j) q) j = 0 ∨ (fun j => isF (nI j) q) j = 1 := fun j _ => isF_01 _ _
