/-! ===== all folds laid ===== -/
/-- which folds there are, and what they say -/
def a_k (M : Nat → Nat → Int32) (f : Nat) : Prop := ¬ M (25 + 6 * f) 0 = 0
def a_Y (M : Nat → Nat → Int32) (f : Nat) : Nat → Bool := y_f (M (25 + 6 * f + 1))
/-- how many of the first N folds have a fork -/
noncomputable def o_N (o : Nat → Nat) (kp : Nat → Prop) (Y : Nat → Nat → Bool) (g : Nat → Bool) : Nat → Nat
  | 0 => 0
  | f + 1 => o_N o kp Y g f + cIf (kp f ∧ g ∈ r_R o (Y f)) 1 0
theorem o_N_le {o : Nat → Nat} {kp : Nat → Prop} {Y : Nat → Nat → Bool} {g : Nat → Bool} : ∀ f : Nat, o_N o kp Y g f ≤ f := by
  intro f
  induction f with
  | zero => exact Nat.le_refl _
  | succ f ih =>
    rw [o_N]
    by_cases c : kp f ∧ g ∈ r_R o (Y f)
    · rw [cIf_pos c]; omega
    · rw [cIf_neg c]; omega
theorem o_N_0 {o : Nat → Nat} {kp : Nat → Prop} {Y : Nat → Nat → Bool} {g : Nat → Bool} : ∀ f : Nat, (∀ e : Nat, e < f → kp e → g ∉ r_R o (Y e)) → o_N o kp Y g f = 0 := by
  intro f
  induction f with
  | zero => intro _; rfl
  | succ f ih => intro h; rw [o_N, ih (fun e he => h e (by omega)), cIf_neg (fun c => h f (by omega) c.1 c.2)]
/-- the first f folds are laid: n forks, as in the table -/
def a_L (M : Nat → Nat → Int32) (o : Nat → Nat) (kp : Nat → Prop) (Y : Nat → Nat → Bool) (f n : Nat) (tb : Nat → Nat → Bool) (pl : Nat → Nat) : Prop := t_M M 3 o n tb pl ∧ (∀ k : Nat, k < n → w_W o Y 12 (tb k) (pl k)) ∧ (∀ k : Nat, k < n → ∃ e : Nat, e < f ∧ kp e ∧ tb k ∈ r_R o (Y e)) ∧ (∀ e : Nat, e < f → kp e → w_R M (25 + 6 * e) o n tb (Y e) ∧ ∀ g ∈ r_R o (Y e), ∃ k : Nat, k < n ∧ tb k = g) ∧ ∀ k : Nat, k < n → M 7 k = nI (o_N o kp Y (tb k) f)
theorem w_R.ext {M M' : Nat → Nat → Int32} {b n n' : Nat} {o : Nat → Nat} {tb tb' : Nat → Nat → Bool} {f : Nat → Bool} (h : w_R M b o n tb f) (hn : n ≤ n') (ht : ∀ k : Nat, k < n → tb' k = tb k) (h0 : M' b 2 = M b 2) (h2 : M' (b + 2) = M (b + 2)) (h3 : M' (b + 3) = M (b + 3)) (h4 : M' (b + 4) = M (b + 4)) (h5 : M' (b + 5) = M (b + 5)) : w_R M' b o n' tb' f := by
  refine ⟨by rw [h0]; exact h.1, fun i g hi => ?_⟩
  obtain ⟨⟨k, hk, e1, e2⟩, g3, g4, g5⟩ := h.2 i g hi
  rw [h2, h3, h4, h5]
  exact ⟨⟨k, by omega, e1, (ht k hk).trans e2⟩, g3, g4, g5⟩
theorem laL_row {M : Nat → Nat → Int32} {i : Nat} (h : (i < 3 ∨ 12 < i) ∧ (i < 25 ∨ (i - 25) % 6 = 1) ∨ i = 9 ∨ i = 10) : ∀ f : Nat, laL M f i = M i := by
  intro f
  induction f with
  | zero => rfl
  | succ f ih =>
    rw [laL]
    split
    · exact ih
    · rw [prF_row (by omega) (by omega) (by omega), lyF_row (by omega) (by omega)]; exact ih
/-- what isn't yet laid stays -/
theorem laL_hi {M : Nat → Nat → Int32} {e : Nat} : ∀ f : Nat, f ≤ e → ∀ j : Nat, j ≤ 5 → laL M f (25 + 6 * e + j) = M (25 + 6 * e + j) := by
  intro f
  induction f with
  | zero => intro _ j _; rfl
  | succ f ih =>
    intro hf j hj
    rw [laL]
    split
    · exact ih (by omega) j hj
    · rw [prF_row (by omega) (by omega) (by omega), lyF_row (by omega) (by omega)]; exact ih (by omega) j hj
theorem prL_b0 {M : Nat → Nat → Int32} {g b : Nat} (hgb : g + 9 < b) (i : Nat) : prL M g b i b = M b := prL_row (by omega) (by omega) (by omega) i
theorem wkF_b0 {g b : Nat} (hgb : g + 9 < b) : ∀ (d : Nat) (M : Nat → Nat → Int32) (part : Int32), wkF g b d M part b 0 = M b 0 := by
  intro d
  induction d with
  | zero => intro M part; rfl
  | succ d ih =>
    intro M part
    rw [wkF]
    split
    · rfl
    · split
      · rfl
      · split
        · split
          · rfl
          · rw [ih, ih, mst_ne (by omega)]; unfold plM; rw [mst_ne (by omega), mst_ne (by omega), mst_same, pk_un (by decide)]
        · split
          · rfl
          · rw [ih, ih, mst_ne (by omega)]
/-- whether a fold is kept doesn't change -/
theorem prF_b0 {M : Nat → Nat → Int32} {g b : Nat} (hgb : g + 9 < b) (part : Int32) : prF M g b part b 0 = M b 0 := by
  rw [prF, prL_b0 hgb, pr3, wkF_b0 hgb, pr2, mrow_ne (by omega), pr1, mst_same, pk_un (by decide)]
theorem laL_b0 {M : Nat → Nat → Int32} {e : Nat} : ∀ f : Nat, laL M f (25 + 6 * e) 0 = M (25 + 6 * e) 0 := by
  intro f
  induction f with
  | zero => rfl
  | succ f ih =>
    rw [laL]
    split
    · exact ih
    · by_cases c : f = e
      · subst c
        rw [prF_b0 (by omega), lyF_row (by omega) (by omega)]; exact ih
      · rw [prF_row (by omega) (by omega) (by omega), lyF_row (by omega) (by omega)]; exact ih
theorem a_lay {M0 : Nat → Nat → Int32} {o : Nat → Nat} (ho : b_O o) (hM0 : ∃ (tb : Nat → Nat → Bool) (pl : Nat → Nat), t_M M0 3 o 0 tb pl) (hord : ∀ p : Nat, p < 8 → M0 9 p = nI (o p)) (haw : ∀ w : Nat, w < 256 → M0 10 w = nI (b_a o 8 w 0)) : ∀ f : Nat, f ≤ 12 → ∃ (n : Nat) (tb : Nat → Nat → Bool) (pl : Nat → Nat), a_L (laL M0 f) o (a_k M0) (a_Y M0) f n tb pl := by
  intro f
  induction f with
  | zero =>
    intro _
    obtain ⟨tb, pl, h⟩ := hM0
    exact ⟨0, tb, pl, h, fun k hk => absurd hk (Nat.not_lt_zero _), fun k hk => absurd hk (Nat.not_lt_zero _), fun e he => absurd he (Nat.not_lt_zero _), fun k hk => absurd hk (Nat.not_lt_zero _)⟩
  | succ f ih =>
    intro hf
    obtain ⟨n, tb, pl, hM, hW, hmem, hrow, hown⟩ := ih (by omega)
    by_cases hk0 : laL M0 f (25 + 6 * f) 0 = 0
    · have e : laL M0 (f + 1) = laL M0 f := by rw [laL, if_pos hk0]
      rw [e]
      have hnk : ¬ a_k M0 f := fun h => h (by rw [← laL_b0 (M := M0) (e := f) f]; exact hk0)
      refine ⟨n, tb, pl, hM, hW, fun k hk => ?_, fun e he hke => ?_, fun k hk => ?_⟩
      · obtain ⟨e, he, h2⟩ := hmem k hk
        exact ⟨e, by omega, h2⟩
      · have : e ≠ f := fun c => hnk (c ▸ hke)
        exact hrow e (by omega) hke
      · rw [o_N, cIf_neg (fun c => hnk c.1), Nat.add_zero]; exact hown k hk
    · have e : laL M0 (f + 1) = prF (lyF (laL M0 f) 3 (25 + 6 * f + 1)) 3 (25 + 6 * f) (lyF (laL M0 f) 3 (25 + 6 * f + 1) (3 + 8) 0) := by rw [laL, if_neg hk0]
      have hk : a_k M0 f := fun h => hk0 (by rw [laL_b0 f]; exact h)
      have hYf : laL M0 f (25 + 6 * f + 1) = M0 (25 + 6 * f + 1) := laL_row (by omega) f
      have hYS : b_S (a_Y M0 f) := y_fS _
      have hly := tt_lay (M := laL M0 f) (g := 3) (yi := 25 + 6 * f + 1) ho (Wt := w_W o (a_Y M0) 12) (fun n tb pl h => cap12 ho h) (fun p u _ hu _ => ⟨f, by omega, u, hu, by rw [hYf]; rfl⟩) hM hW (fun p hp => by rw [laL_row (by omega) f]; exact hord p hp) (fun w hw => by rw [laL_row (by omega) f]; exact haw w hw)
      rw [show y_f (laL M0 f (25 + 6 * f + 1)) = a_Y M0 f by rw [hYf]; rfl] at hly
      obtain ⟨n1, tb1, pl1, hG, hroot, hall⟩ := hly
      obtain ⟨hM2, hR, hO⟩ := w_put (b := 25 + 6 * f) (by omega) ho hG.1 hYS hroot
      have hW1 := hG.W hW (Wt := w_W o (a_Y M0) 12) (fun p u _ hu _ => ⟨f, by omega, u, hu, rfl⟩)
      have hall2 : ∀ g ∈ r_R o (a_Y M0 f), ∃ k : Nat, k < n1 ∧ tb1 k = g := by
        intro g hg
        obtain ⟨p, u, hA, hu, e2⟩ := r_R_w ho hYS g hg
        obtain ⟨x, hx⟩ := hall p u (by have := hA.1; omega) hu
        rw [← e2] at hx
        rcases hx.leaf with h | h | h
        · exact absurd h hA.n0
        · exact absurd h (hA.n1 ho)
        · exact h
      rw [e]
      refine ⟨n1, tb1, pl1, hM2, hW1, fun k hk' => ?_, fun e' he' hke => ?_, fun k hk' => ?_⟩
      · rcases Nat.lt_or_ge k n with c | c
        · obtain ⟨e', he', h2, h3⟩ := hmem k c
          exact ⟨e', by omega, h2, by rw [(hG.2.1.2 k c).1]; exact h3⟩
        · obtain ⟨-, u, hu, e2⟩ := hG.2.2.2 k c hk'
          have hA := (hG.1.2.2.1.1 k hk').2
          refine ⟨f, by omega, hk, ?_⟩
          rcases r_R_all ho hYS (pl1 k) (by have := hA.1; omega) u with h | h
          · rw [← e2] at h; exact absurd h (hA.nl ho)
          · rw [e2]; exact h
      · by_cases c : e' = f
        · subst c; exact ⟨hR, hall2⟩
        · obtain ⟨h1, h2⟩ := hrow e' (by omega) hke
          refine ⟨h1.ext hG.2.1.1 (fun k hk => (hG.2.1.2 k hk).1) ?_ ?_ ?_ ?_ ?_, fun g hg => ?_⟩
          · rw [prF_row (by omega) (by omega) (by omega), lyF_row (by omega) (by omega)]
          · rw [prF_row (by omega) (by omega) (by omega), lyF_row (by omega) (by omega)]
          · rw [prF_row (by omega) (by omega) (by omega), lyF_row (by omega) (by omega)]
          · rw [prF_row (by omega) (by omega) (by omega), lyF_row (by omega) (by omega)]
          · rw [prF_row (by omega) (by omega) (by omega), lyF_row (by omega) (by omega)]
          · obtain ⟨k, hk, e3⟩ := h2 g hg
            have := hG.2.1.1
            exact ⟨k, by omega, (hG.2.1.2 k hk).1.trans e3⟩
      · have h3 := hO k hk'
        rw [show (3 : Nat) + 4 = 7 from rfl] at h3
        rw [h3, o_N]
        have h4 : lyF (laL M0 f) 3 (25 + 6 * f + 1) 7 k = nI (o_N o (a_k M0) (a_Y M0) (tb1 k) f) := by
          rcases Nat.lt_or_ge k n with c | c
          · have h5 := hG.2.2.1 k c
            rw [show (3 : Nat) + 4 = 7 from rfl] at h5
            rw [h5, hown k c, (hG.2.1.2 k c).1]
          · have h5 := (hG.2.2.2 k c hk').1
            rw [show (3 : Nat) + 4 = 7 from rfl] at h5
            rw [h5, o_N_0 f (fun e' he' hke hm => by
              obtain ⟨j, hj, e3⟩ := (hrow e' he' hke).2 _ hm
              have e4 : tb1 j = tb1 k := (hG.2.1.2 j hj).1.trans e3
              have := hG.2.1.1
              have := hG.1.2.2.1.2 j k (by omega) hk' e4
              omega)]
            rfl
        rw [h4]
        by_cases c : tb1 k ∈ r_R o (a_Y M0 f)
        · rw [cIf_pos c, cIf_pos ⟨hk, c⟩]; exact nI_1 _
        · rw [cIf_neg c, cIf_neg (fun h => c h.2)]; exact Int32.add_zero _
/-- everything is laid, as the folds and the order say -/
def a_S (M : Nat → Nat → Int32) (o : Nat → Nat) (n : Nat) (tb : Nat → Nat → Bool) (pl : Nat → Nat) : Prop := b_O o ∧ (∀ p : Nat, p < 8 → M 2 p = nI (o p)) ∧ a_L M o (a_k M) (a_Y M) 12 n tb pl
theorem so_tab {M : Nat → Nat → Int32} {g qi : Nat} {o : Nat → Nat} : t_M (soF M g qi) g o 0 (fun _ => b_0) (fun _ => 0) := by
  obtain ⟨-, h0, -, -⟩ := soF_fk2 M g qi
  refine ⟨by decide, h0, ⟨fun k hk => absurd hk (Nat.not_lt_zero _), fun i j hi => absurd hi (Nat.not_lt_zero _)⟩, fun k hk => absurd hk (Nat.not_lt_zero _), fun j hj => Or.inl ?_, fun j j' hj hj' h1 _ => absurd ?_ h1, fun k hk => absurd hk (Nat.not_lt_zero _)⟩
  · rw [soF, soL, mrow_ne (by omega), so3, mrow_ne (by omega), so2, mrow_same, flF, if_pos hj]; decide
  · rw [soF, soL, mrow_ne (by omega), so3, mrow_ne (by omega), so2, mrow_same, flF, if_pos hj]; decide
theorem so_ord {M : Nat → Nat → Int32} {g qi p : Nat} (hp : p < 8) (hqi : qi < g ∨ g + 6 < qi) : soF M g qi (g + 6) p = M qi p := by
  rw [soF, soL, mrow_ne (by omega), so3, mrow_same]
  unfold va_cpy
  rw [if_pos (by omega), so2, mrow_ne (by omega), so1, mst_ne (by omega)]
  congr 1
  omega
theorem so_aw {M : Nat → Nat → Int32} {g qi : Nat} {o : Nat → Nat} (ho : b_O o) (hqi : qi < g ∨ g + 6 < qi) (hord : ∀ p : Nat, p < 8 → M qi p = nI (o p)) {w : Nat} (hw : w < 256) : soF M g qi (g + 7) w = nI (b_a o 8 w 0) := by
  rw [soF, soL, mrow_same, aoR, if_pos hw]
  refine ao_eq ho (fun p hp => ?_) hw
  have h := so_ord (M := M) (g := g) hp hqi
  rw [soF, soL, mrow_ne (by omega)] at h
  rw [h]; exact hord p hp
theorem a_all {M : Nat → Nat → Int32} {o : Nat → Nat} (ho : b_O o) (hord : ∀ p : Nat, p < 8 → M 2 p = nI (o p)) : ∃ (n : Nat) (tb : Nat → Nat → Bool) (pl : Nat → Nat), a_S (laF M) o n tb pl := by
  obtain ⟨n, tb, pl, h⟩ := a_lay (M0 := soF M 3 2) ho ⟨_, _, so_tab⟩ (fun p hp => by rw [show (9 : Nat) = 3 + 6 from rfl, so_ord hp (by omega)]; exact hord p hp) (fun w hw => so_aw ho (by omega) hord hw) 12 (Nat.le_refl _)
  have ek : a_k (laF M) = a_k (soF M 3 2) := by
    funext f
    unfold a_k laF
    rw [laL_b0]
  have eY : a_Y (laF M) = a_Y (soF M 3 2) := by
    funext f
    unfold a_Y laF
    rw [laL_row (by omega)]
  refine ⟨n, tb, pl, ho, fun p hp => ?_, ?_⟩
  · rw [laF, laL_row (by omega), soF_row (by omega) (by omega) (by omega) (by omega)]; exact hord p hp
  · rw [ek, eY]; exact h
/-- what laying leaves as it was -/
theorem la_k {M : Nat → Nat → Int32} {f : Nat} : a_k (laF M) f ↔ a_k M f := by
  unfold a_k laF
  rw [laL_b0, soF_row (by omega) (by omega) (by omega) (by omega)]
theorem la_yes {M : Nat → Nat → Int32} {f : Nat} : laF M (25 + 6 * f + 1) = M (25 + 6 * f + 1) := by
  rw [laF, laL_row (by omega), soF_row (by omega) (by omega) (by omega) (by omega)]
theorem la_Y {M : Nat → Nat → Int32} {f : Nat} : a_Y (laF M) f = a_Y M f := by unfold a_Y; rw [la_yes]
theorem la_2 {M : Nat → Nat → Int32} : laF M 2 = M 2 := by rw [laF, laL_row (by omega), soF_row (by omega) (by omega) (by omega) (by omega)]
