/-! ===== what calls make of the folds ===== -/
theorem a_S.n {M : Nat → Nat → Int32} {o : Nat → Nat} {n : Nat} {tb : Nat → Nat → Bool} {pl : Nat → Nat} (h : a_S M o n tb pl) : n = (u_L o (a_k M) (a_Y M) 12).length := u_n h.2.2.1.2.2.1 h.2.2.E
theorem a_S.rws {M : Nat → Nat → Int32} {o : Nat → Nat} {n : Nat} {tb : Nat → Nat → Bool} {pl : Nat → Nat} (h : a_S M o n tb pl) : rwsOk M n := by
  refine ⟨h.2.2.1.1, h.2.2.1.2.1, fun f hf hk => ?_⟩
  obtain ⟨hR, -⟩ := h.2.2.2.2.2.1 f hf hk
  have h77 := r_R_77 h.1 (f := a_Y M f) (y_fS _)
  refine ⟨(r_R o (a_Y M f)).length, h77, hR.1, fun i hi => ?_⟩
  obtain ⟨k, hk, e, -⟩ := (hR.2 i _ (List.getElem?_eq_getElem hi)).1
  exact ⟨k, hk, e⟩
/-- what is tried changes nothing that is told -/
theorem a_S.same {M M' : Nat → Nat → Int32} {o : Nat → Nat} {n : Nat} {tb : Nat → Nat → Bool} {pl : Nat → Nat} (h : a_S M o n tb pl) (hs : ∀ i : Nat, i < 13 ∨ 24 < i → M' i = M i) : a_S M' o n tb pl := by
  obtain ⟨ho, hord, hM, hW, hmem, hrow, hown⟩ := h
  have ek : a_k M' = a_k M := by funext f; unfold a_k; rw [hs _ (by omega)]
  have eY : a_Y M' = a_Y M := by funext f; unfold a_Y; rw [hs _ (by omega)]
  refine ⟨ho, fun p hp => by rw [hs 2 (by omega)]; exact hord p hp, ?_⟩
  rw [ek, eY]
  refine ⟨hM.row (hs _ (by omega)) (hs _ (by omega)) (hs _ (by omega)) (hs _ (by omega)) (hs _ (by omega)), hW, hmem, fun e he hk => ?_, fun k hk => by rw [hs 7 (by omega)]; exact hown k hk⟩
  obtain ⟨h1, h2⟩ := hrow e he hk
  exact ⟨h1.ext (Nat.le_refl _) (fun _ _ => rfl) (by rw [hs _ (by omega)]) (hs _ (by omega)) (hs _ (by omega)) (hs _ (by omega)) (hs _ (by omega)), h2⟩
/-- two neighbours of the order exchanged -/
def o_x (o : Nat → Nat) (p0 : Nat) : Nat → Nat := fun p => if p = p0 + 1 then o p0 else if p = p0 then o (p0 + 1) else o p
theorem o_x_O {o : Nat → Nat} {p0 : Nat} (hp : p0 < 7) (ho : b_O o) : b_O (o_x o p0) := by
  have e1 : o_x o p0 (p0 + 1) = o p0 := if_pos rfl
  have e2 : o_x o p0 p0 = o (p0 + 1) := by unfold o_x; rw [if_neg (by omega), if_pos rfl]
  have e3 : ∀ p : Nat, p ≠ p0 → p ≠ p0 + 1 → o_x o p0 p = o p := fun p h1 h2 => by unfold o_x; rw [if_neg h2, if_neg h1]
  have key : ∀ p : Nat, p < 8 → ∃ p1 : Nat, p1 < 8 ∧ o_x o p0 p = o p1 ∧ (p = p0 → p1 = p0 + 1) ∧ (p = p0 + 1 → p1 = p0) ∧ (p ≠ p0 → p ≠ p0 + 1 → p1 = p) := by
    intro p h
    by_cases c : p = p0
    · subst c; exact ⟨p + 1, by omega, e2, fun _ => rfl, fun h => by omega, fun h => absurd rfl h⟩
    · by_cases c2 : p = p0 + 1
      · subst c2; exact ⟨p0, by omega, e1, fun h => by omega, fun _ => rfl, fun _ h => absurd rfl h⟩
      · exact ⟨p, h, e3 p c c2, fun h => absurd h c, fun h => absurd h c2, fun _ _ => rfl⟩
  refine ⟨fun p h => ?_, fun p p' h h' e => ?_, fun q hq => ?_⟩
  · obtain ⟨p1, h1, e, -⟩ := key p h
    rw [e]; exact ho.1 p1 h1
  · obtain ⟨p1, h1, d1, a1, b1, c1⟩ := key p h
    obtain ⟨p2, h2, d2, a2, b2, c2⟩ := key p' h'
    have h3 := ho.2.1 p1 p2 h1 h2 (d1.symm.trans (e.trans d2))
    by_cases x : p = p0 <;> by_cases y : p = p0 + 1 <;> by_cases z : p' = p0 <;> by_cases w : p' = p0 + 1 <;> first | omega | (have := c1 x y; have := c2 z w; omega) | (have := a1 x; have := c2 z w; omega) | (have := b1 y; have := c2 z w; omega) | (have := c1 x y; have := a2 z; omega) | (have := c1 x y; have := b2 w; omega) | (have := a1 x; have := b2 w; omega) | (have := b1 y; have := a2 z; omega)
  · obtain ⟨p, h, e⟩ := ho.2.2 q hq
    by_cases c : p = p0
    · exact ⟨p0 + 1, by omega, by rw [e1, ← c, e]⟩
    · by_cases c2 : p = p0 + 1
      · exact ⟨p0, by omega, by rw [e2, ← c2, e]⟩
      · exact ⟨p, h, by rw [e3 p c c2, e]⟩
theorem o_xx {o : Nat → Nat} {p0 : Nat} : o_x (o_x o p0) p0 = o := by
  funext p
  unfold o_x
  by_cases c : p = p0 + 1
  · subst c; rw [if_pos rfl, if_neg (by omega), if_pos rfl]
  · rw [if_neg c]
    by_cases c2 : p = p0
    · subst c2; rw [if_pos rfl, if_pos rfl]
    · rw [if_neg c2, if_neg c, if_neg c2]
theorem ex_at {M : Nat → Nat → Int32} {i p0 p : Nat} {o : Nat → Nat} (hp0 : p0 < 7) (hp : p < 8) (hord : ∀ p : Nat, p < 8 → M i p = nI (o p)) : exF M i p0 i p = nI (o_x o p0 p) := by
  unfold exF o_x
  rw [mst_same, upd_at]
  by_cases c : p = p0 + 1
  · rw [if_pos c, if_pos c]; exact hord p0 (by omega)
  · rw [if_neg c, if_neg c, mst_same, upd_at]
    by_cases c2 : p = p0
    · rw [if_pos c2, if_pos c2]; exact hord (p0 + 1) (by omega)
    · rw [if_neg c2, if_neg c2]; exact hord p hp
/-- a new fold -/
theorem nw_k {M : Nat → Nat → Int32} {f e : Nat} {T : Nat → Int32} : a_k (nwF M f T) e ↔ (e = f ∨ a_k M e) := by
  unfold nwF
  rw [la_k]
  unfold a_k
  by_cases c : e = f
  · subst c
    rw [mst_same, pk_us]
    exact ⟨fun _ => Or.inl rfl, fun _ => by decide⟩
  · rw [mst_ne (by omega), flC_row (by omega)]
    exact ⟨fun h => Or.inr h, fun h => h.resolve_left c⟩
theorem nw_yes {M : Nat → Nat → Int32} {f e j : Nat} {T : Nat → Int32} (hj : j < 256) : nwF M f T (25 + 6 * e + 1) j = if e = f then T j else M (25 + 6 * e + 1) j := by
  unfold nwF
  rw [la_yes, mst_ne (by omega)]
  by_cases c : e = f
  · subst c
    rw [if_pos rfl, flC, mrow_same, flG, if_pos hj]
  · rw [if_neg c, flC_row (by omega)]
theorem y_f_ext {X Y : Nat → Int32} (h : ∀ j : Nat, j < 256 → (X j = 0 ↔ Y j = 0)) : y_f X = y_f Y := by
  funext k
  unfold y_f
  apply decide_eq_decide.mpr
  constructor
  · rintro ⟨h1, h2⟩; exact ⟨h1, fun e => h2 ((h k h1).mpr e)⟩
  · rintro ⟨h1, h2⟩; exact ⟨h1, fun e => h2 ((h k h1).mp e)⟩
theorem nw_Y {M : Nat → Nat → Int32} {f e : Nat} {T : Nat → Int32} : a_Y (nwF M f T) e = if e = f then y_f T else a_Y M e := by
  unfold a_Y
  by_cases c : e = f
  · rw [if_pos c]; exact y_f_ext (fun j hj => by rw [nw_yes hj, if_pos c])
  · rw [if_neg c]; exact y_f_ext (fun j hj => by rw [nw_yes hj, if_neg c])
theorem nw_2 {M : Nat → Nat → Int32} {f : Nat} {T : Nat → Int32} : nwF M f T 2 = M 2 := by
  unfold nwF
  rw [la_2, mst_ne (by omega), flC_row (by omega)]
theorem nw_ys {M : Nat → Nat → Int32} {f : Nat} {T : Nat → Int32} (h : ysOk M) (hT : ∀ j : Nat, j < 256 → T j = 0 ∨ T j = 1) : ysOk (nwF M f T) := by
  intro e he j hj
  rw [nw_yes hj]
  split
  · exact hT j hj
  · exact h e he j hj
theorem la_b0 {M : Nat → Nat → Int32} {e : Nat} : laF M (25 + 6 * e) 0 = M (25 + 6 * e) 0 := by
  rw [laF, laL_b0, soF_row (by omega) (by omega) (by omega) (by omega)]
theorem nw_ks {M : Nat → Nat → Int32} {f : Nat} {T : Nat → Int32} (h : ksOk M) : ksOk (nwF M f T) := by
  intro e he
  unfold nwF
  rw [la_b0]
  by_cases c : e = f
  · subst c; rw [mst_same, pk_us]; exact Or.inr rfl
  · rw [mst_ne (by omega), flC_row (by omega)]; exact h e he
theorem la_ys {M : Nat → Nat → Int32} (h : ysOk M) : ysOk (laF M) := fun e he j hj => by rw [la_yes]; exact h e he j hj
theorem la_ks {M : Nat → Nat → Int32} (h : ksOk M) : ksOk (laF M) := fun e he => by rw [la_b0]; exact h e he
/-! ===== what is only tried ===== -/
theorem cs_row {M : Nat → Nat → Int32} {p0 i : Nat} (h : i < 14 ∨ 24 < i) : csF M p0 i = M i := csL_row h 12
theorem ta_cs {M : Nat → Nat → Int32} {o : Nat → Nat} (ho : b_O o) (hord : ∀ p : Nat, p < 8 → M 2 p = nI (o p)) {p0 : Nat} (hp0 : p0 < 7) : csF M p0 15 0 = nI (u_L (o_x o p0) (a_k M) (a_Y M) 12).length := by
  have ho' := o_x_O hp0 ho
  have hq : ∀ p : Nat, p < 8 → exF (mrow M 14 (va_cpy (M 2) (M 14) 0 0 8)) 14 p0 14 p = nI (o_x o p0 p) := fun p hp => ex_at hp0 hp (fun p hp => by
    rw [mrow_same]
    unfold va_cpy
    rw [if_pos (by omega), show 0 + (p - 0) = p by omega]
    exact hord p hp)
  have key : ∀ f : Nat, f ≤ 12 → ∃ (n : Nat) (tb : Nat → Nat → Bool) (pl : Nat → Nat), t_M (csL M p0 f) 15 (o_x o p0) n tb pl ∧ (∀ k : Nat, k < n → w_W (o_x o p0) (a_Y M) 12 (tb k) (pl k)) ∧ ∀ g : Nat → Bool, (∃ k : Nat, k < n ∧ tb k = g) ↔ ∃ e : Nat, e < f ∧ a_k M e ∧ g ∈ r_R (o_x o p0) (a_Y M e) := by
    intro f
    induction f with
    | zero =>
      intro _
      exact ⟨0, _, _, so_tab, fun k hk => absurd hk (Nat.not_lt_zero _), fun g => ⟨fun ⟨k, hk, _⟩ => absurd hk (Nat.not_lt_zero _), fun ⟨e, he, _⟩ => absurd he (Nat.not_lt_zero _)⟩⟩
    | succ f ih =>
      intro hf
      obtain ⟨n, tb, pl, hM, hW, hE⟩ := ih (by omega)
      have e0 : csL M p0 f (25 + 6 * f) 0 = M (25 + 6 * f) 0 := by rw [csL_row (by omega)]
      by_cases hk : M (25 + 6 * f) 0 = 0
      · have e : csL M p0 (f + 1) = csL M p0 f := by rw [csL, if_pos (by rw [e0]; exact hk)]
        rw [e]
        refine ⟨n, tb, pl, hM, hW, fun g => ?_⟩
        rw [hE g]
        constructor
        · rintro ⟨e, h1, h2⟩; exact ⟨e, by omega, h2⟩
        · rintro ⟨e, h1, h2, h3⟩
          have : e ≠ f := fun c => h2 (c ▸ hk)
          exact ⟨e, by omega, h2, h3⟩
      · have e : csL M p0 (f + 1) = lyF (csL M p0 f) 15 (25 + 6 * f + 1) := by rw [csL, if_neg (by rw [e0]; exact hk)]
        rw [e]
        have hYf : csL M p0 f (25 + 6 * f + 1) = M (25 + 6 * f + 1) := csL_row (by omega) f
        have hb : ∀ i : Nat, 20 < i → i < 23 → csL M p0 f i = cs3 M p0 i := by
          intro i h1 h2
          have : ∀ f : Nat, csL M p0 f i = cs3 M p0 i := by
            intro f
            induction f with
            | zero => rfl
            | succ f ih => rw [csL]; split; exact ih; rw [lyF_row (by omega) (by omega)]; exact ih
          exact this f
        have hly := tt_lay (M := csL M p0 f) (g := 15) (yi := 25 + 6 * f + 1) ho' (Wt := w_W (o_x o p0) (a_Y M) 12) (fun n tb pl h => cap12 ho' h) (fun p u _ hu _ => ⟨f, by omega, u, hu, by rw [hYf]; rfl⟩) hM hW (fun p hp => by rw [hb _ (by omega) (by omega), cs3, so_ord hp (by omega)]; exact hq p hp) (fun w hw => by rw [hb _ (by omega) (by omega), cs3]; exact so_aw ho' (by omega) hq hw)
        rw [show y_f (csL M p0 f (25 + 6 * f + 1)) = a_Y M f by rw [hYf]; rfl] at hly
        obtain ⟨n1, tb1, pl1, hG, hroot, hall⟩ := hly
        have hYS : b_S (a_Y M f) := y_fS _
        refine ⟨n1, tb1, pl1, hG.1, hG.W hW (fun p u _ hu _ => ⟨f, by omega, u, hu, rfl⟩), fun g => ?_⟩
        constructor
        · rintro ⟨k, hk', rfl⟩
          rcases Nat.lt_or_ge k n with c | c
          · obtain ⟨e, h1, h2⟩ := (hE (tb k)).mp ⟨k, c, rfl⟩
            exact ⟨e, by omega, h2.1, by rw [(hG.2.1.2 k c).1]; exact h2.2⟩
          · obtain ⟨-, u, hu, e2⟩ := hG.2.2.2 k c hk'
            have hA := (hG.1.2.2.1.1 k hk').2
            refine ⟨f, by omega, hk, ?_⟩
            rcases r_R_all ho' hYS (pl1 k) (by have := hA.1; omega) u with h | h
            · rw [← e2] at h; exact absurd h (hA.nl ho')
            · rw [e2]; exact h
        · rintro ⟨e, h1, h2, h3⟩
          by_cases c : e = f
          · subst c
            obtain ⟨p, u, hA, hu, e2⟩ := r_R_w ho' hYS g h3
            obtain ⟨x, hx⟩ := hall p u (by have := hA.1; omega) hu
            rw [← e2] at hx
            rcases hx.leaf with h | h | h
            · exact absurd h hA.n0
            · exact absurd h (hA.n1 ho')
            · exact h
          · obtain ⟨k, hk', e3⟩ := (hE g).mpr ⟨e, by omega, h2, h3⟩
            have := hG.2.1.1
            exact ⟨k, by omega, (hG.2.1.2 k hk').1.trans e3⟩
  obtain ⟨n, tb, pl, hM, -, hE⟩ := key 12 (Nat.le_refl _)
  rw [csF, hM.2.1, u_n hM.2.2.1 hE]
theorem ta_would {M : Nat → Nat → Int32} {o : Nat → Nat} (ho : b_O o) (hord : ∀ p : Nat, p < 8 → M 2 p = nI (o p)) (hys : ysOk M) {ka wh : Nat} (hka : ka < 12) (hwh : wh < 2) : wdF M ka ka wh 15 0 = nI (r_R o (a_Y M ka)).length := by
  have h13 : ∀ j : Nat, j < 256 → sjF M ka ka wh 13 13 j = M (25 + 6 * ka + 1) j := by
    intro j hj
    rw [sjF, flC, mrow_same, flG, if_pos hj, sjT]
    rcases (show wh = 0 ∨ wh = 1 by omega) with rfl | rfl <;> rcases hys ka hka j hj with h | h <;> rw [h] <;> decide
  have hYf : y_f (soF (sjF M ka ka wh 13) 15 2 13) = a_Y M ka := y_f_ext (fun j hj => by rw [soF_row (by omega) (by omega) (by omega) (by omega), h13 j hj])
  have hs2 : sjF M ka ka wh 13 2 = M 2 := flC_row (by decide)
  have hly := tt_lay (M := soF (sjF M ka ka wh 13) 15 2) (g := 15) (yi := 13) ho (Wt := w_W o (fun _ => a_Y M ka) 1) (fun n tb pl h => Nat.le_trans (cap1 ho h) (by decide)) (fun p u _ hu _ => ⟨0, by decide, u, hu, by rw [hYf]⟩) so_tab (fun k hk => absurd hk (Nat.not_lt_zero _)) (fun p hp => by rw [so_ord hp (by omega), hs2]; exact hord p hp) (fun w hw => so_aw ho (by omega) (fun p hp => by rw [hs2]; exact hord p hp) hw)
  rw [hYf] at hly
  obtain ⟨n, tb, pl, hG, -, hall⟩ := hly
  rw [wdF, hG.1.2.1, u_one ho (y_fS _) hG.1.2.2.1 (fun k hk => by
    obtain ⟨-, u, -, e⟩ := hG.2.2.2 k (Nat.zero_le _) hk
    exact ⟨u, e⟩) hall]
  rfl
theorem wd_row {M : Nat → Nat → Int32} {ka kb wh i : Nat} (h : i < 13 ∨ 24 < i) : wdF M ka kb wh i = M i := by
  rw [wdF, lyF_row (by omega) (by omega), soF_row (by omega) (by omega) (by omega) (by omega), sjF, flC_row (by omega)]
