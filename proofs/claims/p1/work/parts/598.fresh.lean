/-! ===== a new SharedForks: what the mirrors answer there ===== -/
theorem z_at {i j : Nat} (h : i ≠ 2) : M0k 8 i j = 0 := by rw [M0k, if_neg h]
theorem z_k (f : Nat) : M0k 8 (25 + 6 * f) 0 = 0 := z_at (by omega)
theorem z_fd (x : Int32) : ¬ ∃ k, fdOk (M0k 8) x k := by
  rintro ⟨k, -, -, h⟩
  exact h (z_k k)
theorem z_fr {f : Nat} (h : frOk (M0k 8) f) : f = 0 := by
  rcases Nat.eq_zero_or_pos f with h0 | h0
  · exact h0
  · exact absurd (z_k 0) (h.2.2 0 h0)
theorem z_no : ¬ frNo (M0k 8) := fun h => h 0 (by decide) (z_k 0)
theorem z_ys : ysOk (M0k 8) := fun f _ j _ => Or.inl (z_at (by omega))
theorem z_ks : ksOk (M0k 8) := fun f _ => Or.inl (z_k f)
theorem z_rs : rwsOk (M0k 8) 0 := ⟨by decide, z_at (by decide), fun f _ h => absurd (z_k f) h⟩
theorem z_laL {M : Nat → Nat → Int32} (h : ∀ f : Nat, f < 12 → M (25 + 6 * f) 0 = 0) : ∀ f : Nat, f ≤ 12 → laL M f = M := by
  intro f
  induction f with
  | zero => intro _; rfl
  | succ f ih =>
    intro hf
    rw [laL, ih (by omega), if_pos (h f (by omega))]
theorem z_la {M : Nat → Nat → Int32} (h : ∀ f : Nat, f < 12 → M (25 + 6 * f) 0 = 0) : laF M 3 0 = 0 := by
  rw [laF, z_laL (fun f hf => by rw [soF_row (by omega) (by omega) (by omega) (by omega)]; exact h f hf) 12 (Nat.le_refl _)]
  exact (soF_fk2 M 3 2).2.1
theorem z_sw (p0 : Nat) : laF (exF (M0k 8) 2 p0) 3 0 = 0 := z_la (fun f _ => by rw [exF, mst_ne (by omega), mst_ne (by omega)]; exact z_k f)
theorem z_csL {M : Nat → Nat → Int32} {p0 : Nat} (h : ∀ f : Nat, f < 12 → M (25 + 6 * f) 0 = 0) : ∀ f : Nat, f ≤ 12 → csL M p0 f = cs3 M p0 := by
  intro f
  induction f with
  | zero => intro _; rfl
  | succ f ih =>
    intro hf
    rw [csL, if_pos (by rw [csL_row (Or.inr (by omega))]; exact h f (by omega))]
    exact ih (by omega)
theorem z_cs {M : Nat → Nat → Int32} {p0 : Nat} (h : ∀ f : Nat, f < 12 → M (25 + 6 * f) 0 = 0) : csF M p0 15 0 = 0 := by
  rw [csF, z_csL h 12 (Nat.le_refl _), cs3]
  exact (soF_fk2 _ 15 14).2.1
theorem z_adL : ∀ k : Nat, (∀ f : Nat, f < 12 → (adL (M0k 8) k).1 (25 + 6 * f) 0 = 0) ∧ (adL (M0k 8) k).2 = (0, -1) := by
  intro k
  induction k with
  | zero => exact ⟨fun f _ => z_k f, by rw [adL]; exact congrArg (fun x => (x, (-1 : Int32))) (z_at (by decide))⟩
  | succ k ih =>
    obtain ⟨h1, h2⟩ := ih
    rw [adL, if_neg (by rw [z_cs h1, h2]; decide)]
    exact ⟨fun f hf => by dsimp only; rw [csF, csL_row (Or.inr (by omega))]; exact h1 f hf, h2⟩
theorem z_ad : (adL (M0k 8) 7).2.2 = -1 := by rw [(z_adL 7).2]
theorem sI_0 {F : Nat → Int32} : ∀ n : Nat, (∀ k : Nat, k < n → F k = 0) → sI F n = 0 := by
  intro n
  induction n with
  | zero => intro _; rfl
  | succ n ih => intro h; rw [sI, ih (fun k hk => h k (by omega)), h n (by omega)]; rfl
theorem z_ck : sI (ckT (M0k 8)) 12 = 0 := sI_0 12 (fun k _ => by rw [ckT, if_pos (z_k k)])
theorem z_tc {wh : Nat} (h : wh < 5) : tcF (M0k 8) 0 wh = 0 := by
  rcases (show wh = 0 ∨ wh = 1 ∨ wh = 2 ∨ wh = 3 ∨ wh = 4 by omega) with rfl | rfl | rfl | rfl | rfl
  · exact z_ck
  · rfl
  · exact sI_0 12 (fun k _ => by rw [afT, if_pos (z_k k)])
  · rfl
  · exact sI_0 12 (fun k _ => by rw [clT, if_neg (fun h => h.1 (z_k k))])
theorem dgA_congr {T T' : Nat → Int32} {d : Int64} : ∀ n : Nat, (∀ k : Nat, k < n → T k = T' k) → dgA d T n = dgA d T' n := by
  intro n
  induction n with
  | zero => intro _; rfl
  | succ n ih => intro h; rw [dgA, dgA, ih (fun k hk => h k (by omega)), h n (by omega)]
theorem z_dgL (d : Int64) : ∀ f : Nat, dgL (M0k 8) d f = dgA d (fun _ => 0) f := by
  intro f
  induction f with
  | zero => rfl
  | succ f ih =>
    rw [dgL, if_pos (z_k f), ih, dgA, dgS]
    exact (Int64.add_zero _).symm
theorem z_dg : dgF (M0k 8) 0 = dgA (dgA (dgA 1709 (fun _ => 0) 5) (M3k 3) 8) (fun _ => 0) 12 := by
  rw [dgF, z_dgL, dgA_congr (T := tcF (M0k 8) 0) (T' := fun _ => 0) 5 (fun k hk => z_tc hk)]
  rfl
theorem z_me : meF (M0k 8) = FP.dconst0 := by rw [meF, if_pos z_ck]
theorem z_or {p0 : Nat} : M0k 8 2 p0 = M3k 3 p0 := rfl
theorem M3_at {i j : Nat} (h : i ≠ 3) : M3k i j = 0 := by
  unfold M3k
  split
  · exact absurd rfl h
  · rfl
theorem M3_o {j : Nat} (h : j < 8) : M3k 3 j = nI j := if_pos h
