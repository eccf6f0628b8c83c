/-- a row whose first k places are F's -/
def flG (F : Nat → Int32) (k : Nat) (r : Nat → Int32) : Nat → Int32 := fun j => if j < k then F j else r j
theorem flG_0 (F r : Nat → Int32) : flG F 0 r = r := by funext j; simp [flG]
theorem flG_s {F : Nat → Int32} {k : Nat} {r : Nat → Int32} {v : Int32} (h : F k = v) : upd (flG F k r) k v = flG F (k + 1) r := by
  funext j
  by_cases h2 : j = k
  · subst h2; rw [pk_us, flG, if_pos (Nat.lt_succ_self _), h]
  · rw [pk_un h2]; simp only [flG]; by_cases h3 : j < k
    · rw [if_pos h3, if_pos (show j < k + 1 by omega)]
    · rw [if_neg h3, if_neg (show ¬ j < k + 1 by omega)]
/-- a cell being filled -/
def flC (M : Nat → Nat → Int32) (i : Nat) (F : Nat → Int32) (k : Nat) : Nat → Nat → Int32 := mrow M i (flG F k (M i))
theorem flC_0 (M : Nat → Nat → Int32) (i : Nat) (F : Nat → Int32) : flC M i F 0 = M := by rw [flC, flG_0, mrow_id]
theorem flC_s (M : Nat → Nat → Int32) (i : Nat) (F : Nat → Int32) (k : Nat) {v : Int32} (h : F k = v) : mst (flC M i F k) i k v = flC M i F (k + 1) := by rw [flC, mst_mrow, flG_s h]; rfl
theorem flC_row {M : Nat → Nat → Int32} {i a : Nat} {F : Nat → Int32} {k : Nat} (h : a ≠ i) : flC M i F k a = M a := mrow_ne h
def mnL (F : Nat → Int32) : Nat → Int32
  | 0 => 8
  | k + 1 => if F k < mnL F k then F k else mnL F k
def mxL (F : Nat → Int32) : Nat → Int32
  | 0 => 0
  | k + 1 => if mxL F k < F k then F k else mxL F k
def caT (M : Nat → Nat → Int32) (b : Nat) : Nat → Int32 := fun k => caF M b (nI k)
/-- what the places of a fold's row say -/
def tfF (M : Nat → Nat → Int32) (b i : Nat) (wh : Nat) : Int32 := match wh with
  | 0 => M (3 + 1) (M (b + 2) i).toNatClampNeg
  | 1 => M (b + 3) i
  | 2 => M (b + 4) i
  | 3 => M (b + 5) i
  | _ => M (3 + 4) (M (b + 2) i).toNatClampNeg
def tdF (M : Nat → Nat → Int32) (b z : Nat) (wh : Nat) : Int32 := match wh with
  | 0 => nI z
  | 1 => sI (cyT M b) 256
  | 2 => qmL M b z
  | 3 => mnL (caT M b) 256
  | 4 => mxL (caT M b) 256
  | 5 => syL M b 256 0
  | 6 => gyL M b 256
  | _ => sI (coT M b) z
def tcF (M : Nat → Nat → Int32) (n : Nat) (wh : Nat) : Int32 := match wh with
  | 0 => sI (ckT M) 12
  | 1 => nI n
  | 2 => sI (afT M) 12
  | 3 => sI (cfT M) n
  | _ => sI (clT M) 12
/-- an exchange that is tried -/
def cs3 (M : Nat → Nat → Int32) (p0 : Nat) : Nat → Nat → Int32 := soF (exF (mrow M 14 (va_cpy (M 2) (M 14) 0 0 8)) 14 p0) 15 14
def csL (M : Nat → Nat → Int32) (p0 : Nat) : Nat → Nat → Nat → Int32
  | 0 => cs3 M p0
  | f + 1 => if csL M p0 f (25 + 6 * f) 0 = 0 then csL M p0 f else lyF (csL M p0 f) 15 (25 + 6 * f + 1)
def csF (M : Nat → Nat → Int32) (p0 : Nat) : Nat → Nat → Int32 := csL M p0 12
def laOk2 (M : Nat → Nat → Int32) (g : Nat) : Prop := (∃ n : Nat, fk2 M g n) ∧ ∀ w : Nat, w < 256 → ∃ a : Nat, a < 256 ∧ M (g + 7) w = nI a
theorem soF_laOk2 (M : Nat → Nat → Int32) (g qi : Nat) : laOk2 (soF M g qi) g := ⟨⟨0, soF_fk2 M g qi⟩, soF_7 M g qi⟩
theorem lyF_laOk2 {M : Nat → Nat → Int32} {g yi : Nat} (h : laOk2 M g) : laOk2 (lyF M g yi) g := by
  obtain ⟨⟨n, h1⟩, h2⟩ := h
  obtain ⟨n', -, h3, -⟩ := lyF_fk2 (yi := yi) h1
  exact ⟨⟨n', h3⟩, fun w hw => by rw [lyF_row (by omega) (by omega)]; exact h2 w hw⟩
theorem csL_ok (M : Nat → Nat → Int32) (p0 : Nat) : ∀ f : Nat, laOk2 (csL M p0 f) 15 := by
  intro f
  induction f with
  | zero => exact soF_laOk2 _ 15 14
  | succ f ih => rw [csL]; split; exact ih; exact lyF_laOk2 ih
theorem csL_row {M : Nat → Nat → Int32} {p0 i : Nat} (h : i < 14 ∨ 24 < i) : ∀ f : Nat, csL M p0 f i = M i := by
  intro f
  induction f with
  | zero => rw [csL, cs3, soF_row (by omega) (by omega) (by omega) (by omega), exF, mst_ne (by omega), mst_ne (by omega), mrow_ne (by omega)]
  | succ f ih => rw [csL]; split; exact ih; rw [lyF_row (by omega) (by omega)]; exact ih
def adL (M : Nat → Nat → Int32) : Nat → (Nat → Nat → Int32) × Int32 × Int32
  | 0 => (M, M 3 0, -1)
  | p0 + 1 => if csF (adL M p0).1 p0 15 0 < (adL M p0).2.1 then (csF (adL M p0).1 p0, csF (adL M p0).1 p0 15 0, nI p0) else (csF (adL M p0).1 p0, (adL M p0).2.1, (adL M p0).2.2)
