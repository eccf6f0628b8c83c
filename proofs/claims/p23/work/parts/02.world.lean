/-! ===== the cells of one SharedForks: 97 cells at the addresses ad 0 .. ad 96; M i j is what stands in cell i at place j ===== -/
def cW (ad : Nat → Nat) (E : Nat → va_E) : va_W := (List.range 97).map (fun i => (ad i, E i))
theorem cW_get (ad : Nat → Nat) (E : Nat → va_E) {i : Nat} (h : i < 97) : (cW ad E)[i]? = some (ad i, E i) := by
  simp [cW, List.getElem?_map, List.getElem?_range, h]
theorem cW_len (ad : Nat → Nat) (E : Nat → va_E) : (cW ad E).length = 97 := by simp [cW]
theorem cW_of {ad : Nat → Nat} {E : Nat → va_E} {k : Nat} {q : Nat × va_E} (h : (cW ad E)[k]? = some q) : k < 97 ∧ q = (ad k, E k) := by
  have hk : k < 97 := by
    have := (List.getElem?_eq_some_iff.mp h).1
    rwa [cW_len] at this
  rw [cW_get ad E hk] at h
  exact ⟨hk, (Option.some.inj h).symm⟩
theorem cW_set (ad : Nat → Nat) (E : Nat → va_E) (i : Nat) (x : va_E) : (cW ad E).set i (ad i, x) = cW ad (va_up E i x) := by
  apply List.ext_getElem?
  intro j
  by_cases hj : j < 97
  · by_cases hji : i = j
    · subst hji
      rw [List.getElem?_set_self (by rw [cW_len]; exact hj), cW_get ad _ hj, va_up_self]
    · rw [List.getElem?_set_ne hji, cW_get ad _ hj, cW_get ad _ hj, va_up_ne _ _ (fun h => hji h.symm)]
  · rw [List.getElem?_eq_none (by rw [List.length_set, cW_len]; omega), List.getElem?_eq_none (by rw [cW_len]; omega)]
/-- the place of a fold's object -/
abbrev cB (k : Nat) : Nat := 25 + 6 * k
/-- what kind of cell: 0 an object, 1 ints, 2 booleans, 3 the row of folds; and how long it is -/
def cKd (i : Nat) : Nat := if i < 25 then [0, 3, 1, 0, 1, 1, 1, 1, 1, 1, 1, 1, 1, 2, 1, 0, 1, 1, 1, 1, 1, 1, 1, 1, 1].getD i 0 else if (i - 25) % 6 = 0 then 0 else if (i - 25) % 6 = 1 then 2 else 1
def cLn (i : Nat) : Nat := if i < 25 then [0, 12, 8, 0, 626, 626, 626, 626, 1024, 8, 256, 256, 626, 256, 8, 0, 626, 626, 626, 626, 1024, 8, 256, 256, 626].getD i 0 else 77
def cOb (ad : Nat → Nat) (i : Nat) (f : Nat → Int32) : va_E :=
  if i = 0 then .inr (2, [.ref (ad 1), .ref (ad 2), .ref (ad 3), .ref (ad 13), .ref (ad 14), .ref (ad 15)])
  else if i < 25 then .inr (1, [.int (f 0), .ref (ad (i + 1)), .ref (ad (i + 2)), .ref (ad (i + 3)), .ref (ad (i + 4)), .ref (ad (i + 5)), .ref (ad (i + 6)), .ref (ad (i + 7)), .ref (ad (i + 8)), .ref (ad (i + 9))])
  else .inr (0, [.int (f 0), .ref (ad (i + 1)), .int (f 2), .ref (ad (i + 2)), .ref (ad (i + 3)), .ref (ad (i + 4)), .ref (ad (i + 5))])
/-- what a cell is, by its place -/
def cS (I Z F : ClassId) (ad : Nat → Nat) (i : Nat) (f : Nat → Int32) : va_E :=
  if cKd i = 1 then .inl (I, cLn i, .inl f)
  else if cKd i = 2 then .inl (Z, 256, .inl f)
  else if cKd i = 3 then .inl (F, 12, .inr (.inr (.inr (.inr (fun k => if k < 12 then some (ad (25 + 6 * k)) else none)))))
  else cOb ad i f
theorem cKd_0 (k : Nat) : cKd (25 + 6 * k) = 0 := by rw [cKd, if_neg (by omega), if_pos (by omega)]
theorem cKd_1 (k : Nat) : cKd (25 + 6 * k + 1) = 2 := by rw [cKd, if_neg (by omega), if_neg (by omega), if_pos (by omega)]
theorem cKd_2 (k j : Nat) (h : 2 ≤ j) (h2 : j ≤ 5) : cKd (25 + 6 * k + j) = 1 := by rw [cKd, if_neg (by omega), if_neg (by omega), if_neg (by omega)]
theorem cLn_2 (k j : Nat) : cLn (25 + 6 * k + j) = 77 := by rw [cLn, if_neg (by omega)]
theorem cS_0 (I Z F : ClassId) (ad : Nat → Nat) (k : Nat) (f : Nat → Int32) : cS I Z F ad (25 + 6 * k) f = .inr (0, [.int (f 0), .ref (ad (25 + 6 * k + 1)), .int (f 2), .ref (ad (25 + 6 * k + 2)), .ref (ad (25 + 6 * k + 3)), .ref (ad (25 + 6 * k + 4)), .ref (ad (25 + 6 * k + 5))]) := by
  rw [cS, cKd_0, if_neg (by decide), if_neg (by decide), if_neg (by decide), cOb, if_neg (by omega), if_neg (by omega)]
theorem cS_1 (I Z F : ClassId) (ad : Nat → Nat) (k : Nat) (f : Nat → Int32) : cS I Z F ad (25 + 6 * k + 1) f = .inl (Z, 256, .inl f) := by
  rw [cS, cKd_1, if_neg (by decide), if_pos rfl]
theorem cS_2 (I Z F : ClassId) (ad : Nat → Nat) (k j : Nat) (h : 2 ≤ j) (h2 : j ≤ 5) (f : Nat → Int32) : cS I Z F ad (25 + 6 * k + j) f = .inl (I, 77, .inl f) := by
  rw [cS, cKd_2 k j h h2, if_pos rfl, cLn_2]
def cE (I Z F : ClassId) (ad : Nat → Nat) (M : Nat → Nat → Int32) : Nat → va_E := fun i => cS I Z F ad i (M i)
/-- one place of one cell is another -/
def mst (M : Nat → Nat → Int32) (i j : Nat) (x : Int32) : Nat → Nat → Int32 := fun a => if a = i then upd (M i) j x else M a
/-- a cell is another -/
def mrow (M : Nat → Nat → Int32) (i : Nat) (f : Nat → Int32) : Nat → Nat → Int32 := fun a => if a = i then f else M a
theorem mst_row (M : Nat → Nat → Int32) (i j : Nat) (x : Int32) : mst M i j x = mrow M i (upd (M i) j x) := rfl
theorem mst_same (M : Nat → Nat → Int32) (i j : Nat) (x : Int32) : mst M i j x i = upd (M i) j x := if_pos rfl
theorem mst_ne {M : Nat → Nat → Int32} {i a j : Nat} {x : Int32} (h : a ≠ i) : mst M i j x a = M a := if_neg h
theorem mrow_same (M : Nat → Nat → Int32) (i : Nat) (f : Nat → Int32) : mrow M i f i = f := if_pos rfl
theorem mrow_ne {M : Nat → Nat → Int32} {i a : Nat} {f : Nat → Int32} (h : a ≠ i) : mrow M i f a = M a := if_neg h
theorem cE_row (I Z F : ClassId) (ad : Nat → Nat) (M : Nat → Nat → Int32) (i : Nat) (f : Nat → Int32) : va_up (cE I Z F ad M) i (cS I Z F ad i f) = cE I Z F ad (mrow M i f) := by
  funext a
  by_cases h : a = i
  · subst h; rw [va_up_self]; show _ = cS I Z F ad a (mrow M a f a); rw [mrow_same]
  · rw [va_up_ne _ _ h]; show _ = cS I Z F ad a (mrow M i f a); rw [mrow_ne h]; rfl
section CSH
variable (I Z F : ClassId) (ad : Nat → Nat) (M : Nat → Nat → Int32)
theorem cE_x : cE I Z F ad M 0 = .inr (2, [.ref (ad 1), .ref (ad 2), .ref (ad 3), .ref (ad 13), .ref (ad 14), .ref (ad 15)]) := rfl
theorem cE_folds : cE I Z F ad M 1 = .inl (F, 12, .inr (.inr (.inr (.inr (fun k => if k < 12 then some (ad (25 + 6 * k)) else none))))) := rfl
theorem cE_q : cE I Z F ad M 2 = .inl (I, 8, .inl (M 2)) := rfl
theorem cE_ty : cE I Z F ad M 13 = .inl (Z, 256, .inl (M 13)) := rfl
theorem cE_to : cE I Z F ad M 14 = .inl (I, 8, .inl (M 14)) := rfl
theorem cE_f0 {g : Nat} (hg : g = 3 ∨ g = 15) : cE I Z F ad M g = .inr (1, [.int (M g 0), .ref (ad (g + 1)), .ref (ad (g + 2)), .ref (ad (g + 3)), .ref (ad (g + 4)), .ref (ad (g + 5)), .ref (ad (g + 6)), .ref (ad (g + 7)), .ref (ad (g + 8)), .ref (ad (g + 9))]) := by rcases hg with rfl | rfl <;> rfl
theorem cE_f1 {g : Nat} (hg : g = 3 ∨ g = 15) : cE I Z F ad M (g + 1) = .inl (I, 626, .inl (M (g + 1))) := by rcases hg with rfl | rfl <;> rfl
theorem cE_f2 {g : Nat} (hg : g = 3 ∨ g = 15) : cE I Z F ad M (g + 2) = .inl (I, 626, .inl (M (g + 2))) := by rcases hg with rfl | rfl <;> rfl
theorem cE_f3 {g : Nat} (hg : g = 3 ∨ g = 15) : cE I Z F ad M (g + 3) = .inl (I, 626, .inl (M (g + 3))) := by rcases hg with rfl | rfl <;> rfl
theorem cE_f4 {g : Nat} (hg : g = 3 ∨ g = 15) : cE I Z F ad M (g + 4) = .inl (I, 626, .inl (M (g + 4))) := by rcases hg with rfl | rfl <;> rfl
theorem cE_f5 {g : Nat} (hg : g = 3 ∨ g = 15) : cE I Z F ad M (g + 5) = .inl (I, 1024, .inl (M (g + 5))) := by rcases hg with rfl | rfl <;> rfl
theorem cE_f6 {g : Nat} (hg : g = 3 ∨ g = 15) : cE I Z F ad M (g + 6) = .inl (I, 8, .inl (M (g + 6))) := by rcases hg with rfl | rfl <;> rfl
theorem cE_f7 {g : Nat} (hg : g = 3 ∨ g = 15) : cE I Z F ad M (g + 7) = .inl (I, 256, .inl (M (g + 7))) := by rcases hg with rfl | rfl <;> rfl
theorem cE_f8 {g : Nat} (hg : g = 3 ∨ g = 15) : cE I Z F ad M (g + 8) = .inl (I, 256, .inl (M (g + 8))) := by rcases hg with rfl | rfl <;> rfl
theorem cE_f9 {g : Nat} (hg : g = 3 ∨ g = 15) : cE I Z F ad M (g + 9) = .inl (I, 626, .inl (M (g + 9))) := by rcases hg with rfl | rfl <;> rfl
theorem cE_d0 (k : Nat) : cE I Z F ad M (25 + 6 * k) = .inr (0, [.int (M (25 + 6 * k) 0), .ref (ad (25 + 6 * k + 1)), .int (M (25 + 6 * k) 2), .ref (ad (25 + 6 * k + 2)), .ref (ad (25 + 6 * k + 3)), .ref (ad (25 + 6 * k + 4)), .ref (ad (25 + 6 * k + 5))]) := cS_0 I Z F ad k _
theorem cE_d1 (k : Nat) : cE I Z F ad M (25 + 6 * k + 1) = .inl (Z, 256, .inl (M (25 + 6 * k + 1))) := cS_1 I Z F ad k _
theorem cE_d2 (k : Nat) : cE I Z F ad M (25 + 6 * k + 2) = .inl (I, 77, .inl (M (25 + 6 * k + 2))) := cS_2 I Z F ad k 2 (by decide) (by decide) _
theorem cE_d3 (k : Nat) : cE I Z F ad M (25 + 6 * k + 3) = .inl (I, 77, .inl (M (25 + 6 * k + 3))) := cS_2 I Z F ad k 3 (by decide) (by decide) _
theorem cE_d4 (k : Nat) : cE I Z F ad M (25 + 6 * k + 4) = .inl (I, 77, .inl (M (25 + 6 * k + 4))) := cS_2 I Z F ad k 4 (by decide) (by decide) _
theorem cE_d5 (k : Nat) : cE I Z F ad M (25 + 6 * k + 5) = .inl (I, 77, .inl (M (25 + 6 * k + 5))) := cS_2 I Z F ad k 5 (by decide) (by decide) _
end CSH
/-- an int array's new row, an object's new int field -/
theorem cS_arr {I Z F : ClassId} {ad : Nat → Nat} {i n : Nat} {C : ClassId} {f : Nat → Int32} (h : cS I Z F ad i f = .inl (C, n, .inl f)) (f' : Nat → Int32) : cS I Z F ad i f' = .inl (C, n, .inl f') := by
  rw [cS] at h ⊢
  by_cases h1 : cKd i = 1
  · rw [if_pos h1] at h ⊢; cases h; rfl
  · rw [if_neg h1] at h ⊢
    by_cases h2 : cKd i = 2
    · rw [if_pos h2] at h ⊢; cases h; rfl
    · rw [if_neg h2] at h
      by_cases h3 : cKd i = 3
      · rw [if_pos h3] at h; cases h
      · rw [if_neg h3, cOb] at h
        split at h
        · cases h
        · split at h <;> cases h
/-- what the cells are apart from each other and of a kind -/
def cD (ad : Nat → Nat) (A : Nat → Prop) : Prop := (∀ i j : Nat, i < 97 → j < 97 → ad i = ad j → i = j) ∧ ∀ i : Nat, i < 97 → A (ad i)
theorem cD.d {ad : Nat → Nat} {A : Nat → Prop} (h : cD ad A) (E : Nat → va_E) : va_D A (cW ad E) := by
  refine ⟨fun i j x y hx hy hxy => ?_, fun k q hk => ?_⟩
  · obtain ⟨h1, rfl⟩ := cW_of hx
    obtain ⟨h2, rfl⟩ := cW_of hy
    exact h.1 i j h1 h2 hxy
  · obtain ⟨h1, rfl⟩ := cW_of hk
    exact h.2 k h1
/-- which cells a method may change -/
def cA (ad : Nat → Nat) (sz : Nat) : Nat → Prop := fun q => (∃ k : Nat, k < 97 ∧ q = ad k) ∨ sz ≤ q
theorem cA.in {ad : Nat → Nat} {sz k : Nat} (h : k < 97) : cA ad sz (ad k) := Or.inl ⟨k, h, rfl⟩
def cI (ad : Nat → Nat) : Prop := ∀ i j : Nat, i < 97 → j < 97 → ad i = ad j → i = j
theorem cI.d {ad : Nat → Nat} (h : cI ad) (sz : Nat) : cD ad (cA ad sz) := ⟨h, fun _ hk => cA.in hk⟩
/-- the heap holds them -/
def cP (D : va_G) (I Z F : ClassId) (ad : Nat → Nat) (M : Nat → Nat → Int32) (H : Heap) : Prop := va_P D vwCl (cW ad (cE I Z F ad M)) H
abbrev cT (I Z F : ClassId) : List (ClassId × FieldType) := [(I, .int), (Z, .boolean), (F, .object "SharedForks$Fold")]
/-- the words on private members of a nest mate -/
def cNest : List Cond := [
  .methodLinkNest "SharedForks" 21 ⟨"SharedForks$Forks", "<init>", "()V"⟩ "SharedForks",
  .fieldLinkNest "SharedForks" 82 "SharedForks$Forks" "size" "I" "SharedForks",
  .fieldLinkNest "SharedForks" 161 "SharedForks$Forks" "question" "[I" "SharedForks",
  .fieldLinkNest "SharedForks" 173 "SharedForks$Forks" "owners" "[I" "SharedForks",
  .methodLinkNest "SharedForks" 36 ⟨"SharedForks$Fold", "<init>", "()V"⟩ "SharedForks",
  .fieldLinkNest "SharedForks" 68 "SharedForks$Fold" "isKept" "Z" "SharedForks",
  .fieldLinkNest "SharedForks" 41 "SharedForks$Fold" "yes" "[Z" "SharedForks",
  .fieldLinkNest "SharedForks$Forks" 67 "SharedForks$Fold" "size" "I" "SharedForks",
  .fieldLinkNest "SharedForks" 93 "SharedForks$Fold" "size" "I" "SharedForks",
  .fieldLinkNest "SharedForks$Forks" 74 "SharedForks$Fold" "forkAt" "[I" "SharedForks",
  .fieldLinkNest "SharedForks" 158 "SharedForks$Fold" "forkAt" "[I" "SharedForks",
  .fieldLinkNest "SharedForks$Forks" 77 "SharedForks$Fold" "lowAt" "[I" "SharedForks",
  .fieldLinkNest "SharedForks" 164 "SharedForks$Fold" "lowAt" "[I" "SharedForks",
  .fieldLinkNest "SharedForks$Forks" 83 "SharedForks$Fold" "highAt" "[I" "SharedForks",
  .fieldLinkNest "SharedForks" 167 "SharedForks$Fold" "highAt" "[I" "SharedForks",
  .fieldLinkNest "SharedForks$Forks" 86 "SharedForks$Fold" "aheadAt" "[I" "SharedForks",
  .fieldLinkNest "SharedForks" 170 "SharedForks$Fold" "aheadAt" "[I" "SharedForks",
  .methodLinkNest "SharedForks" 113 ⟨"SharedForks$Forks", "startOver", "([I)V"⟩ "SharedForks",
  .methodLinkNest "SharedForks" 117 ⟨"SharedForks$Forks", "lay", "([Z)I"⟩ "SharedForks",
  .methodLinkNest "SharedForks" 144 ⟨"SharedForks$Forks", "putInRow", "(LSharedForks$Fold;I)V"⟩ "SharedForks"]
theorem cNest_in : ∀ w ∈ cNest, w ∈ lw_tbl := by decide +kernel
def cN (U : State) : Prop := ∀ w ∈ cNest, va_Nw w U
theorem cN.warm {s U : State} (hW : s.WarmedH U.vm) (h : cN s) : cN U := by
  intro w hw
  have h1 := h w hw
  simp only [cNest, List.mem_cons, List.not_mem_nil, or_false] at hw
  rcases hw with rfl | rfl | rfl | rfl | rfl | rfl | rfl | rfl | rfl | rfl | rfl | rfl | rfl | rfl | rfl | rfl | rfl | rfl | rfl | rfl <;> first | exact va_Nw.warmF hW h1 | exact va_Nw.warmM hW h1
theorem cN.same {u U : State} (hvm : u.vm = U.vm) (h : cN u) : cN U := by
  intro w hw
  have h1 := h w hw
  simp only [cNest, List.mem_cons, List.not_mem_nil, or_false] at hw
  rcases hw with rfl | rfl | rfl | rfl | rfl | rfl | rfl | rfl | rfl | rfl | rfl | rfl | rfl | rfl | rfl | rfl | rfl | rfl | rfl | rfl <;> exact va_Nw.same rfl hvm h1
theorem cN.of {A : Array Value} {U : State} (hts : ∀ w ∈ lw_tbl, w.before A U = true) : cN U := by
  intro w hw
  have h1 := hts w (cNest_in w hw)
  simp only [cNest, List.mem_cons, List.not_mem_nil, or_false] at hw
  rcases hw with rfl | rfl | rfl | rfl | rfl | rfl | rfl | rfl | rfl | rfl | rfl | rfl | rfl | rfl | rfl | rfl | rfl | rfl | rfl | rfl <;> exact va_Nw.of rfl h1
/-- a method's start -/
def cU (D : va_G) (I Z F : ClassId) (ad : Nat → Nat) (sz : Nat) (M : Nat → Nat → Int32) (U : State) : Prop := U.heap.size = sz ∧ cP D I Z F ad M U.heap ∧ va_K D vwCl (cT I Z F) U ∧ cN U
/-- where a walk stands: the cells, and what has been kept since the start -/
def cB9 (D : va_G) (I Z F : ClassId) (ad : Nat → Nat) (A : Nat → Prop) (H0 : Heap) (M : Nat → Nat → Int32) (H : Heap) (locs : List Loc) : Prop := cP D I Z F ad M H ∧ va_S A H0 H locs
theorem va_S.sub {A : Nat → Prop} {H0 H : Heap} {locs : List Loc} {ad : Nat → Nat} (h : va_S A H0 H locs) (hA : ∀ q, H0.size ≤ q → A q) (hD : cD ad A) : ∀ q, cA ad H.size q → A q := by
  rintro q (⟨k, hk, rfl⟩ | h2)
  · exact hD.2 k hk
  · exact hA q (Nat.le_trans h.1 h2)
