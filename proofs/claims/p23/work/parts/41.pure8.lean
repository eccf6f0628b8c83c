/-! ===== making the cells ===== -/
theorem va_K_one {D : va_G} {cl : List vw_C} {tys : List (ClassId × FieldType)} {U : State} (h : va_K D cl tys U) (i j : Nat) {a b : ClassId} {ty : FieldType} (hi : tys[i]? = some (a, ty)) (hj : tys[j]? = some (b, ty)) (ho : ∀ C, ty ≠ .object C) : a = b := by
  have h1 := (h.2 i _ hi).2
  have h2 := (h.2 j _ hj).2
  cases ty with
  | object C => exact absurd rfl (ho C)
  | _ => exact Option.some.inj (h1.symm.trans h2)
/-- a world in two parts, the second one a callee's -/
theorem va_fr {A0 : Nat → Prop} {D : va_G} {cl : List vw_C} {w1 w2 w3 : va_W} {H H1 : Heap} (hP : va_P D cl (w1 ++ w2) H) (hD : va_D A0 (w1 ++ w2)) (hk : ∀ q : Nat, q < H.size → ¬ va_A w2 H.size q → H1[q]? = H[q]?) (hF : ∀ q, va_A w2 H.size q → A0 q) (hP1 : va_P D cl w3 H1) (hD1 : va_D (va_A w2 H.size) w3) : va_P D cl (w1 ++ w3) H1 ∧ va_D A0 (w1 ++ w3) := by
  have left : ∀ (k : Nat) (q : Nat × va_E), w1[k]? = some q → (w1 ++ w2)[k]? = some q := fun k q hq => by
    rw [List.getElem?_append_left (List.getElem?_eq_some_iff.mp hq).1]; exact hq
  have apart : ∀ (k : Nat) (q : Nat × va_E), w1[k]? = some q → q.1 < H.size ∧ ¬ va_A w2 H.size q.1 := by
    intro k q hq
    have hl := (hP k q (left k q hq)).lt
    refine ⟨hl, fun h => ?_⟩
    rcases h with ⟨j, e, h⟩ | h
    · have h3 : (w1 ++ w2)[w1.length + j]? = some (q.1, e) := by
        rw [List.getElem?_append_right (by omega), Nat.add_sub_cancel_left]; exact h
      have := hD.1 k (w1.length + j) q (q.1, e) (left k q hq) h3 rfl
      have := (List.getElem?_eq_some_iff.mp hq).1
      omega
    · omega
  have hD0 : va_D A0 w1 := ⟨fun i j x y hx hy hxy => hD.1 i j x y (left i x hx) (left j y hy) hxy, fun k q hq => hD.2 k q (left k q hq)⟩
  refine ⟨va_P.app (fun k q hq => ?_) hP1, va_D.app hD0 (hD1.weaken (fun k q _ h => hF q.1 h)) (fun i j x y hx hy hxy => ?_)⟩
  · obtain ⟨g1, g2⟩ := apart k q hq
    exact (hP k q (left k q hq)).kept (hk q.1 g1 g2)
  · exact (apart i x hx).2 (by rw [hxy]; exact hD1.2 j y hy)
/-- the cells of Forks, new -/
def fkCells (I : ClassId) (h0 : Nat) (q : Nat → Nat) : va_W := [(h0, .inr (1, [.int 0, .ref (q 1), .ref (q 2), .ref (q 3), .ref (q 4), .ref (q 5), .ref (q 6), .ref (q 7), .ref (q 8), .ref (q 9)])), (q 1, .inl (I, 626, .inl (fun _ => 0))), (q 2, .inl (I, 626, .inl (fun _ => 0))), (q 3, .inl (I, 626, .inl (fun _ => 0))), (q 4, .inl (I, 626, .inl (fun _ => 0))), (q 5, .inl (I, 1024, .inl (fun _ => 0))), (q 6, .inl (I, 8, .inl (fun _ => 0))), (q 7, .inl (I, 256, .inl (fun _ => 0))), (q 8, .inl (I, 256, .inl (fun _ => 0))), (q 9, .inl (I, 626, .inl (fun _ => 0)))]
/-- the cells of a Fold, new -/
def fdCells (I Z : ClassId) (h0 : Nat) (q : Nat → Nat) : va_W := [(h0, .inr (0, [.int 0, .ref (q 1), .int 0, .ref (q 2), .ref (q 3), .ref (q 4), .ref (q 5)])), (q 1, .inl (Z, 256, .inl (fun _ => 0))), (q 2, .inl (I, 77, .inl (fun _ => 0))), (q 3, .inl (I, 77, .inl (fun _ => 0))), (q 4, .inl (I, 77, .inl (fun _ => 0))), (q 5, .inl (I, 77, .inl (fun _ => 0)))]
