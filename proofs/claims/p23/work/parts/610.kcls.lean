/-! ===== the classes of the law's arrays ===== -/
theorem law_hK {A : Array Value} {s : State} {D : va_G} {I Z F : ClassId} (hts : ∀ w ∈ lw_tbl, w.before A s = true) (hK : va_K D vwCl (cT I Z F) s) : ∃ cs : Nat → ClassId, h_K D cs s := by
  obtain ⟨c1, k1, comp1, f1, g1, e1⟩ := Cond.arrayClass_spec (hts (.arrayClass .long) (by decide +kernel))
  obtain ⟨comp4, c4, k4, a1, -, a3, a4, a5⟩ := Cond.arrayOver_spec (hts (.arrayOver (.object "SharedForksLaw$Row")) (by decide +kernel))
  obtain ⟨comp2, c2, k2, b1, -, b3, b4, b5⟩ := arrayOverA_spec (hts (.arrayOver (.array .long)) (by decide +kernel))
  obtain ⟨comp3, c3, k3, d1, -, d3, d4, d5⟩ := arrayOverA_spec (hts (.arrayOver (.array .int)) (by decide +kernel))
  have eI : s.vm.findClass ("[" ++ FieldType.int.toString) = some I := (hK.2 0 _ rfl).2
  have h2 : (FieldType.array .long).toString = "[" ++ FieldType.long.toString := by decide +kernel
  have h3 : (FieldType.array .int).toString = "[" ++ FieldType.int.toString := by decide +kernel
  have e2 : comp2 = c1 := Option.some.inj (b1.symm.trans (by rw [h2]; exact f1))
  have e3 : comp3 = I := Option.some.inj (d1.symm.trans (by rw [h3]; exact eI))
  subst e2 e3
  refine ⟨fun i => match i with | 0 => comp3 | 1 => comp2 | 2 => c2 | 3 => c3 | _ => c4, ⟨hK.1, fun k q hq => ?_⟩, ⟨fun N z => ⟨(fun k h => by cases h), k2, b3, comp2, b4⟩, ⟨k2, b3, b4⟩, b5, b1⟩, ⟨fun N z => ⟨(fun k h => by cases h), k3, d3, comp3, d4⟩, ⟨k3, d3, d4⟩, d5, d1⟩⟩
  match k, hq with
  | 0, hq => cases hq; exact hK.2 0 _ rfl
  | 1, hq => cases hq; exact ⟨fun N z => ⟨(fun k h => by cases h), k1, g1, comp1, e1⟩, f1⟩
  | 2, hq => cases hq; exact ⟨fun N z => ⟨(fun k h => by cases h), k4, a3, comp4, a4⟩, k4, comp4, a3, a4, a1, a5⟩
  | k + 3, hq => simp [hTy] at hq
theorem law_hN {A : Array Value} {s : State} (hts : ∀ w ∈ lw_tbl, w.before A s = true) : h_N s := by
  refine ⟨fun w hw => ?_, hts (.arrayOver (.array .long)) (by decide +kernel), hts (.arrayOver (.array .int)) (by decide +kernel), va_AO.of (hts (.arrayOver (.object "SharedForksLaw$Row")) (by decide +kernel))⟩
  have h1 := hts w (hNest_in w hw)
  simp only [hNest, List.mem_cons, List.not_mem_nil, or_false] at hw
  rcases hw with rfl | rfl | rfl | rfl | rfl | rfl | rfl <;> exact va_Nw.of rfl h1
theorem fr_ex {M : Nat → Nat → Int32} (h : k_N M ≠ 12) : ∃ f : Nat, frOk M f := by
  have key : ∀ n : Nat, n ≤ 12 → (∃ f : Nat, f < n ∧ ¬ a_k M f ∧ ∀ g : Nat, g < f → a_k M g) ∨ ∀ k : Nat, k < n → a_k M k := by
    intro n
    induction n with
    | zero => intro _; exact Or.inr (fun k hk => absurd hk (Nat.not_lt_zero _))
    | succ n ih =>
      intro hn
      rcases ih (by omega) with ⟨f, h1, h2⟩ | h1
      · exact Or.inl ⟨f, by omega, h2⟩
      · by_cases c : a_k M n
        · exact Or.inr (fun k hk => by
            by_cases e : k = n
            · rw [e]; exact c
            · exact h1 k (by omega))
        · exact Or.inl ⟨n, by omega, c, h1⟩
  rcases key 12 (Nat.le_refl _) with ⟨f, h1, h2, h3⟩ | h1
  · exact ⟨f, h1, Classical.not_not.mp h2, h3⟩
  · exact absurd (k_N_all h1) h
