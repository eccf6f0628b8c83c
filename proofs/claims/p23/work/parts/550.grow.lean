/-! ===== how a row of the law's grows ===== -/
theorem r_D_st {o : Nat → Nat} (ho : b_O o) : ∀ (d : Nat), d ≤ 8 → ∀ (l : List (Nat → Bool)) (g : Nat → Bool), r_h o g (8 - d) → ∀ e : Nat, d ≤ e → r_D o e l g = r_D o d l g := by
  intro d
  induction d with
  | zero =>
    intro _ l g hg e _
    have hl : r_l g := by
      rcases hg.2 with h | ⟨p, hp, hq⟩
      · exact h
      · have := hp.1; omega
    rw [r_D_in (Or.inl hl), r_D_in (Or.inl hl)]
  | succ d ih =>
    intro hd l g hg e he
    obtain ⟨e1, rfl⟩ : ∃ e1, e = e1 + 1 := ⟨e - 1, by omega⟩
    by_cases c : r_l g ∨ g ∈ l
    · rw [r_D_in c, r_D_in c]
    · obtain ⟨p, hp, hq⟩ := hg.top (fun h => c (Or.inl h))
      have k0 := (r_h.kid ho hg.1 hp (b := 0) (by decide)).mono (q' := 8 - d) (by omega)
      have k1 := (r_h.kid ho hg.1 hp (b := 1) (by decide)).mono (q' := 8 - d) (by omega)
      rw [r_D_out (fun h => c (Or.inl h)) (fun h => c (Or.inr h)), r_D_out (fun h => c (Or.inl h)) (fun h => c (Or.inr h))]
      rw [ih (by omega) _ _ k0 e1 (by omega), ih (by omega) _ _ k1 e1 (by omega)]
theorem r_c.more {l l' : List (Nat → Bool)} {f : Nat → Bool} {x : Int32} (h : r_c l f x) (hp : ∃ t, l' = l ++ t) : r_c l' f x := by
  obtain ⟨t, rfl⟩ := hp
  rcases h with h | h | ⟨i, hi, e⟩
  · exact Or.inl h
  · exact Or.inr (Or.inl h)
  · exact Or.inr (Or.inr ⟨i, by rw [List.getElem?_append_left (get_lt hi)]; exact hi, e⟩)
/-- what the cell of a fork holds -/
def h_Xs (o : Nat → Nat) (l : List (Nat → Bool)) (g : Nat → Bool) (X : Nat → Int32) : Prop := X 0 = nI (t_q o g) ∧ r_c l (r_k o g 0) (X 1) ∧ r_c l (r_k o g 1) (X 2) ∧ X 3 = 99
theorem h_Xs.more {o : Nat → Nat} {l l' : List (Nat → Bool)} {g : Nat → Bool} {X : Nat → Int32} (h : h_Xs o l g X) (hp : ∃ t, l' = l ++ t) : h_Xs o l' g X := ⟨h.1, h.2.1.more hp, h.2.2.1.more hp, h.2.2.2⟩
/-- from one row to a longer one; the entries in Op aren't filled yet -/
def h_G (cs : Nat → ClassId) (o : Nat → Nat) (r sa ia : Nat) (Op : Nat → Prop) (C : hC) (S I : Nat → Option Nat) (l : List (Nat → Bool)) (u : hC) (S' I' : Nat → Option Nat) (l' : List (Nat → Bool)) : Prop :=
  h_R cs u r sa ia S' I' l' ∧ (∃ t, l' = l ++ t) ∧ (∀ i : Nat, i < l.length → S' i = S i ∧ I' i = I i) ∧ (∀ b : Nat, C b ≠ none → b ≠ r → b ≠ sa → b ≠ ia → u b = C b) ∧
  (∀ (i : Nat) (g : Nat → Bool), l.length ≤ i → l'[i]? = some g → ∃ (b : Nat) (X : Nat → Int32), I' i = some b ∧ C b = none ∧ u b = some (.inl (cs 0, 4, .inl X)) ∧ (¬ Op i → h_Xs o l' g X)) ∧
  ∀ i j : Nat, l.length ≤ i → i < l'.length → l.length ≤ j → j < l'.length → I' i = I' j → i = j
def h_on (C : hC) (r sa ia : Nat) : Prop := C r ≠ none ∧ C sa ≠ none ∧ C ia ≠ none
theorem h_R.on {cs : Nat → ClassId} {C : hC} {r sa ia : Nat} {S I : Nat → Option Nat} {l : List (Nat → Bool)} (h : h_R cs C r sa ia S I l) : h_on C r sa ia := ⟨fun e => (by rw [h.1] at e; cases e), fun e => (by rw [h.2.1] at e; cases e), fun e => (by rw [h.2.2.1] at e; cases e)⟩
theorem h_G.rf {cs : Nat → ClassId} {o : Nat → Nat} {r sa ia : Nat} {Op : Nat → Prop} {C : hC} {S I : Nat → Option Nat} {l : List (Nat → Bool)} (h : h_R cs C r sa ia S I l) : h_G cs o r sa ia Op C S I l C S I l := by
  refine ⟨h, ⟨[], (List.append_nil l).symm⟩, fun _ _ => ⟨rfl, rfl⟩, fun _ _ _ _ _ => rfl, fun i g hi hg => ?_, fun i j hi hi2 => by omega⟩
  have := get_lt hg
  omega
theorem h_on.out {C : hC} {r sa ia b : Nat} (h : h_on C r sa ia) (hb : C b = none) : b ≠ r ∧ b ≠ sa ∧ b ≠ ia := ⟨fun e => h.1 (e ▸ hb), fun e => h.2.1 (e ▸ hb), fun e => h.2.2 (e ▸ hb)⟩
theorem h_G.off {cs : Nat → ClassId} {o : Nat → Nat} {r sa ia : Nat} {Op : Nat → Prop} {C u : hC} {S I S' I' : Nat → Option Nat} {l l' : List (Nat → Bool)} (h : h_G cs o r sa ia Op C S I l u S' I' l') {b : Nat} (hb : u b = none) : C b = none := by
  cases hc : C b with
  | none => rfl
  | some x =>
    exfalso
    obtain ⟨n1, n2, n3⟩ := h.1.on.out hb
    rw [h.2.2.2.1 b (fun e => by rw [hc] at e; cases e) n1 n2 n3, hc] at hb
    cases hb
theorem h_G.tr {cs : Nat → ClassId} {o : Nat → Nat} {r sa ia : Nat} {Op : Nat → Prop} {C C1 C2 : hC} {S I S1 I1 S2 I2 : Nat → Option Nat} {l l1 l2 : List (Nat → Bool)} (hC : h_on C r sa ia) (h : h_G cs o r sa ia Op C S I l C1 S1 I1 l1) (h2 : h_G cs o r sa ia (fun _ => False) C1 S1 I1 l1 C2 S2 I2 l2) : h_G cs o r sa ia Op C S I l C2 S2 I2 l2 := by
  obtain ⟨hR, ⟨t, rfl⟩, hSI, hk, hE, hJ⟩ := id h
  obtain ⟨hR2, ⟨t2, rfl⟩, hSI2, hk2, hE2, hJ2⟩ := id h2
  have hlen : l.length ≤ (l ++ t).length := by rw [List.length_append]; omega
  have old : ∀ (i : Nat) (g : Nat → Bool), l.length ≤ i → i < (l ++ t).length → (l ++ t ++ t2)[i]? = some g → ∃ (b : Nat) (X : Nat → Int32), I1 i = some b ∧ C b = none ∧ C1 b = some (.inl (cs 0, 4, .inl X)) ∧ C2 b = some (.inl (cs 0, 4, .inl X)) ∧ (¬ Op i → h_Xs o (l ++ t) g X) := by
    intro i g h1 h2 h3
    rw [List.getElem?_append_left h2] at h3
    obtain ⟨b, X, e1, e2, e3, e4⟩ := hE i g h1 h3
    obtain ⟨n1, n2, n3⟩ := hC.out e2
    exact ⟨b, X, e1, e2, e3, by rw [hk2 b (fun e => by rw [e3] at e; cases e) n1 n2 n3]; exact e3, e4⟩
  refine ⟨hR2, ⟨t ++ t2, List.append_assoc l t t2⟩, fun i hi => ⟨(hSI2 i (by omega)).1.trans (hSI i hi).1, (hSI2 i (by omega)).2.trans (hSI i hi).2⟩, fun b hb n1 n2 n3 => ?_, fun i g hi hg => ?_, fun i j hi hi2 hj hj2 e => ?_⟩
  · have e := hk b hb n1 n2 n3
    rw [hk2 b (by rw [e]; exact hb) n1 n2 n3, e]
  · rcases Nat.lt_or_ge i (l ++ t).length with c | c
    · obtain ⟨b, X, e1, e2, e3, e4, e5⟩ := old i g hi c hg
      exact ⟨b, X, (hSI2 i c).2.trans e1, e2, e4, fun ho => (e5 ho).more ⟨t2, rfl⟩⟩
    · obtain ⟨b, X, e1, e2, e3, e4⟩ := hE2 i g c hg
      exact ⟨b, X, e1, h.off e2, e3, fun _ => e4 (fun h => h)⟩
  · have cross : ∀ i j : Nat, l.length ≤ i → i < (l ++ t).length → (l ++ t).length ≤ j → j < (l ++ t ++ t2).length → I2 i ≠ I2 j := by
      intro i j h1 h2 h3 h4 he
      obtain ⟨b, X, e1, e2, e3, -⟩ := old i _ h1 h2 (List.getElem?_eq_getElem (by rw [List.length_append]; omega))
      obtain ⟨b', X', f1, f2, -⟩ := hE2 j _ h3 (List.getElem?_eq_getElem h4)
      rw [(hSI2 i h2).2, e1, f1] at he
      rw [Option.some.inj he, f2] at e3
      cases e3
    rcases Nat.lt_or_ge i (l ++ t).length with c | c <;> rcases Nat.lt_or_ge j (l ++ t).length with c' | c'
    · exact hJ i j hi c hj c' (by rw [(hSI2 i c).2, (hSI2 j c').2] at e; exact e)
    · exact absurd e (cross i j hi c c' hj2)
    · exact absurd e.symm (cross j i hj c' c hi2)
    · exact hJ2 i j c hi2 c' hj2 e
/-- the cell of one entry is written -/
theorem h_G.put {cs : Nat → ClassId} {o : Nat → Nat} {r sa ia : Nat} {Op Op' : Nat → Prop} {C C1 : hC} {S I S1 I1 : Nat → Option Nat} {l l1 : List (Nat → Bool)} (hC : h_on C r sa ia) (h : h_G cs o r sa ia Op C S I l C1 S1 I1 l1) {i0 b0 : Nat} {g0 : Nat → Bool} (hi0 : l.length ≤ i0) (hg0 : l1[i0]? = some g0) (hb0 : I1 i0 = some b0) {X : Nat → Int32} (hop : ∀ i : Nat, i ≠ i0 → ¬ Op' i → ¬ Op i) (hX : ¬ Op' i0 → h_Xs o l1 g0 X) : h_G cs o r sa ia Op' C S I l (h_U C1 b0 (.inl (cs 0, 4, .inl X))) S1 I1 l1 := by
  obtain ⟨hR, hp, hSI, hk, hE, hJ⟩ := id h
  obtain ⟨b, X0, e1, e2, e3, -⟩ := hE i0 g0 hi0 hg0
  obtain rfl : b = b0 := Option.some.inj (e1.symm.trans hb0)
  obtain ⟨n1, n2, n3⟩ := hC.out e2
  obtain ⟨r1, r2, r3, r4, r5⟩ := hR
  refine ⟨⟨by rw [h_U_ne (Ne.symm n1)]; exact r1, by rw [h_U_ne (Ne.symm n2)]; exact r2, by rw [h_U_ne (Ne.symm n3)]; exact r3, r4, fun i g hi => ?_⟩, hp, hSI, fun a ha m1 m2 m3 => ?_, fun i g hi hg => ?_, hJ⟩
  · obtain ⟨a, F, f1, f2, f3⟩ := r5 i g hi
    refine ⟨a, F, f1, ?_, f3⟩
    rw [h_U_ne (fun e => by rw [e, e3] at f2; simp at f2)]
    exact f2
  · rw [h_U_ne (fun e : a = b => ha (by rw [e]; exact e2))]
    exact hk a ha m1 m2 m3
  · by_cases c : i = i0
    · subst c
      rw [hg0] at hg
      cases hg
      exact ⟨b, X, hb0, e2, h_U_at, hX⟩
    · obtain ⟨b', X', f1, f2, f3, f4⟩ := hE i g hi hg
      have hne : b' ≠ b := fun e => c (hJ i i0 hi (get_lt hg) hi0 (get_lt hg0) (by rw [f1, hb0, e]))
      exact ⟨b', X', f1, f2, by rw [h_U_ne hne]; exact f3, fun h9 => f4 (hop i c h9)⟩
/-- a fork more at the end, its cell made but not filled -/
theorem h_G.push {cs : Nat → ClassId} {o : Nat → Nat} {r sa ia : Nat} {C u : hC} {S I : Nat → Option Nat} {l : List (Nat → Bool)} (hR : h_R cs C r sa ia S I l) {f : Nat → Bool} {fa b0 : Nat} {F : Nat → Int64} (hfa : C fa = some (.inl (cs 1, 4, .inr (.inl F)))) (hf : j_S F f) (h80 : l.length < 80) {X : Nat → Int32} (hb : C b0 = none)
    (hr : u r = some (.inr (3, [.int (nI (l.length + 1)), .ref sa, .ref ia]))) (hs : u sa = some (.inl (cs 2, 80, .inr (.inr (.inr (.inr (va_up S l.length (some fa)))))))) (hi : u ia = some (.inl (cs 3, 80, .inr (.inr (.inr (.inr (va_up I l.length (some b0)))))))) (h0 : u b0 = some (.inl (cs 0, 4, .inl X))) (hk : ∀ b : Nat, C b ≠ none → b ≠ r → b ≠ sa → b ≠ ia → u b = C b) :
    h_G cs o r sa ia (fun i => i = l.length) C S I l u (va_up S l.length (some fa)) (va_up I l.length (some b0)) (l ++ [f]) := by
  obtain ⟨r1, r2, r3, r4, r5⟩ := id hR
  have hlen : (l ++ [f]).length = l.length + 1 := by rw [List.length_append]; rfl
  have hJn : ∀ (a : Nat) (F : Nat → Int64), C a = some (.inl (cs 1, 4, .inr (.inl F))) → u a = some (.inl (cs 1, 4, .inr (.inl F))) := fun a F ha => by
    rw [hk a (fun e => by rw [ha] at e; cases e) (fun e => by rw [e, r1] at ha; simp at ha) (fun e => by rw [e, r2] at ha; simp at ha) (fun e => by rw [e, r3] at ha; simp at ha)]
    exact ha
  refine ⟨⟨by rw [hlen]; exact hr, hs, hi, by rw [hlen]; omega, fun i g hg => ?_⟩, ⟨[f], rfl⟩, fun i hi => ⟨va_up_ne _ _ (by omega), va_up_ne _ _ (by omega)⟩, hk, fun i g h1 hg => ?_, fun i j h1 h2 h3 h4 _ => by rw [hlen] at h2 h4; omega⟩
  · rcases get_app hg with h | ⟨h1, h2⟩
    · obtain ⟨a, F9, f1, f2, f3⟩ := r5 i g h
      exact ⟨a, F9, by rw [va_up_ne _ _ (by have := get_lt h; omega)]; exact f1, hJn a F9 f2, f3⟩
    · subst h1; subst h2
      exact ⟨fa, F, va_up_self _ _ _, hJn fa F hfa, hf⟩
  · rcases get_app hg with h | ⟨h2, h3⟩
    · have := get_lt h; omega
    · exact ⟨b0, X, by rw [h2]; exact va_up_self _ _ _, hb, h0, fun h9 => absurd h2 h9⟩
