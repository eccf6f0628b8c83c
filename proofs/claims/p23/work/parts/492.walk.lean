/-! ===== the walk through a fold's forks ===== -/
/-- the row so far: l are its forks, A how far they are -/
def w_S (M : Nat → Nat → Int32) (g b n : Nat) (tb : Nat → Nat → Bool) (l : List (Nat → Bool)) (A : (Nat → Bool) → Nat) : Prop := M b 2 = nI l.length ∧ l.length ≤ 77 ∧ (∀ (i : Nat) (f : Nat → Bool), l[i]? = some f → ∃ k : Nat, k < n ∧ M (b + 2) i = nI k ∧ tb k = f) ∧ (∀ k : Nat, k < n → (∃ i : Nat, l[i]? = some (tb k) ∧ M (g + 9) k = nI i) ∨ (tb k ∉ l ∧ M (g + 9) k < 0)) ∧ (∀ (i : Nat) (f : Nat → Bool), l[i]? = some f → M (b + 5) i = nI (A f) ∧ A f ≤ 7) ∧ ∀ f : Nat → Bool, f ∉ l → A f = 99
theorem r_u_at {A : (Nat → Bool) → Nat} {f : Nat → Bool} {x : Nat} : r_u A f x f = x := cIf_pos rfl
theorem r_u_ne {A : (Nat → Bool) → Nat} {f g : Nat → Bool} {x : Nat} (h : g ≠ f) : r_u A f x g = A g := cIf_neg h
theorem get_lt {α : Type} {l : List α} {i : Nat} {x : α} (h : l[i]? = some x) : i < l.length := (List.getElem?_eq_some_iff.mp h).1
theorem get_mem {α : Type} {l : List α} {i : Nat} {x : α} (h : l[i]? = some x) : x ∈ l := List.mem_of_getElem? h
theorem get_app {α : Type} {l : List α} {i : Nat} {x y : α} (h : (l ++ [y])[i]? = some x) : l[i]? = some x ∨ (i = l.length ∧ x = y) := by
  rcases Nat.lt_or_ge i l.length with c | c
  · rw [List.getElem?_append_left c] at h; exact Or.inl h
  · rw [List.getElem?_append_right c] at h
    have h1 := get_lt h
    rw [List.length_singleton] at h1
    have h2 : i = l.length := by omega
    subst h2
    rw [Nat.sub_self] at h
    exact Or.inr ⟨rfl, (Option.some.inj h).symm⟩
theorem app_get {α : Type} {l : List α} {i : Nat} {x y : α} (h : l[i]? = some x) : (l ++ [y])[i]? = some x := by rw [List.getElem?_append_left (get_lt h)]; exact h
theorem app_last {α : Type} {l : List α} {y : α} : (l ++ [y])[l.length]? = some y := by rw [List.getElem?_append_right (Nat.le_refl _), Nat.sub_self]; rfl
theorem nI_le_of {a b : Nat} (ha : a ≤ 626) (hb : b ≤ 626) : nI a ≤ nI b ↔ a ≤ b := by
  constructor
  · intro h
    rcases Nat.lt_or_ge b a with c | c
    · exact absurd h (nI_ge c (by omega))
    · exact c
  · intro h; exact nI_le h (by omega)
/-- how far a fork is: set anew -/
theorem w_S.far {M : Nat → Nat → Int32} {g b n : Nat} {tb : Nat → Nat → Bool} {l : List (Nat → Bool)} {A : (Nat → Bool) → Nat} (hgb : g + 9 < b) (h : w_S M g b n tb l A) {i : Nat} {f : Nat → Bool} (hnd : l.Nodup) (hi : l[i]? = some f) {x : Nat} (hx : x ≤ 7) : w_S (mst M (b + 5) i (nI x)) g b n tb l (r_u A f x) := by
  obtain ⟨h1, h2, h3, h4, h5, h6⟩ := h
  refine ⟨by rw [mst_ne (by omega)]; exact h1, h2, fun j f' hj => by rw [mst_ne (by omega)]; exact h3 j f' hj, fun k hk => by rw [mst_ne (by omega)]; exact h4 k hk, fun j f' hj => ?_, fun f' hf' => ?_⟩
  · rw [mst_same, upd_at]
    by_cases c : j = i
    · subst c
      rw [hi] at hj
      cases hj
      rw [if_pos rfl, r_u_at]
      exact ⟨rfl, hx⟩
    · have hne : f' ≠ f := fun e => by
        rw [e, ← hi] at hj
        exact c ((List.getElem?_inj (get_lt (hj.trans hi)) hnd).mp hj)
      rw [if_neg c, r_u_ne hne]
      exact h5 j f' hj
  · rw [r_u_ne (fun e : f' = f => hf' (by rw [e]; exact get_mem hi))]
    exact h6 f' hf'
/-- a fork is put behind the others -/
theorem w_S.push {M : Nat → Nat → Int32} {g b n : Nat} {tb : Nat → Nat → Bool} {l : List (Nat → Bool)} {A : (Nat → Bool) → Nat} (hgb : g + 9 < b) (hn : n ≤ 626) (h : w_S M g b n tb l A) {k : Nat} (hk : k < n) (hinj : ∀ i j : Nat, i < n → j < n → tb i = tb j → i = j) (hnew : tb k ∉ l) (h77 : l.length < 77) {x : Nat} (hx : x ≤ 7) : w_S (mst (plM M g b l.length k) (b + 5) l.length (nI x)) g b n tb (l ++ [tb k]) (r_u A (tb k) x) := by
  obtain ⟨h1, h2, h3, h4, h5, h6⟩ := h
  have e2 : mst (plM M g b l.length k) (b + 5) l.length (nI x) (b + 2) = upd (M (b + 2)) l.length (nI k) := by unfold plM; rw [mst_ne (by omega), mst_ne (by omega), mst_same, mst_ne (by omega)]
  have e9 : mst (plM M g b l.length k) (b + 5) l.length (nI x) (g + 9) = upd (M (g + 9)) k (nI l.length) := by unfold plM; rw [mst_ne (by omega), mst_same, mst_ne (by omega), mst_ne (by omega)]
  have e5 : mst (plM M g b l.length k) (b + 5) l.length (nI x) (b + 5) = upd (M (b + 5)) l.length (nI x) := by unfold plM; rw [mst_same, mst_ne (by omega), mst_ne (by omega), mst_ne (by omega)]
  refine ⟨?_, by rw [List.length_append, List.length_singleton]; omega, fun i f hi => ?_, fun j hj => ?_, fun i f hi => ?_, fun f hf => ?_⟩
  · unfold plM; rw [mst_ne (by omega), mst_ne (by omega), mst_ne (by omega), mst_same, pk_us, List.length_append, List.length_singleton]
  · rw [e2, upd_at]
    rcases get_app hi with c | ⟨c, c2⟩
    · rw [if_neg (by have := get_lt c; omega)]; exact h3 i f c
    · rw [if_pos c]; exact ⟨k, hk, rfl, c2.symm⟩
  · rw [e9, upd_at]
    by_cases c : j = k
    · subst c
      rw [if_pos rfl]
      exact Or.inl ⟨l.length, app_last, rfl⟩
    · rw [if_neg c]
      rcases h4 j hj with ⟨i, h7, h8⟩ | ⟨h7, h8⟩
      · exact Or.inl ⟨i, app_get h7, h8⟩
      · refine Or.inr ⟨fun hm => ?_, h8⟩
        rcases List.mem_append.mp hm with hm | hm
        · exact h7 hm
        · rw [List.mem_singleton] at hm
          exact c (hinj j k hj hk hm)
  · rw [e5, upd_at]
    rcases get_app hi with c | ⟨c, c2⟩
    · have hne : f ≠ tb k := fun e => hnew (e ▸ get_mem c)
      rw [if_neg (by have := get_lt c; omega), r_u_ne hne]; exact h5 i f c
    · rw [if_pos c, c2, r_u_at]; exact ⟨rfl, hx⟩
  · have hne : f ≠ tb k := fun e => hf (List.mem_append_right _ (List.mem_singleton.mpr e))
    rw [r_u_ne hne]
    exact h6 f (fun hm => hf (List.mem_append_left _ hm))
theorem w_walk {g b : Nat} (hgb : g + 9 < b) {o : Nat → Nat} (ho : b_O o) {n : Nat} {tb : Nat → Nat → Bool} {pl : Nat → Nat} : ∀ d : Nat, d ≤ 8 → ∀ (M : Nat → Nat → Int32) (l : List (Nat → Bool)) (A : (Nat → Bool) → Nat) (f : Nat → Bool) (x : Int32) (q : Nat), t_M M g o n tb pl → w_S M g b n tb l A → l.Nodup → t_c n tb f x → r_h o f q → 8 - d ≤ q → r_C o q l → (r_D o d l f).length ≤ 77 → w_S (wkF g b d M x) g b n tb (r_D o d l f) (r_Z o d A f) := by
  intro d
  induction d with
  | zero => intro _ M l A f x q hM hS _ _ _ _ _ _; exact hS
  | succ d ih =>
    intro hd M l A f x q hM hS hnd hc hh hq hC h77
    obtain ⟨h626, h0, hT, hN, -⟩ := id hM
    rw [wkF]
    by_cases hl : r_l f
    · have hx : x < 0 := by
        rcases hc with ⟨-, e⟩ | ⟨-, e⟩ | ⟨k, hk, e, -⟩
        · rw [e]; decide
        · rw [e]; decide
        · exact absurd hl (by rw [← e]; exact (hT.1 k hk).2.nl ho)
      rw [if_pos hx, r_D_in (Or.inl hl), r_Z, cIf_pos (Or.inl hl)]
      exact hS
    · obtain ⟨k, hk, ek, ex⟩ : ∃ k : Nat, k < n ∧ tb k = f ∧ x = nI k := by
        rcases hc with ⟨e, -⟩ | ⟨e, -⟩ | h
        · exact absurd (Or.inl e) hl
        · exact absurd (Or.inr e) hl
        · exact h
      subst ek
      subst ex
      obtain ⟨hSk, hA⟩ := hT.1 k hk
      obtain ⟨p, hp, hqp⟩ := hh.top hl
      have hpk : pl k = p := hA.uniq hp
      obtain ⟨-, hc0, hc1⟩ := hN k hk
      rw [hpk, ← r_k_eq hp] at hc0 hc1
      have k0 := r_h.kid ho hSk hp (b := 0) (by decide)
      have k1 := r_h.kid ho hSk hp (b := 1) (by decide)
      rw [if_neg (nI_nn (by omega)), if_neg (by rw [h0]; exact fun h => nI_ge hk (by omega) h), nI_clamp (by omega)]
      rcases hS.2.2.2.1 k hk with ⟨i, hi, e9⟩ | ⟨hnew, e9⟩
      · obtain ⟨e5, e7⟩ := hS.2.2.2.2.1 i (tb k) hi
        have hil : i < 77 := Nat.lt_of_lt_of_le (get_lt hi) hS.2.1
        rw [if_neg (by rw [e9]; exact nI_nn (by omega)), e9, nI_clamp (by omega), e5, r_D_in (Or.inr (get_mem hi))]
        by_cases c : A (tb k) ≤ 7 - d
        · rw [if_pos ((nI_le_of (by omega) (by omega)).mpr c), r_Z, cIf_pos (Or.inr c)]
          exact hS
        · rw [if_neg (fun h => c ((nI_le_of (by omega) (by omega)).mp h)), r_Z, cIf_neg (fun h => h.elim hl c)]
          have hS1 := hS.far hgb hnd hi (x := 7 - d) (by omega)
          have hM1 : t_M (mst M (b + 5) i (nI (7 - d))) g o n tb pl := hM.row (mst_ne (by omega)) (mst_ne (by omega)) (mst_ne (by omega)) (mst_ne (by omega)) (mst_ne (by omega))
          have in0 := hC _ (get_mem hi) p hp hqp 0 (by decide)
          have in1 := hC _ (get_mem hi) p hp hqp 1 (by decide)
          have g2 : mst M (b + 5) i (nI (7 - d)) (g + 2) k = M (g + 2) k := by rw [mst_ne (by omega)]
          rw [g2]
          have r0 := ih (by omega) _ l (r_u A (tb k) (7 - d)) (r_k o (tb k) 0) (M (g + 2) k) (p + 1) hM1 hS1 hnd hc0 k0 (by omega) (hC.mono (by omega)) (by rw [r_D_in in0]; exact hS.2.1)
          rw [r_D_in in0] at r0
          have g3 : wkF g b d (mst M (b + 5) i (nI (7 - d))) (M (g + 2) k) (g + 3) k = M (g + 3) k := by rw [wkF_row (by omega) (by omega) (by omega) (by omega), mst_ne (by omega)]
          rw [g3]
          have hM2 : t_M (wkF g b d (mst M (b + 5) i (nI (7 - d))) (M (g + 2) k)) g o n tb pl := hM1.row (wkF_row (by omega) (by omega) (by omega) (by omega) _ _ _) (wkF_row (by omega) (by omega) (by omega) (by omega) _ _ _) (wkF_row (by omega) (by omega) (by omega) (by omega) _ _ _) (wkF_row (by omega) (by omega) (by omega) (by omega) _ _ _) (wkF_row (by omega) (by omega) (by omega) (by omega) _ _ _)
          have r1 := ih (by omega) _ l _ (r_k o (tb k) 1) (M (g + 3) k) (p + 1) hM2 r0 hnd hc1 k1 (by omega) (hC.mono (by omega)) (by rw [r_D_in in1]; exact hS.2.1)
          rw [r_D_in in1] at r1
          exact r1
      · rw [r_D_out hl hnew] at h77 ⊢
        have hlen : (l ++ [tb k]).length ≤ 77 := Nat.le_trans r_D_len (Nat.le_trans r_D_len h77)
        rw [List.length_append, List.length_singleton] at hlen
        have c : ¬ A (tb k) ≤ 7 - d := by rw [hS.2.2.2.2.2 _ hnew]; omega
        rw [if_pos e9, if_neg (by rw [hS.1]; exact fun h => absurd ((nI_le_of (a := 77) (by omega) (by omega)).mp h) (by omega)), hS.1, nI_clamp (by omega), r_Z, cIf_neg (fun h => h.elim hl c)]
        have hS1 := hS.push hgb h626 hk hT.2 hnew (by omega) (x := 7 - d) (by omega)
        have hM1 : t_M (mst (plM M g b l.length k) (b + 5) l.length (nI (7 - d))) g o n tb pl := by
          unfold plM
          exact hM.row (by rw [mst_ne (by omega), mst_ne (by omega), mst_ne (by omega), mst_ne (by omega)]) (by rw [mst_ne (by omega), mst_ne (by omega), mst_ne (by omega), mst_ne (by omega)]) (by rw [mst_ne (by omega), mst_ne (by omega), mst_ne (by omega), mst_ne (by omega)]) (by rw [mst_ne (by omega), mst_ne (by omega), mst_ne (by omega), mst_ne (by omega)]) (by rw [mst_ne (by omega), mst_ne (by omega), mst_ne (by omega), mst_ne (by omega)])
        have hnd1 : (l ++ [tb k]).Nodup := List.nodup_append.mpr ⟨hnd, List.nodup_cons.mpr ⟨List.not_mem_nil, List.nodup_nil⟩, fun a ha b hb e => by
          rw [List.mem_singleton] at hb
          exact hnew (by rw [← hb, ← e]; exact ha)⟩
        have hC1 : r_C o (p + 1) (l ++ [tb k]) := by
          intro g' hg' p' hp' hq' b' hb'
          rcases List.mem_append.mp hg' with h1 | h1
          · rcases hC g' h1 p' hp' (by omega) b' hb' with h2 | h2
            · exact Or.inl h2
            · exact Or.inr (List.mem_append_left _ h2)
          · rw [List.mem_singleton] at h1
            rw [h1] at hp'
            have := hp.uniq hp'
            omega
        have g2 : mst (plM M g b l.length k) (b + 5) l.length (nI (7 - d)) (g + 2) k = M (g + 2) k := by unfold plM; rw [mst_ne (by omega), mst_ne (by omega), mst_ne (by omega), mst_ne (by omega)]
        rw [g2]
        have r0 := ih (by omega) _ _ (r_u A (tb k) (7 - d)) (r_k o (tb k) 0) (M (g + 2) k) (p + 1) hM1 hS1 hnd1 hc0 k0 (by omega) hC1 (Nat.le_trans r_D_len h77)
        have g3 : wkF g b d (mst (plM M g b l.length k) (b + 5) l.length (nI (7 - d))) (M (g + 2) k) (g + 3) k = M (g + 3) k := by rw [wkF_row (by omega) (by omega) (by omega) (by omega)]; unfold plM; rw [mst_ne (by omega), mst_ne (by omega), mst_ne (by omega), mst_ne (by omega)]
        rw [g3]
        have hM2 : t_M (wkF g b d (mst (plM M g b l.length k) (b + 5) l.length (nI (7 - d))) (M (g + 2) k)) g o n tb pl := hM1.row (wkF_row (by omega) (by omega) (by omega) (by omega) _ _ _) (wkF_row (by omega) (by omega) (by omega) (by omega) _ _ _) (wkF_row (by omega) (by omega) (by omega) (by omega) _ _ _) (wkF_row (by omega) (by omega) (by omega) (by omega) _ _ _) (wkF_row (by omega) (by omega) (by omega) (by omega) _ _ _)
        exact ih (by omega) _ _ _ (r_k o (tb k) 1) (M (g + 3) k) (p + 1) hM2 r0 (r_D_nd d _ _ hnd1) hc1 k1 (by omega) (r_C_D ho d (by omega) _ _ _ (k0.mono (by omega)) hC1) h77
/-! ===== the row, with its parts ===== -/
/-- the place of a function in a row, or the leaf -/
def r_c (l : List (Nat → Bool)) (f : Nat → Bool) (x : Int32) : Prop := (f = b_0 ∧ x = -1) ∨ (f = b_1 ∧ x = -2) ∨ ∃ i : Nat, l[i]? = some f ∧ x = nI i
noncomputable def r_A (o : Nat → Nat) (f : Nat → Bool) : (Nat → Bool) → Nat := r_Z o 8 (fun _ => 99) f
/-- what a fold's row holds -/
def w_R (M : Nat → Nat → Int32) (b : Nat) (o : Nat → Nat) (n : Nat) (tb : Nat → Nat → Bool) (f : Nat → Bool) : Prop := M b 2 = nI (r_R o f).length ∧ ∀ (i : Nat) (g : Nat → Bool), (r_R o f)[i]? = some g → (∃ k : Nat, k < n ∧ M (b + 2) i = nI k ∧ tb k = g) ∧ r_c (r_R o f) (r_k o g 0) (M (b + 3) i) ∧ r_c (r_R o f) (r_k o g 1) (M (b + 4) i) ∧ M (b + 5) i = nI (r_A o f g) ∧ r_A o f g ≤ 7
theorem w_pol {M : Nat → Nat → Int32} {g b n : Nat} {o : Nat → Nat} (ho : b_O o) (hn : n ≤ 626) {tb : Nat → Nat → Bool} {pl : Nat → Nat} (hT : tt_T o n tb pl) {l : List (Nat → Bool)} {A : (Nat → Bool) → Nat} (hS : w_S M g b n tb l A) {f : Nat → Bool} {x : Int32} (hc : t_c n tb f x) (hl : r_l f ∨ f ∈ l) : r_c l f (polF M g x) := by
  unfold polF
  rcases hc with ⟨e, ex⟩ | ⟨e, ex⟩ | ⟨k, hk, e, ex⟩
  · rw [if_pos (by rw [ex]; decide)]; exact Or.inl ⟨e, ex⟩
  · rw [if_pos (by rw [ex]; decide)]; exact Or.inr (Or.inl ⟨e, ex⟩)
  · rw [if_neg (by rw [ex]; exact nI_nn (by omega)), ex, nI_clamp (by omega)]
    subst e
    rcases hS.2.2.2.1 k hk with ⟨i, h1, h2⟩ | ⟨h1, h2⟩
    · exact Or.inr (Or.inr ⟨i, h1, h2⟩)
    · rcases hl with h3 | h3
      · exact absurd h3 ((hT.1 k hk).2.nl ho)
      · exact absurd h3 h1
theorem polF_row {M M' : Nat → Nat → Int32} {g : Nat} {x : Int32} (h : M' (g + 9) = M (g + 9)) : polF M' g x = polF M g x := by unfold polF; rw [h]
/-- the parts and the owners, the first i of the row -/
theorem w_prL {M : Nat → Nat → Int32} {g b n : Nat} (hgb : g + 9 < b) {o : Nat → Nat} (ho : b_O o) {tb : Nat → Nat → Bool} {pl : Nat → Nat} (hM : t_M M g o n tb pl) {l : List (Nat → Bool)} {A : (Nat → Bool) → Nat} (hnd : l.Nodup) (hS : w_S M g b n tb l A) (hcl : ∀ h ∈ l, ∀ p : Nat, b_A o h p → ∀ c : Nat, c < 2 → r_l (r_k o h c) ∨ r_k o h c ∈ l) : ∀ i : Nat, i ≤ l.length → (∀ (j : Nat) (f : Nat → Bool), j < i → l[j]? = some f → r_c l (r_k o f 0) (prL M g b i (b + 3) j) ∧ r_c l (r_k o f 1) (prL M g b i (b + 4) j)) ∧ ∀ k : Nat, k < n → prL M g b i (g + 4) k = M (g + 4) k + cIf (∃ j : Nat, j < i ∧ l[j]? = some (tb k)) 1 0 := by
  obtain ⟨h626, h0, hT, hN, -⟩ := id hM
  intro i
  induction i with
  | zero =>
    intro _
    refine ⟨fun j f h => absurd h (Nat.not_lt_zero _), fun k hk => ?_⟩
    rw [cIf_neg (fun ⟨j, h, _⟩ => absurd h (Nat.not_lt_zero _))]
    exact (Int32.add_zero _).symm
  | succ i ih =>
    intro hi
    obtain ⟨ih1, ih2⟩ := ih (by omega)
    obtain ⟨f, hf⟩ : ∃ f, l[i]? = some f := ⟨l[i], List.getElem?_eq_getElem (by omega)⟩
    obtain ⟨k, hk, ek, etb⟩ := hS.2.2.1 i f hf
    have e2 : (prL M g b i (b + 2) i).toNatClampNeg = k := by rw [prL_row (by omega) (by omega) (by omega), ek, nI_clamp (by omega)]
    obtain ⟨-, hA⟩ := hT.1 k hk
    obtain ⟨-, hc0, hc1⟩ := hN k hk
    rw [etb] at hA hc0 hc1
    rw [← r_k_eq hA] at hc0 hc1
    have c0 := w_pol ho h626 hT hS hc0 (hcl f (get_mem hf) _ hA 0 (by decide))
    have c1 := w_pol ho h626 hT hS hc1 (hcl f (get_mem hf) _ hA 1 (by decide))
    have e3 : prL M g b (i + 1) (b + 3) = upd (prL M g b i (b + 3)) i (polF M g (M (g + 2) k)) := by
      rw [prL, e2, prC, mst_ne (by omega), prB, mst_same, prA, mst_ne (by omega), mst_ne (by omega), prL_row (i := g + 2) (by omega) (by omega) (by omega)]
      congr 1
      exact polF_row (by rw [mst_ne (by omega), prL_row (by omega) (by omega) (by omega)])
    have e4 : prL M g b (i + 1) (b + 4) = upd (prL M g b i (b + 4)) i (polF M g (M (g + 3) k)) := by
      rw [prL, e2, prC, mst_same, prB, mst_ne (by omega), mst_ne (by omega), prA, mst_ne (by omega), mst_ne (by omega), mst_ne (by omega), prL_row (i := g + 3) (by omega) (by omega) (by omega)]
      congr 1
      exact polF_row (by rw [mst_ne (by omega), mst_ne (by omega), prL_row (by omega) (by omega) (by omega)])
    have e7 : prL M g b (i + 1) (g + 4) = upd (prL M g b i (g + 4)) k (prL M g b i (g + 4) k + 1) := by
      rw [prL, e2, prC, mst_ne (by omega), prB, mst_ne (by omega), prA, mst_same]
    refine ⟨fun j f' hj hj' => ?_, fun k' hk' => ?_⟩
    · rw [e3, e4, upd_at, upd_at]
      by_cases c : j = i
      · subst c
        rw [hf] at hj'
        cases hj'
        rw [if_pos rfl, if_pos rfl]
        exact ⟨c0, c1⟩
      · rw [if_neg c, if_neg c]
        exact ih1 j f' (by omega) hj'
    · rw [e7, upd_at]
      by_cases c : k' = k
      · subst c
        rw [if_pos rfl, ih2 k' hk', cIf_neg, cIf_pos ⟨i, by omega, by rw [hf, etb]⟩, Int32.add_zero]
        rintro ⟨j, hj, ej⟩
        have := (List.getElem?_inj (show j < l.length by omega) hnd).mp (ej.trans ((congrArg some etb).trans hf.symm))
        omega
      · rw [if_neg c, ih2 k' hk']
        congr 1
        by_cases c2 : ∃ j : Nat, j < i ∧ l[j]? = some (tb k')
        · obtain ⟨j, hj, ej⟩ := id c2
          rw [cIf_pos c2, cIf_pos ⟨j, by omega, ej⟩]
        · rw [cIf_neg c2, cIf_neg]
          rintro ⟨j, hj, ej⟩
          by_cases c3 : j = i
          · rw [c3, hf] at ej
            exact c (hT.2 k' k hk' hk (by rw [etb]; exact (Option.some.inj ej).symm))
          · exact c2 ⟨j, by omega, ej⟩
/-- a fold's row is written -/
theorem w_put {M : Nat → Nat → Int32} {g b n : Nat} (hgb : g + 9 < b) {o : Nat → Nat} (ho : b_O o) {tb : Nat → Nat → Bool} {pl : Nat → Nat} (hM : t_M M g o n tb pl) {f : Nat → Bool} (hf : b_S f) {x : Int32} (hc : t_c n tb f x) : t_M (prF M g b x) g o n tb pl ∧ w_R (prF M g b x) b o n tb f ∧ ∀ k : Nat, k < n → prF M g b x (g + 4) k = M (g + 4) k + cIf (tb k ∈ r_R o f) 1 0 := by
  have hM2 : t_M (pr2 M g b) g o n tb pl := hM.row (pr2_row (by omega) (by omega)) (pr2_row (by omega) (by omega)) (pr2_row (by omega) (by omega)) (pr2_row (by omega) (by omega)) (pr2_row (by omega) (by omega))
  have hS2 : w_S (pr2 M g b) g b n tb [] (fun _ => 99) := by
    refine ⟨?_, Nat.zero_le _, (fun i f h => by rw [List.getElem?_nil] at h; cases h), fun k hk => Or.inr ⟨List.not_mem_nil, ?_⟩, (fun i f h => by rw [List.getElem?_nil] at h; cases h), fun _ _ => rfl⟩
    · rw [pr2, mrow_ne (by omega), pr1, mst_same, pk_us]; rfl
    · rw [pr2, mrow_same, flF, if_pos (by have := hM.1; omega)]; decide
  have hS3 := w_walk hgb ho 8 (Nat.le_refl _) (pr2 M g b) [] (fun _ => 99) f x 0 hM2 hS2 List.nodup_nil hc (r_h.all ho hf) (by omega) (fun g hg => absurd hg List.not_mem_nil) (r_R_77 ho hf)
  have hM3 : t_M (pr3 M g b x) g o n tb pl := hM.row (pr3_row (by omega) (by omega) (by omega) (by omega)) (pr3_row (by omega) (by omega) (by omega) (by omega)) (pr3_row (by omega) (by omega) (by omega) (by omega)) (pr3_row (by omega) (by omega) (by omega) (by omega)) (pr3_row (by omega) (by omega) (by omega) (by omega))
  have hS3' : w_S (pr3 M g b x) g b n tb (r_R o f) (r_A o f) := hS3
  have hz : (pr3 M g b x b 2).toNatClampNeg = (r_R o f).length := by rw [hS3'.1, nI_clamp (by have := r_R_77 ho hf; omega)]
  obtain ⟨h1, h2⟩ := w_prL hgb ho hM3 (r_R_nd o f) hS3' (r_R_cl ho hf) (r_R o f).length (Nat.le_refl _)
  have e : prF M g b x = prL (pr3 M g b x) g b (r_R o f).length := by rw [prF, hz]
  refine ⟨?_, ?_, fun k hk => ?_⟩
  · rw [e]
    exact hM3.row (prL_row (by omega) (by omega) (by omega) _) (prL_row (by omega) (by omega) (by omega) _) (prL_row (by omega) (by omega) (by omega) _) (prL_row (by omega) (by omega) (by omega) _) (prL_row (by omega) (by omega) (by omega) _)
  · refine ⟨by rw [e, prL_row (by omega) (by omega) (by omega)]; exact hS3'.1, fun i g' hi => ⟨?_, ?_, ?_, ?_⟩⟩
    · rw [e, prL_row (by omega) (by omega) (by omega)]; exact hS3'.2.2.1 i g' hi
    · rw [e]; exact (h1 i g' (get_lt hi) hi).1
    · rw [e]; exact (h1 i g' (get_lt hi) hi).2
    · rw [e, prL_row (by omega) (by omega) (by omega)]; exact hS3'.2.2.2.2.1 i g' hi
  · rw [e, h2 k hk, pr3_row (by omega) (by omega) (by omega) (by omega)]
    congr 1
    by_cases c : tb k ∈ r_R o f
    · obtain ⟨j, hj, ej⟩ := List.getElem_of_mem c
      rw [cIf_pos c, cIf_pos ⟨j, hj, by rw [List.getElem?_eq_getElem hj, ej]⟩]
    · rw [cIf_neg c, cIf_neg (fun ⟨j, hj, ej⟩ => c (get_mem ej))]
