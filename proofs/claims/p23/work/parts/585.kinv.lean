/-! ===== the class and the law's folds stand alike ===== -/
/-- how many folds there are -/
def k_N (M : Nat → Nat → Int32) : Nat := ((List.range 12).filter (fun k => decide (¬ M (25 + 6 * k) 0 = 0))).length
theorem k_N_le (M : Nat → Nat → Int32) : k_N M ≤ 12 := Nat.le_trans (List.length_filter_le _ _) (by rw [List.length_range]; exact Nat.le_refl _)
theorem flt_ext {P P' : Nat → Bool} {N : Nat} (h : ∀ k : Nat, k < N → P' k = P k) : ((List.range N).filter P').length = ((List.range N).filter P).length := by
  rw [List.filter_congr (fun k hk => h k (List.mem_range.mp hk))]
theorem flt_one {P P' : Nat → Bool} {f : Nat} (h : ∀ k : Nat, k ≠ f → P' k = P k) (h0 : P f = false) (h1 : P' f = true) : ∀ N : Nat, f < N → ((List.range N).filter P').length = ((List.range N).filter P).length + 1 := by
  intro N
  induction N with
  | zero => intro hf; exact absurd hf (Nat.not_lt_zero _)
  | succ N ih =>
    intro hf
    rw [List.range_succ, List.filter_append, List.filter_append, List.length_append, List.length_append]
    by_cases c : f = N
    · subst c
      rw [flt_ext (fun k hk => h k (by omega)), List.filter_cons, List.filter_nil, List.filter_cons, List.filter_nil, h0, h1]
      rfl
    · rw [ih (by omega)]
      have e := h N (fun e => c e.symm)
      simp only [List.filter_cons, List.filter_nil, e]
      omega
theorem k_N_ck {M : Nat → Nat → Int32} : sI (ckT M) 12 = nI (k_N M) := sI_cnt 12 (fun k _ => by
  unfold ckT
  by_cases c : M (25 + 6 * k) 0 = 0
  · rw [if_pos c, if_neg (by simp [c])]; rfl
  · rw [if_neg c, if_pos (by simp [c])]; rfl)
theorem k_N_eq {M M' : Nat → Nat → Int32} (h : ∀ k : Nat, k < 12 → (a_k M' k ↔ a_k M k)) : k_N M' = k_N M := flt_ext (fun k hk => decide_eq_decide.mpr (h k hk))
theorem k_N_one {M M' : Nat → Nat → Int32} {f : Nat} (hf : f < 12) (h : ∀ k : Nat, k ≠ f → (a_k M' k ↔ a_k M k)) (h0 : ¬ a_k M f) (h1 : a_k M' f) : k_N M' = k_N M + 1 := by
  have e0 : (fun k => decide (¬ M (25 + 6 * k) 0 = 0)) f = false := by
    show decide (¬ M (25 + 6 * f) 0 = 0) = false
    simp only [decide_eq_false_iff_not]
    exact h0
  have e1 : (fun k => decide (¬ M' (25 + 6 * k) 0 = 0)) f = true := by
    show decide (¬ M' (25 + 6 * f) 0 = 0) = true
    simp only [decide_eq_true_eq]
    exact h1
  exact flt_one (P := fun k => decide (¬ M (25 + 6 * k) 0 = 0)) (P' := fun k => decide (¬ M' (25 + 6 * k) 0 = 0)) (f := f) (fun k hk => decide_eq_decide.mpr (h k hk)) e0 e1 12 hf
theorem k_N_all {M : Nat → Nat → Int32} (h : ∀ k : Nat, k < 12 → a_k M k) : k_N M = 12 := by
  unfold k_N
  rw [List.filter_eq_self.mpr (fun k hk => decide_eq_true (show ¬ M (25 + 6 * k) 0 = 0 from h k (List.mem_range.mp hk))), List.length_range]
theorem k_N_some {M : Nat → Nat → Int32} (h : 0 < k_N M) : ∃ k : Nat, k < 12 ∧ a_k M k := by
  obtain ⟨k, hk⟩ := List.exists_mem_of_length_pos h
  obtain ⟨h1, h2⟩ := List.mem_filter.mp hk
  have h3 : ¬ M (25 + 6 * k) 0 = 0 := of_decide_eq_true h2
  exact ⟨k, List.mem_range.mp h1, h3⟩
def k_S (M : Nat → Nat → Int32) (o : Nat → Nat) : Prop := (∃ (n : Nat) (tb : Nat → Nat → Bool) (pl : Nat → Nat), a_S M o n tb pl) ∧ ysOk M ∧ ksOk M
theorem k_S.o {M : Nat → Nat → Int32} {o : Nat → Nat} (h : k_S M o) : b_O o ∧ ∀ p : Nat, p < 8 → M 2 p = nI (o p) := by
  obtain ⟨⟨n, tb, pl, h1⟩, -⟩ := h
  exact ⟨h1.1, h1.2.1⟩
theorem k_S.new {M : Nat → Nat → Int32} {o : Nat → Nat} (h : k_S M o) {f : Nat} {T : Nat → Int32} (hT : ∀ j : Nat, j < 256 → T j = 0 ∨ T j = 1) : k_S (nwF M f T) o := by
  obtain ⟨ho, hord⟩ := h.o
  exact ⟨a_all ho (fun p hp => by rw [mst_ne (by omega), flC_row (by omega)]; exact hord p hp), nw_ys h.2.1 hT, nw_ks h.2.2⟩
theorem k_S.drop {M : Nat → Nat → Int32} {o : Nat → Nat} (h : k_S M o) {k : Nat} : k_S (laF (mst M (25 + 6 * k) 0 0)) o := by
  obtain ⟨ho, hord⟩ := h.o
  refine ⟨a_all ho (fun p hp => by rw [mst_ne (by omega)]; exact hord p hp), la_ys (fun e he j hj => by rw [mst_ne (by omega)]; exact h.2.1 e he j hj), la_ks (fun e he => ?_)⟩
  by_cases c : e = k
  · subst c; rw [mst_same, pk_us]; exact Or.inl rfl
  · rw [mst_ne (by omega)]; exact h.2.2 e he
theorem ex_row {M : Nat → Nat → Int32} {p0 i : Nat} (h : i ≠ 2) : exF M 2 p0 i = M i := by rw [exF, mst_ne h, mst_ne h]
theorem k_S.swap {M : Nat → Nat → Int32} {o : Nat → Nat} (h : k_S M o) {p0 : Nat} (hp0 : p0 < 7) : k_S (laF (exF M 2 p0)) (o_x o p0) := by
  obtain ⟨ho, hord⟩ := h.o
  exact ⟨a_all (o_x_O hp0 ho) (fun p hp => ex_at hp0 hp hord), la_ys (fun e he j hj => by rw [ex_row (by omega)]; exact h.2.1 e he j hj), la_ks (fun e he => by rw [ex_row (by omega)]; exact h.2.2 e he)⟩
theorem k_S.same {M M' : Nat → Nat → Int32} {o : Nat → Nat} (h : k_S M o) (hs : ∀ i : Nat, i < 13 ∨ 24 < i → M' i = M i) : k_S M' o := by
  obtain ⟨⟨n, tb, pl, h1⟩, h2, h3⟩ := h
  exact ⟨⟨n, tb, pl, h1.same hs⟩, fun e he j hj => by rw [hs _ (by omega)]; exact h2 e he j hj, fun e he => by rw [hs _ (by omega)]; exact h3 e he⟩
theorem sa_k {M M' : Nat → Nat → Int32} (hs : ∀ i : Nat, i < 13 ∨ 24 < i → M' i = M i) : a_k M' = a_k M := by funext f; unfold a_k; rw [hs _ (by omega)]
theorem sa_Y {M M' : Nat → Nat → Int32} (hs : ∀ i : Nat, i < 13 ∨ 24 < i → M' i = M i) : a_Y M' = a_Y M := by funext f; unfold a_Y; rw [hs _ (by omega)]
theorem dr_k {M : Nat → Nat → Int32} {k e : Nat} : a_k (laF (mst M (25 + 6 * k) 0 0)) e ↔ e ≠ k ∧ a_k M e := by
  rw [la_k]
  unfold a_k
  by_cases c : e = k
  · subst c; rw [mst_same, pk_us]; exact ⟨fun h => absurd rfl h, fun h => absurd rfl h.1⟩
  · rw [mst_ne (by omega)]; exact ⟨fun h => ⟨c, h⟩, fun h => h.2⟩
theorem dr_Y {M : Nat → Nat → Int32} {k e : Nat} : a_Y (laF (mst M (25 + 6 * k) 0 0)) e = a_Y M e := by
  rw [la_Y]
  unfold a_Y
  rw [mst_ne (by omega)]
theorem sw_k {M : Nat → Nat → Int32} {p0 e : Nat} : a_k (laF (exF M 2 p0)) e ↔ a_k M e := by
  rw [la_k]; unfold a_k; rw [ex_row (by omega)]
theorem sw_Y {M : Nat → Nat → Int32} {p0 e : Nat} : a_Y (laF (exF M 2 p0)) e = a_Y M e := by
  rw [la_Y]; unfold a_Y; rw [ex_row (by omega)]
theorem k_N_new {M : Nat → Nat → Int32} {f : Nat} {T : Nat → Int32} (hf : f < 12) (h0 : M (25 + 6 * f) 0 = 0) : k_N (nwF M f T) = k_N M + 1 :=
  k_N_one hf (fun k hk => by rw [nw_k]; exact ⟨fun h => h.resolve_left hk, fun h => Or.inr h⟩) (fun h => h h0) (nw_k.mpr (Or.inl rfl))
theorem k_N_drop {M : Nat → Nat → Int32} {k : Nat} (hk : k < 12) (h0 : ¬ M (25 + 6 * k) 0 = 0) : k_N M = k_N (laF (mst M (25 + 6 * k) 0 0)) + 1 :=
  k_N_one hk (fun e he => by rw [dr_k]; exact ⟨fun h => ⟨he, h⟩, fun h => h.2⟩) (fun h => (dr_k.mp h).1 rfl) h0
theorem k_N_swap {M : Nat → Nat → Int32} {p0 : Nat} : k_N (laF (exF M 2 p0)) = k_N M := k_N_eq (fun _ _ => sw_k)
theorem fr_one {M : Nat → Nat → Int32} {f f' : Nat} (h : frOk M f) (h' : frOk M f') : f = f' := by
  rcases Nat.lt_trichotomy f f' with c | c | c
  · exact absurd h.2.1 (h'.2.2 f c)
  · exact c
  · exact absurd h'.2.1 (h.2.2 f' c)
theorem fd_one {M : Nat → Nat → Int32} {k k' : Nat} (hk : k < 12) (h : fdOk M (nI k) k') : k' = k := (nI_eq (by omega) (by have := h.1; omega)).mp h.2.1 ▸ rfl
/-- the law's folds are the class's -/
def k_F (cs : Nat → ClassId) (ad : Nat → Nat) (C : hC) (M : Nat → Nat → Int32) (Fd : Nat → Option Nat) : Prop := ∀ k : Nat, k < 12 → (¬ a_k M k → Fd k = none) ∧ (a_k M k → ∃ (a : Nat) (F : Nat → Int64), Fd k = some a ∧ k_o ad a ∧ C a = some (.inl (cs 1, 4, .inr (.inl F))) ∧ j_S F (a_Y M k))
def k_I (cs : Nat → ClassId) (I Z F : ClassId) (ad : Nat → Nat) (si fd oa : Nat) (C : hC) (M : Nat → Nat → Int32) (o : Nat → Nat) (Fd : Nat → Option Nat) (O : Nat → Int32) : Prop :=
  kM I Z F ad M C ∧ C si = some (.inr (4, [.ref fd, .ref oa, .null])) ∧ C fd = some (.inl (cs 2, 12, .inr (.inr (.inr (.inr Fd))))) ∧ C oa = some (.inl (cs 0, 8, .inl O)) ∧ (k_o ad si ∧ k_o ad fd ∧ k_o ad oa) ∧ (∀ p : Nat, p < 8 → O p = nI (o p)) ∧ k_F cs ad C M Fd ∧ k_S M o
section KINV
variable {cs : Nat → ClassId} {I Z F : ClassId} {ad : Nat → Nat} {si fd oa : Nat} {C : hC} {M : Nat → Nat → Int32} {o : Nat → Nat} {Fd : Nat → Option Nat} {O : Nat → Int32}
theorem k_I.ext (h : k_I cs I Z F ad si fd oa C M o Fd O) {C2 : hC} (hx : ∀ b : Nat, C b ≠ none → C2 b = C b) : k_I cs I Z F ad si fd oa C2 M o Fd O := by
  obtain ⟨h1, h2, h3, h4, h5, h6, h7, h8⟩ := h
  have g : ∀ (b : Nat) (x : va_E), C b = some x → C2 b = some x := fun b x hb => (hx b (by rw [hb]; simp)).trans hb
  refine ⟨fun i hi => g _ _ (h1 i hi), g _ _ h2, g _ _ h3, g _ _ h4, h5, h6, fun k hk => ⟨(h7 k hk).1, fun ha => ?_⟩, h8⟩
  obtain ⟨a, F9, e1, e2, e3, e4⟩ := (h7 k hk).2 ha
  exact ⟨a, F9, e1, e2, g _ _ e3, e4⟩
theorem k_I.fd_ne (h : k_I cs I Z F ad si fd oa C M o Fd O) : si ≠ fd ∧ oa ≠ fd ∧ si ≠ oa := by
  obtain ⟨h1, h2, h3, h4, -⟩ := h
  exact ⟨fun e => by rw [e, h3] at h2; simp at h2, fun e => by rw [e, h3] at h4; simp at h4, fun e => by rw [e, h4] at h2; simp at h2⟩
/-- what the fold at k says -/
theorem k_I.fold (h : k_I cs I Z F ad si fd oa C M o Fd O) {k : Nat} (hk : k < 12) (ha : a_k M k) : ∃ (a : Nat) (F : Nat → Int64), Fd k = some a ∧ C a = some (.inl (cs 1, 4, .inr (.inl F))) ∧ j_S F (a_Y M k) := by
  obtain ⟨a, F9, e1, -, e3, e4⟩ := (h.2.2.2.2.2.2.1 k hk).2 ha
  exact ⟨a, F9, e1, e3, e4⟩
theorem k_I.off (h : k_I cs I Z F ad si fd oa C M o Fd O) {k : Nat} (hk : k < 12) : Fd k = none ↔ ¬ a_k M k := by
  constructor
  · intro e ha
    obtain ⟨a, F9, e1, -⟩ := h.fold hk ha
    rw [e1] at e; cases e
  · exact (h.2.2.2.2.2.2.1 k hk).1
theorem k_I.cnt (h : k_I cs I Z F ad si fd oa C M o Fd O) : sI (fun j => b2 ((Fd j).isSome = true)) 12 = nI (k_N M) := sI_cnt 12 (fun k hk => by
  by_cases c : a_k M k
  · obtain ⟨a, F9, e1, -⟩ := h.fold hk c
    rw [e1, if_pos (decide_eq_true (show ¬ M (25 + 6 * k) 0 = 0 from c))]; rfl
  · rw [(h.off hk).mpr c, if_neg (fun h9 => c (show ¬ M (25 + 6 * k) 0 = 0 from of_decide_eq_true h9))]; rfl)
/-- the class's new fold is the law's -/
theorem k_I.new (hI : cI ad) (h : k_I cs I Z F ad si fd oa C M o Fd O) {C2 : hC} (hx : ∀ b : Nat, C b ≠ none → C2 b = C b) {a0 : Nat} {F0 : Nat → Int64} (ha0 : C2 a0 = some (.inl (cs 1, 4, .inr (.inl F0)))) (ho0 : k_o ad a0) {T : Nat → Int32} (hF0 : j_S F0 (y_f T)) (hT : ∀ j : Nat, j < 256 → T j = 0 ∨ T j = 1) {f : Nat} (hf : f < 12) :
    k_I cs I Z F ad si fd oa (kC I Z F ad (nwF M f T) (h_U C2 fd (.inl (cs 2, 12, .inr (.inr (.inr (.inr (va_up Fd f (some a0))))))))) (nwF M f T) o (va_up Fd f (some a0)) O := by
  obtain ⟨n1, n2, n3⟩ := (h.ext hx).fd_ne
  obtain ⟨h1, h2, h3, h4, ⟨o1, o2, o3⟩, h6, h7, h8⟩ := h.ext hx
  have hM1 : kM I Z F ad M (h_U C2 fd (.inl (cs 2, 12, .inr (.inr (.inr (.inr (va_up Fd f (some a0)))))))) := fun i hi => by rw [h_U_ne (Ne.symm (o2 i hi))]; exact h1 i hi
  refine ⟨kC_M hI hM1, ?_, ?_, ?_, ⟨o1, o2, o3⟩, h6, fun k hk => ?_, h8.new hT⟩
  · rw [kC_ne o1, h_U_ne n1]; exact h2
  · rw [kC_ne o2, h_U_at]
  · rw [kC_ne o3, h_U_ne n2]; exact h4
  · have n0 : a0 ≠ fd := fun e => by rw [e, h3] at ha0; simp at ha0
    by_cases c : k = f
    · subst c
      refine ⟨fun hn => absurd (nw_k.mpr (Or.inl rfl)) hn, fun _ => ⟨a0, F0, va_up_self _ _ _, ho0, ?_, ?_⟩⟩
      · rw [kC_ne ho0, h_U_ne n0]; exact ha0
      · rw [nw_Y, if_pos rfl]; exact hF0
    · rw [va_up_ne _ _ c]
      refine ⟨fun hn => (h7 k hk).1 (fun ha => hn (nw_k.mpr (Or.inr ha))), fun ha => ?_⟩
      obtain ⟨a, F9, e1, e2, e3, e4⟩ := (h7 k hk).2 ((nw_k.mp ha).resolve_left c)
      have n9 : a ≠ fd := fun e => by rw [e, h3] at e3; simp at e3
      exact ⟨a, F9, e1, e2, by rw [kC_ne e2, h_U_ne n9]; exact e3, by rw [nw_Y, if_neg c]; exact e4⟩
theorem k_I.drop (hI : cI ad) (h : k_I cs I Z F ad si fd oa C M o Fd O) {f : Nat} : k_I cs I Z F ad si fd oa (kC I Z F ad (laF (mst M (25 + 6 * f) 0 0)) (h_U C fd (.inl (cs 2, 12, .inr (.inr (.inr (.inr (va_up Fd f none)))))))) (laF (mst M (25 + 6 * f) 0 0)) o (va_up Fd f none) O := by
  obtain ⟨n1, n2, n3⟩ := h.fd_ne
  obtain ⟨h1, h2, h3, h4, ⟨o1, o2, o3⟩, h6, h7, h8⟩ := h
  have hM1 : kM I Z F ad M (h_U C fd (.inl (cs 2, 12, .inr (.inr (.inr (.inr (va_up Fd f none))))))) := fun i hi => by rw [h_U_ne (Ne.symm (o2 i hi))]; exact h1 i hi
  refine ⟨kC_M hI hM1, ?_, ?_, ?_, ⟨o1, o2, o3⟩, h6, fun k hk => ?_, h8.drop⟩
  · rw [kC_ne o1, h_U_ne n1]; exact h2
  · rw [kC_ne o2, h_U_at]
  · rw [kC_ne o3, h_U_ne n2]; exact h4
  · by_cases c : k = f
    · subst c
      exact ⟨fun _ => va_up_self _ _ _, fun ha => absurd rfl (dr_k.mp ha).1⟩
    · rw [va_up_ne _ _ c]
      refine ⟨fun hn => (h7 k hk).1 (fun ha => hn (dr_k.mpr ⟨c, ha⟩)), fun ha => ?_⟩
      obtain ⟨a, F9, e1, e2, e3, e4⟩ := (h7 k hk).2 (dr_k.mp ha).2
      have n9 : a ≠ fd := fun e => by rw [e, h3] at e3; simp at e3
      exact ⟨a, F9, e1, e2, by rw [kC_ne e2, h_U_ne n9]; exact e3, by rw [dr_Y]; exact e4⟩
theorem k_I.swap (hI : cI ad) (h : k_I cs I Z F ad si fd oa C M o Fd O) {p0 : Nat} (hp0 : p0 < 7) : k_I cs I Z F ad si fd oa (kC I Z F ad (laF (exF M 2 p0)) (h_U C oa (.inl (cs 0, 8, .inl (upd (upd O p0 (O (p0 + 1))) (p0 + 1) (O p0)))))) (laF (exF M 2 p0)) (o_x o p0) Fd (upd (upd O p0 (O (p0 + 1))) (p0 + 1) (O p0)) := by
  obtain ⟨n1, n2, n3⟩ := h.fd_ne
  obtain ⟨h1, h2, h3, h4, ⟨o1, o2, o3⟩, h6, h7, h8⟩ := h
  have hM1 : kM I Z F ad M (h_U C oa (.inl (cs 0, 8, .inl (upd (upd O p0 (O (p0 + 1))) (p0 + 1) (O p0))))) := fun i hi => by rw [h_U_ne (Ne.symm (o3 i hi))]; exact h1 i hi
  refine ⟨kC_M hI hM1, ?_, ?_, ?_, ⟨o1, o2, o3⟩, fun p hp => ?_, fun k hk => ?_, h8.swap hp0⟩
  · rw [kC_ne o1, h_U_ne n3]; exact h2
  · rw [kC_ne o2, h_U_ne (Ne.symm n2)]; exact h3
  · rw [kC_ne o3, h_U_at]
  · unfold o_x
    rw [upd_at]
    by_cases c : p = p0 + 1
    · rw [if_pos c, if_pos c]; exact h6 p0 (by omega)
    · rw [if_neg c, if_neg c, upd_at]
      by_cases c2 : p = p0
      · rw [if_pos c2, if_pos c2]; exact h6 (p0 + 1) (by omega)
      · rw [if_neg c2, if_neg c2]; exact h6 p hp
  · refine ⟨fun hn => (h7 k hk).1 (fun ha => hn (sw_k.mpr ha)), fun ha => ?_⟩
    obtain ⟨a, F9, e1, e2, e3, e4⟩ := (h7 k hk).2 (sw_k.mp ha)
    have n9 : a ≠ oa := fun e => by rw [e, h4] at e3; simp at e3
    exact ⟨a, F9, e1, e2, by rw [kC_ne e2, h_U_ne n9]; exact e3, by rw [sw_Y]; exact e4⟩
/-- the class alone has moved -/
theorem k_I.moved (hI : cI ad) (h : k_I cs I Z F ad si fd oa C M o Fd O) {M' : Nat → Nat → Int32} (hk9 : ∀ k : Nat, k < 12 → (a_k M' k ↔ a_k M k)) (hY : ∀ k : Nat, k < 12 → a_k M k → a_Y M' k = a_Y M k) (hS : k_S M' o) : k_I cs I Z F ad si fd oa (kC I Z F ad M' C) M' o Fd O := by
  obtain ⟨h1, h2, h3, h4, ⟨o1, o2, o3⟩, h6, h7, h8⟩ := h
  refine ⟨kC_M hI h1, by rw [kC_ne o1]; exact h2, by rw [kC_ne o2]; exact h3, by rw [kC_ne o3]; exact h4, ⟨o1, o2, o3⟩, h6, fun k hk => ⟨fun hn => (h7 k hk).1 (fun ha => hn ((hk9 k hk).mpr ha)), fun ha => ?_⟩, hS⟩
  obtain ⟨a, F9, e1, e2, e3, e4⟩ := (h7 k hk).2 ((hk9 k hk).mp ha)
  exact ⟨a, F9, e1, e2, by rw [kC_ne e2]; exact e3, by rw [hY k hk ((hk9 k hk).mp ha)]; exact e4⟩
end KINV
theorem tg_all {o : Nat → Nat} {kp : Nat → Prop} {Y : Nat → Nat → Bool} {f : Nat} : tg_u o kp Y (-1) f = (u_L o kp Y f).length := by
  unfold tg_u
  rw [List.filter_eq_self.mpr (fun g _ => show tg_P o (-1) g = true from decide_eq_true (Or.inl (by decide)))]
