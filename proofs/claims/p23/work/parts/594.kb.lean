/-! ===== before the first fold: the class has laid nothing yet ===== -/
def k_S0 (M : Nat → Nat → Int32) (o : Nat → Nat) : Prop := b_O o ∧ (∀ p : Nat, p < 8 → M 2 p = nI (o p)) ∧ ysOk M ∧ ksOk M
theorem k_S.to0 {M : Nat → Nat → Int32} {o : Nat → Nat} (h : k_S M o) : k_S0 M o := ⟨h.o.1, h.o.2, h.2⟩
theorem k_S0.new {M : Nat → Nat → Int32} {o : Nat → Nat} (h : k_S0 M o) {f : Nat} {T : Nat → Int32} (hT : ∀ j : Nat, j < 256 → T j = 0 ∨ T j = 1) : k_S (nwF M f T) o := by
  obtain ⟨ho, hord, h1, h2⟩ := h
  exact ⟨a_all ho (fun p hp => by rw [mst_ne (by omega), flC_row (by omega)]; exact hord p hp), nw_ys h1 hT, nw_ks h2⟩
theorem id_O : b_O (fun p => p) := ⟨fun _ h => h, fun _ _ _ _ e => e, fun q hq => ⟨q, hq, rfl⟩⟩
theorem M0_S0 : k_S0 (M0k 8) (fun p => p) := by
  have h0 : ∀ e j : Nat, M0k 8 (25 + 6 * e + 1) j = 0 := fun e j => by unfold M0k; rw [if_neg (by omega)]
  have h1 : ∀ e j : Nat, M0k 8 (25 + 6 * e) j = 0 := fun e j => by unfold M0k; rw [if_neg (by omega)]
  refine ⟨id_O, fun p hp => ?_, fun e _ j _ => Or.inl (h0 e j), fun e _ => Or.inl (h1 e 0)⟩
  unfold M0k
  rw [if_pos rfl, if_pos hp]
theorem M0_k (k : Nat) : ¬ a_k (M0k 8) k := fun h => h (by unfold M0k; rw [if_neg (by omega)])
theorem M0_N : k_N (M0k 8) = 0 := by
  unfold k_N
  rw [List.filter_eq_nil_iff.mpr (fun k _ h => M0_k k (show ¬ M0k 8 (25 + 6 * k) 0 = 0 from of_decide_eq_true h))]
  rfl
def k_B (cs : Nat → ClassId) (I Z F : ClassId) (ad : Nat → Nat) (si fd oa : Nat) (C : hC) (M : Nat → Nat → Int32) (o : Nat → Nat) (Fd : Nat → Option Nat) (O : Nat → Int32) : Prop :=
  kM I Z F ad M C ∧ C si = some (.inr (4, [.ref fd, .ref oa, .null])) ∧ C fd = some (.inl (cs 2, 12, .inr (.inr (.inr (.inr Fd))))) ∧ C oa = some (.inl (cs 0, 8, .inl O)) ∧ (k_o ad si ∧ k_o ad fd ∧ k_o ad oa) ∧ (∀ p : Nat, p < 8 → O p = nI (o p)) ∧ k_F cs ad C M Fd ∧ k_S0 M o
section KB
variable {cs : Nat → ClassId} {I Z F : ClassId} {ad : Nat → Nat} {si fd oa : Nat} {C : hC} {M : Nat → Nat → Int32} {o : Nat → Nat} {Fd : Nat → Option Nat} {O : Nat → Int32}
theorem k_I.B (h : k_I cs I Z F ad si fd oa C M o Fd O) : k_B cs I Z F ad si fd oa C M o Fd O := by
  obtain ⟨h1, h2, h3, h4, h5, h6, h7, h8⟩ := h
  exact ⟨h1, h2, h3, h4, h5, h6, h7, h8.to0⟩
theorem k_B.pre (h : k_B cs I Z F ad si fd oa C M o Fd O) {C9 : hC} (hx : ∀ b : Nat, C b ≠ none → b ≠ fd → C9 b = C b) : kM I Z F ad M C9 := fun i hi => by
  rw [hx (ad i) (by rw [h.1 i hi]; simp) (Ne.symm (h.2.2.2.2.1.2.1 i hi))]; exact h.1 i hi
theorem k_B.new (hI : cI ad) (h : k_B cs I Z F ad si fd oa C M o Fd O) {C9 : hC} {f a0 : Nat} {F0 : Nat → Int64} (hx : ∀ b : Nat, C b ≠ none → b ≠ fd → C9 b = C b) (hfd : C9 fd = some (.inl (cs 2, 12, .inr (.inr (.inr (.inr (va_up Fd f (some a0)))))))) (ha0 : C9 a0 = some (.inl (cs 1, 4, .inr (.inl F0)))) (ho0 : k_o ad a0) {T : Nat → Int32} (hF0 : j_S F0 (y_f T)) (hT : ∀ j : Nat, j < 256 → T j = 0 ∨ T j = 1) :
    k_I cs I Z F ad si fd oa (kC I Z F ad (nwF M f T) C9) (nwF M f T) o (va_up Fd f (some a0)) O := by
  have hM1 := h.pre hx
  obtain ⟨h1, h2, h3, h4, ⟨o1, o2, o3⟩, h6, h7, h8⟩ := h
  have n1 : si ≠ fd := fun e => by rw [e, h3] at h2; simp at h2
  have n2 : oa ≠ fd := fun e => by rw [e, h3] at h4; simp at h4
  have g : ∀ (b : Nat) (x : va_E), C b = some x → b ≠ fd → C9 b = some x := fun b x hb hn => (hx b (by rw [hb]; simp) hn).trans hb
  refine ⟨kC_M hI hM1, ?_, ?_, ?_, ⟨o1, o2, o3⟩, h6, fun k hk => ?_, h8.new hT⟩
  · rw [kC_ne o1]; exact g _ _ h2 n1
  · rw [kC_ne o2]; exact hfd
  · rw [kC_ne o3]; exact g _ _ h4 n2
  · by_cases c : k = f
    · subst c
      refine ⟨fun hn => absurd (nw_k.mpr (Or.inl rfl)) hn, fun _ => ⟨a0, F0, va_up_self _ _ _, ho0, ?_, ?_⟩⟩
      · rw [kC_ne ho0]; exact ha0
      · rw [nw_Y, if_pos rfl]; exact hF0
    · rw [va_up_ne _ _ c]
      refine ⟨fun hn => (h7 k hk).1 (fun ha => hn (nw_k.mpr (Or.inr ha))), fun ha => ?_⟩
      obtain ⟨a, F9, e1, e2, e3, e4⟩ := (h7 k hk).2 ((nw_k.mp ha).resolve_left c)
      have n9 : a ≠ fd := fun e => by rw [e, h3] at e3; simp at e3
      exact ⟨a, F9, e1, e2, by rw [kC_ne e2]; exact g _ _ e3 n9, by rw [nw_Y, if_neg c]; exact e4⟩
end KB
