theorem r_R_nl {o : Nat → Nat} (ho : b_O o) {f : Nat → Bool} (hf : b_S f) {g : Nat → Bool} (hg : g ∈ r_R o f) : ¬ r_l g := by
  obtain ⟨p, u, hA, -, -⟩ := r_R_w ho hf g hg
  exact hA.nl ho
theorem h_U_keep {C : hC} {q : Nat} {e : va_E} (hq : C q = none) {b : Nat} (hb : C b ≠ none) : h_U C q e b = C b := h_U_ne (fun h => hb (by rw [h]; exact hq))
theorem h_U_off {C : hC} {q : Nat} {e : va_E} {b : Nat} (h : h_U C q e b = none) : C b = none := by
  by_cases c : b = q
  · rw [c, h_U_at] at h; cases h
  · rw [h_U_ne c] at h; exact h
abbrev rm_l_row : Room := { frames := 20, cells := 768, slots := 3223, locals := 4800 }
set_option maxHeartbeats 4000000 in
set_option maxRecDepth 100000 in
/-- the forks of a fold -/
theorem c_l_row (l : Launch) (D : va_G) (cs : Nat → ClassId) (C : hC) (sz : Nat) (o : Nat → Nat) (ho : b_O o) (oa : Nat) (O : Nat → Int32) (hoa : C oa = some (.inl (cs 0, 8, .inl O))) (hO : ∀ p : Nat, p < 8 → O p = nI (o p)) (fa : Nat) (F : Nat → Int64) (f : Nat → Bool) (hfa : C fa = some (.inl (cs 1, 4, .inr (.inl F)))) (hf : j_S F f) : Met l yL_row wsL_row rm_l_row (va_Pc [.ref fa, .ref oa] (hU D cs C sz)) (va_Qr (fun _ : hC => True) (fun u a t => (fun (r : Nat) (u : hC) => C r = none ∧ (∃ (sa ia : Nat) (S I : Nat → Option Nat), h_V cs o u r sa ia S I (r_R o f) (r_A o f)) ∧ ∀ b : Nat, C b ≠ none → u b = C b) a u ∧ h_H D (h_A C sz) u t.heap) (h_A C sz)) 768 3223 (h_A C sz) := by
  refine hMet_a (cc := cL_row) (maxL := 3) (by decide) rfl RL rfl (Or.inl ⟨_, rfl⟩) (Nat.le_of_ble_eq_true rfl) (lv := [(0, .ref fa), (1, .ref oa)]) rfl ?_
  intro p e s m args below meth c Q A ls hsz C0 hH hS hl hret
  obtain ⟨hx, hb, hml, hts, hown, hlocks, hK, hN, hA, hargs⟩ := C0
  have hin3 : ∀ w ∈ u_ws RX3 TX3 3, w ∈ wsL_row := by decide +kernel
  refine h_new (ci := 3) (fs := [.int 0, .null, .null]) (C0 := RX3) (T := TX3) (N := 3) hx hb hts hin3 tyX3 tyX3_ok hown (hts (.classLink RL 21 RX3) (by decide +kernel)) (hts (.instantiable RX3 3) (by decide +kernel)) (hts (.initialized RX3) (by decide +kernel)) hK.1 hH hS hA rfl (by decide) (Nat.le_of_ble_eq_true rfl) (Nat.le_of_ble_eq_true rfl) dL_row_0 (fun q H hq hH hS => ?_)
  refine lv_dup hx hb dL_row_3 rfl ?_
  refine h_callv (va_runIN (As := []) (rest := [.ref q]) (own := RL) (host := "SharedForksLaw") ⟨hx, hb, hml, hown, hts⟩ (c_h_rowInit l D cs _ H.size q h_U_at) ⟨va_cnB 0 hts gL_row_X3_init_n23 rfl rfl rfl (hN.1 (.methodLinkNest RL 23 yX3_init "SharedForksLaw") (by decide +kernel)) (hts (.initialized yX3_init.cls) (by decide +kernel)) (by decide +kernel) ⟨Nat.le_of_ble_eq_true rfl, Nat.le_of_ble_eq_true rfl⟩, rfl, hts (.instanceMethod yX3_init) (by decide +kernel)⟩ (h_preS hK hN hH) rfl rfl hl.1 rfl (lv_room (Nat.le_of_ble_eq_true rfl)) dL_row_4 ⟨by decide, by decide⟩) hH hS hA (fun u0 H locs hp hH hS => ?_)
  obtain ⟨sa, ia, hsa, hia, hsi, u0q, u0s, u0i, k0⟩ := hp
  have k1 : ∀ b : Nat, C b ≠ none → u0 b = C b := fun b hb9 => by
    have e1 := h_U_keep (e := .inr (3, [.int 0, .null, .null])) hq hb9
    rw [k0 b (fun h => hb9 (by rw [h]; exact hq)) (fun h => hb9 (by rw [h]; exact h_U_off hsa)) (fun h => hb9 (by rw [h]; exact h_U_off hia)), e1]
  have uo := (k1 oa (by rw [hoa]; simp)).trans hoa
  have uf := (k1 fa (by rw [hfa]; simp)).trans hfa
  have hR0 : h_R cs u0 q sa ia (fun _ => none) (fun _ => none) [] := ⟨u0q, u0s, u0i, by decide, fun i g h => by rw [List.getElem?_nil] at h; cases h⟩
  refine lv_astore_n (lv' := [(2, .ref q), (0, .ref fa), (1, .ref oa)]) hx hb dL_row_7 rfl hl (by decide) rfl (fun ls hl => ?_)
  refine lv_aload_n hx hb dL_row_8 rfl (lv_at hl 0 rfl) ?_
  refine lv_aload_n hx hb dL_row_9 rfl (lv_at hl 0 rfl) ?_
  refine lv_aload_n hx hb dL_row_10 rfl (lv_at hl 1 rfl) ?_
  refine lv_aload_n hx hb dL_row_11 rfl (lv_at hl 2 rfl) ?_
  refine lv_iconst (v := 0) hx hb dL_row_12 (by decide) ?_
  refine h_calli (va_runV (As := [.ref fa, .ref oa, .int (nI (8 - 8))]) (rest := [.ref q]) ⟨hx, hb, hml, hown, hts⟩ (c_stand l D cs o ho 9 8 (by decide) (by decide) u0 H.size q sa ia oa fa hsi (fun _ => none) (fun _ => none) [] hR0 O uo hO F f uf hf (r_h.all ho hf.1) (Nat.le_trans (r_R_77 ho hf.1) (by decide))) (cwV 3 hts gL_row_X3_stand rfl rfl rfl (by decide +kernel) ⟨Nat.le_of_ble_eq_true rfl, Nat.le_of_ble_eq_true rfl⟩) (h_preV hK hN hH u0q rfl) rfl rfl hl.1 rfl (lv_room (Nat.le_of_ble_eq_true rfl)) dL_row_13 ⟨by decide, by decide⟩) hH hS hA (fun r1 u1 H locs hp hH hS => ?_)
  obtain ⟨S1, I1, hG, hx1⟩ := hp
  have hV0 : h_V cs o u1 q sa ia S1 I1 (r_R o f) (fun _ => 99) := ⟨hG.1, fun i g hg => by
    obtain ⟨b, X, e1, -, e3, e4⟩ := hG.2.2.2.2.1 i g (Nat.zero_le _) hg
    obtain ⟨x0, x1, x2, x3⟩ := e4 (fun h => h)
    exact ⟨b, X, e1, e3, x0, x1, x2, x3⟩, fun i j hi hj e => hG.2.2.2.2.2 i j (Nat.zero_le _) hi (Nat.zero_le _) hj e⟩
  refine lv_iconst (v := 0) hx hb dL_row_16 (by decide) ?_
  refine h_callv (va_runV (As := [.int r1, .int (nI (8 - 8))]) (rest := []) ⟨hx, hb, hml, hown, hts⟩ (c_walk3 l D cs o ho 8 (by decide) u1 H.size q sa ia S1 I1 (r_R o f) (r_R_nd o f) (fun _ => 99) hV0 (fun _ => Nat.le_refl _) f r1 hx1 (r_h.all ho hf.1) (fun hg => r_R_nl ho hf.1 hg)) (cwV 2 hts gL_row_X3_walk rfl rfl rfl (by decide +kernel) ⟨Nat.le_of_ble_eq_true rfl, Nat.le_of_ble_eq_true rfl⟩) (h_preV hK hN hH hG.1.1 rfl) rfl rfl hl.1 rfl (lv_room (Nat.le_of_ble_eq_true rfl)) dL_row_17 ⟨by decide, by decide⟩) hH hS hA (fun u2 H locs hp hH hS => ?_)
  obtain ⟨hV, hk2⟩ := hp
  refine lv_aload_n hx hb dL_row_20 rfl (lv_at hl 0 rfl) ?_
  refine hret 21 ls _ _ _ _ q u2 dL_row_21 (by decide) (by decide) ⟨hq, ⟨sa, ia, S1, I1, hV⟩, fun b hb9 => ?_⟩ hH hS
  rw [hk2 b (fun i hi h => ?_), hG.2.2.2.1 b (by rw [k1 b hb9]; exact hb9) (fun h => hb9 (by rw [h]; exact hq)) (fun h => hb9 (by rw [h]; exact h_U_off hsa)) (fun h => hb9 (by rw [h]; exact h_U_off hia)), k1 b hb9]
  obtain ⟨b9, X, e1, e2, -, -⟩ := hG.2.2.2.2.1 i _ (Nat.zero_le _) (List.getElem?_eq_getElem hi)
  rw [h] at e1
  cases e1
  rw [k1 b hb9] at e2
  exact hb9 e2

theorem h_V.keep {cs : Nat → ClassId} {o : Nat → Nat} {C u : hC} {r sa ia : Nat} {S I : Nat → Option Nat} {l : List (Nat → Bool)} {A : (Nat → Bool) → Nat} (h : h_V cs o C r sa ia S I l A) (hk : ∀ (b : Nat) (x : va_E), C b = some x → (∀ Rf : Nat → Option Nat, x ≠ (.inl (cs 4, 12, .inr (.inr (.inr (.inr Rf)))) : va_E)) → u b = some x) : h_V cs o u r sa ia S I l A := by
  obtain ⟨⟨r1, r2, r3, r4, r5⟩, hE, hJ⟩ := h
  refine ⟨⟨hk _ _ r1 (fun _ h => by simp at h), hk _ _ r2 (fun _ h => by simp at h), hk _ _ r3 (fun _ h => by simp at h), r4, fun i g hg => ?_⟩, fun i g hg => ?_, hJ⟩
  · obtain ⟨a, F, e1, e2, e3⟩ := r5 i g hg
    exact ⟨a, F, e1, hk _ _ e2 (fun _ h => by simp at h), e3⟩
  · obtain ⟨b, X, e1, e2, e3⟩ := hE i g hg
    exact ⟨b, X, e1, hk _ _ e2 (fun _ h => by simp at h), e3⟩
abbrev rm_h_all : Room := { frames := 24, cells := 9217, slots := 38688, locals := 5000 }
set_option maxHeartbeats 4000000 in
set_option maxRecDepth 100000 in
/-- the rows of all folds -/
theorem c_h_all (l : Launch) (D : va_G) (cs : Nat → ClassId) (C : hC) (sz : Nat) (o : Nat → Nat) (ho : b_O o) (oa : Nat) (O : Nat → Int32) (hoa : C oa = some (.inl (cs 0, 8, .inl O))) (hO : ∀ p : Nat, p < 8 → O p = nI (o p)) (si fd : Nat) (rv : Value) (Fd : Nat → Option Nat) (hsi : C si = some (.inr (4, [.ref fd, .ref oa, rv]))) (hfd : C fd = some (.inl (cs 2, 12, .inr (.inr (.inr (.inr Fd)))))) (ff : Nat → Nat → Bool) (hff : ∀ k a : Nat, k < 12 → Fd k = some a → ∃ F : Nat → Int64, C a = some (.inl (cs 1, 4, .inr (.inl F))) ∧ j_S F (ff k)) : Met l yX4_all wsX4_all rm_h_all (va_Pc [.ref si] (hU D cs C sz)) (va_Qr (fun _ : hC => True) (fun u a t => (fun (r : Nat) (u : hC) => C r = none ∧ (∃ Rf : Nat → Option Nat, u r = some (.inl (cs 4, 12, .inr (.inr (.inr (.inr Rf))))) ∧ ∀ j : Nat, j < 12 → (Fd j = none → Rf j = none) ∧ (Fd j ≠ none → ∃ (q sa ia : Nat) (S I : Nat → Option Nat), Rf j = some q ∧ h_V cs o u q sa ia S I (r_R o (ff j)) (r_A o (ff j)))) ∧ ∀ b : Nat, C b ≠ none → u b = C b) a u ∧ h_H D (h_A C sz) u t.heap) (h_A C sz)) 9217 38688 (h_A C sz) := by
  refine hMet_a (cc := cX4_all) (maxL := 3) (by decide) rfl RX4 rfl (Or.inr ⟨_, rfl⟩) (Nat.le_of_ble_eq_true rfl) (lv := [(0, .ref si)]) rfl ?_
  intro p e s m args below meth c Q A ls hsz C0 hH hS hl hret
  obtain ⟨hx, hb, hml, hts, hown, hlocks, hK, hN, hA, hargs⟩ := C0
  have hin4 : ∀ w ∈ u_ws RX4 TX4 3, w ∈ wsX4_all := by decide +kernel
  refine lv_bipush (v := 12) hx hb dX4_all_0 (by decide) ?_
  refine h_newq (E := "SharedForksLaw$Row") (N' := 12) hx hb hown (hts (.classLink RX4 19 RX3) (by decide +kernel)) hN.2.2.2 hK.1 hH hS hA 2 rfl (by decide) (by decide) (by decide) (Nat.le_of_ble_eq_true rfl) (Nat.le_of_ble_eq_true rfl) dX4_all_2 (fun q0 H hq0 hH hS => ?_)
  refine lv_astore_n (lv' := [(1, .ref q0), (0, .ref si)]) hx hb dX4_all_5 rfl hl (by decide) rfl (fun ls hl => ?_)
  refine lv_iconst (v := 0) hx hb dX4_all_6 (by decide) ?_
  refine lv_istore_n (lv' := [(2, .int 0), (1, .ref q0), (0, .ref si)]) hx hb dX4_all_7 rfl hl (by decide) rfl (fun ls hl => ?_)
  have loop : ∀ r9 k : Nat, k + r9 = 12 → ∀ (CC : hC) (Rf : Nat → Option Nat) (ls : Array Slot) (H : Heap) (locs : List Loc), lv_has ls 3 [(2, .int (nI k)), (1, .ref q0), (0, .ref si)] → h_H D A CC H → va_S A s.heap H locs → CC q0 = some (.inl (cs 4, 12, .inr (.inr (.inr (.inr Rf))))) → (∀ j : Nat, j < k → (Fd j = none → Rf j = none) ∧ (Fd j ≠ none → ∃ (q sa ia : Nat) (S I : Nat → Option Nat), Rf j = some q ∧ h_V cs o CC q sa ia S I (r_R o (ff j)) (r_A o (ff j)))) → (∀ j : Nat, k ≤ j → Rf j = none) → (∀ b : Nat, C b ≠ none → CC b = C b) → W p l e rm_h_all s m args below meth c H locs (1 + k * 768) (12 + k * 3223) Q (F0 m 8 ls []) := by
    intro r9
    induction r9 with
    | zero =>
      intro k hk CC Rf ls H locs hl hH hS hq hdone hnone hkp
      obtain rfl : k = 12 := by omega
      refine lv_iload_n hx hb dX4_all_8 rfl (lv_at hl 0 rfl) ?_
      refine lv_bipush (v := 12) hx hb dX4_all_9 (by decide) ?_
      refine lv_icmp_ge (tgt := 45) hx hb dX4_all_11 (by decide) (fun c1 => ?_) (fun c1 => ?_)
      · skip
        refine lv_aload_n hx hb dX4_all_45 rfl (lv_at hl 1 rfl) ?_
        exact hret 46 ls _ _ _ _ q0 CC dX4_all_46 (by decide) (by decide) ⟨hq0, ⟨Rf, hq, hdone⟩, hkp⟩ hH hS
      · exact absurd (nI_le (Nat.le_refl 12) (by omega)) c1
    | succ r9 ih =>
      intro k hk CC Rf ls H locs hl hH hS hq hdone hnone hkp
      refine lv_iload_n hx hb dX4_all_8 rfl (lv_at hl 0 rfl) ?_
      refine lv_bipush (v := 12) hx hb dX4_all_9 (by decide) ?_
      refine lv_icmp_ge (tgt := 45) hx hb dX4_all_11 (by decide) (fun c1 => ?_) (fun c1 => ?_)
      · exact absurd c1 (nI_ge (b := 12) (by omega) (by omega))
      · skip
        have gsi := (hkp si (by rw [hsi]; simp)).trans hsi
        have gfd := (hkp fd (by rw [hfd]; simp)).trans hfd
        have goa := (hkp oa (by rw [hoa]; simp)).trans hoa
        refine lv_aload_n hx hb dX4_all_14 rfl (lv_at hl 2 rfl) ?_
        refine h_get (v := .ref fd) (C0 := RX4) (T := TX4) (N := 3) hx hb hts hin4 hown hK.1 hH gsi rfl 0 (by decide) rfl (by decide +kernel) rfl dX4_all_15 ?_
        refine lv_iload_n hx hb dX4_all_18 rfl (lv_at hl 0 rfl) ?_
        refine h_aald hx hb hH hK.2.1.1 rfl gfd k (by omega) (by decide) rfl dX4_all_19 ?_
        cases hF : Fd k with
        | none =>
          refine lv_ifnullN (tgt := 39) hx hb dX4_all_20 (by decide) ?_
          refine lv_iinc (v := nI (k + 1)) (lv' := [(2, .int (nI (k + 1))), (1, .ref q0), (0, .ref si)]) hx hb dX4_all_39 hl (k := 0) rfl (nI_1 k) (by decide) rfl (fun ls hl => ?_)
          refine lv_goto (tgt := 8) hx hb dX4_all_42 (by decide) ?_
          refine W.widen (k := 1 + (k + 1) * 768) (n := 12 + (k + 1) * 3223) (by omega) (by omega) ?_
          refine ih (k + 1) (by omega) CC Rf ls H locs (lv_sub hl [0, 1, 2] rfl) hH hS hq (fun j hj => ?_) (fun j hj => hnone j (by omega)) hkp
          rcases Nat.lt_or_ge j k with h | h
          · exact hdone j h
          · rw [show j = k by omega, hF]; exact ⟨fun _ => hnone k (Nat.le_refl k), fun h => absurd rfl h⟩
        | some a =>
          obtain ⟨F, ha, hF9⟩ := hff k a (by omega) hF
          have gaa := (hkp a (by rw [ha]; simp)).trans ha
          refine lv_ifnull hx hb dX4_all_20 ?_
          refine lv_aload_n hx hb dX4_all_23 rfl (lv_at hl 1 rfl) ?_
          refine lv_iload_n hx hb dX4_all_24 rfl (lv_at hl 0 rfl) ?_
          refine lv_aload_n hx hb dX4_all_25 rfl (lv_at hl 2 rfl) ?_
          refine h_get (v := .ref fd) (C0 := RX4) (T := TX4) (N := 3) hx hb hts hin4 hown hK.1 hH gsi rfl 0 (by decide) rfl (by decide +kernel) rfl dX4_all_26 ?_
          refine lv_iload_n hx hb dX4_all_29 rfl (lv_at hl 0 rfl) ?_
          refine h_aald hx hb hH hK.2.1.1 rfl gfd k (by omega) (by decide) rfl dX4_all_30 ?_
          rw [hF]
          refine lv_aload_n hx hb dX4_all_31 rfl (lv_at hl 2 rfl) ?_
          refine h_get (v := .ref oa) (C0 := RX4) (T := TX4) (N := 3) hx hb hts hin4 hown hK.1 hH gsi rfl 1 (by decide) rfl (by decide +kernel) rfl dX4_all_32 ?_
          refine h_calla (va_runSN (As := [.ref a, .ref oa]) (rest := [.int (nI k), .ref q0]) (own := RX4) (host := "SharedForksLaw") ⟨hx, hb, hml, hown, hts⟩ (c_l_row l D cs CC H.size o ho oa O goa hO a F (ff k) gaa hF9) ⟨va_cnB 2 hts gX4_all_L_row_n21 rfl rfl rfl (hN.1 (.methodLinkNest RX4 21 yL_row "SharedForksLaw") (by decide +kernel)) (hts (.initialized yL_row.cls) (by decide +kernel)) (by decide +kernel) ⟨Nat.le_of_ble_eq_true rfl, Nat.le_of_ble_eq_true rfl⟩, hts (.static yL_row) (by decide +kernel), trivial⟩ (h_preS hK hN hH) rfl rfl hl.1 rfl (lv_room (Nat.le_of_ble_eq_true rfl)) dX4_all_35 ⟨show 1 + k * 768 + 768 ≤ 9217 by omega, show 12 + k * 3223 + 3223 ≤ 38688 by omega⟩) hH hS hA (fun q u1 H locs hp hH hS => ?_)
          obtain ⟨hq1, ⟨sa, ia, S, I, hV⟩, hk1⟩ := hp
          have uq0 := (hk1 q0 (by rw [hq]; simp)).trans hq
          refine h_aast hx hb hH hS uq0 (h_okR hK.1 hH 2 rfl (C0 := RX3) (T := TX3) (N := 3) (ci := 3) rfl hV.1.1) k (by omega) (by decide) rfl dX4_all_38 (fun H locs hH hS => ?_)
          refine lv_iinc (v := nI (k + 1)) (lv' := [(2, .int (nI (k + 1))), (1, .ref q0), (0, .ref si)]) hx hb dX4_all_39 hl (k := 0) rfl (nI_1 k) (by decide) rfl (fun ls hl => ?_)
          refine lv_goto (tgt := 8) hx hb dX4_all_42 (by decide) ?_
          refine W.widen (k := 1 + (k + 1) * 768) (n := 12 + (k + 1) * 3223) (by omega) (by omega) ?_
          have nq : ∀ (b : Nat) (x : va_E), u1 b = some x → (∀ Rf : Nat → Option Nat, x ≠ (.inl (cs 4, 12, .inr (.inr (.inr (.inr Rf)))) : va_E)) → h_U u1 q0 (.inl (cs 4, 12, .inr (.inr (.inr (.inr (va_up Rf k (some q))))))) b = some x := fun b x h1 h2 => by
            rw [h_U_ne (fun h => h2 Rf (by rw [h, uq0] at h1; exact (Option.some.inj h1).symm))]; exact h1
          refine ih (k + 1) (by omega) _ (va_up Rf k (some q)) ls H locs (lv_sub hl [0, 1, 2] rfl) hH hS h_U_at (fun j hj => ?_) (fun j hj => by rw [va_up_ne _ _ (by omega)]; exact hnone j (by omega)) (fun b hb9 => ?_)
          · rcases Nat.lt_or_ge j k with h | h
            · rw [va_up_ne _ _ (by omega)]
              refine ⟨(hdone j h).1, fun h9 => ?_⟩
              obtain ⟨q9, sa9, ia9, S9, I9, e1, e2⟩ := (hdone j h).2 h9
              exact ⟨q9, sa9, ia9, S9, I9, e1, (e2.keep (fun b x hb9 _ => (hk1 b (by rw [hb9]; simp)).trans hb9)).keep nq⟩
            · obtain rfl : j = k := by omega
              rw [va_up_self]
              exact ⟨fun h9 => (by rw [hF] at h9; cases h9), fun _ => ⟨q, sa, ia, S, I, rfl, hV.keep nq⟩⟩
          · rw [h_U_ne (fun h => hb9 (by rw [h]; exact hq0)), hk1 b (by rw [hkp b hb9]; exact hb9), hkp b hb9]
  exact loop 12 0 rfl _ (fun _ => none) ls H _ (lv_sub hl [0, 1, 2] rfl) hH hS h_U_at (fun j h => absurd h (Nat.not_lt_zero _)) (fun _ _ => rfl) (fun b hb9 => h_U_keep hq0 hb9)
