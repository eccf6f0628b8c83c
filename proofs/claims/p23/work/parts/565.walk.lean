/-- a row among the law's cells, each fork with its question, its parts and how far it is -/
def h_V (cs : Nat → ClassId) (o : Nat → Nat) (C : hC) (r sa ia : Nat) (S I : Nat → Option Nat) (l : List (Nat → Bool)) (A : (Nat → Bool) → Nat) : Prop := h_R cs C r sa ia S I l ∧ (∀ (i : Nat) (g : Nat → Bool), l[i]? = some g → ∃ (b : Nat) (X : Nat → Int32), I i = some b ∧ C b = some (.inl (cs 0, 4, .inl X)) ∧ X 0 = nI (t_q o g) ∧ r_c l (r_k o g 0) (X 1) ∧ r_c l (r_k o g 1) (X 2) ∧ X 3 = nI (A g)) ∧ ∀ i j : Nat, i < l.length → j < l.length → I i = I j → i = j
theorem r_Z_99 {o : Nat → Nat} : ∀ (d : Nat) (A : (Nat → Bool) → Nat) (f : Nat → Bool), (∀ g, A g ≤ 99) → ∀ g, r_Z o d A f g ≤ 99 := by
  intro d
  induction d with
  | zero => intro A f h; exact h
  | succ d ih =>
    intro A f h
    by_cases c : r_l f ∨ A f ≤ 7 - d
    · rw [r_Z, cIf_pos c]; exact h
    · rw [r_Z, cIf_neg c]
      refine ih _ _ (ih _ _ (fun g => ?_))
      by_cases e : g = f
      · rw [e, r_u_at]; omega
      · rw [r_u_ne e]; exact h g
theorem r_Z_in {o : Nat → Nat} {d : Nat} {A : (Nat → Bool) → Nat} {f : Nat → Bool} (h : r_l f ∨ A f ≤ 8 - d) : r_Z o d A f = A := by
  cases d with
  | zero => rfl
  | succ d => rw [r_Z, cIf_pos (h.imp id (fun h => by omega))]
theorem h_V.put {cs : Nat → ClassId} {o : Nat → Nat} {C : hC} {r sa ia : Nat} {S I : Nat → Option Nat} {l : List (Nat → Bool)} {A : (Nat → Bool) → Nat} (h : h_V cs o C r sa ia S I l A) (hnd : l.Nodup) {i b : Nat} {f : Nat → Bool} {X : Nat → Int32} (hi : l[i]? = some f) (hI : I i = some b) (hb : C b = some (.inl (cs 0, 4, .inl X))) (x : Nat) : h_V cs o (h_U C b (.inl (cs 0, 4, .inl (upd X 3 (nI x))))) r sa ia S I l (r_u A f x) := by
  obtain ⟨⟨r1, r2, r3, r4, r5⟩, hE, hJ⟩ := h
  refine ⟨⟨?_, ?_, ?_, r4, fun j g hg => ?_⟩, fun j g hg => ?_, hJ⟩
  · rw [h_U_ne (fun e => by rw [← e, r1] at hb; simp at hb)]; exact r1
  · rw [h_U_ne (fun e => by rw [← e, r2] at hb; simp at hb)]; exact r2
  · rw [h_U_ne (fun e => by rw [← e, r3] at hb; simp at hb)]; exact r3
  · obtain ⟨a, F, f1, f2, f3⟩ := r5 j g hg
    exact ⟨a, F, f1, by rw [h_U_ne (fun e => by rw [← e, f2] at hb; simp at hb)]; exact f2, f3⟩
  · by_cases c : j = i
    · subst c
      rw [hi] at hg
      cases hg
      obtain ⟨b', X', e1, e2, e3, e4, e5, e6⟩ := hE j f hi
      obtain rfl : b' = b := Option.some.inj (e1.symm.trans hI)
      rw [hb] at e2
      have eX : X = X' := by simpa using e2
      subst eX
      exact ⟨b', _, hI, h_U_at, e3, e4, e5, by rw [r_u_at]; rfl⟩
    · obtain ⟨b', X', e1, e2, e3, e4, e5, e6⟩ := hE j g hg
      have hne : b' ≠ b := fun e => c (hJ j i (get_lt hg) (get_lt hi) (by rw [e1, hI, e]))
      have hgf : g ≠ f := fun e => c ((List.getElem?_inj (get_lt hg) hnd).mp (hg.trans (by rw [e, hi])))
      exact ⟨b', X', e1, by rw [h_U_ne hne]; exact e2, e3, e4, e5, by rw [r_u_ne hgf]; exact e6⟩
abbrev rm_walk3 (d : Nat) : Room := { frames := d + 1, cells := 0, slots := 0, locals := 4000 + 40 * d }
set_option maxHeartbeats 8000000 in
set_option maxRecDepth 100000 in
/-- how far the forks of a row are, from one of them on -/
theorem c_walk3 (l : Launch) (D : va_G) (cs : Nat → ClassId) (o : Nat → Nat) (ho : b_O o) : ∀ d : Nat, d ≤ 8 → ∀ (C : hC) (sz : Nat) (r0 sa ia : Nat) (S I : Nat → Option Nat) (lr : List (Nat → Bool)) (hnd : lr.Nodup) (A : (Nat → Bool) → Nat) (hV : h_V cs o C r0 sa ia S I lr A) (hA99 : ∀ g, A g ≤ 99) (f : Nat → Bool) (x : Int32) (hx9 : r_c lr f x) (hh : r_h o f (8 - d)) (hleaf9 : ∀ {g : Nat → Bool}, g ∈ lr → ¬ r_l g), Met l yX3_walk wsX3_walk (rm_walk3 d) (va_Pc [.ref r0, .int x, .int (nI (8 - d))] (hU D cs C sz)) (va_Qv (fun (u : hC) => h_V cs o u r0 sa ia S I lr (r_Z o d A f) ∧ ∀ b : Nat, (∀ i : Nat, i < lr.length → I i ≠ some b) → u b = C b) (fun u t => h_H D (h_A C sz) u t.heap) (h_A C sz)) 0 0 (h_A C sz) := by
  intro d
  induction d with
  | zero =>
    intro _ C sz r0 sa ia S I lr hnd A hV hA99 f x hx9 hh hleaf9
    have hl0 : r_l f := by
      rcases hh.2 with h | ⟨p, hp, hq⟩
      · exact h
      · have := hp.1; omega
    refine hMet_v (cc := cX3_walk) (maxL := 3) (by decide) rfl RX3 rfl (Nat.le_of_ble_eq_true rfl) (lv := [(0, .ref r0), (1, .int x), (2, .int (nI (8 - 0)))]) rfl ?_
    intro p e s m args below meth c Q B9 ls hsz C0 hnm hH hS hl hret
    obtain ⟨hx, hb, hml, hts, hown, hlocks, hK, hN, hA, hargs⟩ := C0
    have hin3 : ∀ w ∈ u_ws RX3 TX3 3, w ∈ wsX3_walk := by decide +kernel
    obtain ⟨⟨hr0, hsa, hia, h80, hsaid⟩, hE, hJ⟩ := id hV
    have hneg : x < 0 := by
      rcases hx9 with ⟨_, e⟩ | ⟨_, e⟩ | ⟨i, hi, _⟩
      · rw [e]; decide
      · rw [e]; decide
      · exfalso
        obtain ⟨b, X, -, -, -, -, -, -⟩ := hE i f hi
        exact hleaf9 (List.mem_of_getElem? hi) hl0
    refine lv_iload_n hx hb dX3_walk_0 rfl (lv_at hl 1 rfl) ?_
    refine lv_if_lt (tgt := 16) hx hb dX3_walk_1 (by decide) (fun c1 => ?_) (fun c1 => ?_)
    · skip
      exact hret 16 ls _ _ _ _ C dX3_walk_16 (Nat.le_refl _) (Nat.le_refl _) ⟨by rw [r_Z_in (Or.inl hl0)]; exact hV, fun _ _ => rfl⟩ hH hS
    · exact absurd hneg (by simpa using c1)
  | succ d ih =>
    intro hd C sz r0 sa ia S I lr hnd A hV hA99 f x hx9 hh hleaf9
    refine hMet_v (cc := cX3_walk) (maxL := 3) (by decide) rfl RX3 rfl (Nat.le_of_ble_eq_true rfl) (lv := [(0, .ref r0), (1, .int x), (2, .int (nI (8 - (d + 1))))]) rfl ?_
    intro p e s m args below meth c Q B9 ls hsz C0 hnm hH hS hl hret
    obtain ⟨hx, hb, hml, hts, hown, hlocks, hK, hN, hA, hargs⟩ := C0
    have hin3 : ∀ w ∈ u_ws RX3 TX3 3, w ∈ wsX3_walk := by decide +kernel
    obtain ⟨⟨hr0, hsa, hia, h80, hsaid⟩, hE, hJ⟩ := id hV
    rcases (show r_l f ∨ ¬ r_l f from Classical.em _) with hl0 | hnl
    · skip
      have hneg : x < 0 := by
        rcases hx9 with ⟨_, e⟩ | ⟨_, e⟩ | ⟨i, hi, _⟩
        · rw [e]; decide
        · rw [e]; decide
        · exact absurd hl0 (fun h => hleaf9 (List.mem_of_getElem? hi) h)
      refine lv_iload_n hx hb dX3_walk_0 rfl (lv_at hl 1 rfl) ?_
      refine lv_if_lt (tgt := 16) hx hb dX3_walk_1 (by decide) (fun c1 => ?_) (fun c1 => ?_)
      · skip
        exact hret 16 ls _ _ _ _ C dX3_walk_16 (Nat.le_refl _) (Nat.le_refl _) ⟨by rw [r_Z_in (Or.inl hl0)]; exact hV, fun _ _ => rfl⟩ hH hS
      · exact absurd hneg (by simpa using c1)
    · skip
      obtain ⟨i, hi, rfl⟩ : ∃ i : Nat, lr[i]? = some f ∧ x = nI i := by
        rcases hx9 with ⟨e, _⟩ | ⟨e, _⟩ | h
        · exact absurd (Or.inl e) hnl
        · exact absurd (Or.inr e) hnl
        · exact h
      have hil : i < lr.length := get_lt hi
      obtain ⟨b, X, hI, hbX, x0, x1, x2, x3⟩ := hE i f hi
      obtain ⟨p0, hp0, hq0⟩ := hh.top hnl
      refine lv_iload_n hx hb dX3_walk_0 rfl (lv_at hl 1 rfl) ?_
      refine lv_if_lt (tgt := 16) hx hb dX3_walk_1 (by decide) (fun c1 => ?_) (fun c1 => ?_)
      · exact absurd c1 (nI_pos (by omega))
      · skip
        refine lv_aload_n hx hb dX3_walk_4 rfl (lv_at hl 0 rfl) ?_
        refine h_get (v := .ref ia) (C0 := RX3) (T := TX3) (N := 3) hx hb hts hin3 hown hK.1 hH hr0 rfl 2 (by decide) rfl (by decide +kernel) rfl dX3_walk_5 ?_
        refine lv_iload_n hx hb dX3_walk_8 rfl (lv_at hl 1 rfl) ?_
        refine h_aald hx hb hH hK.2.2.1 rfl hia i (by omega) (by decide) rfl dX3_walk_9 ?_
        rw [hI]
        refine lv_iconst (v := 3) hx hb dX3_walk_10 (by decide) ?_
        refine h_iald hx hb hK.1 hH hbX 0 rfl 3 (by decide) (by decide) rfl dX3_walk_11 ?_
        rw [x3]
        refine lv_iload_n hx hb dX3_walk_12 rfl (lv_at hl 2 rfl) ?_
        refine lv_icmp_gt (tgt := 17) hx hb dX3_walk_13 (by decide) (fun c2 => ?_) (fun c2 => ?_)
        · skip
          have hgt : ¬ A f ≤ 7 - d := fun h => absurd c2 (nI_nlt (by omega) (by have := hA99 f; omega))
          have hZ : r_Z o (d + 1) A f = r_Z o d (r_Z o d (r_u A f (7 - d)) (r_k o f 0)) (r_k o f 1) := by rw [r_Z, cIf_neg (fun h => h.elim hnl hgt)]
          refine lv_aload_n hx hb dX3_walk_17 rfl (lv_at hl 0 rfl) ?_
          refine h_get (v := .ref ia) (C0 := RX3) (T := TX3) (N := 3) hx hb hts hin3 hown hK.1 hH hr0 rfl 2 (by decide) rfl (by decide +kernel) rfl dX3_walk_18 ?_
          refine lv_iload_n hx hb dX3_walk_21 rfl (lv_at hl 1 rfl) ?_
          refine h_aald hx hb hH hK.2.2.1 rfl hia i (by omega) (by decide) rfl dX3_walk_22 ?_
          rw [hI]
          refine lv_iconst (v := 3) hx hb dX3_walk_23 (by decide) ?_
          refine lv_iload_n hx hb dX3_walk_24 rfl (lv_at hl 2 rfl) ?_
          rw [show 8 - (d + 1) = 7 - d by omega]
          rw [show 8 - (d + 1) = 7 - d by omega] at hl
          refine h_iast hx hb hK.1 hH hS hbX 0 rfl 3 (by decide) (by decide) rfl dX3_walk_25 (fun H locs hH hS => ?_)
          have hV1 := hV.put hnd hi hI hbX (7 - d)
          have hA1 : ∀ g, r_u A f (7 - d) g ≤ 99 := fun g => by
            by_cases e9 : g = f
            · rw [e9, r_u_at]; omega
            · rw [r_u_ne e9]; exact hA99 g
          have hA2 := r_Z_99 (o := o) d _ (r_k o f 0) hA1
          obtain ⟨⟨vr, vs, vi, -, -⟩, vE, -⟩ := id hV1
          obtain ⟨bv, Xv, vI, vb, -, v1, v2, -⟩ := vE i f hi
          refine lv_aload_n hx hb dX3_walk_26 rfl (lv_at hl 0 rfl) ?_
          refine lv_aload_n hx hb dX3_walk_27 rfl (lv_at hl 0 rfl) ?_
          refine h_get (v := .ref ia) (C0 := RX3) (T := TX3) (N := 3) hx hb hts hin3 hown hK.1 hH vr rfl 2 (by decide) rfl (by decide +kernel) rfl dX3_walk_28 ?_
          refine lv_iload_n hx hb dX3_walk_31 rfl (lv_at hl 1 rfl) ?_
          refine h_aald hx hb hH hK.2.2.1 rfl vi i (by omega) (by decide) rfl dX3_walk_32 ?_
          rw [vI]
          refine lv_iconst (v := 1) hx hb dX3_walk_33 (by decide) ?_
          refine h_iald hx hb hK.1 hH vb 0 rfl 1 (by decide) (by decide) rfl dX3_walk_34 ?_
          refine lv_iload_n hx hb dX3_walk_35 rfl (lv_at hl 2 rfl) ?_
          refine lv_iconst (v := 1) hx hb dX3_walk_36 (by decide) ?_
          refine lv_iadd hx hb dX3_walk_37 ?_
          rw [nI_1, show 7 - d + 1 = 8 - d by omega]
          refine h_callv (va_runV (As := [.int (Xv 1), .int (nI (8 - d))]) (rest := []) ⟨hx, hb, hml, hown, hts⟩ (ih (by omega) _ H.size r0 sa ia S I lr hnd _ hV1 hA1 (r_k o f 0) (Xv 1) v1 ((r_h.kid ho hh.1 hp0 (by decide)).mono (by omega)) hleaf9) (cwV 2 hts gX3_walk_X3_walk rfl rfl rfl (by decide +kernel) ⟨show d + 1 + 1 ≤ d + 1 + 1 by omega, show 8 + (3 + 11) + (4000 + 40 * d) ≤ 4000 + 40 * (d + 1) by omega⟩) (h_preV hK hN hH vr rfl) rfl rfl hl.1 rfl (lv_room (Nat.le_of_ble_eq_true rfl)) dX3_walk_38 ⟨by first | exact Nat.le_of_ble_eq_true rfl | omega, by first | exact Nat.le_of_ble_eq_true rfl | omega⟩) hH hS hA (fun vC H locs hp hH hS => ?_)
          obtain ⟨hV2, hk2⟩ := hp
          obtain ⟨⟨wr, ws, wi, -, -⟩, wE, -⟩ := id hV2
          obtain ⟨bw, Xw, wI, wb, -, w1, w2, -⟩ := wE i f hi
          refine lv_aload_n hx hb dX3_walk_41 rfl (lv_at hl 0 rfl) ?_
          refine lv_aload_n hx hb dX3_walk_42 rfl (lv_at hl 0 rfl) ?_
          refine h_get (v := .ref ia) (C0 := RX3) (T := TX3) (N := 3) hx hb hts hin3 hown hK.1 hH wr rfl 2 (by decide) rfl (by decide +kernel) rfl dX3_walk_43 ?_
          refine lv_iload_n hx hb dX3_walk_46 rfl (lv_at hl 1 rfl) ?_
          refine h_aald hx hb hH hK.2.2.1 rfl wi i (by omega) (by decide) rfl dX3_walk_47 ?_
          rw [wI]
          refine lv_iconst (v := 2) hx hb dX3_walk_48 (by decide) ?_
          refine h_iald hx hb hK.1 hH wb 0 rfl 2 (by decide) (by decide) rfl dX3_walk_49 ?_
          refine lv_iload_n hx hb dX3_walk_50 rfl (lv_at hl 2 rfl) ?_
          refine lv_iconst (v := 1) hx hb dX3_walk_51 (by decide) ?_
          refine lv_iadd hx hb dX3_walk_52 ?_
          rw [nI_1, show 7 - d + 1 = 8 - d by omega]
          refine h_callv (va_runV (As := [.int (Xw 2), .int (nI (8 - d))]) (rest := []) ⟨hx, hb, hml, hown, hts⟩ (ih (by omega) _ H.size r0 sa ia S I lr hnd _ hV2 hA2 (r_k o f 1) (Xw 2) w2 ((r_h.kid ho hh.1 hp0 (by decide)).mono (by omega)) hleaf9) (cwV 2 hts gX3_walk_X3_walk rfl rfl rfl (by decide +kernel) ⟨show d + 1 + 1 ≤ d + 1 + 1 by omega, show 8 + (3 + 11) + (4000 + 40 * d) ≤ 4000 + 40 * (d + 1) by omega⟩) (h_preV hK hN hH wr rfl) rfl rfl hl.1 rfl (lv_room (Nat.le_of_ble_eq_true rfl)) dX3_walk_53 ⟨by first | exact Nat.le_of_ble_eq_true rfl | omega, by first | exact Nat.le_of_ble_eq_true rfl | omega⟩) hH hS hA (fun wC H locs hp hH hS => ?_)
          obtain ⟨hV3, hk3⟩ := hp
          refine hret 56 ls _ _ _ _ _ dX3_walk_56 (Nat.le_refl _) (Nat.le_refl _) ⟨by rw [hZ]; refine hV3, fun b9 h9 => ?_⟩ hH hS
          rw [hk3 b9 h9, hk2 b9 h9, h_U_ne (fun e9 => h9 i hil (by rw [hI, e9]))]
        · skip
          have hle : A f ≤ 8 - (d + 1) := by
            rcases Nat.lt_or_ge (8 - (d + 1)) (A f) with h | h
            · exact absurd (nI_lt h (by have := hA99 f; omega)) c2
            · exact h
          exact hret 16 ls _ _ _ _ C dX3_walk_16 (Nat.le_refl _) (Nat.le_refl _) ⟨by rw [r_Z_in (Or.inr hle)]; exact hV, fun _ _ => rfl⟩ hH hS
