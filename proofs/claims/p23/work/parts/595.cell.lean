abbrev rm_l_cell : Room := { frames := 0, cells := 0, slots := 0, locals := 4000 }
set_option maxHeartbeats 4000000 in
set_option maxRecDepth 100000 in
/-- a cell of the script, or what stands for it -/
theorem c_l_cell (l : Launch) (D : va_G) (cs : Nat → ClassId) (C : hC) (sz : Nat) (b L : Nat) (xs : Nat → Int32) (hbC : C b = none) (hbl : b < sz) (hL : L ≤ 260) (k : Nat) (hk : k < 1000) : Met l yL_cell wsL_cell rm_l_cell (va_Pc [.ref b, .int (nI k)] (gU D cs C sz (sX b L xs))) (va_Qi (fun (r : Int32) (u : hC) => u = C) (fun u t => h_H D (h_A C sz) u t.heap) (h_A C sz)) 0 0 (h_A C sz) := by
  refine gMet_i (cc := cL_cell) (maxL := 2) (by decide) rfl RL rfl (Nat.le_of_ble_eq_true rfl) (lv := [(0, .ref b), (1, .int (nI k))]) rfl ?_
  intro p e s m args below meth c Q A ls hsz hA9 hX9 C0 hH hS hl hret
  obtain ⟨hx, hb, hml, hts, hown, hlocks, hK, hN, hA, hargs⟩ := C0
  have hbl : b < s.heap.size := by rw [hsz]; exact hbl
  have hbA : ¬ A b := by rw [hA9]; rintro (h | h); exact h hbC; omega
  refine lv_iload_n hx hb dL_cell_0 rfl (lv_at hl 1 rfl) ?_
  refine lv_aload_n hx hb dL_cell_1 rfl (lv_at hl 0 rfl) ?_
  refine va_slen hx hb hX9 hbl hbA hS dL_cell_2 ?_
  refine lv_icmp_ge (tgt := 12) hx hb dL_cell_3 (by decide) (fun c1 => ?_) (fun c1 => ?_)
  · skip
    refine lv_ldc (v := 790386105) hx hb hown (hts (.constant RL 8 790386105) (by decide +kernel)) dL_cell_12 ?_
    refine lv_iload_n hx hb dL_cell_14 rfl (lv_at hl 1 rfl) ?_
    refine lv_iconst (v := 3) hx hb dL_cell_15 (by decide) ?_
    refine lv_iadd hx hb dL_cell_16 ?_
    refine lv_imul hx hb dL_cell_17 ?_
    exact hret 18 ls _ _ 0 0 _ C dL_cell_18 (by first | decide | omega) (by first | decide | omega) (rfl) hH hS
  · skip
    refine lv_aload_n hx hb dL_cell_6 rfl (lv_at hl 0 rfl) ?_
    refine lv_iload_n hx hb dL_cell_7 rfl (lv_at hl 1 rfl) ?_
    refine va_sld hx hb hX9 hbl hbA hS (vp_in_nI (by rcases Nat.lt_or_ge k L with h | h; exact h; exact absurd (nI_le h (by omega)) c1) (by omega)) dL_cell_8 ?_
    refine lv_goto (tgt := 18) hx hb dL_cell_9 (by decide) ?_
    exact hret 18 ls _ _ 0 0 _ C dL_cell_18 (by first | decide | omega) (by first | decide | omega) (rfl) hH hS

theorem ord8 : ∀ p : Nat, p < 8 → (upd (upd (upd (upd (upd (upd (upd (upd (fun _ => 0) 0 0) 1 1) 2 2) 3 3) 4 4) 5 5) 6 6) 7 7 : Nat → Int32) p = nI p := by decide +kernel
abbrev rm_h_simInit : Room := { frames := 1, cells := 2, slots := 20, locals := 4000 }
set_option maxHeartbeats 4000000 in
set_option maxRecDepth 100000 in
/-- a new row of folds and the first order -/
theorem c_h_simInit (l : Launch) (D : va_G) (cs : Nat → ClassId) (C : hC) (sz : Nat) (q : Nat) (hq : C q = some (.inr (4, [.null, .null, .null]))) : Met l yX4_init wsX4_init rm_h_simInit (va_Pc [.ref q] (hU D cs C sz)) (va_Qv (fun (u : hC) => ∃ (fd oa : Nat) (O : Nat → Int32), C fd = none ∧ C oa = none ∧ fd ≠ oa ∧ u q = some (.inr (4, [.ref fd, .ref oa, .null])) ∧ u fd = some (.inl (cs 2, 12, .inr (.inr (.inr (.inr (fun _ => none)))))) ∧ u oa = some (.inl (cs 0, 8, .inl O)) ∧ (∀ p : Nat, p < 8 → O p = nI p) ∧ ∀ b : Nat, b ≠ q → b ≠ fd → b ≠ oa → u b = C b) (fun u t => h_H D (h_A C sz) u t.heap) (h_A C sz)) 2 20 (h_A C sz) := by
  refine hMet_v (cc := cX4_init) (maxL := 1) (by decide) rfl RX4 rfl (Nat.le_of_ble_eq_true rfl) (lv := [(0, .ref q)]) rfl ?_
  intro p e s m args below meth c Q A ls hsz C0 hnm hH hS hl hret
  obtain ⟨hx, hb, hml, hts, hown, hlocks, hK, hN, hA, hargs⟩ := C0
  have hinw : ∀ w ∈ u_ws RX4 TX4 3, w ∈ wsX4_init := by decide +kernel
  refine lv_aload_n hx hb dX4_init_0 rfl (lv_at hl 0 rfl) ?_
  refine W.objInit hx hb hown (hts (.methodLink RX4 1 objectInit) (by decide +kernel)) (hts (.instanceMethod objectInit) (by decide +kernel)) (hts (.code objectInit ⟨#[0xb1]⟩ 1 none) (by decide +kernel)) rfl (by rw [hml]; exact hl.1) rfl dX4_init_1 (Nat.le_of_ble_eq_true rfl) (Nat.le_of_ble_eq_true rfl) ?_
  refine W.eq (g2 := F0 m 4 ls []) rfl ?_
  refine lv_aload_n hx hb dX4_init_4 rfl (lv_at hl 0 rfl) ?_
  refine lv_bipush (v := 12) hx hb dX4_init_5 (by decide) ?_
  refine h_newA (t := .long) (N' := 12) hx hb h_nJ hown (hts (.classLink RX4 7 "[J") (by decide +kernel)) (h_AO.use hN.2.1) hH hS hA hK.2.1 (by decide) (by decide) (by decide) (Nat.le_of_ble_eq_true rfl) (Nat.le_of_ble_eq_true rfl) dX4_init_7 (fun fd H hq0 hH hS => ?_)
  have n0 : q ≠ fd := h_ne hq hq0
  have f0 := (h_U_ne (C := C) (e := .inl (cs 2, 12, .inr (.inr (.inr (.inr (fun _ => none)))))) n0).trans hq
  refine h_putF (ty := .array (.array .long)) (n0 := "folds") (d0 := "[[J") hx hb hts hinw tyX4 tyX4_ok nmX4 hown hK.1 hH hS f0 rfl 0 (by decide) rfl (hnm.trans rfl) (by decide +kernel) (by decide +kernel) rfl rfl (Nat.le_of_ble_eq_true rfl) dX4_init_10 (fun H locs hH hS => ?_)
  have f1 := h_U_at (C := h_U C fd (.inl (cs 2, 12, .inr (.inr (.inr (.inr (fun _ => none))))))) (a := q) (e := .inr (4, [.ref fd, .null, .null]))
  refine lv_aload_n hx hb dX4_init_13 rfl (lv_at hl 0 rfl) ?_
  refine lv_bipush (v := 8) hx hb dX4_init_14 (by decide) ?_
  refine h_newa (atype := .int) (ty := .int) (a0 := (8, .inl (fun _ => 0))) (cA := cs 0) hx hb (hts (.arrayClass .int) (by decide +kernel)) rfl (fun _ h => by cases h) hK.1 hH hS hA 0 rfl (N' := 8) (fun _ => rfl) (by decide) (by decide) (by decide) (Nat.le_of_ble_eq_true rfl) (Nat.le_of_ble_eq_true rfl) dX4_init_16 (fun oa H hq1 hH hS => ?_)
  refine lv_dup hx hb dX4_init_18 rfl ?_
  refine lv_iconst (v := 0) hx hb dX4_init_19 (by decide) ?_
  refine lv_iconst (v := 0) hx hb dX4_init_20 (by decide) ?_
  refine h_iast hx hb hK.1 hH hS (h_U_at (C := (h_U (h_U C fd (.inl (cs 2, 12, .inr (.inr (.inr (.inr (fun _ => none))))))) q (.inr (4, [.ref fd, .null, .null])))) (a := oa) (e := .inl (cs 0, 8, .inl (fun _ => 0)))) 0 rfl 0 (by decide) (by decide) rfl dX4_init_21 (fun H locs hH hS => ?_)
  rw [h_U_U] at hH
  refine lv_dup hx hb dX4_init_22 rfl ?_
  refine lv_iconst (v := 1) hx hb dX4_init_23 (by decide) ?_
  refine lv_iconst (v := 1) hx hb dX4_init_24 (by decide) ?_
  refine h_iast hx hb hK.1 hH hS (h_U_at (C := (h_U (h_U C fd (.inl (cs 2, 12, .inr (.inr (.inr (.inr (fun _ => none))))))) q (.inr (4, [.ref fd, .null, .null])))) (a := oa) (e := .inl (cs 0, 8, .inl (upd (fun _ => 0) 0 0)))) 0 rfl 1 (by decide) (by decide) rfl dX4_init_25 (fun H locs hH hS => ?_)
  rw [h_U_U] at hH
  refine lv_dup hx hb dX4_init_26 rfl ?_
  refine lv_iconst (v := 2) hx hb dX4_init_27 (by decide) ?_
  refine lv_iconst (v := 2) hx hb dX4_init_28 (by decide) ?_
  refine h_iast hx hb hK.1 hH hS (h_U_at (C := (h_U (h_U C fd (.inl (cs 2, 12, .inr (.inr (.inr (.inr (fun _ => none))))))) q (.inr (4, [.ref fd, .null, .null])))) (a := oa) (e := .inl (cs 0, 8, .inl (upd (upd (fun _ => 0) 0 0) 1 1)))) 0 rfl 2 (by decide) (by decide) rfl dX4_init_29 (fun H locs hH hS => ?_)
  rw [h_U_U] at hH
  refine lv_dup hx hb dX4_init_30 rfl ?_
  refine lv_iconst (v := 3) hx hb dX4_init_31 (by decide) ?_
  refine lv_iconst (v := 3) hx hb dX4_init_32 (by decide) ?_
  refine h_iast hx hb hK.1 hH hS (h_U_at (C := (h_U (h_U C fd (.inl (cs 2, 12, .inr (.inr (.inr (.inr (fun _ => none))))))) q (.inr (4, [.ref fd, .null, .null])))) (a := oa) (e := .inl (cs 0, 8, .inl (upd (upd (upd (fun _ => 0) 0 0) 1 1) 2 2)))) 0 rfl 3 (by decide) (by decide) rfl dX4_init_33 (fun H locs hH hS => ?_)
  rw [h_U_U] at hH
  refine lv_dup hx hb dX4_init_34 rfl ?_
  refine lv_iconst (v := 4) hx hb dX4_init_35 (by decide) ?_
  refine lv_iconst (v := 4) hx hb dX4_init_36 (by decide) ?_
  refine h_iast hx hb hK.1 hH hS (h_U_at (C := (h_U (h_U C fd (.inl (cs 2, 12, .inr (.inr (.inr (.inr (fun _ => none))))))) q (.inr (4, [.ref fd, .null, .null])))) (a := oa) (e := .inl (cs 0, 8, .inl (upd (upd (upd (upd (fun _ => 0) 0 0) 1 1) 2 2) 3 3)))) 0 rfl 4 (by decide) (by decide) rfl dX4_init_37 (fun H locs hH hS => ?_)
  rw [h_U_U] at hH
  refine lv_dup hx hb dX4_init_38 rfl ?_
  refine lv_iconst (v := 5) hx hb dX4_init_39 (by decide) ?_
  refine lv_iconst (v := 5) hx hb dX4_init_40 (by decide) ?_
  refine h_iast hx hb hK.1 hH hS (h_U_at (C := (h_U (h_U C fd (.inl (cs 2, 12, .inr (.inr (.inr (.inr (fun _ => none))))))) q (.inr (4, [.ref fd, .null, .null])))) (a := oa) (e := .inl (cs 0, 8, .inl (upd (upd (upd (upd (upd (fun _ => 0) 0 0) 1 1) 2 2) 3 3) 4 4)))) 0 rfl 5 (by decide) (by decide) rfl dX4_init_41 (fun H locs hH hS => ?_)
  rw [h_U_U] at hH
  refine lv_dup hx hb dX4_init_42 rfl ?_
  refine lv_bipush (v := 6) hx hb dX4_init_43 (by decide) ?_
  refine lv_bipush (v := 6) hx hb dX4_init_45 (by decide) ?_
  refine h_iast hx hb hK.1 hH hS (h_U_at (C := (h_U (h_U C fd (.inl (cs 2, 12, .inr (.inr (.inr (.inr (fun _ => none))))))) q (.inr (4, [.ref fd, .null, .null])))) (a := oa) (e := .inl (cs 0, 8, .inl (upd (upd (upd (upd (upd (upd (fun _ => 0) 0 0) 1 1) 2 2) 3 3) 4 4) 5 5)))) 0 rfl 6 (by decide) (by decide) rfl dX4_init_47 (fun H locs hH hS => ?_)
  rw [h_U_U] at hH
  refine lv_dup hx hb dX4_init_48 rfl ?_
  refine lv_bipush (v := 7) hx hb dX4_init_49 (by decide) ?_
  refine lv_bipush (v := 7) hx hb dX4_init_51 (by decide) ?_
  refine h_iast hx hb hK.1 hH hS (h_U_at (C := (h_U (h_U C fd (.inl (cs 2, 12, .inr (.inr (.inr (.inr (fun _ => none))))))) q (.inr (4, [.ref fd, .null, .null])))) (a := oa) (e := .inl (cs 0, 8, .inl (upd (upd (upd (upd (upd (upd (upd (fun _ => 0) 0 0) 1 1) 2 2) 3 3) 4 4) 5 5) 6 6)))) 0 rfl 7 (by decide) (by decide) rfl dX4_init_53 (fun H locs hH hS => ?_)
  rw [h_U_U] at hH
  have n1 : q ≠ oa := h_ne f1 hq1
  have f2 := (h_U_ne (e := .inl (cs 0, 8, .inl (upd (upd (upd (upd (upd (upd (upd (upd (fun _ => 0) 0 0) 1 1) 2 2) 3 3) 4 4) 5 5) 6 6) 7 7))) n1).trans f1
  refine h_putF (ty := .array .int) (n0 := "order") (d0 := "[I") hx hb hts hinw tyX4 tyX4_ok nmX4 hown hK.1 hH hS f2 rfl 1 (by decide) rfl (hnm.trans rfl) (by decide +kernel) (by decide +kernel) rfl rfl (Nat.le_of_ble_eq_true rfl) dX4_init_54 (fun H locs hH hS => ?_)
  have n2 : fd ≠ oa := fun h => by
    rw [← h, h_U_ne (Ne.symm n0), h_U_at] at hq1
    cases hq1
  have hia : C oa = none := by rw [h_U_ne (Ne.symm n1), h_U_ne (Ne.symm n2)] at hq1; exact hq1
  exact hret 57 ls _ _ (0 + 1 + 1) (0 + 12 + 8) _ dX4_init_57 (by first | decide | omega) (by first | decide | omega) (⟨fd, oa, _, hq0, hia, n2, h_U_at, by rw [h_U_ne (Ne.symm n0), h_U_ne n2, h_U_ne (Ne.symm n0), h_U_at], by rw [h_U_ne (Ne.symm n1), h_U_at], ord8, fun b b1 b2 b3 => by rw [h_U_ne b1, h_U_ne b3, h_U_ne b1, h_U_ne b2]⟩) hH hS
