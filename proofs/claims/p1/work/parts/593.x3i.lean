theorem four_mul {lv : Nat} (h : lv < 2) : 4 * nI lv = nI (4 * lv) := by
  rcases (show lv = 0 ∨ lv = 1 by omega) with rfl | rfl <;> rfl

abbrev rm_m_forkL : Room := { frames := 1, cells := 0, slots := 0, locals := 100 }
set_option maxHeartbeats 4000000 in
set_option maxRecDepth 100000 in
theorem c_m_forkL (l : Launch) (D : va_G) (I Z J : ClassId) (ad : Nat → Nat) (hI : mI ad) (M : Nat → Nat → Int32) (L : Nat → Nat → Int64) (sz : Nat) (lv : Nat) (hlv : lv < 2) (hl0 : ∀ k : Nat, k < 4 → L 10 (4 * lv + k) = 0) : Met l yX3_fork wsX3_fork rm_m_forkL (va_Pc [.ref (ad 0), .int (nI lv)] (mU D I Z J ad sz M L)) (va_Qi (fun (r : Int32) (u : mU8) => u = (M, L) ∧ r = (-1)) (fun (u : mU8) t => mP D I Z J ad u.1 u.2 t.heap) (mA ad sz)) 0 0 (mA ad sz) := by
  refine mMet_i (cc := cX3_fork) (maxL := 6) hI (by decide) rfl rfl (Nat.le_of_ble_eq_true rfl) (lv := [(0, .ref (ad 0)), (1, .int (nI lv))]) rfl ?_
  intro p e s m args below meth c Q A ls hsz C0 hW hl hret
  obtain ⟨hx, hb, hml, hts, hown, hlocks, hK, hDa, hA, hargs⟩ := C0
  have hin3 : ∀ w ∈ u_ws RX3 TX3 15, w ∈ wsX3_fork := by decide +kernel
  refine lv_iconst (v := 4) hx hb dX3_fork_0 (by decide) ?_
  refine lv_iload_n hx hb dX3_fork_1 rfl (lv_at hl 1 rfl) ?_
  refine lv_imul hx hb dX3_fork_2 ?_
  rw [four_mul hlv]
  refine lv_istore_n (lv' := [(2, .int (nI (4 * lv))), (0, .ref (ad 0)), (1, .int (nI lv))]) hx hb dX3_fork_3 rfl hl (by decide) rfl (fun ls hl => ?_)
  refine lv_aload_n hx hb dX3_fork_4 rfl (lv_at hl 1 rfl) ?_
  refine mr_get (v := .ref (ad 10)) hx hb hts hin3 hown hK hW rfl 11 (by decide) rfl (by decide +kernel) rfl dX3_fork_5 ?_
  refine lv_iload_n hx hb dX3_fork_8 rfl (lv_at hl 0 rfl) ?_
  refine lv_lconst (v := 0) hx hb dX3_fork_9 (by decide) ?_
  refine mr_calli (va_runS (As := [.ref (ad 10), .int (nI (4 * lv)), .long 0]) (rest := []) ⟨hx, hb, hml, hown, hts⟩ (c_m_isAll l D I Z J ad hI M L s.heap.size (4 * lv) (by omega) 0) (va_cwS 3 hts gX3_fork_X3_isAll rfl rfl rfl (by decide +kernel) ⟨Nat.le_of_ble_eq_true rfl, Nat.le_of_ble_eq_true rfl⟩) (mr_preS hK hW) rfl rfl hl.1 rfl (lv_room (Nat.le_of_ble_eq_true rfl)) dX3_fork_10 ⟨Nat.le_of_ble_eq_true rfl, Nat.le_of_ble_eq_true rfl⟩) hA hDa hW (fun r u H locs hp hW => ?_)
  obtain ⟨hu, hv9⟩ := hp
  rw [show u.1 = M from by rw [hu], show u.2 = L from by rw [hu]] at hW
  have h9 : r = 1 := by rw [hv9]; rw [b2, if_pos hl0]
  rw [h9]
  refine lv_if_eq (tgt := 18) hx hb dX3_fork_13 (by decide) (fun c1 => ?_) (fun c1 => ?_)
  · exact absurd c1 (by decide)
  · skip
    refine lv_iconst (v := -1) hx hb dX3_fork_16 (by decide) ?_
    exact hret 17 ls H locs _ (M, L) dX3_fork_17 (⟨rfl, rfl⟩) hW

abbrev rm_m_forkY : Room := { frames := 1, cells := 0, slots := 0, locals := 100 }
set_option maxHeartbeats 4000000 in
set_option maxRecDepth 100000 in
theorem c_m_forkY (l : Launch) (D : va_G) (I Z J : ClassId) (ad : Nat → Nat) (hI : mI ad) (M : Nat → Nat → Int32) (L : Nat → Nat → Int64) (sz : Nat) (lv : Nat) (hlv : lv < 2) (hl0 : ∀ k : Nat, k < 4 → L 10 (4 * lv + k) = -1) : Met l yX3_fork wsX3_fork rm_m_forkY (va_Pc [.ref (ad 0), .int (nI lv)] (mU D I Z J ad sz M L)) (va_Qi (fun (r : Int32) (u : mU8) => u = (M, L) ∧ r = (-2)) (fun (u : mU8) t => mP D I Z J ad u.1 u.2 t.heap) (mA ad sz)) 0 0 (mA ad sz) := by
  refine mMet_i (cc := cX3_fork) (maxL := 6) hI (by decide) rfl rfl (Nat.le_of_ble_eq_true rfl) (lv := [(0, .ref (ad 0)), (1, .int (nI lv))]) rfl ?_
  intro p e s m args below meth c Q A ls hsz C0 hW hl hret
  obtain ⟨hx, hb, hml, hts, hown, hlocks, hK, hDa, hA, hargs⟩ := C0
  have hin3 : ∀ w ∈ u_ws RX3 TX3 15, w ∈ wsX3_fork := by decide +kernel
  refine lv_iconst (v := 4) hx hb dX3_fork_0 (by decide) ?_
  refine lv_iload_n hx hb dX3_fork_1 rfl (lv_at hl 1 rfl) ?_
  refine lv_imul hx hb dX3_fork_2 ?_
  rw [four_mul hlv]
  refine lv_istore_n (lv' := [(2, .int (nI (4 * lv))), (0, .ref (ad 0)), (1, .int (nI lv))]) hx hb dX3_fork_3 rfl hl (by decide) rfl (fun ls hl => ?_)
  refine lv_aload_n hx hb dX3_fork_4 rfl (lv_at hl 1 rfl) ?_
  refine mr_get (v := .ref (ad 10)) hx hb hts hin3 hown hK hW rfl 11 (by decide) rfl (by decide +kernel) rfl dX3_fork_5 ?_
  refine lv_iload_n hx hb dX3_fork_8 rfl (lv_at hl 0 rfl) ?_
  refine lv_lconst (v := 0) hx hb dX3_fork_9 (by decide) ?_
  refine mr_calli (va_runS (As := [.ref (ad 10), .int (nI (4 * lv)), .long 0]) (rest := []) ⟨hx, hb, hml, hown, hts⟩ (c_m_isAll l D I Z J ad hI M L s.heap.size (4 * lv) (by omega) 0) (va_cwS 3 hts gX3_fork_X3_isAll rfl rfl rfl (by decide +kernel) ⟨Nat.le_of_ble_eq_true rfl, Nat.le_of_ble_eq_true rfl⟩) (mr_preS hK hW) rfl rfl hl.1 rfl (lv_room (Nat.le_of_ble_eq_true rfl)) dX3_fork_10 ⟨Nat.le_of_ble_eq_true rfl, Nat.le_of_ble_eq_true rfl⟩) hA hDa hW (fun r u H locs hp hW => ?_)
  obtain ⟨hu, hv9⟩ := hp
  rw [show u.1 = M from by rw [hu], show u.2 = L from by rw [hu]] at hW
  have h9 : r = 0 := by rw [hv9]; rw [b2, if_neg (fun h => absurd ((h 0 (by decide)).symm.trans (hl0 0 (by decide))) (by decide))]
  rw [h9]
  refine lv_if_eq (tgt := 18) hx hb dX3_fork_13 (by decide) (fun c1 => ?_) (fun c1 => ?_)
  · skip
    refine lv_aload_n hx hb dX3_fork_18 rfl (lv_at hl 1 rfl) ?_
    refine mr_get (v := .ref (ad 10)) hx hb hts hin3 hown hK hW rfl 11 (by decide) rfl (by decide +kernel) rfl dX3_fork_19 ?_
    refine lv_iload_n hx hb dX3_fork_22 rfl (lv_at hl 0 rfl) ?_
    refine lv_ldc2 (v := -1) hx hb hown (hts (.constantLong RX3 56 (-1)) (by decide +kernel)) dX3_fork_23 ?_
    refine mr_calli (va_runS (As := [.ref (ad 10), .int (nI (4 * lv)), .long (-1)]) (rest := []) ⟨hx, hb, hml, hown, hts⟩ (c_m_isAll l D I Z J ad hI M L H.size (4 * lv) (by omega) (-1)) (va_cwS 3 hts gX3_fork_X3_isAll rfl rfl rfl (by decide +kernel) ⟨Nat.le_of_ble_eq_true rfl, Nat.le_of_ble_eq_true rfl⟩) (mr_preS hK hW) rfl rfl hl.1 rfl (lv_room (Nat.le_of_ble_eq_true rfl)) dX3_fork_26 ⟨Nat.le_of_ble_eq_true rfl, Nat.le_of_ble_eq_true rfl⟩) hA hDa hW (fun r u H locs hp hW => ?_)
    obtain ⟨hu, hv9⟩ := hp
    rw [show u.1 = M from by rw [hu], show u.2 = L from by rw [hu]] at hW
    have h9 : r = 1 := by rw [hv9]; rw [b2, if_pos hl0]
    rw [h9]
    refine lv_if_eq (tgt := 35) hx hb dX3_fork_29 (by decide) (fun c2 => ?_) (fun c2 => ?_)
    · exact absurd c2 (by decide)
    · skip
      refine lv_bipush (v := -2) hx hb dX3_fork_32 (by decide) ?_
      exact hret 34 ls H locs _ (M, L) dX3_fork_34 (⟨rfl, rfl⟩) hW
  · exact absurd rfl c1
