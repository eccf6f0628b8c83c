abbrev rm_join : Room := { frames := 14, cells := 4, slots := 24, locals := 800 }
set_option maxHeartbeats 4000000 in
set_option maxRecDepth 100000 in
/-- two folds joined -/
theorem c_join (l : Launch) (hst : l.stackTraces = false) (D : va_G) (I Z F : ClassId) (ad sa : Nat → Nat) (hI : cI ad) (M : Nat → Nat → Int32) (sz : Nat) (a1 b1 x : Int32) : vx_Met l yX2_join wsX2_join rm_join (va_Pc [.ref (ad 0), .int a1, .int b1, .int x] (cUX D I Z F ad sa sz M)) (va_Qi (fun (r : Int32) (u : Nat → Nat → Int32) => ∃ ka kb wh f : Nat, fdOk M a1 ka ∧ fdOk M b1 kb ∧ wh < 6 ∧ x = nI wh ∧ frOk M f ∧ r = nI f ∧ u = nwF M f (sjT M ka kb wh)) (fun u t => cP D I Z F ad u t.heap) (cA ad sz)) (xQ D I Z F ad M sz (fun E => xpN M ((∃ k, fdOk M a1 k) ∧ (∃ k, fdOk M b1 k) ∧ inB x 6) E)) 4 24 (cA ad sz) := by
  refine cMetX_i (cc := cX2_join) (maxL := 7) hst hI (by decide) rfl ⟨rfl, rfl, by decide, by decide⟩ RX2 rfl (Nat.le_of_ble_eq_true rfl) (lv := [(0, .ref (ad 0)), (1, .int a1), (2, .int b1), (3, .int x)]) rfl ?_
  intro p e s m args below meth c Q A ls hsz C0 hX hW hl hret hthr hprp
  obtain ⟨hx, hb, hml, hts, hown, hlocks, hK, hN, hDa, hA, hargs⟩ := C0
  have hin2 : ∀ w ∈ u_ws RX2 TX2 6, w ∈ wsX2_join := by decide +kernel
  have hin0 : ∀ w ∈ u_ws RX0 TX0 7, w ∈ wsX2_join := by decide +kernel
  have hin1 : ∀ w ∈ u_ws RX1 TX1 10, w ∈ wsX2_join := by decide +kernel
  refine lv_aload_n hx hb dX2_join_0 rfl (lv_at hl 0 rfl) ?_
  refine lv_iload_n hx hb dX2_join_1 rfl (lv_at hl 1 rfl) ?_
  refine cx_callq (vx_runV (As := [.int a1]) (rest := []) ⟨hx, hb, hml, hown, hts⟩ (c_foldAt l hst D I Z F ad sa hI M s.heap.size a1) (cwV 1 hts gX2_join_X2_foldAt rfl rfl rfl (by decide +kernel) ⟨Nat.le_of_ble_eq_true rfl, Nat.le_of_ble_eq_true rfl⟩) (cx_preV hK hN hX hA hDa hW 0 (by decide) (cE_x I Z F ad M) rfl) rfl rfl hl.1 rfl (lv_room (Nat.le_of_ble_eq_true rfl)) dX2_join_2 ⟨Nat.le_of_ble_eq_true rfl, Nat.le_of_ble_eq_true rfl⟩) hA hDa hW (fun E ce q9 H locs hxp hW h1 h2 h3 => ?_) (fun r ka H locs hp hW => ?_)
  · exact hprp 2 ls _ H locs 1 6 E ce q9 (Or.inl ⟨hxp.1, fun h => hxp.2 h.1⟩) hW (by decide) (by decide) h1 h2 h3
  obtain ⟨hka, hr9⟩ := hp
  subst hr9
  have hka12 := hka.1
  show W p l e rm_join s m args below meth c H locs 1 6 Q (F0 m 5 ls (.ref (ad (25 + 6 * ka)) :: []))
  refine lv_astore (lv' := [(4, .ref (ad (25 + 6 * ka))), (0, .ref (ad 0)), (1, .int a1), (2, .int b1), (3, .int x)]) hx hb dX2_join_5 hl (by decide) rfl (fun ls hl => ?_)
  refine lv_aload_n hx hb dX2_join_7 rfl (lv_at hl 1 rfl) ?_
  refine lv_iload_n hx hb dX2_join_8 rfl (lv_at hl 3 rfl) ?_
  refine cx_callq (vx_runV (As := [.int b1]) (rest := []) ⟨hx, hb, hml, hown, hts⟩ (c_foldAt l hst D I Z F ad sa hI M H.size b1) (cwV 1 hts gX2_join_X2_foldAt rfl rfl rfl (by decide +kernel) ⟨Nat.le_of_ble_eq_true rfl, Nat.le_of_ble_eq_true rfl⟩) (cx_preV hK hN hX hA hDa hW 0 (by decide) (cE_x I Z F ad M) rfl) rfl rfl hl.1 rfl (lv_room (Nat.le_of_ble_eq_true rfl)) dX2_join_9 ⟨Nat.le_of_ble_eq_true rfl, Nat.le_of_ble_eq_true rfl⟩) hA hDa hW (fun E ce q9 H locs hxp hW h1 h2 h3 => ?_) (fun r kb H locs hp hW => ?_)
  · exact hprp 9 ls _ H locs 2 12 E ce q9 (Or.inl ⟨hxp.1, fun h => hxp.2 h.2.1⟩) hW (by decide) (by decide) h1 h2 h3
  obtain ⟨hkb, hr9⟩ := hp
  subst hr9
  have hkb12 := hkb.1
  show W p l e rm_join s m args below meth c H locs 2 12 Q (F0 m 12 ls (.ref (ad (25 + 6 * kb)) :: []))
  refine lv_astore (lv' := [(5, .ref (ad (25 + 6 * kb))), (4, .ref (ad (25 + 6 * ka))), (0, .ref (ad 0)), (1, .int a1), (2, .int b1), (3, .int x)]) hx hb dX2_join_12 hl (by decide) rfl (fun ls hl => ?_)
  refine lv_iload_n hx hb dX2_join_14 rfl (lv_at hl 5 rfl) ?_
  refine lv_bipush (v := 6) hx hb dX2_join_15 (by decide) ?_
  refine cx_callv (vx_runS (As := [.int x, .int 6]) (rest := []) ⟨hx, hb, hml, hown, hts⟩ (c_checkBelow l hst D I Z F ad sa hI M H.size x 6) (va_cwS 2 hts gX2_join_X2_checkBelow rfl rfl rfl (by decide +kernel) ⟨Nat.le_of_ble_eq_true rfl, Nat.le_of_ble_eq_true rfl⟩) (cx_preS hK hN hX hA hDa hW) rfl rfl hl.1 rfl (lv_room (Nat.le_of_ble_eq_true rfl)) dX2_join_17 ⟨Nat.le_of_ble_eq_true rfl, Nat.le_of_ble_eq_true rfl⟩) hA hDa hW (fun E ce q9 H locs hxp hW h1 h2 h3 => ?_) (fun u H locs hp hW => ?_)
  · exact hprp 17 ls _ H locs 3 18 E ce q9 (Or.inl ⟨hxp.1, fun h => inB_no (n := 6) (by decide) hxp.2 h.2.2⟩) hW (by decide) (by decide) h1 h2 h3
  obtain ⟨hu, hb1, hb2⟩ := hp
  rw [hu] at hW
  have hin : inB x 6 := inB_of (n := 6) (by decide) hb1 hb2
  obtain ⟨wh, hwh, rfl⟩ := hin
  refine lv_aload_n hx hb dX2_join_20 rfl (lv_at hl 2 rfl) ?_
  refine cx_calli (vx_runV (As := []) (rest := []) ⟨hx, hb, hml, hown, hts⟩ (c_freeNumber l hst D I Z F ad sa hI M H.size) (cwV 0 hts gX2_join_X2_freeNumber rfl rfl rfl (by decide +kernel) ⟨Nat.le_of_ble_eq_true rfl, Nat.le_of_ble_eq_true rfl⟩) (cx_preV hK hN hX hA hDa hW 0 (by decide) (cE_x I Z F ad M) rfl) rfl rfl hl.1 rfl (lv_room (Nat.le_of_ble_eq_true rfl)) dX2_join_21 ⟨Nat.le_of_ble_eq_true rfl, Nat.le_of_ble_eq_true rfl⟩) hA hDa hW (fun E ce q9 H locs hxp hW h1 h2 h3 => ?_) (fun r u H locs hp hW => ?_)
  · exact hprp 21 ls _ H locs 4 24 E ce q9 (Or.inr ⟨hxp.1, ⟨⟨ka, hka⟩, ⟨kb, hkb⟩, ⟨wh, hwh, rfl⟩⟩, hxp.2⟩) hW (by decide) (by decide) h1 h2 h3
  obtain ⟨hu, f, hf, hr9⟩ := hp
  rw [hu] at hW
  rw [hr9]
  have hf12 := hf.1
  refine lv_istore (lv' := [(6, .int (nI f)), (5, .ref (ad (25 + 6 * kb))), (4, .ref (ad (25 + 6 * ka))), (0, .ref (ad 0)), (1, .int a1), (2, .int b1), (3, .int (nI wh))]) hx hb dX2_join_24 hl (by decide) rfl (fun ls hl => ?_)
  refine lv_aload hx hb dX2_join_26 (lv_at hl 2 rfl) ?_
  refine lv_aload hx hb dX2_join_28 (lv_at hl 1 rfl) ?_
  refine lv_iload_n hx hb dX2_join_30 rfl (lv_at hl 6 rfl) ?_
  refine lv_aload_n hx hb dX2_join_31 rfl (lv_at hl 3 rfl) ?_
  refine cr_get (v := .ref (ad 1)) hx hb hts hin2 hown hK hW 0 (by decide) (cE_x I Z F ad M) rfl 0 (by decide) rfl (by decide +kernel) rfl dX2_join_32 ?_
  refine lv_iload hx hb dX2_join_35 (lv_at hl 0 rfl) ?_
  refine cr_fald hx hb hK hW f hf12 rfl dX2_join_37 ?_
  refine cr_getN (v := .ref (ad (25 + 6 * f + 1))) (host := "SharedForks") hx hb hts hin0 hown hK hW (25 + 6 * f) (by omega) (cE_d0 I Z F ad M f) rfl 1 (by decide) rfl hN (by decide +kernel) rfl dX2_join_38 ?_
  have na : 25 + 6 * f + 1 ≠ 25 + 6 * ka + 1 := by have := frOk_ne hf hka.2.2; omega
  have nb : 25 + 6 * f + 1 ≠ 25 + 6 * kb + 1 := by have := frOk_ne hf hkb.2.2; omega
  refine cr_callv (va_runS (As := [.ref (ad (25 + 6 * ka)), .ref (ad (25 + 6 * kb)), .int (nI wh), .ref (ad (25 + 6 * f + 1))]) (rest := []) ⟨hx, hb, hml, hown, hts⟩ (c_sayJoined l D I Z F ad hI M H.size ka kb hka12 hkb12 wh hwh (25 + 6 * f + 1) (by omega) (cE_d1 I Z F ad M f) na nb) (va_cwS 4 hts gX2_join_X2_sayJoined rfl rfl rfl (by decide +kernel) ⟨Nat.le_of_ble_eq_true rfl, Nat.le_of_ble_eq_true rfl⟩) (cr_preS hK hN hW) rfl rfl hl.1 rfl (lv_room (Nat.le_of_ble_eq_true rfl)) dX2_join_41 ⟨Nat.le_of_ble_eq_true rfl, Nat.le_of_ble_eq_true rfl⟩) hA hDa hW (fun u H locs hp hW => ?_)
  rw [hp] at hW
  refine lv_aload_n hx hb dX2_join_44 rfl (lv_at hl 3 rfl) ?_
  refine lv_iload hx hb dX2_join_45 (lv_at hl 0 rfl) ?_
  refine cr_calli (va_runV (As := [.int (nI f)]) (rest := []) ⟨hx, hb, hml, hown, hts⟩ (c_keep l D I Z F ad hI (sjF M ka kb wh (25 + 6 * f + 1)) H.size f hf12) (cwV 1 hts gX2_join_X2_keep rfl rfl rfl (by decide +kernel) ⟨Nat.le_of_ble_eq_true rfl, Nat.le_of_ble_eq_true rfl⟩) (cr_preV hK hN hW 0 (by decide) (cE_x I Z F ad (sjF M ka kb wh (25 + 6 * f + 1))) rfl) rfl rfl hl.1 rfl (lv_room (Nat.le_of_ble_eq_true rfl)) dX2_join_47 ⟨Nat.le_of_ble_eq_true rfl, Nat.le_of_ble_eq_true rfl⟩) hA hDa hW (fun r u H locs hp hW => ?_)
  obtain ⟨hu, hv9⟩ := hp
  rw [hu] at hW
  rw [hv9]
  exact hret 50 ls H locs 4 24 _ _ dX2_join_50 (by decide) (by decide) (⟨ka, kb, wh, f, hka, hkb, hwh, rfl, hf, rfl, rfl⟩) hW

abbrev rm_choose : Room := { frames := 14, cells := 4, slots := 24, locals := 800 }
set_option maxHeartbeats 4000000 in
set_option maxRecDepth 100000 in
/-- the second where the first says yes, else the third -/
theorem c_choose (l : Launch) (hst : l.stackTraces = false) (D : va_G) (I Z F : ClassId) (ad sa : Nat → Nat) (hI : cI ad) (M : Nat → Nat → Int32) (sz : Nat) (hys : ysOk M) (a1 b1 c9 : Int32) : vx_Met l yX2_choose wsX2_choose rm_choose (va_Pc [.ref (ad 0), .int a1, .int b1, .int c9] (cUX D I Z F ad sa sz M)) (va_Qi (fun (r : Int32) (u : Nat → Nat → Int32) => ∃ ka kb kc f : Nat, fdOk M a1 ka ∧ fdOk M b1 kb ∧ fdOk M c9 kc ∧ frOk M f ∧ r = nI f ∧ u = nwF M f (chT M ka kb kc)) (fun u t => cP D I Z F ad u t.heap) (cA ad sz)) (xQ D I Z F ad M sz (fun E => xpN M ((∃ k, fdOk M a1 k) ∧ (∃ k, fdOk M b1 k) ∧ (∃ k, fdOk M c9 k)) E)) 4 24 (cA ad sz) := by
  refine cMetX_i (cc := cX2_choose) (maxL := 10) hst hI (by decide) rfl ⟨rfl, rfl, by decide, by decide⟩ RX2 rfl (Nat.le_of_ble_eq_true rfl) (lv := [(0, .ref (ad 0)), (1, .int a1), (2, .int b1), (3, .int c9)]) rfl ?_
  intro p e s m args below meth c Q A ls hsz C0 hX hW hl hret hthr hprp
  obtain ⟨hx, hb, hml, hts, hown, hlocks, hK, hN, hDa, hA, hargs⟩ := C0
  have hin2 : ∀ w ∈ u_ws RX2 TX2 6, w ∈ wsX2_choose := by decide +kernel
  have hin0 : ∀ w ∈ u_ws RX0 TX0 7, w ∈ wsX2_choose := by decide +kernel
  have hin1 : ∀ w ∈ u_ws RX1 TX1 10, w ∈ wsX2_choose := by decide +kernel
  refine lv_aload_n hx hb dX2_choose_0 rfl (lv_at hl 0 rfl) ?_
  refine lv_iload_n hx hb dX2_choose_1 rfl (lv_at hl 1 rfl) ?_
  refine cx_callq (vx_runV (As := [.int a1]) (rest := []) ⟨hx, hb, hml, hown, hts⟩ (c_foldAt l hst D I Z F ad sa hI M s.heap.size a1) (cwV 1 hts gX2_choose_X2_foldAt rfl rfl rfl (by decide +kernel) ⟨Nat.le_of_ble_eq_true rfl, Nat.le_of_ble_eq_true rfl⟩) (cx_preV hK hN hX hA hDa hW 0 (by decide) (cE_x I Z F ad M) rfl) rfl rfl hl.1 rfl (lv_room (Nat.le_of_ble_eq_true rfl)) dX2_choose_2 ⟨Nat.le_of_ble_eq_true rfl, Nat.le_of_ble_eq_true rfl⟩) hA hDa hW (fun E ce q9 H locs hxp hW h1 h2 h3 => ?_) (fun r ka H locs hp hW => ?_)
  · exact hprp 2 ls _ H locs 1 6 E ce q9 (Or.inl ⟨hxp.1, fun h => hxp.2 h.1⟩) hW (by decide) (by decide) h1 h2 h3
  obtain ⟨hka, hr9⟩ := hp
  subst hr9
  have hka12 := hka.1
  show W p l e rm_choose s m args below meth c H locs 1 6 Q (F0 m 5 ls (.ref (ad (25 + 6 * ka)) :: []))
  refine lv_astore (lv' := [(4, .ref (ad (25 + 6 * ka))), (0, .ref (ad 0)), (1, .int a1), (2, .int b1), (3, .int c9)]) hx hb dX2_choose_5 hl (by decide) rfl (fun ls hl => ?_)
  refine lv_aload_n hx hb dX2_choose_7 rfl (lv_at hl 1 rfl) ?_
  refine lv_iload_n hx hb dX2_choose_8 rfl (lv_at hl 3 rfl) ?_
  refine cx_callq (vx_runV (As := [.int b1]) (rest := []) ⟨hx, hb, hml, hown, hts⟩ (c_foldAt l hst D I Z F ad sa hI M H.size b1) (cwV 1 hts gX2_choose_X2_foldAt rfl rfl rfl (by decide +kernel) ⟨Nat.le_of_ble_eq_true rfl, Nat.le_of_ble_eq_true rfl⟩) (cx_preV hK hN hX hA hDa hW 0 (by decide) (cE_x I Z F ad M) rfl) rfl rfl hl.1 rfl (lv_room (Nat.le_of_ble_eq_true rfl)) dX2_choose_9 ⟨Nat.le_of_ble_eq_true rfl, Nat.le_of_ble_eq_true rfl⟩) hA hDa hW (fun E ce q9 H locs hxp hW h1 h2 h3 => ?_) (fun r kb H locs hp hW => ?_)
  · exact hprp 9 ls _ H locs 2 12 E ce q9 (Or.inl ⟨hxp.1, fun h => hxp.2 h.2.1⟩) hW (by decide) (by decide) h1 h2 h3
  obtain ⟨hkb, hr9⟩ := hp
  subst hr9
  have hkb12 := hkb.1
  show W p l e rm_choose s m args below meth c H locs 2 12 Q (F0 m 12 ls (.ref (ad (25 + 6 * kb)) :: []))
  refine lv_astore (lv' := [(5, .ref (ad (25 + 6 * kb))), (4, .ref (ad (25 + 6 * ka))), (0, .ref (ad 0)), (1, .int a1), (2, .int b1), (3, .int c9)]) hx hb dX2_choose_12 hl (by decide) rfl (fun ls hl => ?_)
  refine lv_aload_n hx hb dX2_choose_14 rfl (lv_at hl 2 rfl) ?_
  refine lv_iload_n hx hb dX2_choose_15 rfl (lv_at hl 5 rfl) ?_
  refine cx_callq (vx_runV (As := [.int c9]) (rest := []) ⟨hx, hb, hml, hown, hts⟩ (c_foldAt l hst D I Z F ad sa hI M H.size c9) (cwV 1 hts gX2_choose_X2_foldAt rfl rfl rfl (by decide +kernel) ⟨Nat.le_of_ble_eq_true rfl, Nat.le_of_ble_eq_true rfl⟩) (cx_preV hK hN hX hA hDa hW 0 (by decide) (cE_x I Z F ad M) rfl) rfl rfl hl.1 rfl (lv_room (Nat.le_of_ble_eq_true rfl)) dX2_choose_16 ⟨Nat.le_of_ble_eq_true rfl, Nat.le_of_ble_eq_true rfl⟩) hA hDa hW (fun E ce q9 H locs hxp hW h1 h2 h3 => ?_) (fun r kc H locs hp hW => ?_)
  · exact hprp 16 ls _ H locs 3 18 E ce q9 (Or.inl ⟨hxp.1, fun h => hxp.2 h.2.2⟩) hW (by decide) (by decide) h1 h2 h3
  obtain ⟨hkc, hr9⟩ := hp
  subst hr9
  have hkc12 := hkc.1
  show W p l e rm_choose s m args below meth c H locs 3 18 Q (F0 m 19 ls (.ref (ad (25 + 6 * kc)) :: []))
  refine lv_astore (lv' := [(6, .ref (ad (25 + 6 * kc))), (5, .ref (ad (25 + 6 * kb))), (4, .ref (ad (25 + 6 * ka))), (0, .ref (ad 0)), (1, .int a1), (2, .int b1), (3, .int c9)]) hx hb dX2_choose_19 hl (by decide) rfl (fun ls hl => ?_)
  refine lv_aload_n hx hb dX2_choose_21 rfl (lv_at hl 3 rfl) ?_
  refine cx_calli (vx_runV (As := []) (rest := []) ⟨hx, hb, hml, hown, hts⟩ (c_freeNumber l hst D I Z F ad sa hI M H.size) (cwV 0 hts gX2_choose_X2_freeNumber rfl rfl rfl (by decide +kernel) ⟨Nat.le_of_ble_eq_true rfl, Nat.le_of_ble_eq_true rfl⟩) (cx_preV hK hN hX hA hDa hW 0 (by decide) (cE_x I Z F ad M) rfl) rfl rfl hl.1 rfl (lv_room (Nat.le_of_ble_eq_true rfl)) dX2_choose_22 ⟨Nat.le_of_ble_eq_true rfl, Nat.le_of_ble_eq_true rfl⟩) hA hDa hW (fun E ce q9 H locs hxp hW h1 h2 h3 => ?_) (fun r u H locs hp hW => ?_)
  · exact hprp 22 ls _ H locs 4 24 E ce q9 (Or.inr ⟨hxp.1, ⟨⟨ka, hka⟩, ⟨kb, hkb⟩, ⟨kc, hkc⟩⟩, hxp.2⟩) hW (by decide) (by decide) h1 h2 h3
  obtain ⟨hu, f, hf, hr9⟩ := hp
  rw [hu] at hW
  rw [hr9]
  have hf12 := hf.1
  refine lv_istore (lv' := [(7, .int (nI f)), (6, .ref (ad (25 + 6 * kc))), (5, .ref (ad (25 + 6 * kb))), (4, .ref (ad (25 + 6 * ka))), (0, .ref (ad 0)), (1, .int a1), (2, .int b1), (3, .int c9)]) hx hb dX2_choose_25 hl (by decide) rfl (fun ls hl => ?_)
  refine lv_aload_n hx hb dX2_choose_27 rfl (lv_at hl 4 rfl) ?_
  refine cr_get (v := .ref (ad 1)) hx hb hts hin2 hown hK hW 0 (by decide) (cE_x I Z F ad M) rfl 0 (by decide) rfl (by decide +kernel) rfl dX2_choose_28 ?_
  refine lv_iload hx hb dX2_choose_31 (lv_at hl 0 rfl) ?_
  refine cr_fald hx hb hK hW f hf12 rfl dX2_choose_33 ?_
  refine cr_getN (v := .ref (ad (25 + 6 * f + 1))) (host := "SharedForks") hx hb hts hin0 hown hK hW (25 + 6 * f) (by omega) (cE_d0 I Z F ad M f) rfl 1 (by decide) rfl hN (by decide +kernel) rfl dX2_choose_34 ?_
  refine lv_astore (lv' := [(8, .ref (ad (25 + 6 * f + 1))), (7, .int (nI f)), (6, .ref (ad (25 + 6 * kc))), (5, .ref (ad (25 + 6 * kb))), (4, .ref (ad (25 + 6 * ka))), (0, .ref (ad 0)), (1, .int a1), (2, .int b1), (3, .int c9)]) hx hb dX2_choose_37 hl (by decide) rfl (fun ls hl => ?_)
  refine lv_iconst (v := 0) hx hb dX2_choose_39 (by decide) ?_
  refine lv_istore (lv' := [(9, .int 0), (8, .ref (ad (25 + 6 * f + 1))), (7, .int (nI f)), (6, .ref (ad (25 + 6 * kc))), (5, .ref (ad (25 + 6 * kb))), (4, .ref (ad (25 + 6 * ka))), (0, .ref (ad 0)), (1, .int a1), (2, .int b1), (3, .int c9)]) hx hb dX2_choose_40 hl (by decide) rfl (fun ls hl => ?_)
  have na : 25 + 6 * ka + 1 ≠ 25 + 6 * f + 1 := by have := frOk_ne hf hka.2.2; omega
  have nb : 25 + 6 * kb + 1 ≠ 25 + 6 * f + 1 := by have := frOk_ne hf hkb.2.2; omega
  have nc : 25 + 6 * kc + 1 ≠ 25 + 6 * f + 1 := by have := frOk_ne hf hkc.2.2; omega
  have loop : ∀ q j : Nat, j + q = 256 → ∀ (ls : Array Slot) (H : Heap) (locs : List Loc), lv_has ls 10 [(9, .int (nI j)), (0, .ref (ad 0)), (7, .int (nI f)), (4, .ref (ad (25 + 6 * ka))), (5, .ref (ad (25 + 6 * kb))), (6, .ref (ad (25 + 6 * kc))), (8, .ref (ad (25 + 6 * f + 1)))] → cB9 D I Z F ad A s.heap (flC M (25 + 6 * f + 1) (chT M ka kb kc) j) H locs → W p l e rm_choose s m args below meth c H locs 4 24 Q (F0 m 42 ls []) := by
    intro q
    induction q with
    | zero =>
      intro j hj ls H locs hl hW
      obtain rfl : j = 256 := by omega
      refine lv_iload hx hb dX2_choose_42 (lv_at hl 0 rfl) ?_
      refine lv_sipush (v := 256) hx hb dX2_choose_44 (by decide) ?_
      refine lv_icmp_ge (tgt := 91) hx hb dX2_choose_47 (by decide) (fun c1 => ?_) (fun c1 => ?_)
      · skip
        refine lv_aload_n hx hb dX2_choose_91 rfl (lv_at hl 1 rfl) ?_
        refine lv_iload hx hb dX2_choose_92 (lv_at hl 2 rfl) ?_
        refine cr_calli (va_runV (As := [.int (nI f)]) (rest := []) ⟨hx, hb, hml, hown, hts⟩ (c_keep l D I Z F ad hI (flC M (25 + 6 * f + 1) (chT M ka kb kc) 256) H.size f hf12) (cwV 1 hts gX2_choose_X2_keep rfl rfl rfl (by decide +kernel) ⟨Nat.le_of_ble_eq_true rfl, Nat.le_of_ble_eq_true rfl⟩) (cr_preV hK hN hW 0 (by decide) (cE_x I Z F ad (flC M (25 + 6 * f + 1) (chT M ka kb kc) 256)) rfl) rfl rfl hl.1 rfl (lv_room (Nat.le_of_ble_eq_true rfl)) dX2_choose_94 ⟨Nat.le_of_ble_eq_true rfl, Nat.le_of_ble_eq_true rfl⟩) hA hDa hW (fun r u H locs hp hW => ?_)
        obtain ⟨hu, hv9⟩ := hp
        rw [hu] at hW
        rw [hv9]
        exact hret 97 ls H locs 4 24 _ _ dX2_choose_97 (by decide) (by decide) (⟨ka, kb, kc, f, hka, hkb, hkc, hf, rfl, rfl⟩) hW
      · exact absurd (nI_le (Nat.le_refl 256) (by decide)) c1
    | succ q ih =>
      intro j hj ls H locs hl hW
      refine lv_iload hx hb dX2_choose_42 (lv_at hl 0 rfl) ?_
      refine lv_sipush (v := 256) hx hb dX2_choose_44 (by decide) ?_
      refine lv_icmp_ge (tgt := 91) hx hb dX2_choose_47 (by decide) (fun c1 => ?_) (fun c1 => ?_)
      · exact absurd c1 (nI_ge (b := 256) (by omega) (by decide))
      · skip
        have ea : flC M (25 + 6 * f + 1) (chT M ka kb kc) j (25 + 6 * ka + 1) = M (25 + 6 * ka + 1) := flC_row na
        have eb : flC M (25 + 6 * f + 1) (chT M ka kb kc) j (25 + 6 * kb + 1) = M (25 + 6 * kb + 1) := flC_row nb
        have ec : flC M (25 + 6 * f + 1) (chT M ka kb kc) j (25 + 6 * kc + 1) = M (25 + 6 * kc + 1) := flC_row nc
        refine lv_aload hx hb dX2_choose_50 (lv_at hl 6 rfl) ?_
        refine lv_iload hx hb dX2_choose_52 (lv_at hl 0 rfl) ?_
        refine lv_aload hx hb dX2_choose_54 (lv_at hl 3 rfl) ?_
        refine cr_getN (v := .ref (ad (25 + 6 * ka + 1))) (host := "SharedForks") hx hb hts hin0 hown hK hW (25 + 6 * ka) (by omega) (cE_d0 I Z F ad (flC M (25 + 6 * f + 1) (chT M ka kb kc) j) ka) rfl 1 (by decide) rfl hN (by decide +kernel) rfl dX2_choose_56 ?_
        refine lv_iload hx hb dX2_choose_59 (lv_at hl 0 rfl) ?_
        refine cr_zald hx hb hK hW (25 + 6 * ka + 1) (by omega) (cE_d1 I Z F ad (flC M (25 + 6 * f + 1) (chT M ka kb kc) j) ka) j (by omega) (by decide) rfl dX2_choose_61 ?_
        rw [ea]
        refine lv_if_eq (tgt := 76) hx hb dX2_choose_62 (by decide) (fun c2 => ?_) (fun c2 => ?_)
        · skip
          refine lv_aload hx hb dX2_choose_76 (lv_at hl 5 rfl) ?_
          refine cr_getN (v := .ref (ad (25 + 6 * kc + 1))) (host := "SharedForks") hx hb hts hin0 hown hK hW (25 + 6 * kc) (by omega) (cE_d0 I Z F ad (flC M (25 + 6 * f + 1) (chT M ka kb kc) j) kc) rfl 1 (by decide) rfl hN (by decide +kernel) rfl dX2_choose_78 ?_
          refine lv_iload hx hb dX2_choose_81 (lv_at hl 0 rfl) ?_
          refine cr_zald hx hb hK hW (25 + 6 * kc + 1) (by omega) (cE_d1 I Z F ad (flC M (25 + 6 * f + 1) (chT M ka kb kc) j) kc) j (by omega) (by decide) rfl dX2_choose_83 ?_
          rw [ec]
          refine cr_zast hx hb hK hDa hW (25 + 6 * f + 1) (by omega) (cE_d1 I Z F ad _ f) j (by omega) (by decide) rfl (hys kc hkc12 j (by omega)) dX2_choose_84 (fun H locs hW => ?_)
          rw [flC_s M (25 + 6 * f + 1) (chT M ka kb kc) j (v := M (25 + 6 * kc + 1) j) (by rw [chT, if_pos c2])] at hW
          refine lv_iinc (v := nI (j + 1)) (lv' := [(9, .int (nI (j + 1))), (0, .ref (ad 0)), (7, .int (nI f)), (4, .ref (ad (25 + 6 * ka))), (5, .ref (ad (25 + 6 * kb))), (6, .ref (ad (25 + 6 * kc))), (8, .ref (ad (25 + 6 * f + 1)))]) hx hb dX2_choose_85 hl (k := 0) rfl (nI_1 j) (by decide) rfl (fun ls hl => ?_)
          refine lv_goto (tgt := 42) hx hb dX2_choose_88 (by decide) ?_
          exact ih (j + 1) (by omega) ls H locs (lv_sub hl [0, 1, 2, 3, 4, 5, 6] rfl) hW
        · skip
          refine lv_aload hx hb dX2_choose_65 (lv_at hl 4 rfl) ?_
          refine cr_getN (v := .ref (ad (25 + 6 * kb + 1))) (host := "SharedForks") hx hb hts hin0 hown hK hW (25 + 6 * kb) (by omega) (cE_d0 I Z F ad (flC M (25 + 6 * f + 1) (chT M ka kb kc) j) kb) rfl 1 (by decide) rfl hN (by decide +kernel) rfl dX2_choose_67 ?_
          refine lv_iload hx hb dX2_choose_70 (lv_at hl 0 rfl) ?_
          refine cr_zald hx hb hK hW (25 + 6 * kb + 1) (by omega) (cE_d1 I Z F ad (flC M (25 + 6 * f + 1) (chT M ka kb kc) j) kb) j (by omega) (by decide) rfl dX2_choose_72 ?_
          rw [eb]
          refine lv_goto (tgt := 84) hx hb dX2_choose_73 (by decide) ?_
          refine cr_zast hx hb hK hDa hW (25 + 6 * f + 1) (by omega) (cE_d1 I Z F ad _ f) j (by omega) (by decide) rfl (hys kb hkb12 j (by omega)) dX2_choose_84 (fun H locs hW => ?_)
          rw [flC_s M (25 + 6 * f + 1) (chT M ka kb kc) j (v := M (25 + 6 * kb + 1) j) (by rw [chT, if_neg c2])] at hW
          refine lv_iinc (v := nI (j + 1)) (lv' := [(9, .int (nI (j + 1))), (0, .ref (ad 0)), (7, .int (nI f)), (4, .ref (ad (25 + 6 * ka))), (5, .ref (ad (25 + 6 * kb))), (6, .ref (ad (25 + 6 * kc))), (8, .ref (ad (25 + 6 * f + 1)))]) hx hb dX2_choose_85 hl (k := 0) rfl (nI_1 j) (by decide) rfl (fun ls hl => ?_)
          refine lv_goto (tgt := 42) hx hb dX2_choose_88 (by decide) ?_
          exact ih (j + 1) (by omega) ls H locs (lv_sub hl [0, 1, 2, 3, 4, 5, 6] rfl) hW
  exact loop 256 0 (by decide) ls H locs (lv_sub hl [0, 6, 2, 5, 4, 3, 1] rfl) (by rw [flC_0]; exact hW)

abbrev rm_given : Room := { frames := 14, cells := 3, slots := 18, locals := 800 }
set_option maxHeartbeats 4000000 in
set_option maxRecDepth 100000 in
/-- what a fold says, if the answer to a question is another -/
theorem c_given (l : Launch) (hst : l.stackTraces = false) (D : va_G) (I Z F : ClassId) (ad sa : Nat → Nat) (hI : cI ad) (M : Nat → Nat → Int32) (sz : Nat) (hys : ysOk M) (a1 x y : Int32) : vx_Met l yX2_given wsX2_given rm_given (va_Pc [.ref (ad 0), .int a1, .int x, .int y] (cUX D I Z F ad sa sz M)) (va_Qi (fun (r : Int32) (u : Nat → Nat → Int32) => ∃ k q0 f : Nat, fdOk M a1 k ∧ q0 < 8 ∧ x = nI q0 ∧ frOk M f ∧ r = nI f ∧ u = nwF M f (gvT M k (nI q0) y)) (fun u t => cP D I Z F ad u t.heap) (cA ad sz)) (xQ D I Z F ad M sz (fun E => xpN M ((∃ k, fdOk M a1 k) ∧ inB x 8) E)) 3 18 (cA ad sz) := by
  refine cMetX_i (cc := cX2_given) (maxL := 8) hst hI (by decide) rfl ⟨rfl, rfl, by decide, by decide⟩ RX2 rfl (Nat.le_of_ble_eq_true rfl) (lv := [(0, .ref (ad 0)), (1, .int a1), (2, .int x), (3, .int y)]) rfl ?_
  intro p e s m args below meth c Q A ls hsz C0 hX hW hl hret hthr hprp
  obtain ⟨hx, hb, hml, hts, hown, hlocks, hK, hN, hDa, hA, hargs⟩ := C0
  have hin2 : ∀ w ∈ u_ws RX2 TX2 6, w ∈ wsX2_given := by decide +kernel
  have hin0 : ∀ w ∈ u_ws RX0 TX0 7, w ∈ wsX2_given := by decide +kernel
  have hin1 : ∀ w ∈ u_ws RX1 TX1 10, w ∈ wsX2_given := by decide +kernel
  refine lv_aload_n hx hb dX2_given_0 rfl (lv_at hl 0 rfl) ?_
  refine lv_iload_n hx hb dX2_given_1 rfl (lv_at hl 1 rfl) ?_
  refine cx_callq (vx_runV (As := [.int a1]) (rest := []) ⟨hx, hb, hml, hown, hts⟩ (c_foldAt l hst D I Z F ad sa hI M s.heap.size a1) (cwV 1 hts gX2_given_X2_foldAt rfl rfl rfl (by decide +kernel) ⟨Nat.le_of_ble_eq_true rfl, Nat.le_of_ble_eq_true rfl⟩) (cx_preV hK hN hX hA hDa hW 0 (by decide) (cE_x I Z F ad M) rfl) rfl rfl hl.1 rfl (lv_room (Nat.le_of_ble_eq_true rfl)) dX2_given_2 ⟨Nat.le_of_ble_eq_true rfl, Nat.le_of_ble_eq_true rfl⟩) hA hDa hW (fun E ce q9 H locs hxp hW h1 h2 h3 => ?_) (fun r k H locs hp hW => ?_)
  · exact hprp 2 ls _ H locs 1 6 E ce q9 (Or.inl ⟨hxp.1, fun h => hxp.2 h.1⟩) hW (by decide) (by decide) h1 h2 h3
  obtain ⟨hk, hr9⟩ := hp
  subst hr9
  have hk12 := hk.1
  show W p l e rm_given s m args below meth c H locs 1 6 Q (F0 m 5 ls (.ref (ad (25 + 6 * k)) :: []))
  refine lv_astore (lv' := [(4, .ref (ad (25 + 6 * k))), (0, .ref (ad 0)), (1, .int a1), (2, .int x), (3, .int y)]) hx hb dX2_given_5 hl (by decide) rfl (fun ls hl => ?_)
  refine lv_iload_n hx hb dX2_given_7 rfl (lv_at hl 3 rfl) ?_
  refine lv_bipush (v := 8) hx hb dX2_given_8 (by decide) ?_
  refine cx_callv (vx_runS (As := [.int x, .int 8]) (rest := []) ⟨hx, hb, hml, hown, hts⟩ (c_checkBelow l hst D I Z F ad sa hI M H.size x 8) (va_cwS 2 hts gX2_given_X2_checkBelow rfl rfl rfl (by decide +kernel) ⟨Nat.le_of_ble_eq_true rfl, Nat.le_of_ble_eq_true rfl⟩) (cx_preS hK hN hX hA hDa hW) rfl rfl hl.1 rfl (lv_room (Nat.le_of_ble_eq_true rfl)) dX2_given_10 ⟨Nat.le_of_ble_eq_true rfl, Nat.le_of_ble_eq_true rfl⟩) hA hDa hW (fun E ce q9 H locs hxp hW h1 h2 h3 => ?_) (fun u H locs hp hW => ?_)
  · exact hprp 10 ls _ H locs 2 12 E ce q9 (Or.inl ⟨hxp.1, fun h => inB_no (n := 8) (by decide) hxp.2 h.2⟩) hW (by decide) (by decide) h1 h2 h3
  obtain ⟨hu, hb1, hb2⟩ := hp
  rw [hu] at hW
  have hin : inB x 8 := inB_of (n := 8) (by decide) hb1 hb2
  obtain ⟨q0, hq0, rfl⟩ := hin
  refine lv_aload_n hx hb dX2_given_13 rfl (lv_at hl 1 rfl) ?_
  refine cx_calli (vx_runV (As := []) (rest := []) ⟨hx, hb, hml, hown, hts⟩ (c_freeNumber l hst D I Z F ad sa hI M H.size) (cwV 0 hts gX2_given_X2_freeNumber rfl rfl rfl (by decide +kernel) ⟨Nat.le_of_ble_eq_true rfl, Nat.le_of_ble_eq_true rfl⟩) (cx_preV hK hN hX hA hDa hW 0 (by decide) (cE_x I Z F ad M) rfl) rfl rfl hl.1 rfl (lv_room (Nat.le_of_ble_eq_true rfl)) dX2_given_14 ⟨Nat.le_of_ble_eq_true rfl, Nat.le_of_ble_eq_true rfl⟩) hA hDa hW (fun E ce q9 H locs hxp hW h1 h2 h3 => ?_) (fun r u H locs hp hW => ?_)
  · exact hprp 14 ls _ H locs 3 18 E ce q9 (Or.inr ⟨hxp.1, ⟨⟨k, hk⟩, ⟨q0, hq0, rfl⟩⟩, hxp.2⟩) hW (by decide) (by decide) h1 h2 h3
  obtain ⟨hu, f, hf, hr9⟩ := hp
  rw [hu] at hW
  rw [hr9]
  have hf12 := hf.1
  refine lv_istore (lv' := [(5, .int (nI f)), (4, .ref (ad (25 + 6 * k))), (0, .ref (ad 0)), (1, .int a1), (2, .int (nI q0)), (3, .int y)]) hx hb dX2_given_17 hl (by decide) rfl (fun ls hl => ?_)
  refine lv_aload_n hx hb dX2_given_19 rfl (lv_at hl 2 rfl) ?_
  refine cr_get (v := .ref (ad 1)) hx hb hts hin2 hown hK hW 0 (by decide) (cE_x I Z F ad M) rfl 0 (by decide) rfl (by decide +kernel) rfl dX2_given_20 ?_
  refine lv_iload hx hb dX2_given_23 (lv_at hl 0 rfl) ?_
  refine cr_fald hx hb hK hW f hf12 rfl dX2_given_25 ?_
  refine cr_getN (v := .ref (ad (25 + 6 * f + 1))) (host := "SharedForks") hx hb hts hin0 hown hK hW (25 + 6 * f) (by omega) (cE_d0 I Z F ad M f) rfl 1 (by decide) rfl hN (by decide +kernel) rfl dX2_given_26 ?_
  refine lv_astore (lv' := [(6, .ref (ad (25 + 6 * f + 1))), (5, .int (nI f)), (4, .ref (ad (25 + 6 * k))), (0, .ref (ad 0)), (1, .int a1), (2, .int (nI q0)), (3, .int y)]) hx hb dX2_given_29 hl (by decide) rfl (fun ls hl => ?_)
  refine lv_iconst (v := 0) hx hb dX2_given_31 (by decide) ?_
  refine lv_istore (lv' := [(7, .int 0), (6, .ref (ad (25 + 6 * f + 1))), (5, .int (nI f)), (4, .ref (ad (25 + 6 * k))), (0, .ref (ad 0)), (1, .int a1), (2, .int (nI q0)), (3, .int y)]) hx hb dX2_given_32 hl (by decide) rfl (fun ls hl => ?_)
  have nk : 25 + 6 * k + 1 ≠ 25 + 6 * f + 1 := by have := frOk_ne hf hk.2.2; omega
  have loop : ∀ q j : Nat, j + q = 256 → ∀ (ls : Array Slot) (H : Heap) (locs : List Loc), lv_has ls 8 [(7, .int (nI j)), (0, .ref (ad 0)), (5, .int (nI f)), (4, .ref (ad (25 + 6 * k))), (2, .int (nI q0)), (3, .int y), (6, .ref (ad (25 + 6 * f + 1)))] → cB9 D I Z F ad A s.heap (flC M (25 + 6 * f + 1) (gvT M k (nI q0) y) j) H locs → W p l e rm_given s m args below meth c H locs 3 18 Q (F0 m 34 ls []) := by
    intro q
    induction q with
    | zero =>
      intro j hj ls H locs hl hW
      obtain rfl : j = 256 := by omega
      refine lv_iload hx hb dX2_given_34 (lv_at hl 0 rfl) ?_
      refine lv_sipush (v := 256) hx hb dX2_given_36 (by decide) ?_
      refine lv_icmp_ge (tgt := 66) hx hb dX2_given_39 (by decide) (fun c1 => ?_) (fun c1 => ?_)
      · skip
        refine lv_aload_n hx hb dX2_given_66 rfl (lv_at hl 1 rfl) ?_
        refine lv_iload hx hb dX2_given_67 (lv_at hl 2 rfl) ?_
        refine cr_calli (va_runV (As := [.int (nI f)]) (rest := []) ⟨hx, hb, hml, hown, hts⟩ (c_keep l D I Z F ad hI (flC M (25 + 6 * f + 1) (gvT M k (nI q0) y) 256) H.size f hf12) (cwV 1 hts gX2_given_X2_keep rfl rfl rfl (by decide +kernel) ⟨Nat.le_of_ble_eq_true rfl, Nat.le_of_ble_eq_true rfl⟩) (cr_preV hK hN hW 0 (by decide) (cE_x I Z F ad (flC M (25 + 6 * f + 1) (gvT M k (nI q0) y) 256)) rfl) rfl rfl hl.1 rfl (lv_room (Nat.le_of_ble_eq_true rfl)) dX2_given_69 ⟨Nat.le_of_ble_eq_true rfl, Nat.le_of_ble_eq_true rfl⟩) hA hDa hW (fun r u H locs hp hW => ?_)
        obtain ⟨hu, hv9⟩ := hp
        rw [hu] at hW
        rw [hv9]
        exact hret 72 ls H locs 3 18 _ _ dX2_given_72 (by decide) (by decide) (⟨k, q0, f, hk, hq0, rfl, hf, rfl, rfl⟩) hW
      · exact absurd (nI_le (Nat.le_refl 256) (by decide)) c1
    | succ q ih =>
      intro j hj ls H locs hl hW
      refine lv_iload hx hb dX2_given_34 (lv_at hl 0 rfl) ?_
      refine lv_sipush (v := 256) hx hb dX2_given_36 (by decide) ?_
      refine lv_icmp_ge (tgt := 66) hx hb dX2_given_39 (by decide) (fun c1 => ?_) (fun c1 => ?_)
      · exact absurd c1 (nI_ge (b := 256) (by omega) (by decide))
      · skip
        have ek : flC M (25 + 6 * f + 1) (gvT M k (nI q0) y) j (25 + 6 * k + 1) = M (25 + 6 * k + 1) := flC_row nk
        refine lv_aload hx hb dX2_given_42 (lv_at hl 6 rfl) ?_
        refine lv_iload hx hb dX2_given_44 (lv_at hl 0 rfl) ?_
        refine lv_aload hx hb dX2_given_46 (lv_at hl 3 rfl) ?_
        refine cr_getN (v := .ref (ad (25 + 6 * k + 1))) (host := "SharedForks") hx hb hts hin0 hown hK hW (25 + 6 * k) (by omega) (cE_d0 I Z F ad (flC M (25 + 6 * f + 1) (gvT M k (nI q0) y) j) k) rfl 1 (by decide) rfl hN (by decide +kernel) rfl dX2_given_48 ?_
        refine lv_iload hx hb dX2_given_51 (lv_at hl 0 rfl) ?_
        refine lv_iload_n hx hb dX2_given_53 rfl (lv_at hl 4 rfl) ?_
        refine lv_iload_n hx hb dX2_given_54 rfl (lv_at hl 5 rfl) ?_
        refine cr_calli (va_runS (As := [.int (nI j), .int (nI q0), .int y]) (rest := [.ref (ad (25 + 6 * k + 1)), .int (nI j), .ref (ad (25 + 6 * f + 1))]) ⟨hx, hb, hml, hown, hts⟩ (c_withAnswer l D I Z F ad hI (flC M (25 + 6 * f + 1) (gvT M k (nI q0) y) j) H.size (nI j) (nI q0) y) (va_cwS 3 hts gX2_given_X2_withAnswer rfl rfl rfl (by decide +kernel) ⟨Nat.le_of_ble_eq_true rfl, Nat.le_of_ble_eq_true rfl⟩) (cr_preS hK hN hW) rfl rfl hl.1 rfl (lv_room (Nat.le_of_ble_eq_true rfl)) dX2_given_55 ⟨Nat.le_of_ble_eq_true rfl, Nat.le_of_ble_eq_true rfl⟩) hA hDa hW (fun r u H locs hp hW => ?_)
        obtain ⟨hu, hv9⟩ := hp
        rw [hu] at hW
        obtain ⟨a, ha, ea⟩ := waF_in q0 hq0 j (by omega) y
        rw [hv9, ea]
        refine cr_zald hx hb hK hW (25 + 6 * k + 1) (by omega) (cE_d1 I Z F ad (flC M (25 + 6 * f + 1) (gvT M k (nI q0) y) j) k) a ha (by decide) rfl dX2_given_58 ?_
        rw [ek]
        refine cr_zast hx hb hK hDa hW (25 + 6 * f + 1) (by omega) (cE_d1 I Z F ad _ f) j (by omega) (by decide) rfl (hys k hk12 a ha) dX2_given_59 (fun H locs hW => ?_)
        rw [flC_s M (25 + 6 * f + 1) (gvT M k (nI q0) y) j (v := M (25 + 6 * k + 1) a) (by rw [gvT, ea, nI_clamp (by omega)])] at hW
        refine lv_iinc (v := nI (j + 1)) (lv' := [(7, .int (nI (j + 1))), (0, .ref (ad 0)), (5, .int (nI f)), (4, .ref (ad (25 + 6 * k))), (2, .int (nI q0)), (3, .int y), (6, .ref (ad (25 + 6 * f + 1)))]) hx hb dX2_given_60 hl (k := 0) rfl (nI_1 j) (by decide) rfl (fun ls hl => ?_)
        refine lv_goto (tgt := 34) hx hb dX2_given_63 (by decide) ?_
        exact ih (j + 1) (by omega) ls H locs (lv_sub hl [0, 1, 2, 3, 4, 5, 6] rfl) hW
  exact loop 256 0 (by decide) ls H locs (lv_sub hl [0, 4, 2, 3, 6, 7, 1] rfl) (by rw [flC_0]; exact hW)

abbrev rm_without : Room := { frames := 14, cells := 3, slots := 18, locals := 800 }
set_option maxHeartbeats 4000000 in
set_option maxRecDepth 100000 in
/-- what a fold says to both answers to a question, or to one -/
theorem c_without (l : Launch) (hst : l.stackTraces = false) (D : va_G) (I Z F : ClassId) (ad sa : Nat → Nat) (hI : cI ad) (M : Nat → Nat → Int32) (sz : Nat) (hys : ysOk M) (a1 x y : Int32) : vx_Met l yX2_without wsX2_without rm_without (va_Pc [.ref (ad 0), .int a1, .int x, .int y] (cUX D I Z F ad sa sz M)) (va_Qi (fun (r : Int32) (u : Nat → Nat → Int32) => ∃ k q0 f : Nat, fdOk M a1 k ∧ q0 < 8 ∧ x = nI q0 ∧ frOk M f ∧ r = nI f ∧ u = nwF M f (woT M k (nI q0) y)) (fun u t => cP D I Z F ad u t.heap) (cA ad sz)) (xQ D I Z F ad M sz (fun E => xpN M ((∃ k, fdOk M a1 k) ∧ inB x 8) E)) 3 18 (cA ad sz) := by
  refine cMetX_i (cc := cX2_without) (maxL := 10) hst hI (by decide) rfl ⟨rfl, rfl, by decide, by decide⟩ RX2 rfl (Nat.le_of_ble_eq_true rfl) (lv := [(0, .ref (ad 0)), (1, .int a1), (2, .int x), (3, .int y)]) rfl ?_
  intro p e s m args below meth c Q A ls hsz C0 hX hW hl hret hthr hprp
  obtain ⟨hx, hb, hml, hts, hown, hlocks, hK, hN, hDa, hA, hargs⟩ := C0
  have hin2 : ∀ w ∈ u_ws RX2 TX2 6, w ∈ wsX2_without := by decide +kernel
  have hin0 : ∀ w ∈ u_ws RX0 TX0 7, w ∈ wsX2_without := by decide +kernel
  have hin1 : ∀ w ∈ u_ws RX1 TX1 10, w ∈ wsX2_without := by decide +kernel
  refine lv_aload_n hx hb dX2_without_0 rfl (lv_at hl 0 rfl) ?_
  refine lv_iload_n hx hb dX2_without_1 rfl (lv_at hl 1 rfl) ?_
  refine cx_callq (vx_runV (As := [.int a1]) (rest := []) ⟨hx, hb, hml, hown, hts⟩ (c_foldAt l hst D I Z F ad sa hI M s.heap.size a1) (cwV 1 hts gX2_without_X2_foldAt rfl rfl rfl (by decide +kernel) ⟨Nat.le_of_ble_eq_true rfl, Nat.le_of_ble_eq_true rfl⟩) (cx_preV hK hN hX hA hDa hW 0 (by decide) (cE_x I Z F ad M) rfl) rfl rfl hl.1 rfl (lv_room (Nat.le_of_ble_eq_true rfl)) dX2_without_2 ⟨Nat.le_of_ble_eq_true rfl, Nat.le_of_ble_eq_true rfl⟩) hA hDa hW (fun E ce q9 H locs hxp hW h1 h2 h3 => ?_) (fun r k H locs hp hW => ?_)
  · exact hprp 2 ls _ H locs 1 6 E ce q9 (Or.inl ⟨hxp.1, fun h => hxp.2 h.1⟩) hW (by decide) (by decide) h1 h2 h3
  obtain ⟨hk, hr9⟩ := hp
  subst hr9
  have hk12 := hk.1
  show W p l e rm_without s m args below meth c H locs 1 6 Q (F0 m 5 ls (.ref (ad (25 + 6 * k)) :: []))
  refine lv_astore (lv' := [(4, .ref (ad (25 + 6 * k))), (0, .ref (ad 0)), (1, .int a1), (2, .int x), (3, .int y)]) hx hb dX2_without_5 hl (by decide) rfl (fun ls hl => ?_)
  refine lv_iload_n hx hb dX2_without_7 rfl (lv_at hl 3 rfl) ?_
  refine lv_bipush (v := 8) hx hb dX2_without_8 (by decide) ?_
  refine cx_callv (vx_runS (As := [.int x, .int 8]) (rest := []) ⟨hx, hb, hml, hown, hts⟩ (c_checkBelow l hst D I Z F ad sa hI M H.size x 8) (va_cwS 2 hts gX2_without_X2_checkBelow rfl rfl rfl (by decide +kernel) ⟨Nat.le_of_ble_eq_true rfl, Nat.le_of_ble_eq_true rfl⟩) (cx_preS hK hN hX hA hDa hW) rfl rfl hl.1 rfl (lv_room (Nat.le_of_ble_eq_true rfl)) dX2_without_10 ⟨Nat.le_of_ble_eq_true rfl, Nat.le_of_ble_eq_true rfl⟩) hA hDa hW (fun E ce q9 H locs hxp hW h1 h2 h3 => ?_) (fun u H locs hp hW => ?_)
  · exact hprp 10 ls _ H locs 2 12 E ce q9 (Or.inl ⟨hxp.1, fun h => inB_no (n := 8) (by decide) hxp.2 h.2⟩) hW (by decide) (by decide) h1 h2 h3
  obtain ⟨hu, hb1, hb2⟩ := hp
  rw [hu] at hW
  have hin : inB x 8 := inB_of (n := 8) (by decide) hb1 hb2
  obtain ⟨q0, hq0, rfl⟩ := hin
  refine lv_aload_n hx hb dX2_without_13 rfl (lv_at hl 1 rfl) ?_
  refine cx_calli (vx_runV (As := []) (rest := []) ⟨hx, hb, hml, hown, hts⟩ (c_freeNumber l hst D I Z F ad sa hI M H.size) (cwV 0 hts gX2_without_X2_freeNumber rfl rfl rfl (by decide +kernel) ⟨Nat.le_of_ble_eq_true rfl, Nat.le_of_ble_eq_true rfl⟩) (cx_preV hK hN hX hA hDa hW 0 (by decide) (cE_x I Z F ad M) rfl) rfl rfl hl.1 rfl (lv_room (Nat.le_of_ble_eq_true rfl)) dX2_without_14 ⟨Nat.le_of_ble_eq_true rfl, Nat.le_of_ble_eq_true rfl⟩) hA hDa hW (fun E ce q9 H locs hxp hW h1 h2 h3 => ?_) (fun r u H locs hp hW => ?_)
  · exact hprp 14 ls _ H locs 3 18 E ce q9 (Or.inr ⟨hxp.1, ⟨⟨k, hk⟩, ⟨q0, hq0, rfl⟩⟩, hxp.2⟩) hW (by decide) (by decide) h1 h2 h3
  obtain ⟨hu, f, hf, hr9⟩ := hp
  rw [hu] at hW
  rw [hr9]
  have hf12 := hf.1
  refine lv_istore (lv' := [(5, .int (nI f)), (4, .ref (ad (25 + 6 * k))), (0, .ref (ad 0)), (1, .int a1), (2, .int (nI q0)), (3, .int y)]) hx hb dX2_without_17 hl (by decide) rfl (fun ls hl => ?_)
  refine lv_aload_n hx hb dX2_without_19 rfl (lv_at hl 2 rfl) ?_
  refine cr_get (v := .ref (ad 1)) hx hb hts hin2 hown hK hW 0 (by decide) (cE_x I Z F ad M) rfl 0 (by decide) rfl (by decide +kernel) rfl dX2_without_20 ?_
  refine lv_iload hx hb dX2_without_23 (lv_at hl 0 rfl) ?_
  refine cr_fald hx hb hK hW f hf12 rfl dX2_without_25 ?_
  refine cr_getN (v := .ref (ad (25 + 6 * f + 1))) (host := "SharedForks") hx hb hts hin0 hown hK hW (25 + 6 * f) (by omega) (cE_d0 I Z F ad M f) rfl 1 (by decide) rfl hN (by decide +kernel) rfl dX2_without_26 ?_
  refine lv_astore (lv' := [(6, .ref (ad (25 + 6 * f + 1))), (5, .int (nI f)), (4, .ref (ad (25 + 6 * k))), (0, .ref (ad 0)), (1, .int a1), (2, .int (nI q0)), (3, .int y)]) hx hb dX2_without_29 hl (by decide) rfl (fun ls hl => ?_)
  refine lv_iconst (v := 0) hx hb dX2_without_31 (by decide) ?_
  refine lv_istore (lv' := [(7, .int 0), (6, .ref (ad (25 + 6 * f + 1))), (5, .int (nI f)), (4, .ref (ad (25 + 6 * k))), (0, .ref (ad 0)), (1, .int a1), (2, .int (nI q0)), (3, .int y)]) hx hb dX2_without_32 hl (by decide) rfl (fun ls hl => ?_)
  have nk : 25 + 6 * k + 1 ≠ 25 + 6 * f + 1 := by have := frOk_ne hf hk.2.2; omega
  have loop : ∀ q j : Nat, j + q = 256 → ∀ (ls : Array Slot) (H : Heap) (locs : List Loc), lv_has ls 10 [(7, .int (nI j)), (0, .ref (ad 0)), (5, .int (nI f)), (4, .ref (ad (25 + 6 * k))), (2, .int (nI q0)), (3, .int y), (6, .ref (ad (25 + 6 * f + 1)))] → cB9 D I Z F ad A s.heap (flC M (25 + 6 * f + 1) (woT M k (nI q0) y) j) H locs → W p l e rm_without s m args below meth c H locs 3 18 Q (F0 m 34 ls []) := by
    intro q
    induction q with
    | zero =>
      intro j hj ls H locs hl hW
      obtain rfl : j = 256 := by omega
      refine lv_iload hx hb dX2_without_34 (lv_at hl 0 rfl) ?_
      refine lv_sipush (v := 256) hx hb dX2_without_36 (by decide) ?_
      refine lv_icmp_ge (tgt := 120) hx hb dX2_without_39 (by decide) (fun c1 => ?_) (fun c1 => ?_)
      · skip
        refine lv_aload_n hx hb dX2_without_120 rfl (lv_at hl 1 rfl) ?_
        refine lv_iload hx hb dX2_without_121 (lv_at hl 2 rfl) ?_
        refine cr_calli (va_runV (As := [.int (nI f)]) (rest := []) ⟨hx, hb, hml, hown, hts⟩ (c_keep l D I Z F ad hI (flC M (25 + 6 * f + 1) (woT M k (nI q0) y) 256) H.size f hf12) (cwV 1 hts gX2_without_X2_keep rfl rfl rfl (by decide +kernel) ⟨Nat.le_of_ble_eq_true rfl, Nat.le_of_ble_eq_true rfl⟩) (cr_preV hK hN hW 0 (by decide) (cE_x I Z F ad (flC M (25 + 6 * f + 1) (woT M k (nI q0) y) 256)) rfl) rfl rfl hl.1 rfl (lv_room (Nat.le_of_ble_eq_true rfl)) dX2_without_123 ⟨Nat.le_of_ble_eq_true rfl, Nat.le_of_ble_eq_true rfl⟩) hA hDa hW (fun r u H locs hp hW => ?_)
        obtain ⟨hu, hv9⟩ := hp
        rw [hu] at hW
        rw [hv9]
        exact hret 126 ls H locs 3 18 _ _ dX2_without_126 (by decide) (by decide) (⟨k, q0, f, hk, hq0, rfl, hf, rfl, rfl⟩) hW
      · exact absurd (nI_le (Nat.le_refl 256) (by decide)) c1
    | succ q ih =>
      intro j hj ls H locs hl hW
      refine lv_iload hx hb dX2_without_34 (lv_at hl 0 rfl) ?_
      refine lv_sipush (v := 256) hx hb dX2_without_36 (by decide) ?_
      refine lv_icmp_ge (tgt := 120) hx hb dX2_without_39 (by decide) (fun c1 => ?_) (fun c1 => ?_)
      · exact absurd c1 (nI_ge (b := 256) (by omega) (by decide))
      · skip
        have ek : flC M (25 + 6 * f + 1) (woT M k (nI q0) y) j (25 + 6 * k + 1) = M (25 + 6 * k + 1) := flC_row nk
        refine lv_aload hx hb dX2_without_42 (lv_at hl 3 rfl) ?_
        refine cr_getN (v := .ref (ad (25 + 6 * k + 1))) (host := "SharedForks") hx hb hts hin0 hown hK hW (25 + 6 * k) (by omega) (cE_d0 I Z F ad (flC M (25 + 6 * f + 1) (woT M k (nI q0) y) j) k) rfl 1 (by decide) rfl hN (by decide +kernel) rfl dX2_without_44 ?_
        refine lv_iload hx hb dX2_without_47 (lv_at hl 0 rfl) ?_
        refine lv_iload_n hx hb dX2_without_49 rfl (lv_at hl 4 rfl) ?_
        refine lv_iconst (v := 0) hx hb dX2_without_50 (by decide) ?_
        refine cr_calli (va_runS (As := [.int (nI j), .int (nI q0), .int 0]) (rest := [.ref (ad (25 + 6 * k + 1))]) ⟨hx, hb, hml, hown, hts⟩ (c_withAnswer l D I Z F ad hI (flC M (25 + 6 * f + 1) (woT M k (nI q0) y) j) H.size (nI j) (nI q0) 0) (va_cwS 3 hts gX2_without_X2_withAnswer rfl rfl rfl (by decide +kernel) ⟨Nat.le_of_ble_eq_true rfl, Nat.le_of_ble_eq_true rfl⟩) (cr_preS hK hN hW) rfl rfl hl.1 rfl (lv_room (Nat.le_of_ble_eq_true rfl)) dX2_without_51 ⟨Nat.le_of_ble_eq_true rfl, Nat.le_of_ble_eq_true rfl⟩) hA hDa hW (fun r u H locs hp hW => ?_)
        obtain ⟨hu, hv9⟩ := hp
        rw [hu] at hW
        obtain ⟨a, ha, ea⟩ := waF_in q0 hq0 j (by omega) 0
        rw [hv9, ea]
        refine cr_zald hx hb hK hW (25 + 6 * k + 1) (by omega) (cE_d1 I Z F ad (flC M (25 + 6 * f + 1) (woT M k (nI q0) y) j) k) a ha (by decide) rfl dX2_without_54 ?_
        rw [ek]
        refine lv_istore (lv' := [(8, .int (M (25 + 6 * k + 1) a)), (7, .int (nI j)), (0, .ref (ad 0)), (5, .int (nI f)), (4, .ref (ad (25 + 6 * k))), (2, .int (nI q0)), (3, .int y), (6, .ref (ad (25 + 6 * f + 1)))]) hx hb dX2_without_55 hl (by decide) rfl (fun ls hl => ?_)
        refine lv_aload hx hb dX2_without_57 (lv_at hl 4 rfl) ?_
        refine cr_getN (v := .ref (ad (25 + 6 * k + 1))) (host := "SharedForks") hx hb hts hin0 hown hK hW (25 + 6 * k) (by omega) (cE_d0 I Z F ad (flC M (25 + 6 * f + 1) (woT M k (nI q0) y) j) k) rfl 1 (by decide) rfl hN (by decide +kernel) rfl dX2_without_59 ?_
        refine lv_iload hx hb dX2_without_62 (lv_at hl 1 rfl) ?_
        refine lv_iload_n hx hb dX2_without_64 rfl (lv_at hl 5 rfl) ?_
        refine lv_iconst (v := 1) hx hb dX2_without_65 (by decide) ?_
        refine cr_calli (va_runS (As := [.int (nI j), .int (nI q0), .int 1]) (rest := [.ref (ad (25 + 6 * k + 1))]) ⟨hx, hb, hml, hown, hts⟩ (c_withAnswer l D I Z F ad hI (flC M (25 + 6 * f + 1) (woT M k (nI q0) y) j) H.size (nI j) (nI q0) 1) (va_cwS 3 hts gX2_without_X2_withAnswer rfl rfl rfl (by decide +kernel) ⟨Nat.le_of_ble_eq_true rfl, Nat.le_of_ble_eq_true rfl⟩) (cr_preS hK hN hW) rfl rfl hl.1 rfl (lv_room (Nat.le_of_ble_eq_true rfl)) dX2_without_66 ⟨Nat.le_of_ble_eq_true rfl, Nat.le_of_ble_eq_true rfl⟩) hA hDa hW (fun r u H locs hp hW => ?_)
        obtain ⟨hu, hv9⟩ := hp
        rw [hu] at hW
        obtain ⟨b8, hb8, eb8⟩ := waF_in q0 hq0 j (by omega) 1
        rw [hv9, eb8]
        refine cr_zald hx hb hK hW (25 + 6 * k + 1) (by omega) (cE_d1 I Z F ad (flC M (25 + 6 * f + 1) (woT M k (nI q0) y) j) k) b8 hb8 (by decide) rfl dX2_without_69 ?_
        rw [ek]
        have hT : (woT M k (nI q0) y) j = if y = 0 then b2 (¬ M (25 + 6 * k + 1) a = 0 ∨ ¬ M (25 + 6 * k + 1) b8 = 0) else b2 (¬ M (25 + 6 * k + 1) a = 0 ∧ ¬ M (25 + 6 * k + 1) b8 = 0) := by simp only [woT, ea, eb8, nI_clamp (show a < 2 ^ 31 by omega), nI_clamp (show b8 < 2 ^ 31 by omega)]
        refine lv_istore (lv' := [(9, .int (M (25 + 6 * k + 1) b8)), (8, .int (M (25 + 6 * k + 1) a)), (7, .int (nI j)), (0, .ref (ad 0)), (5, .int (nI f)), (4, .ref (ad (25 + 6 * k))), (2, .int (nI q0)), (3, .int y), (6, .ref (ad (25 + 6 * f + 1)))]) hx hb dX2_without_70 hl (by decide) rfl (fun ls hl => ?_)
        refine lv_aload hx hb dX2_without_72 (lv_at hl 8 rfl) ?_
        refine lv_iload hx hb dX2_without_74 (lv_at hl 2 rfl) ?_
        refine lv_iload_n hx hb dX2_without_76 rfl (lv_at hl 7 rfl) ?_
        refine lv_if_eq (tgt := 98) hx hb dX2_without_77 (by decide) (fun c2 => ?_) (fun c2 => ?_)
        · skip
          refine lv_iload hx hb dX2_without_98 (lv_at hl 1 rfl) ?_
          refine lv_if_ne (tgt := 108) hx hb dX2_without_100 (by decide) (fun c3 => ?_) (fun c3 => ?_)
          · skip
            refine lv_iconst (v := 1) hx hb dX2_without_108 (by decide) ?_
            refine lv_goto (tgt := 113) hx hb dX2_without_109 (by decide) ?_
            refine cr_zast hx hb hK hDa hW (25 + 6 * f + 1) (by omega) (cE_d1 I Z F ad _ f) j (by omega) (by decide) rfl (Or.inr rfl) dX2_without_113 (fun H locs hW => ?_)
            rw [flC_s M (25 + 6 * f + 1) (woT M k (nI q0) y) j (v := 1) (by rw [hT]; simp [b2, c2, c3])] at hW
            refine lv_iinc (v := nI (j + 1)) (lv' := [(7, .int (nI (j + 1))), (9, .int (M (25 + 6 * k + 1) b8)), (8, .int (M (25 + 6 * k + 1) a)), (0, .ref (ad 0)), (5, .int (nI f)), (4, .ref (ad (25 + 6 * k))), (2, .int (nI q0)), (3, .int y), (6, .ref (ad (25 + 6 * f + 1)))]) hx hb dX2_without_114 hl (k := 2) rfl (nI_1 j) (by decide) rfl (fun ls hl => ?_)
            refine lv_goto (tgt := 34) hx hb dX2_without_117 (by decide) ?_
            exact ih (j + 1) (by omega) ls H locs (lv_sub hl [0, 3, 4, 5, 6, 7, 8] rfl) hW
          · skip
            refine lv_iload hx hb dX2_without_103 (lv_at hl 0 rfl) ?_
            refine lv_if_eq (tgt := 112) hx hb dX2_without_105 (by decide) (fun c4 => ?_) (fun c4 => ?_)
            · skip
              refine lv_iconst (v := 0) hx hb dX2_without_112 (by decide) ?_
              refine cr_zast hx hb hK hDa hW (25 + 6 * f + 1) (by omega) (cE_d1 I Z F ad _ f) j (by omega) (by decide) rfl (Or.inl rfl) dX2_without_113 (fun H locs hW => ?_)
              rw [flC_s M (25 + 6 * f + 1) (woT M k (nI q0) y) j (v := 0) (by rw [hT]; simp [b2, c2, c3, c4])] at hW
              refine lv_iinc (v := nI (j + 1)) (lv' := [(7, .int (nI (j + 1))), (9, .int (M (25 + 6 * k + 1) b8)), (8, .int (M (25 + 6 * k + 1) a)), (0, .ref (ad 0)), (5, .int (nI f)), (4, .ref (ad (25 + 6 * k))), (2, .int (nI q0)), (3, .int y), (6, .ref (ad (25 + 6 * f + 1)))]) hx hb dX2_without_114 hl (k := 2) rfl (nI_1 j) (by decide) rfl (fun ls hl => ?_)
              refine lv_goto (tgt := 34) hx hb dX2_without_117 (by decide) ?_
              exact ih (j + 1) (by omega) ls H locs (lv_sub hl [0, 3, 4, 5, 6, 7, 8] rfl) hW
            · skip
              refine lv_iconst (v := 1) hx hb dX2_without_108 (by decide) ?_
              refine lv_goto (tgt := 113) hx hb dX2_without_109 (by decide) ?_
              refine cr_zast hx hb hK hDa hW (25 + 6 * f + 1) (by omega) (cE_d1 I Z F ad _ f) j (by omega) (by decide) rfl (Or.inr rfl) dX2_without_113 (fun H locs hW => ?_)
              rw [flC_s M (25 + 6 * f + 1) (woT M k (nI q0) y) j (v := 1) (by rw [hT]; simp [b2, c2, c3, c4])] at hW
              refine lv_iinc (v := nI (j + 1)) (lv' := [(7, .int (nI (j + 1))), (9, .int (M (25 + 6 * k + 1) b8)), (8, .int (M (25 + 6 * k + 1) a)), (0, .ref (ad 0)), (5, .int (nI f)), (4, .ref (ad (25 + 6 * k))), (2, .int (nI q0)), (3, .int y), (6, .ref (ad (25 + 6 * f + 1)))]) hx hb dX2_without_114 hl (k := 2) rfl (nI_1 j) (by decide) rfl (fun ls hl => ?_)
              refine lv_goto (tgt := 34) hx hb dX2_without_117 (by decide) ?_
              exact ih (j + 1) (by omega) ls H locs (lv_sub hl [0, 3, 4, 5, 6, 7, 8] rfl) hW
        · skip
          refine lv_iload hx hb dX2_without_80 (lv_at hl 1 rfl) ?_
          refine lv_if_eq (tgt := 94) hx hb dX2_without_82 (by decide) (fun c3 => ?_) (fun c3 => ?_)
          · skip
            refine lv_iconst (v := 0) hx hb dX2_without_94 (by decide) ?_
            refine lv_goto (tgt := 113) hx hb dX2_without_95 (by decide) ?_
            refine cr_zast hx hb hK hDa hW (25 + 6 * f + 1) (by omega) (cE_d1 I Z F ad _ f) j (by omega) (by decide) rfl (Or.inl rfl) dX2_without_113 (fun H locs hW => ?_)
            rw [flC_s M (25 + 6 * f + 1) (woT M k (nI q0) y) j (v := 0) (by rw [hT]; simp [b2, c2, c3])] at hW
            refine lv_iinc (v := nI (j + 1)) (lv' := [(7, .int (nI (j + 1))), (9, .int (M (25 + 6 * k + 1) b8)), (8, .int (M (25 + 6 * k + 1) a)), (0, .ref (ad 0)), (5, .int (nI f)), (4, .ref (ad (25 + 6 * k))), (2, .int (nI q0)), (3, .int y), (6, .ref (ad (25 + 6 * f + 1)))]) hx hb dX2_without_114 hl (k := 2) rfl (nI_1 j) (by decide) rfl (fun ls hl => ?_)
            refine lv_goto (tgt := 34) hx hb dX2_without_117 (by decide) ?_
            exact ih (j + 1) (by omega) ls H locs (lv_sub hl [0, 3, 4, 5, 6, 7, 8] rfl) hW
          · skip
            refine lv_iload hx hb dX2_without_85 (lv_at hl 0 rfl) ?_
            refine lv_if_eq (tgt := 94) hx hb dX2_without_87 (by decide) (fun c4 => ?_) (fun c4 => ?_)
            · skip
              refine lv_iconst (v := 0) hx hb dX2_without_94 (by decide) ?_
              refine lv_goto (tgt := 113) hx hb dX2_without_95 (by decide) ?_
              refine cr_zast hx hb hK hDa hW (25 + 6 * f + 1) (by omega) (cE_d1 I Z F ad _ f) j (by omega) (by decide) rfl (Or.inl rfl) dX2_without_113 (fun H locs hW => ?_)
              rw [flC_s M (25 + 6 * f + 1) (woT M k (nI q0) y) j (v := 0) (by rw [hT]; simp [b2, c2, c3, c4])] at hW
              refine lv_iinc (v := nI (j + 1)) (lv' := [(7, .int (nI (j + 1))), (9, .int (M (25 + 6 * k + 1) b8)), (8, .int (M (25 + 6 * k + 1) a)), (0, .ref (ad 0)), (5, .int (nI f)), (4, .ref (ad (25 + 6 * k))), (2, .int (nI q0)), (3, .int y), (6, .ref (ad (25 + 6 * f + 1)))]) hx hb dX2_without_114 hl (k := 2) rfl (nI_1 j) (by decide) rfl (fun ls hl => ?_)
              refine lv_goto (tgt := 34) hx hb dX2_without_117 (by decide) ?_
              exact ih (j + 1) (by omega) ls H locs (lv_sub hl [0, 3, 4, 5, 6, 7, 8] rfl) hW
            · skip
              refine lv_iconst (v := 1) hx hb dX2_without_90 (by decide) ?_
              refine lv_goto (tgt := 113) hx hb dX2_without_91 (by decide) ?_
              refine cr_zast hx hb hK hDa hW (25 + 6 * f + 1) (by omega) (cE_d1 I Z F ad _ f) j (by omega) (by decide) rfl (Or.inr rfl) dX2_without_113 (fun H locs hW => ?_)
              rw [flC_s M (25 + 6 * f + 1) (woT M k (nI q0) y) j (v := 1) (by rw [hT]; simp [b2, c2, c3, c4])] at hW
              refine lv_iinc (v := nI (j + 1)) (lv' := [(7, .int (nI (j + 1))), (9, .int (M (25 + 6 * k + 1) b8)), (8, .int (M (25 + 6 * k + 1) a)), (0, .ref (ad 0)), (5, .int (nI f)), (4, .ref (ad (25 + 6 * k))), (2, .int (nI q0)), (3, .int y), (6, .ref (ad (25 + 6 * f + 1)))]) hx hb dX2_without_114 hl (k := 2) rfl (nI_1 j) (by decide) rfl (fun ls hl => ?_)
              refine lv_goto (tgt := 34) hx hb dX2_without_117 (by decide) ?_
              exact ih (j + 1) (by omega) ls H locs (lv_sub hl [0, 3, 4, 5, 6, 7, 8] rfl) hW
  exact loop 256 0 (by decide) ls H locs (lv_sub hl [0, 4, 2, 3, 6, 7, 1] rfl) (by rw [flC_0]; exact hW)
