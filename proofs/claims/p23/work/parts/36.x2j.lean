abbrev rm_drop : Room := { frames := 14, cells := 1, slots := 6, locals := 800 }
set_option maxHeartbeats 4000000 in
set_option maxRecDepth 100000 in
/-- a fold is dropped -/
theorem c_drop (l : Launch) (hst : l.stackTraces = false) (D : va_G) (I Z F : ClassId) (ad sa : Nat → Nat) (hI : cI ad) (M : Nat → Nat → Int32) (sz : Nat) (a1 : Int32) : vx_Met l yX2_drop wsX2_drop rm_drop (va_Pc [.ref (ad 0), .int a1] (cUX D I Z F ad sa sz M)) (va_Qi (fun (r : Int32) (u : Nat → Nat → Int32) => ∃ k : Nat, fdOk M a1 k ∧ u = laF (mst M (25 + 6 * k) 0 0) ∧ r = sI (ckT u) 12) (fun u t => cP D I Z F ad u t.heap) (cA ad sz)) (xQ D I Z F ad M sz (fun E => E = xIO ∧ ¬ ∃ k, fdOk M a1 k)) 1 6 (cA ad sz) := by
  refine cMetX_i (cc := cX2_drop) (maxL := 2) hst hI (by decide) rfl ⟨rfl, rfl, by decide, by decide⟩ RX2 rfl (Nat.le_of_ble_eq_true rfl) (lv := [(0, .ref (ad 0)), (1, .int a1)]) rfl ?_
  intro p e s m args below meth c Q A ls hsz C0 hX hW hl hret hthr hprp
  obtain ⟨hx, hb, hml, hts, hown, hlocks, hK, hN, hDa, hA, hargs⟩ := C0
  have hin2 : ∀ w ∈ u_ws RX2 TX2 6, w ∈ wsX2_drop := by decide +kernel
  have hin0 : ∀ w ∈ u_ws RX0 TX0 7, w ∈ wsX2_drop := by decide +kernel
  have hin1 : ∀ w ∈ u_ws RX1 TX1 10, w ∈ wsX2_drop := by decide +kernel
  refine lv_aload_n hx hb dX2_drop_0 rfl (lv_at hl 0 rfl) ?_
  refine lv_iload_n hx hb dX2_drop_1 rfl (lv_at hl 1 rfl) ?_
  refine cx_callq (vx_runV (As := [.int a1]) (rest := []) ⟨hx, hb, hml, hown, hts⟩ (c_foldAt l hst D I Z F ad sa hI M s.heap.size a1) (cwV 1 hts gX2_drop_X2_foldAt rfl rfl rfl (by decide +kernel) ⟨Nat.le_of_ble_eq_true rfl, Nat.le_of_ble_eq_true rfl⟩) (cx_preV hK hN hX hA hDa hW 0 (by decide) (cE_x I Z F ad M) rfl) rfl rfl hl.1 rfl (lv_room (Nat.le_of_ble_eq_true rfl)) dX2_drop_2 ⟨Nat.le_of_ble_eq_true rfl, Nat.le_of_ble_eq_true rfl⟩) hA hDa hW (fun E ce q9 H locs hxp hW h1 h2 h3 => ?_) (fun r k H locs hp hW => ?_)
  · exact hprp 2 ls _ H locs 1 6 E ce q9 (hxp) hW (by decide) (by decide) h1 h2 h3
  obtain ⟨hk, hr9⟩ := hp
  subst hr9
  have hk12 := hk.1
  show W p l e rm_drop s m args below meth c H locs 1 6 Q (F0 m 5 ls (.ref (ad (25 + 6 * k)) :: []))
  refine lv_iconst (v := 0) hx hb dX2_drop_5 (by decide) ?_
  refine cr_putN (host := "SharedForks") hx hb hts hin0 tyX0 tyX0_ok nmX0 hown hK hDa hW (25 + 6 * k) (by omega) (cE_d0 I Z F ad M k) rfl 0 (by decide) rfl hN (by decide +kernel) (ty := .boolean) (by decide +kernel) (vp_narZn (Or.inl rfl)) (vp_narZf (Or.inl rfl)) (Nat.le_of_ble_eq_true rfl) (cS_d0p0 k _ _) dX2_drop_6 (fun H locs hW => ?_)
  refine lv_aload_n hx hb dX2_drop_9 rfl (lv_at hl 0 rfl) ?_
  refine cr_callv (va_runV (As := []) (rest := []) ⟨hx, hb, hml, hown, hts⟩ (c_layAll l D I Z F ad hI (mst M (25 + 6 * k) 0 0) H.size) (cwV 0 hts gX2_drop_X2_layAll rfl rfl rfl (by decide +kernel) ⟨Nat.le_of_ble_eq_true rfl, Nat.le_of_ble_eq_true rfl⟩) (cr_preV hK hN hW 0 (by decide) (cE_x I Z F ad (mst M (25 + 6 * k) 0 0)) rfl) rfl rfl hl.1 rfl (lv_room (Nat.le_of_ble_eq_true rfl)) dX2_drop_10 ⟨Nat.le_of_ble_eq_true rfl, Nat.le_of_ble_eq_true rfl⟩) hA hDa hW (fun u H locs hp hW => ?_)
  rw [hp] at hW
  refine lv_aload_n hx hb dX2_drop_13 rfl (lv_at hl 0 rfl) ?_
  refine cr_calli (va_runV (As := []) (rest := []) ⟨hx, hb, hml, hown, hts⟩ (c_countKept l D I Z F ad hI (laF (mst M (25 + 6 * k) 0 0)) H.size) (cwV 0 hts gX2_drop_X2_countKept rfl rfl rfl (by decide +kernel) ⟨Nat.le_of_ble_eq_true rfl, Nat.le_of_ble_eq_true rfl⟩) (cr_preV hK hN hW 0 (by decide) (cE_x I Z F ad (laF (mst M (25 + 6 * k) 0 0))) rfl) rfl rfl hl.1 rfl (lv_room (Nat.le_of_ble_eq_true rfl)) dX2_drop_14 ⟨Nat.le_of_ble_eq_true rfl, Nat.le_of_ble_eq_true rfl⟩) hA hDa hW (fun r u H locs hp hW => ?_)
  obtain ⟨hu, hv9⟩ := hp
  rw [hu] at hW
  rw [hv9]
  exact hret 17 ls H locs 1 6 _ _ dX2_drop_17 (by decide) (by decide) (⟨k, hk, rfl, rfl⟩) hW

abbrev rm_swap : Room := { frames := 14, cells := 1, slots := 6, locals := 800 }
set_option maxHeartbeats 4000000 in
set_option maxRecDepth 100000 in
/-- two neighbours of the order change places -/
theorem c_swap (l : Launch) (hst : l.stackTraces = false) (D : va_G) (I Z F : ClassId) (ad sa : Nat → Nat) (hI : cI ad) (M : Nat → Nat → Int32) (sz : Nat) (x : Int32) : vx_Met l yX2_swap wsX2_swap rm_swap (va_Pc [.ref (ad 0), .int x] (cUX D I Z F ad sa sz M)) (va_Qi (fun (r : Int32) (u : Nat → Nat → Int32) => ∃ p0 : Nat, p0 < 7 ∧ x = nI p0 ∧ u = laF (exF M 2 p0) ∧ r = u 3 0) (fun u t => cP D I Z F ad u t.heap) (cA ad sz)) (xQ D I Z F ad M sz (fun E => E = xIO ∧ ¬ inB x 7)) 1 6 (cA ad sz) := by
  refine cMetX_i (cc := cX2_swap) (maxL := 2) hst hI (by decide) rfl ⟨rfl, rfl, by decide, by decide⟩ RX2 rfl (Nat.le_of_ble_eq_true rfl) (lv := [(0, .ref (ad 0)), (1, .int x)]) rfl ?_
  intro p e s m args below meth c Q A ls hsz C0 hX hW hl hret hthr hprp
  obtain ⟨hx, hb, hml, hts, hown, hlocks, hK, hN, hDa, hA, hargs⟩ := C0
  have hin2 : ∀ w ∈ u_ws RX2 TX2 6, w ∈ wsX2_swap := by decide +kernel
  have hin0 : ∀ w ∈ u_ws RX0 TX0 7, w ∈ wsX2_swap := by decide +kernel
  have hin1 : ∀ w ∈ u_ws RX1 TX1 10, w ∈ wsX2_swap := by decide +kernel
  refine lv_iload_n hx hb dX2_swap_0 rfl (lv_at hl 1 rfl) ?_
  refine lv_bipush (v := 7) hx hb dX2_swap_1 (by decide) ?_
  refine cx_callv (vx_runS (As := [.int x, .int 7]) (rest := []) ⟨hx, hb, hml, hown, hts⟩ (c_checkBelow l hst D I Z F ad sa hI M s.heap.size x 7) (va_cwS 2 hts gX2_swap_X2_checkBelow rfl rfl rfl (by decide +kernel) ⟨Nat.le_of_ble_eq_true rfl, Nat.le_of_ble_eq_true rfl⟩) (cx_preS hK hN hX hA hDa hW) rfl rfl hl.1 rfl (lv_room (Nat.le_of_ble_eq_true rfl)) dX2_swap_3 ⟨Nat.le_of_ble_eq_true rfl, Nat.le_of_ble_eq_true rfl⟩) hA hDa hW (fun E ce q9 H locs hxp hW h1 h2 h3 => ?_) (fun u H locs hp hW => ?_)
  · exact hprp 3 ls _ H locs 1 6 E ce q9 (⟨hxp.1, inB_no (n := 7) (by decide) hxp.2⟩) hW (by decide) (by decide) h1 h2 h3
  obtain ⟨hu, hb1, hb2⟩ := hp
  rw [hu] at hW
  have hin : inB x 7 := inB_of (n := 7) (by decide) hb1 hb2
  obtain ⟨p0, hp0, rfl⟩ := hin
  refine lv_aload_n hx hb dX2_swap_6 rfl (lv_at hl 0 rfl) ?_
  refine cr_get (v := .ref (ad 2)) hx hb hts hin2 hown hK hW 0 (by decide) (cE_x I Z F ad M) rfl 1 (by decide) rfl (by decide +kernel) rfl dX2_swap_7 ?_
  refine lv_iload_n hx hb dX2_swap_10 rfl (lv_at hl 1 rfl) ?_
  refine cr_callv (va_runS (As := [.ref (ad 2), .int (nI p0)]) (rest := []) ⟨hx, hb, hml, hown, hts⟩ (c_exchange l D I Z F ad hI M H.size 2 (by decide) (cE_q I Z F ad M) p0 hp0) (va_cwS 2 hts gX2_swap_X2_exchange rfl rfl rfl (by decide +kernel) ⟨Nat.le_of_ble_eq_true rfl, Nat.le_of_ble_eq_true rfl⟩) (cr_preS hK hN hW) rfl rfl hl.1 rfl (lv_room (Nat.le_of_ble_eq_true rfl)) dX2_swap_11 ⟨Nat.le_of_ble_eq_true rfl, Nat.le_of_ble_eq_true rfl⟩) hA hDa hW (fun u H locs hp hW => ?_)
  rw [hp] at hW
  refine lv_aload_n hx hb dX2_swap_14 rfl (lv_at hl 0 rfl) ?_
  refine cr_callv (va_runV (As := []) (rest := []) ⟨hx, hb, hml, hown, hts⟩ (c_layAll l D I Z F ad hI (exF M 2 p0) H.size) (cwV 0 hts gX2_swap_X2_layAll rfl rfl rfl (by decide +kernel) ⟨Nat.le_of_ble_eq_true rfl, Nat.le_of_ble_eq_true rfl⟩) (cr_preV hK hN hW 0 (by decide) (cE_x I Z F ad (exF M 2 p0)) rfl) rfl rfl hl.1 rfl (lv_room (Nat.le_of_ble_eq_true rfl)) dX2_swap_15 ⟨Nat.le_of_ble_eq_true rfl, Nat.le_of_ble_eq_true rfl⟩) hA hDa hW (fun u H locs hp hW => ?_)
  rw [hp] at hW
  refine lv_aload_n hx hb dX2_swap_18 rfl (lv_at hl 0 rfl) ?_
  refine cr_get (v := .ref (ad 3)) hx hb hts hin2 hown hK hW 0 (by decide) (cE_x I Z F ad (laF (exF M 2 p0))) rfl 2 (by decide) rfl (by decide +kernel) rfl dX2_swap_19 ?_
  refine cr_getN (v := .int ((laF (exF M 2 p0)) 3 0)) (host := "SharedForks") hx hb hts hin1 hown hK hW 3 (by decide) (cE_f0 I Z F ad (laF (exF M 2 p0)) (Or.inl rfl)) rfl 0 (by decide) rfl hN (by decide +kernel) rfl dX2_swap_22 ?_
  exact hret 25 ls H locs 1 6 _ _ dX2_swap_25 (by decide) (by decide) (⟨p0, hp0, rfl, rfl, rfl⟩) hW

abbrev rm_order : Room := { frames := 9, cells := 1, slots := 6, locals := 200 }
set_option maxHeartbeats 4000000 in
set_option maxRecDepth 100000 in
/-- the question at a place -/
theorem c_order (l : Launch) (hst : l.stackTraces = false) (D : va_G) (I Z F : ClassId) (ad sa : Nat → Nat) (hI : cI ad) (M : Nat → Nat → Int32) (sz : Nat) (x : Int32) : vx_Met l yX2_order wsX2_order rm_order (va_Pc [.ref (ad 0), .int x] (cUX D I Z F ad sa sz M)) (va_Qi (fun (r : Int32) (u : Nat → Nat → Int32) => ∃ p0 : Nat, p0 < 8 ∧ x = nI p0 ∧ u = M ∧ r = M 2 p0) (fun u t => cP D I Z F ad u t.heap) (cA ad sz)) (xQ D I Z F ad M sz (fun E => E = xIO ∧ ¬ inB x 8)) 1 6 (cA ad sz) := by
  refine cMetX_i (cc := cX2_order) (maxL := 2) hst hI (by decide) rfl ⟨rfl, rfl, by decide, by decide⟩ RX2 rfl (Nat.le_of_ble_eq_true rfl) (lv := [(0, .ref (ad 0)), (1, .int x)]) rfl ?_
  intro p e s m args below meth c Q A ls hsz C0 hX hW hl hret hthr hprp
  obtain ⟨hx, hb, hml, hts, hown, hlocks, hK, hN, hDa, hA, hargs⟩ := C0
  have hin2 : ∀ w ∈ u_ws RX2 TX2 6, w ∈ wsX2_order := by decide +kernel
  refine lv_iload_n hx hb dX2_order_0 rfl (lv_at hl 1 rfl) ?_
  refine lv_bipush (v := 8) hx hb dX2_order_1 (by decide) ?_
  refine cx_callv (vx_runS (As := [.int x, .int 8]) (rest := []) ⟨hx, hb, hml, hown, hts⟩ (c_checkBelow l hst D I Z F ad sa hI M s.heap.size x 8) (va_cwS 2 hts gX2_order_X2_checkBelow rfl rfl rfl (by decide +kernel) ⟨Nat.le_of_ble_eq_true rfl, Nat.le_of_ble_eq_true rfl⟩) (cx_preS hK hN hX hA hDa hW) rfl rfl hl.1 rfl (lv_room (Nat.le_of_ble_eq_true rfl)) dX2_order_3 ⟨Nat.le_of_ble_eq_true rfl, Nat.le_of_ble_eq_true rfl⟩) hA hDa hW (fun E ce q9 H locs hxp hW h1 h2 h3 => ?_) (fun u H locs hp hW => ?_)
  · exact hprp 3 ls _ H locs 1 6 E ce q9 (⟨hxp.1, inB_no (n := 8) (by decide) hxp.2⟩) hW (by decide) (by decide) h1 h2 h3
  obtain ⟨hu, hb1, hb2⟩ := hp
  rw [hu] at hW
  have hin : inB x 8 := inB_of (n := 8) (by decide) hb1 hb2
  obtain ⟨p0, hp0, rfl⟩ := hin
  refine lv_aload_n hx hb dX2_order_6 rfl (lv_at hl 0 rfl) ?_
  refine cr_get (v := .ref (ad 2)) hx hb hts hin2 hown hK hW 0 (by decide) (cE_x I Z F ad M) rfl 1 (by decide) rfl (by decide +kernel) rfl dX2_order_7 ?_
  refine lv_iload_n hx hb dX2_order_10 rfl (lv_at hl 1 rfl) ?_
  refine cr_iald hx hb hK hW 2 (by decide) (cE_q I Z F ad M) p0 hp0 (by decide) rfl dX2_order_11 ?_
  exact hret 12 ls H locs 1 6 _ _ dX2_order_12 (by decide) (by decide) (⟨p0, hp0, rfl, rfl, rfl⟩) hW

abbrev rm_has : Room := { frames := 9, cells := 1, slots := 6, locals := 200 }
set_option maxHeartbeats 4000000 in
set_option maxRecDepth 100000 in
/-- whether there is a fold with a number -/
theorem c_has (l : Launch) (hst : l.stackTraces = false) (D : va_G) (I Z F : ClassId) (ad sa : Nat → Nat) (hI : cI ad) (M : Nat → Nat → Int32) (sz : Nat) (hks : ksOk M) (x : Int32) : vx_Met l yX2_has wsX2_has rm_has (va_Pc [.ref (ad 0), .int x] (cUX D I Z F ad sa sz M)) (va_Qi (fun (r : Int32) (u : Nat → Nat → Int32) => ∃ f : Nat, f < 12 ∧ x = nI f ∧ u = M ∧ r = M (25 + 6 * f) 0) (fun u t => cP D I Z F ad u t.heap) (cA ad sz)) (xQ D I Z F ad M sz (fun E => E = xIO ∧ ¬ inB x 12)) 1 6 (cA ad sz) := by
  refine cMetX_z (cc := cX2_has) (maxL := 2) hst hI (by decide) rfl ⟨rfl, rfl, by decide, by decide⟩ RX2 rfl (Nat.le_of_ble_eq_true rfl) (lv := [(0, .ref (ad 0)), (1, .int x)]) rfl ?_
  intro p e s m args below meth c Q A ls hsz C0 hX hW hl hret hthr hprp
  obtain ⟨hx, hb, hml, hts, hown, hlocks, hK, hN, hDa, hA, hargs⟩ := C0
  have hin2 : ∀ w ∈ u_ws RX2 TX2 6, w ∈ wsX2_has := by decide +kernel
  have hin0 : ∀ w ∈ u_ws RX0 TX0 7, w ∈ wsX2_has := by decide +kernel
  refine lv_iload_n hx hb dX2_has_0 rfl (lv_at hl 1 rfl) ?_
  refine lv_bipush (v := 12) hx hb dX2_has_1 (by decide) ?_
  refine cx_callv (vx_runS (As := [.int x, .int 12]) (rest := []) ⟨hx, hb, hml, hown, hts⟩ (c_checkBelow l hst D I Z F ad sa hI M s.heap.size x 12) (va_cwS 2 hts gX2_has_X2_checkBelow rfl rfl rfl (by decide +kernel) ⟨Nat.le_of_ble_eq_true rfl, Nat.le_of_ble_eq_true rfl⟩) (cx_preS hK hN hX hA hDa hW) rfl rfl hl.1 rfl (lv_room (Nat.le_of_ble_eq_true rfl)) dX2_has_3 ⟨Nat.le_of_ble_eq_true rfl, Nat.le_of_ble_eq_true rfl⟩) hA hDa hW (fun E ce q9 H locs hxp hW h1 h2 h3 => ?_) (fun u H locs hp hW => ?_)
  · exact hprp 3 ls _ H locs 1 6 E ce q9 (⟨hxp.1, inB_no (n := 12) (by decide) hxp.2⟩) hW (by decide) (by decide) h1 h2 h3
  obtain ⟨hu, hb1, hb2⟩ := hp
  rw [hu] at hW
  have hin : inB x 12 := inB_of (n := 12) (by decide) hb1 hb2
  obtain ⟨f, hf, rfl⟩ := hin
  refine lv_aload_n hx hb dX2_has_6 rfl (lv_at hl 0 rfl) ?_
  refine cr_get (v := .ref (ad 1)) hx hb hts hin2 hown hK hW 0 (by decide) (cE_x I Z F ad M) rfl 0 (by decide) rfl (by decide +kernel) rfl dX2_has_7 ?_
  refine lv_iload_n hx hb dX2_has_10 rfl (lv_at hl 1 rfl) ?_
  refine cr_fald hx hb hK hW f hf rfl dX2_has_11 ?_
  refine cr_getN (v := .int (M (25 + 6 * f) 0)) (host := "SharedForks") hx hb hts hin0 hown hK hW (25 + 6 * f) (by omega) (cE_d0 I Z F ad M f) rfl 0 (by decide) rfl hN (by decide +kernel) rfl dX2_has_12 ?_
  exact hret 15 ls H locs 1 6 _ _ dX2_has_15 (by decide) (by decide) (⟨f, hf, rfl, rfl, rfl⟩) (hks f hf) hW

abbrev rm_count : Room := { frames := 9, cells := 1, slots := 6, locals := 200 }
set_option maxHeartbeats 4000000 in
set_option maxRecDepth 100000 in
/-- what is told of all -/
theorem c_count (l : Launch) (hst : l.stackTraces = false) (D : va_G) (I Z F : ClassId) (ad sa : Nat → Nat) (hI : cI ad) (M : Nat → Nat → Int32) (sz : Nat) (n : Nat) (hrs : rwsOk M n) (x : Int32) : vx_Met l yX2_count wsX2_count rm_count (va_Pc [.ref (ad 0), .int x] (cUX D I Z F ad sa sz M)) (va_Qi (fun (r : Int32) (u : Nat → Nat → Int32) => ∃ wh : Nat, wh < 5 ∧ x = nI wh ∧ u = M ∧ r = tcF M n wh) (fun u t => cP D I Z F ad u t.heap) (cA ad sz)) (xQ D I Z F ad M sz (fun E => E = xIO ∧ ¬ inB x 5)) 1 6 (cA ad sz) := by
  refine cMetX_i (cc := cX2_count) (maxL := 2) hst hI (by decide) rfl ⟨rfl, rfl, by decide, by decide⟩ RX2 rfl (Nat.le_of_ble_eq_true rfl) (lv := [(0, .ref (ad 0)), (1, .int x)]) rfl ?_
  intro p e s m args below meth c Q A ls hsz C0 hX hW hl hret hthr hprp
  obtain ⟨hx, hb, hml, hts, hown, hlocks, hK, hN, hDa, hA, hargs⟩ := C0
  have hin2 : ∀ w ∈ u_ws RX2 TX2 6, w ∈ wsX2_count := by decide +kernel
  have hin0 : ∀ w ∈ u_ws RX0 TX0 7, w ∈ wsX2_count := by decide +kernel
  have hin1 : ∀ w ∈ u_ws RX1 TX1 10, w ∈ wsX2_count := by decide +kernel
  refine lv_iload_n hx hb dX2_count_0 rfl (lv_at hl 1 rfl) ?_
  refine lv_iconst (v := 5) hx hb dX2_count_1 (by decide) ?_
  refine cx_callv (vx_runS (As := [.int x, .int 5]) (rest := []) ⟨hx, hb, hml, hown, hts⟩ (c_checkBelow l hst D I Z F ad sa hI M s.heap.size x 5) (va_cwS 2 hts gX2_count_X2_checkBelow rfl rfl rfl (by decide +kernel) ⟨Nat.le_of_ble_eq_true rfl, Nat.le_of_ble_eq_true rfl⟩) (cx_preS hK hN hX hA hDa hW) rfl rfl hl.1 rfl (lv_room (Nat.le_of_ble_eq_true rfl)) dX2_count_2 ⟨Nat.le_of_ble_eq_true rfl, Nat.le_of_ble_eq_true rfl⟩) hA hDa hW (fun E ce q9 H locs hxp hW h1 h2 h3 => ?_) (fun u H locs hp hW => ?_)
  · exact hprp 2 ls _ H locs 1 6 E ce q9 (⟨hxp.1, inB_no (n := 5) (by decide) hxp.2⟩) hW (by decide) (by decide) h1 h2 h3
  obtain ⟨hu, hb1, hb2⟩ := hp
  rw [hu] at hW
  have hin : inB x 5 := inB_of (n := 5) (by decide) hb1 hb2
  obtain ⟨wh, hwh, rfl⟩ := hin
  refine lv_aload_n hx hb dX2_count_5 rfl (lv_at hl 0 rfl) ?_
  refine lv_iload_n hx hb dX2_count_6 rfl (lv_at hl 1 rfl) ?_
  refine cr_calli (va_runV (As := [.int (nI wh)]) (rest := []) ⟨hx, hb, hml, hown, hts⟩ (c_tellCount l D I Z F ad hI M H.size n hrs.1 hrs.2.1 wh hwh) (cwV 1 hts gX2_count_X2_tellCount rfl rfl rfl (by decide +kernel) ⟨Nat.le_of_ble_eq_true rfl, Nat.le_of_ble_eq_true rfl⟩) (cr_preV hK hN hW 0 (by decide) (cE_x I Z F ad M) rfl) rfl rfl hl.1 rfl (lv_room (Nat.le_of_ble_eq_true rfl)) dX2_count_7 ⟨Nat.le_of_ble_eq_true rfl, Nat.le_of_ble_eq_true rfl⟩) hA hDa hW (fun r u H locs hp hW => ?_)
  obtain ⟨hu, hv9⟩ := hp
  rw [hu] at hW
  rw [hv9]
  exact hret 10 ls H locs 1 6 _ _ dX2_count_10 (by decide) (by decide) (⟨wh, hwh, rfl, rfl, rfl⟩) hW

abbrev rm_about : Room := { frames := 9, cells := 2, slots := 12, locals := 400 }
set_option maxHeartbeats 4000000 in
set_option maxRecDepth 100000 in
/-- what is told of a fold -/
theorem c_about (l : Launch) (hst : l.stackTraces = false) (D : va_G) (I Z F : ClassId) (ad sa : Nat → Nat) (hI : cI ad) (M : Nat → Nat → Int32) (sz : Nat) (n : Nat) (hrs : rwsOk M n) (a1 x : Int32) : vx_Met l yX2_about wsX2_about rm_about (va_Pc [.ref (ad 0), .int a1, .int x] (cUX D I Z F ad sa sz M)) (va_Qi (fun (r : Int32) (u : Nat → Nat → Int32) => ∃ k z wh : Nat, fdOk M a1 k ∧ wh < 8 ∧ x = nI wh ∧ z ≤ 77 ∧ M (25 + 6 * k) 2 = nI z ∧ u = M ∧ r = tdF M (25 + 6 * k) z wh) (fun u t => cP D I Z F ad u t.heap) (cA ad sz)) (xQ D I Z F ad M sz (fun E => E = xIO ∧ ¬ ((∃ k, fdOk M a1 k) ∧ inB x 8))) 2 12 (cA ad sz) := by
  refine cMetX_i (cc := cX2_about) (maxL := 4) hst hI (by decide) rfl ⟨rfl, rfl, by decide, by decide⟩ RX2 rfl (Nat.le_of_ble_eq_true rfl) (lv := [(0, .ref (ad 0)), (1, .int a1), (2, .int x)]) rfl ?_
  intro p e s m args below meth c Q A ls hsz C0 hX hW hl hret hthr hprp
  obtain ⟨hx, hb, hml, hts, hown, hlocks, hK, hN, hDa, hA, hargs⟩ := C0
  have hin2 : ∀ w ∈ u_ws RX2 TX2 6, w ∈ wsX2_about := by decide +kernel
  have hin0 : ∀ w ∈ u_ws RX0 TX0 7, w ∈ wsX2_about := by decide +kernel
  have hin1 : ∀ w ∈ u_ws RX1 TX1 10, w ∈ wsX2_about := by decide +kernel
  refine lv_aload_n hx hb dX2_about_0 rfl (lv_at hl 0 rfl) ?_
  refine lv_iload_n hx hb dX2_about_1 rfl (lv_at hl 1 rfl) ?_
  refine cx_callq (vx_runV (As := [.int a1]) (rest := []) ⟨hx, hb, hml, hown, hts⟩ (c_foldAt l hst D I Z F ad sa hI M s.heap.size a1) (cwV 1 hts gX2_about_X2_foldAt rfl rfl rfl (by decide +kernel) ⟨Nat.le_of_ble_eq_true rfl, Nat.le_of_ble_eq_true rfl⟩) (cx_preV hK hN hX hA hDa hW 0 (by decide) (cE_x I Z F ad M) rfl) rfl rfl hl.1 rfl (lv_room (Nat.le_of_ble_eq_true rfl)) dX2_about_2 ⟨Nat.le_of_ble_eq_true rfl, Nat.le_of_ble_eq_true rfl⟩) hA hDa hW (fun E ce q9 H locs hxp hW h1 h2 h3 => ?_) (fun r k H locs hp hW => ?_)
  · exact hprp 2 ls _ H locs 1 6 E ce q9 (⟨hxp.1, fun h => hxp.2 h.1⟩) hW (by decide) (by decide) h1 h2 h3
  obtain ⟨hk, hr9⟩ := hp
  subst hr9
  have hk12 := hk.1
  show W p l e rm_about s m args below meth c H locs 1 6 Q (F0 m 5 ls (.ref (ad (25 + 6 * k)) :: []))
  refine lv_astore_n (lv' := [(3, .ref (ad (25 + 6 * k))), (0, .ref (ad 0)), (1, .int a1), (2, .int x)]) hx hb dX2_about_5 rfl hl (by decide) rfl (fun ls hl => ?_)
  refine lv_iload_n hx hb dX2_about_6 rfl (lv_at hl 3 rfl) ?_
  refine lv_bipush (v := 8) hx hb dX2_about_7 (by decide) ?_
  refine cx_callv (vx_runS (As := [.int x, .int 8]) (rest := []) ⟨hx, hb, hml, hown, hts⟩ (c_checkBelow l hst D I Z F ad sa hI M H.size x 8) (va_cwS 2 hts gX2_about_X2_checkBelow rfl rfl rfl (by decide +kernel) ⟨Nat.le_of_ble_eq_true rfl, Nat.le_of_ble_eq_true rfl⟩) (cx_preS hK hN hX hA hDa hW) rfl rfl hl.1 rfl (lv_room (Nat.le_of_ble_eq_true rfl)) dX2_about_9 ⟨Nat.le_of_ble_eq_true rfl, Nat.le_of_ble_eq_true rfl⟩) hA hDa hW (fun E ce q9 H locs hxp hW h1 h2 h3 => ?_) (fun u H locs hp hW => ?_)
  · exact hprp 9 ls _ H locs 2 12 E ce q9 (⟨hxp.1, fun h => inB_no (n := 8) (by decide) hxp.2 h.2⟩) hW (by decide) (by decide) h1 h2 h3
  obtain ⟨hu, hb1, hb2⟩ := hp
  rw [hu] at hW
  have hin : inB x 8 := inB_of (n := 8) (by decide) hb1 hb2
  obtain ⟨wh, hwh, rfl⟩ := hin
  obtain ⟨z, hz7, hz, hrw⟩ := hrs.2.2 k hk12 hk.2.2
  refine lv_aload_n hx hb dX2_about_12 rfl (lv_at hl 1 rfl) ?_
  refine lv_aload_n hx hb dX2_about_13 rfl (lv_at hl 0 rfl) ?_
  refine lv_iload_n hx hb dX2_about_14 rfl (lv_at hl 3 rfl) ?_
  refine cr_calli (va_runV (As := [.ref (ad (25 + 6 * k)), .int (nI wh)]) (rest := []) ⟨hx, hb, hml, hown, hts⟩ (c_tellFold l D I Z F ad hI M H.size k hk12 n z hrs.1 hz7 hz hrw wh hwh) (cwV 2 hts gX2_about_X2_tellFold rfl rfl rfl (by decide +kernel) ⟨Nat.le_of_ble_eq_true rfl, Nat.le_of_ble_eq_true rfl⟩) (cr_preV hK hN hW 0 (by decide) (cE_x I Z F ad M) rfl) rfl rfl hl.1 rfl (lv_room (Nat.le_of_ble_eq_true rfl)) dX2_about_15 ⟨Nat.le_of_ble_eq_true rfl, Nat.le_of_ble_eq_true rfl⟩) hA hDa hW (fun r u H locs hp hW => ?_)
  obtain ⟨hu, hv9⟩ := hp
  rw [hu] at hW
  rw [hv9]
  exact hret 18 ls H locs 2 12 _ _ dX2_about_18 (by decide) (by decide) (⟨k, z, wh, hk, hwh, rfl, hz7, hz, rfl, rfl⟩) hW

abbrev rm_fork : Room := { frames := 9, cells := 3, slots := 18, locals := 400 }
set_option maxHeartbeats 4000000 in
set_option maxRecDepth 100000 in
/-- what is told of a fork -/
theorem c_fork (l : Launch) (hst : l.stackTraces = false) (D : va_G) (I Z F : ClassId) (ad sa : Nat → Nat) (hI : cI ad) (M : Nat → Nat → Int32) (sz : Nat) (n : Nat) (hrs : rwsOk M n) (a1 pl x : Int32) : vx_Met l yX2_fork wsX2_fork rm_fork (va_Pc [.ref (ad 0), .int a1, .int pl, .int x] (cUX D I Z F ad sa sz M)) (va_Qi (fun (r : Int32) (u : Nat → Nat → Int32) => ∃ k z i wh : Nat, fdOk M a1 k ∧ wh < 5 ∧ x = nI wh ∧ z ≤ 77 ∧ M (25 + 6 * k) 2 = nI z ∧ i < z ∧ pl = nI i ∧ u = M ∧ r = tfF M (25 + 6 * k) i wh) (fun u t => cP D I Z F ad u t.heap) (cA ad sz)) (xQ D I Z F ad M sz (fun E => E = xIO ∧ ¬ (∃ k, fdOk M a1 k ∧ ¬ pl < 0 ∧ pl < M (25 + 6 * k) 2 ∧ inB x 5))) 3 18 (cA ad sz) := by
  refine cMetX_i (cc := cX2_fork) (maxL := 5) hst hI (by decide) rfl ⟨rfl, rfl, by decide, by decide⟩ RX2 rfl (Nat.le_of_ble_eq_true rfl) (lv := [(0, .ref (ad 0)), (1, .int a1), (2, .int pl), (3, .int x)]) rfl ?_
  intro p e s m args below meth c Q A ls hsz C0 hX hW hl hret hthr hprp
  obtain ⟨hx, hb, hml, hts, hown, hlocks, hK, hN, hDa, hA, hargs⟩ := C0
  have hin2 : ∀ w ∈ u_ws RX2 TX2 6, w ∈ wsX2_fork := by decide +kernel
  have hin0 : ∀ w ∈ u_ws RX0 TX0 7, w ∈ wsX2_fork := by decide +kernel
  have hin1 : ∀ w ∈ u_ws RX1 TX1 10, w ∈ wsX2_fork := by decide +kernel
  refine lv_aload_n hx hb dX2_fork_0 rfl (lv_at hl 0 rfl) ?_
  refine lv_iload_n hx hb dX2_fork_1 rfl (lv_at hl 1 rfl) ?_
  refine cx_callq (vx_runV (As := [.int a1]) (rest := []) ⟨hx, hb, hml, hown, hts⟩ (c_foldAt l hst D I Z F ad sa hI M s.heap.size a1) (cwV 1 hts gX2_fork_X2_foldAt rfl rfl rfl (by decide +kernel) ⟨Nat.le_of_ble_eq_true rfl, Nat.le_of_ble_eq_true rfl⟩) (cx_preV hK hN hX hA hDa hW 0 (by decide) (cE_x I Z F ad M) rfl) rfl rfl hl.1 rfl (lv_room (Nat.le_of_ble_eq_true rfl)) dX2_fork_2 ⟨Nat.le_of_ble_eq_true rfl, Nat.le_of_ble_eq_true rfl⟩) hA hDa hW (fun E ce q9 H locs hxp hW h1 h2 h3 => ?_) (fun r k H locs hp hW => ?_)
  · exact hprp 2 ls _ H locs 1 6 E ce q9 (⟨hxp.1, fun ⟨k, h⟩ => hxp.2 ⟨k, h.1⟩⟩) hW (by decide) (by decide) h1 h2 h3
  obtain ⟨hk, hr9⟩ := hp
  subst hr9
  have hk12 := hk.1
  show W p l e rm_fork s m args below meth c H locs 1 6 Q (F0 m 5 ls (.ref (ad (25 + 6 * k)) :: []))
  obtain ⟨z, hz7, hz, hrw⟩ := hrs.2.2 k hk12 hk.2.2
  refine lv_astore (lv' := [(4, .ref (ad (25 + 6 * k))), (0, .ref (ad 0)), (1, .int a1), (2, .int pl), (3, .int x)]) hx hb dX2_fork_5 hl (by decide) rfl (fun ls hl => ?_)
  refine lv_iload_n hx hb dX2_fork_7 rfl (lv_at hl 3 rfl) ?_
  refine lv_aload hx hb dX2_fork_8 (lv_at hl 0 rfl) ?_
  refine cr_getN (v := .int (M (25 + 6 * k) 2)) (host := "SharedForks") hx hb hts hin0 hown hK hW (25 + 6 * k) (by omega) (cE_d0 I Z F ad M k) rfl 2 (by decide) rfl hN (by decide +kernel) rfl dX2_fork_10 ?_
  refine cx_callv (vx_runS (As := [.int pl, .int (M (25 + 6 * k) 2)]) (rest := []) ⟨hx, hb, hml, hown, hts⟩ (c_checkBelow l hst D I Z F ad sa hI M H.size pl (M (25 + 6 * k) 2)) (va_cwS 2 hts gX2_fork_X2_checkBelow rfl rfl rfl (by decide +kernel) ⟨Nat.le_of_ble_eq_true rfl, Nat.le_of_ble_eq_true rfl⟩) (cx_preS hK hN hX hA hDa hW) rfl rfl hl.1 rfl (lv_room (Nat.le_of_ble_eq_true rfl)) dX2_fork_13 ⟨Nat.le_of_ble_eq_true rfl, Nat.le_of_ble_eq_true rfl⟩) hA hDa hW (fun E ce q9 H locs hxp hW h1 h2 h3 => ?_) (fun u H locs hp hW => ?_)
  · exact hprp 13 ls _ H locs 2 12 E ce q9 (⟨hxp.1, fun ⟨k2, h⟩ => by obtain rfl := fdOk_un h.1 hk; rcases hxp.2 with q | q; exact h.2.1 q; exact Int32.not_le.mpr h.2.2.1 q⟩) hW (by decide) (by decide) h1 h2 h3
  obtain ⟨hu, hb1, hb2⟩ := hp
  rw [hu] at hW
  have hpl1 := hb1
  have hpl2 := hb2
  rw [hz] at hb2
  obtain ⟨i, hi, rfl⟩ := part_of (n := z) (by omega) hb1 (Int32.not_le.mpr hb2)
  refine lv_iload_n hx hb dX2_fork_16 rfl (lv_at hl 4 rfl) ?_
  refine lv_iconst (v := 5) hx hb dX2_fork_17 (by decide) ?_
  refine cx_callv (vx_runS (As := [.int x, .int 5]) (rest := []) ⟨hx, hb, hml, hown, hts⟩ (c_checkBelow l hst D I Z F ad sa hI M H.size x 5) (va_cwS 2 hts gX2_fork_X2_checkBelow rfl rfl rfl (by decide +kernel) ⟨Nat.le_of_ble_eq_true rfl, Nat.le_of_ble_eq_true rfl⟩) (cx_preS hK hN hX hA hDa hW) rfl rfl hl.1 rfl (lv_room (Nat.le_of_ble_eq_true rfl)) dX2_fork_18 ⟨Nat.le_of_ble_eq_true rfl, Nat.le_of_ble_eq_true rfl⟩) hA hDa hW (fun E ce q9 H locs hxp hW h1 h2 h3 => ?_) (fun u H locs hp hW => ?_)
  · exact hprp 18 ls _ H locs 3 18 E ce q9 (⟨hxp.1, fun ⟨k2, h⟩ => inB_no (n := 5) (by decide) hxp.2 h.2.2.2⟩) hW (by decide) (by decide) h1 h2 h3
  obtain ⟨hu, hb1, hb2⟩ := hp
  rw [hu] at hW
  have hin : inB x 5 := inB_of (n := 5) (by decide) hb1 hb2
  obtain ⟨wh, hwh, rfl⟩ := hin
  refine lv_aload_n hx hb dX2_fork_21 rfl (lv_at hl 1 rfl) ?_
  refine lv_aload hx hb dX2_fork_22 (lv_at hl 0 rfl) ?_
  refine lv_iload_n hx hb dX2_fork_24 rfl (lv_at hl 3 rfl) ?_
  refine lv_iload_n hx hb dX2_fork_25 rfl (lv_at hl 4 rfl) ?_
  refine cr_calli (va_runV (As := [.ref (ad (25 + 6 * k)), .int (nI i), .int (nI wh)]) (rest := []) ⟨hx, hb, hml, hown, hts⟩ (c_tellFork l D I Z F ad hI M H.size k hk12 n z hrs.1 hz7 hz hrw i hi wh hwh) (cwV 3 hts gX2_fork_X2_tellFork rfl rfl rfl (by decide +kernel) ⟨Nat.le_of_ble_eq_true rfl, Nat.le_of_ble_eq_true rfl⟩) (cr_preV hK hN hW 0 (by decide) (cE_x I Z F ad M) rfl) rfl rfl hl.1 rfl (lv_room (Nat.le_of_ble_eq_true rfl)) dX2_fork_26 ⟨Nat.le_of_ble_eq_true rfl, Nat.le_of_ble_eq_true rfl⟩) hA hDa hW (fun r u H locs hp hW => ?_)
  obtain ⟨hu, hv9⟩ := hp
  rw [hu] at hW
  rw [hv9]
  exact hret 29 ls H locs 3 18 _ _ dX2_fork_29 (by decide) (by decide) (⟨k, z, i, wh, hk, hwh, rfl, hz7, hz, hi, rfl, rfl, rfl⟩) hW

abbrev rm_says : Room := { frames := 9, cells := 2, slots := 12, locals := 200 }
set_option maxHeartbeats 4000000 in
set_option maxRecDepth 100000 in
/-- whether a fold says yes -/
theorem c_says (l : Launch) (hst : l.stackTraces = false) (D : va_G) (I Z F : ClassId) (ad sa : Nat → Nat) (hI : cI ad) (M : Nat → Nat → Int32) (sz : Nat) (hys : ysOk M) (a1 x : Int32) : vx_Met l yX2_says wsX2_says rm_says (va_Pc [.ref (ad 0), .int a1, .int x] (cUX D I Z F ad sa sz M)) (va_Qi (fun (r : Int32) (u : Nat → Nat → Int32) => ∃ k j : Nat, fdOk M a1 k ∧ j < 256 ∧ x = nI j ∧ u = M ∧ r = M (25 + 6 * k + 1) j) (fun u t => cP D I Z F ad u t.heap) (cA ad sz)) (xQ D I Z F ad M sz (fun E => (E = xIO ∧ ¬ ∃ k, fdOk M a1 k) ∨ (E = xIA ∧ (∃ k, fdOk M a1 k) ∧ ¬ inB x 256))) 2 12 (cA ad sz) := by
  refine cMetX_z (cc := cX2_says) (maxL := 4) hst hI (by decide) rfl ⟨rfl, rfl, by decide, by decide⟩ RX2 rfl (Nat.le_of_ble_eq_true rfl) (lv := [(0, .ref (ad 0)), (1, .int a1), (2, .int x)]) rfl ?_
  intro p e s m args below meth c Q A ls hsz C0 hX hW hl hret hthr hprp
  obtain ⟨hx, hb, hml, hts, hown, hlocks, hK, hN, hDa, hA, hargs⟩ := C0
  have hin2 : ∀ w ∈ u_ws RX2 TX2 6, w ∈ wsX2_says := by decide +kernel
  have hin0 : ∀ w ∈ u_ws RX0 TX0 7, w ∈ wsX2_says := by decide +kernel
  refine lv_aload_n hx hb dX2_says_0 rfl (lv_at hl 0 rfl) ?_
  refine lv_iload_n hx hb dX2_says_1 rfl (lv_at hl 1 rfl) ?_
  refine cx_callq (vx_runV (As := [.int a1]) (rest := []) ⟨hx, hb, hml, hown, hts⟩ (c_foldAt l hst D I Z F ad sa hI M s.heap.size a1) (cwV 1 hts gX2_says_X2_foldAt rfl rfl rfl (by decide +kernel) ⟨Nat.le_of_ble_eq_true rfl, Nat.le_of_ble_eq_true rfl⟩) (cx_preV hK hN hX hA hDa hW 0 (by decide) (cE_x I Z F ad M) rfl) rfl rfl hl.1 rfl (lv_room (Nat.le_of_ble_eq_true rfl)) dX2_says_2 ⟨Nat.le_of_ble_eq_true rfl, Nat.le_of_ble_eq_true rfl⟩) hA hDa hW (fun E ce q9 H locs hxp hW h1 h2 h3 => ?_) (fun r k H locs hp hW => ?_)
  · exact hprp 2 ls _ H locs 1 6 E ce q9 (Or.inl hxp) hW (by decide) (by decide) h1 h2 h3
  obtain ⟨hk, hr9⟩ := hp
  subst hr9
  have hk12 := hk.1
  show W p l e rm_says s m args below meth c H locs 1 6 Q (F0 m 5 ls (.ref (ad (25 + 6 * k)) :: []))
  refine lv_astore_n (lv' := [(3, .ref (ad (25 + 6 * k))), (0, .ref (ad 0)), (1, .int a1), (2, .int x)]) hx hb dX2_says_5 rfl hl (by decide) rfl (fun ls hl => ?_)
  refine lv_iload_n hx hb dX2_says_6 rfl (lv_at hl 3 rfl) ?_
  refine lv_if_lt (tgt := 17) hx hb dX2_says_7 (by decide) (fun c1 => ?_) (fun c1 => ?_)
  · skip
    exact hthr 17 ls _ _ 1 6 "java/lang/IllegalArgumentException" _ 86 88 90 _ (Or.inr ⟨rfl, ⟨k, hk⟩, inB_no (n := 256) (by decide) (Or.inl c1)⟩) hW hl.1 (by decide) (by decide) (by decide +kernel) (by decide +kernel) (by decide +kernel) hX.2.2.2.2.1 (by decide +kernel) (by decide +kernel) (by decide +kernel) dX2_says_17 dX2_says_20 dX2_says_21 dX2_says_23 dX2_says_26
  · skip
    refine lv_iload_n hx hb dX2_says_10 rfl (lv_at hl 3 rfl) ?_
    refine lv_sipush (v := 256) hx hb dX2_says_11 (by decide) ?_
    refine lv_icmp_lt (tgt := 27) hx hb dX2_says_14 (by decide) (fun c2 => ?_) (fun c2 => ?_)
    · skip
      obtain ⟨j, hj, rfl⟩ := inB_of (n := 256) (by decide) c1 c2
      refine lv_aload_n hx hb dX2_says_27 rfl (lv_at hl 0 rfl) ?_
      refine cr_getN (v := .ref (ad (25 + 6 * k + 1))) (host := "SharedForks") hx hb hts hin0 hown hK hW (25 + 6 * k) (by omega) (cE_d0 I Z F ad M k) rfl 1 (by decide) rfl hN (by decide +kernel) rfl dX2_says_28 ?_
      refine lv_iload_n hx hb dX2_says_31 rfl (lv_at hl 3 rfl) ?_
      refine cr_zald hx hb hK hW (25 + 6 * k + 1) (by omega) (cE_d1 I Z F ad M k) j hj (by decide) rfl dX2_says_32 ?_
      exact hret 33 ls H locs 1 6 _ _ dX2_says_33 (by decide) (by decide) (⟨k, j, hk, hj, rfl, rfl, rfl⟩) (hys k hk12 j hj) hW
    · skip
      exact hthr 17 ls _ _ 1 6 "java/lang/IllegalArgumentException" _ 86 88 90 _ (Or.inr ⟨rfl, ⟨k, hk⟩, inB_no (n := 256) (by decide) (Or.inr (Int32.not_lt.mp c2))⟩) hW hl.1 (by decide) (by decide) (by decide +kernel) (by decide +kernel) (by decide +kernel) hX.2.2.2.2.1 (by decide +kernel) (by decide +kernel) (by decide +kernel) dX2_says_17 dX2_says_20 dX2_says_21 dX2_says_23 dX2_says_26

def wdF (M : Nat → Nat → Int32) (ka kb wh : Nat) : Nat → Nat → Int32 := lyF (soF (sjF M ka kb wh 13) 15 2) 15 13
abbrev rm_would : Room := { frames := 14, cells := 3, slots := 18, locals := 800 }
set_option maxHeartbeats 4000000 in
set_option maxRecDepth 100000 in
/-- how many forks a new fold would have -/
theorem c_would (l : Launch) (hst : l.stackTraces = false) (D : va_G) (I Z F : ClassId) (ad sa : Nat → Nat) (hI : cI ad) (M : Nat → Nat → Int32) (sz : Nat) (a1 b1 x : Int32) : vx_Met l yX2_would wsX2_would rm_would (va_Pc [.ref (ad 0), .int a1, .int b1, .int x] (cUX D I Z F ad sa sz M)) (va_Qi (fun (r : Int32) (u : Nat → Nat → Int32) => ∃ ka kb wh : Nat, fdOk M a1 ka ∧ fdOk M b1 kb ∧ wh < 6 ∧ x = nI wh ∧ u = wdF M ka kb wh ∧ r = u 15 0) (fun u t => cP D I Z F ad u t.heap) (cA ad sz)) (xQ D I Z F ad M sz (fun E => E = xIO ∧ ¬ ((∃ k, fdOk M a1 k) ∧ (∃ k, fdOk M b1 k) ∧ inB x 6))) 3 18 (cA ad sz) := by
  refine cMetX_i (cc := cX2_would) (maxL := 6) hst hI (by decide) rfl ⟨rfl, rfl, by decide, by decide⟩ RX2 rfl (Nat.le_of_ble_eq_true rfl) (lv := [(0, .ref (ad 0)), (1, .int a1), (2, .int b1), (3, .int x)]) rfl ?_
  intro p e s m args below meth c Q A ls hsz C0 hX hW hl hret hthr hprp
  obtain ⟨hx, hb, hml, hts, hown, hlocks, hK, hN, hDa, hA, hargs⟩ := C0
  have hin2 : ∀ w ∈ u_ws RX2 TX2 6, w ∈ wsX2_would := by decide +kernel
  have hin0 : ∀ w ∈ u_ws RX0 TX0 7, w ∈ wsX2_would := by decide +kernel
  have hin1 : ∀ w ∈ u_ws RX1 TX1 10, w ∈ wsX2_would := by decide +kernel
  refine lv_aload_n hx hb dX2_would_0 rfl (lv_at hl 0 rfl) ?_
  refine lv_iload_n hx hb dX2_would_1 rfl (lv_at hl 1 rfl) ?_
  refine cx_callq (vx_runV (As := [.int a1]) (rest := []) ⟨hx, hb, hml, hown, hts⟩ (c_foldAt l hst D I Z F ad sa hI M s.heap.size a1) (cwV 1 hts gX2_would_X2_foldAt rfl rfl rfl (by decide +kernel) ⟨Nat.le_of_ble_eq_true rfl, Nat.le_of_ble_eq_true rfl⟩) (cx_preV hK hN hX hA hDa hW 0 (by decide) (cE_x I Z F ad M) rfl) rfl rfl hl.1 rfl (lv_room (Nat.le_of_ble_eq_true rfl)) dX2_would_2 ⟨Nat.le_of_ble_eq_true rfl, Nat.le_of_ble_eq_true rfl⟩) hA hDa hW (fun E ce q9 H locs hxp hW h1 h2 h3 => ?_) (fun r ka H locs hp hW => ?_)
  · exact hprp 2 ls _ H locs 1 6 E ce q9 (⟨hxp.1, fun h => hxp.2 h.1⟩) hW (by decide) (by decide) h1 h2 h3
  obtain ⟨hka, hr9⟩ := hp
  subst hr9
  have hka12 := hka.1
  show W p l e rm_would s m args below meth c H locs 1 6 Q (F0 m 5 ls (.ref (ad (25 + 6 * ka)) :: []))
  refine lv_astore (lv' := [(4, .ref (ad (25 + 6 * ka))), (0, .ref (ad 0)), (1, .int a1), (2, .int b1), (3, .int x)]) hx hb dX2_would_5 hl (by decide) rfl (fun ls hl => ?_)
  refine lv_aload_n hx hb dX2_would_7 rfl (lv_at hl 1 rfl) ?_
  refine lv_iload_n hx hb dX2_would_8 rfl (lv_at hl 3 rfl) ?_
  refine cx_callq (vx_runV (As := [.int b1]) (rest := []) ⟨hx, hb, hml, hown, hts⟩ (c_foldAt l hst D I Z F ad sa hI M H.size b1) (cwV 1 hts gX2_would_X2_foldAt rfl rfl rfl (by decide +kernel) ⟨Nat.le_of_ble_eq_true rfl, Nat.le_of_ble_eq_true rfl⟩) (cx_preV hK hN hX hA hDa hW 0 (by decide) (cE_x I Z F ad M) rfl) rfl rfl hl.1 rfl (lv_room (Nat.le_of_ble_eq_true rfl)) dX2_would_9 ⟨Nat.le_of_ble_eq_true rfl, Nat.le_of_ble_eq_true rfl⟩) hA hDa hW (fun E ce q9 H locs hxp hW h1 h2 h3 => ?_) (fun r kb H locs hp hW => ?_)
  · exact hprp 9 ls _ H locs 2 12 E ce q9 (⟨hxp.1, fun h => hxp.2 h.2.1⟩) hW (by decide) (by decide) h1 h2 h3
  obtain ⟨hkb, hr9⟩ := hp
  subst hr9
  have hkb12 := hkb.1
  show W p l e rm_would s m args below meth c H locs 2 12 Q (F0 m 12 ls (.ref (ad (25 + 6 * kb)) :: []))
  refine lv_astore (lv' := [(5, .ref (ad (25 + 6 * kb))), (4, .ref (ad (25 + 6 * ka))), (0, .ref (ad 0)), (1, .int a1), (2, .int b1), (3, .int x)]) hx hb dX2_would_12 hl (by decide) rfl (fun ls hl => ?_)
  refine lv_iload_n hx hb dX2_would_14 rfl (lv_at hl 5 rfl) ?_
  refine lv_bipush (v := 6) hx hb dX2_would_15 (by decide) ?_
  refine cx_callv (vx_runS (As := [.int x, .int 6]) (rest := []) ⟨hx, hb, hml, hown, hts⟩ (c_checkBelow l hst D I Z F ad sa hI M H.size x 6) (va_cwS 2 hts gX2_would_X2_checkBelow rfl rfl rfl (by decide +kernel) ⟨Nat.le_of_ble_eq_true rfl, Nat.le_of_ble_eq_true rfl⟩) (cx_preS hK hN hX hA hDa hW) rfl rfl hl.1 rfl (lv_room (Nat.le_of_ble_eq_true rfl)) dX2_would_17 ⟨Nat.le_of_ble_eq_true rfl, Nat.le_of_ble_eq_true rfl⟩) hA hDa hW (fun E ce q9 H locs hxp hW h1 h2 h3 => ?_) (fun u H locs hp hW => ?_)
  · exact hprp 17 ls _ H locs 3 18 E ce q9 (⟨hxp.1, fun h => inB_no (n := 6) (by decide) hxp.2 h.2.2⟩) hW (by decide) (by decide) h1 h2 h3
  obtain ⟨hu, hb1, hb2⟩ := hp
  rw [hu] at hW
  have hin : inB x 6 := inB_of (n := 6) (by decide) hb1 hb2
  obtain ⟨wh, hwh, rfl⟩ := hin
  refine lv_aload hx hb dX2_would_20 (lv_at hl 1 rfl) ?_
  refine lv_aload hx hb dX2_would_22 (lv_at hl 0 rfl) ?_
  refine lv_iload_n hx hb dX2_would_24 rfl (lv_at hl 5 rfl) ?_
  refine lv_aload_n hx hb dX2_would_25 rfl (lv_at hl 2 rfl) ?_
  refine cr_get (v := .ref (ad 13)) hx hb hts hin2 hown hK hW 0 (by decide) (cE_x I Z F ad M) rfl 3 (by decide) rfl (by decide +kernel) rfl dX2_would_26 ?_
  refine cr_callv (va_runS (As := [.ref (ad (25 + 6 * ka)), .ref (ad (25 + 6 * kb)), .int (nI wh), .ref (ad 13)]) (rest := []) ⟨hx, hb, hml, hown, hts⟩ (c_sayJoined l D I Z F ad hI M H.size ka kb hka12 hkb12 wh hwh 13 (by decide) (cE_ty I Z F ad M) (by omega) (by omega)) (va_cwS 4 hts gX2_would_X2_sayJoined rfl rfl rfl (by decide +kernel) ⟨Nat.le_of_ble_eq_true rfl, Nat.le_of_ble_eq_true rfl⟩) (cr_preS hK hN hW) rfl rfl hl.1 rfl (lv_room (Nat.le_of_ble_eq_true rfl)) dX2_would_29 ⟨Nat.le_of_ble_eq_true rfl, Nat.le_of_ble_eq_true rfl⟩) hA hDa hW (fun u H locs hp hW => ?_)
  rw [hp] at hW
  refine lv_aload_n hx hb dX2_would_32 rfl (lv_at hl 2 rfl) ?_
  refine cr_get (v := .ref (ad 15)) hx hb hts hin2 hown hK hW 0 (by decide) (cE_x I Z F ad (sjF M ka kb wh 13)) rfl 5 (by decide) rfl (by decide +kernel) rfl dX2_would_33 ?_
  refine lv_aload_n hx hb dX2_would_36 rfl (lv_at hl 2 rfl) ?_
  refine cr_get (v := .ref (ad 2)) hx hb hts hin2 hown hK hW 0 (by decide) (cE_x I Z F ad (sjF M ka kb wh 13)) rfl 1 (by decide) rfl (by decide +kernel) rfl dX2_would_37 ?_
  refine cr_callv (va_runVN (As := [.ref (ad 2)]) (rest := []) (own := RX2) (host := "SharedForks") ⟨hx, hb, hml, hown, hts⟩ (c_startOver l D I Z F ad hI (sjF M ka kb wh 13) H.size 15 (Or.inr rfl) 2 (by decide) ⟨by decide, by decide, by decide⟩ (cE_q I Z F ad _)) ⟨va_cnB 1 hts gX2_would_X1_startOver_n113 rfl rfl rfl (hN (.methodLinkNest RX2 113 yX1_startOver "SharedForks") (by decide +kernel)) (hts (.initialized yX1_startOver.cls) (by decide +kernel)) (by decide +kernel) ⟨Nat.le_of_ble_eq_true rfl, Nat.le_of_ble_eq_true rfl⟩, hts (.instanceMethod yX1_startOver) (by decide +kernel), hts (.selects yX1_startOver.cls yX1_startOver yX1_startOver) (by decide +kernel)⟩ (cr_preV hK hN hW 15 (by decide) (cE_f0 I Z F ad (sjF M ka kb wh 13) (Or.inr rfl)) rfl) rfl rfl hl.1 rfl (lv_room (Nat.le_of_ble_eq_true rfl)) dX2_would_40 ⟨Nat.le_of_ble_eq_true rfl, Nat.le_of_ble_eq_true rfl⟩) hA hDa hW (fun u H locs hp hW => ?_)
  rw [hp] at hW
  have hlo := soF_laOk2 (sjF M ka kb wh 13) 15 2
  obtain ⟨⟨n2, hk2⟩, haw⟩ := hlo
  refine lv_aload_n hx hb dX2_would_43 rfl (lv_at hl 2 rfl) ?_
  refine cr_get (v := .ref (ad 15)) hx hb hts hin2 hown hK hW 0 (by decide) (cE_x I Z F ad (soF (sjF M ka kb wh 13) 15 2)) rfl 5 (by decide) rfl (by decide +kernel) rfl dX2_would_44 ?_
  refine lv_aload_n hx hb dX2_would_47 rfl (lv_at hl 2 rfl) ?_
  refine cr_get (v := .ref (ad 13)) hx hb hts hin2 hown hK hW 0 (by decide) (cE_x I Z F ad (soF (sjF M ka kb wh 13) 15 2)) rfl 3 (by decide) rfl (by decide +kernel) rfl dX2_would_48 ?_
  refine cr_calli (va_runVN (As := [.ref (ad 13)]) (rest := []) (own := RX2) (host := "SharedForks") ⟨hx, hb, hml, hown, hts⟩ (c_lay l D I Z F ad hI (soF (sjF M ka kb wh 13) 15 2) H.size 15 (Or.inr rfl) hk2.ok haw 13 (by decide) (by decide) (cE_ty I Z F ad _)) ⟨va_cnB 1 hts gX2_would_X1_lay_n117 rfl rfl rfl (hN (.methodLinkNest RX2 117 yX1_lay "SharedForks") (by decide +kernel)) (hts (.initialized yX1_lay.cls) (by decide +kernel)) (by decide +kernel) ⟨Nat.le_of_ble_eq_true rfl, Nat.le_of_ble_eq_true rfl⟩, hts (.instanceMethod yX1_lay) (by decide +kernel), hts (.selects yX1_lay.cls yX1_lay yX1_lay) (by decide +kernel)⟩ (cr_preV hK hN hW 15 (by decide) (cE_f0 I Z F ad (soF (sjF M ka kb wh 13) 15 2) (Or.inr rfl)) rfl) rfl rfl hl.1 rfl (lv_room (Nat.le_of_ble_eq_true rfl)) dX2_would_51 ⟨Nat.le_of_ble_eq_true rfl, Nat.le_of_ble_eq_true rfl⟩) hA hDa hW (fun r u H locs hp hW => ?_)
  obtain ⟨hu, hv9⟩ := hp
  rw [hu] at hW
  rw [hv9]
  rw [show lyF (soF (sjF M ka kb wh 13) 15 2) 15 13 = wdF M ka kb wh from rfl] at hW
  obtain ⟨r0, hr0⟩ : ∃ r0, r0 = lyF (soF (sjF M ka kb wh 13) 15 2) 15 13 (15 + 8) 0 := ⟨_, rfl⟩
  rw [← hr0]
  refine lv_pop hx hb dX2_would_54 rfl ?_
  refine lv_aload_n hx hb dX2_would_55 rfl (lv_at hl 2 rfl) ?_
  refine cr_get (v := .ref (ad 15)) hx hb hts hin2 hown hK hW 0 (by decide) (cE_x I Z F ad (wdF M ka kb wh)) rfl 5 (by decide) rfl (by decide +kernel) rfl dX2_would_56 ?_
  refine cr_getN (v := .int ((wdF M ka kb wh) 15 0)) (host := "SharedForks") hx hb hts hin1 hown hK hW 15 (by decide) (cE_f0 I Z F ad (wdF M ka kb wh) (Or.inr rfl)) rfl 0 (by decide) rfl hN (by decide +kernel) rfl dX2_would_59 ?_
  exact hret 62 ls H locs 3 18 _ _ dX2_would_62 (by decide) (by decide) (⟨ka, kb, wh, hka, hkb, hwh, rfl, rfl, rfl⟩) hW
