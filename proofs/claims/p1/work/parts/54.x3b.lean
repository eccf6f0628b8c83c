abbrev rm_m_join : Room := { frames := 2, cells := 0, slots := 0, locals := 200 }
set_option maxHeartbeats 4000000 in
set_option maxRecDepth 100000 in
theorem c_m_join (l : Launch) (D : va_G) (I Z J : ClassId) (ad : Nat → Nat) (hI : mI ad) (M : Nat → Nat → Int32) (L : Nat → Nat → Int64) (sz : Nat) (hz : ∀ j : Nat, j < 12 → M 1 j = 0) (a1 b1 c9 : Int32) : Met l yX3_join wsX3_join rm_m_join (va_Pc [.ref (ad 0), .int a1, .int b1, .int c9] (mU D I Z J ad sz M L)) (va_Qi (fun (r : Int32) (u : mU8) => u.1 0 0 = 1) (fun (u : mU8) t => mP D I Z J ad u.1 u.2 t.heap) (mA ad sz)) 0 0 (mA ad sz) := by
  refine mMet_i (cc := cX3_join) (maxL := 6) hI (by decide) rfl rfl (Nat.le_of_ble_eq_true rfl) (lv := [(0, .ref (ad 0)), (1, .int a1), (2, .int b1), (3, .int c9)]) rfl ?_
  intro p e s m args below meth c Q A ls hsz C0 hW hl hret
  obtain ⟨hx, hb, hml, hts, hown, hlocks, hK, hDa, hA, hargs⟩ := C0
  have hin3 : ∀ w ∈ u_ws RX3 TX3 15, w ∈ wsX3_join := by decide +kernel
  refine lv_aload_n hx hb dX3_join_0 rfl (lv_at hl 0 rfl) ?_
  refine lv_iconst (v := 0) hx hb dX3_join_1 (by decide) ?_
  refine mr_put hx hb hts hin3 hown hK hDa hW rfl 0 (by decide) rfl (by decide +kernel) (by decide +kernel) (Nat.le_of_ble_eq_true rfl) rfl dX3_join_2 (fun H locs hW => ?_)
  refine lv_aload_n hx hb dX3_join_5 rfl (lv_at hl 0 rfl) ?_
  refine lv_iload_n hx hb dX3_join_6 rfl (lv_at hl 1 rfl) ?_
  refine mr_calli (va_runV (As := [.int a1]) (rest := []) ⟨hx, hb, hml, hown, hts⟩ (c_m_isFold l D I Z J ad hI (mst M 0 0 0) L H.size (fun j hj => by rw [mst_ne (by decide)]; exact hz j hj) a1) (cwV 1 hts gX3_join_X3_isFold rfl rfl rfl (by decide +kernel) ⟨Nat.le_of_ble_eq_true rfl, Nat.le_of_ble_eq_true rfl⟩) (mr_preV hK hW) rfl rfl hl.1 rfl (lv_room (Nat.le_of_ble_eq_true rfl)) dX3_join_7 ⟨Nat.le_of_ble_eq_true rfl, Nat.le_of_ble_eq_true rfl⟩) hA hDa hW (fun r u H locs hp hW => ?_)
  obtain ⟨hu, hv9⟩ := hp
  rw [show u.1 = (mst M 0 0 0) from by rw [hu], show u.2 = L from by rw [hu]] at hW
  rw [hv9]
  refine lv_if_eq (tgt := 30) hx hb dX3_join_10 (by decide) (fun c1 => ?_) (fun c1 => ?_)
  · skip
    refine lv_aload_n hx hb dX3_join_30 rfl (lv_at hl 0 rfl) ?_
    refine lv_iconst (v := 1) hx hb dX3_join_31 (by decide) ?_
    refine mr_calli (va_runV (As := [.int 1]) (rest := []) ⟨hx, hb, hml, hown, hts⟩ (c_m_fail l D I Z J ad hI (mst M 0 0 0) L H.size 1) (cwV 1 hts gX3_join_X3_fail rfl rfl rfl (by decide +kernel) ⟨Nat.le_of_ble_eq_true rfl, Nat.le_of_ble_eq_true rfl⟩) (mr_preV hK hW) rfl rfl hl.1 rfl (lv_room (Nat.le_of_ble_eq_true rfl)) dX3_join_32 ⟨Nat.le_of_ble_eq_true rfl, Nat.le_of_ble_eq_true rfl⟩) hA hDa hW (fun r u H locs hp hW => ?_)
    obtain ⟨hu, hv9⟩ := hp
    rw [show u.1 = mst (mst M 0 0 0) 0 0 1 from by rw [hu], show u.2 = L from by rw [hu]] at hW
    rw [hv9]
    exact hret 35 ls H locs _ ((mst (mst M 0 0 0) 0 0 1), L) dX3_join_35 (by show (mst (mst M 0 0 0) 0 0 1) 0 0 = _; simp only [mst_at]; simp) hW
  · exact absurd rfl c1

abbrev rm_m_choose : Room := { frames := 2, cells := 0, slots := 0, locals := 200 }
set_option maxHeartbeats 4000000 in
set_option maxRecDepth 100000 in
theorem c_m_choose (l : Launch) (D : va_G) (I Z J : ClassId) (ad : Nat → Nat) (hI : mI ad) (M : Nat → Nat → Int32) (L : Nat → Nat → Int64) (sz : Nat) (hz : ∀ j : Nat, j < 12 → M 1 j = 0) (a1 b1 c9 : Int32) : Met l yX3_choose wsX3_choose rm_m_choose (va_Pc [.ref (ad 0), .int a1, .int b1, .int c9] (mU D I Z J ad sz M L)) (va_Qi (fun (r : Int32) (u : mU8) => u.1 0 0 = 1) (fun (u : mU8) t => mP D I Z J ad u.1 u.2 t.heap) (mA ad sz)) 0 0 (mA ad sz) := by
  refine mMet_i (cc := cX3_choose) (maxL := 6) hI (by decide) rfl rfl (Nat.le_of_ble_eq_true rfl) (lv := [(0, .ref (ad 0)), (1, .int a1), (2, .int b1), (3, .int c9)]) rfl ?_
  intro p e s m args below meth c Q A ls hsz C0 hW hl hret
  obtain ⟨hx, hb, hml, hts, hown, hlocks, hK, hDa, hA, hargs⟩ := C0
  have hin3 : ∀ w ∈ u_ws RX3 TX3 15, w ∈ wsX3_choose := by decide +kernel
  refine lv_aload_n hx hb dX3_choose_0 rfl (lv_at hl 0 rfl) ?_
  refine lv_iconst (v := 0) hx hb dX3_choose_1 (by decide) ?_
  refine mr_put hx hb hts hin3 hown hK hDa hW rfl 0 (by decide) rfl (by decide +kernel) (by decide +kernel) (Nat.le_of_ble_eq_true rfl) rfl dX3_choose_2 (fun H locs hW => ?_)
  refine lv_aload_n hx hb dX3_choose_5 rfl (lv_at hl 0 rfl) ?_
  refine lv_iload_n hx hb dX3_choose_6 rfl (lv_at hl 1 rfl) ?_
  refine mr_calli (va_runV (As := [.int a1]) (rest := []) ⟨hx, hb, hml, hown, hts⟩ (c_m_isFold l D I Z J ad hI (mst M 0 0 0) L H.size (fun j hj => by rw [mst_ne (by decide)]; exact hz j hj) a1) (cwV 1 hts gX3_choose_X3_isFold rfl rfl rfl (by decide +kernel) ⟨Nat.le_of_ble_eq_true rfl, Nat.le_of_ble_eq_true rfl⟩) (mr_preV hK hW) rfl rfl hl.1 rfl (lv_room (Nat.le_of_ble_eq_true rfl)) dX3_choose_7 ⟨Nat.le_of_ble_eq_true rfl, Nat.le_of_ble_eq_true rfl⟩) hA hDa hW (fun r u H locs hp hW => ?_)
  obtain ⟨hu, hv9⟩ := hp
  rw [show u.1 = (mst M 0 0 0) from by rw [hu], show u.2 = L from by rw [hu]] at hW
  rw [hv9]
  refine lv_if_eq (tgt := 29) hx hb dX3_choose_10 (by decide) (fun c1 => ?_) (fun c1 => ?_)
  · skip
    refine lv_aload_n hx hb dX3_choose_29 rfl (lv_at hl 0 rfl) ?_
    refine lv_iconst (v := 1) hx hb dX3_choose_30 (by decide) ?_
    refine mr_calli (va_runV (As := [.int 1]) (rest := []) ⟨hx, hb, hml, hown, hts⟩ (c_m_fail l D I Z J ad hI (mst M 0 0 0) L H.size 1) (cwV 1 hts gX3_choose_X3_fail rfl rfl rfl (by decide +kernel) ⟨Nat.le_of_ble_eq_true rfl, Nat.le_of_ble_eq_true rfl⟩) (mr_preV hK hW) rfl rfl hl.1 rfl (lv_room (Nat.le_of_ble_eq_true rfl)) dX3_choose_31 ⟨Nat.le_of_ble_eq_true rfl, Nat.le_of_ble_eq_true rfl⟩) hA hDa hW (fun r u H locs hp hW => ?_)
    obtain ⟨hu, hv9⟩ := hp
    rw [show u.1 = mst (mst M 0 0 0) 0 0 1 from by rw [hu], show u.2 = L from by rw [hu]] at hW
    rw [hv9]
    exact hret 34 ls H locs _ ((mst (mst M 0 0 0) 0 0 1), L) dX3_choose_34 (by show (mst (mst M 0 0 0) 0 0 1) 0 0 = _; simp only [mst_at]; simp) hW
  · exact absurd rfl c1

abbrev rm_m_given : Room := { frames := 2, cells := 0, slots := 0, locals := 200 }
set_option maxHeartbeats 4000000 in
set_option maxRecDepth 100000 in
theorem c_m_given (l : Launch) (D : va_G) (I Z J : ClassId) (ad : Nat → Nat) (hI : mI ad) (M : Nat → Nat → Int32) (L : Nat → Nat → Int64) (sz : Nat) (hz : ∀ j : Nat, j < 12 → M 1 j = 0) (a1 b1 c9 : Int32) : Met l yX3_given wsX3_given rm_m_given (va_Pc [.ref (ad 0), .int a1, .int b1, .int c9] (mU D I Z J ad sz M L)) (va_Qi (fun (r : Int32) (u : mU8) => u.1 0 0 = 1) (fun (u : mU8) t => mP D I Z J ad u.1 u.2 t.heap) (mA ad sz)) 0 0 (mA ad sz) := by
  refine mMet_i (cc := cX3_given) (maxL := 5) hI (by decide) rfl rfl (Nat.le_of_ble_eq_true rfl) (lv := [(0, .ref (ad 0)), (1, .int a1), (2, .int b1), (3, .int c9)]) rfl ?_
  intro p e s m args below meth c Q A ls hsz C0 hW hl hret
  obtain ⟨hx, hb, hml, hts, hown, hlocks, hK, hDa, hA, hargs⟩ := C0
  have hin3 : ∀ w ∈ u_ws RX3 TX3 15, w ∈ wsX3_given := by decide +kernel
  refine lv_aload_n hx hb dX3_given_0 rfl (lv_at hl 0 rfl) ?_
  refine lv_iconst (v := 0) hx hb dX3_given_1 (by decide) ?_
  refine mr_put hx hb hts hin3 hown hK hDa hW rfl 0 (by decide) rfl (by decide +kernel) (by decide +kernel) (Nat.le_of_ble_eq_true rfl) rfl dX3_given_2 (fun H locs hW => ?_)
  refine lv_aload_n hx hb dX3_given_5 rfl (lv_at hl 0 rfl) ?_
  refine lv_iload_n hx hb dX3_given_6 rfl (lv_at hl 1 rfl) ?_
  refine mr_calli (va_runV (As := [.int a1]) (rest := []) ⟨hx, hb, hml, hown, hts⟩ (c_m_isFold l D I Z J ad hI (mst M 0 0 0) L H.size (fun j hj => by rw [mst_ne (by decide)]; exact hz j hj) a1) (cwV 1 hts gX3_given_X3_isFold rfl rfl rfl (by decide +kernel) ⟨Nat.le_of_ble_eq_true rfl, Nat.le_of_ble_eq_true rfl⟩) (mr_preV hK hW) rfl rfl hl.1 rfl (lv_room (Nat.le_of_ble_eq_true rfl)) dX3_given_7 ⟨Nat.le_of_ble_eq_true rfl, Nat.le_of_ble_eq_true rfl⟩) hA hDa hW (fun r u H locs hp hW => ?_)
  obtain ⟨hu, hv9⟩ := hp
  rw [show u.1 = (mst M 0 0 0) from by rw [hu], show u.2 = L from by rw [hu]] at hW
  rw [hv9]
  refine lv_if_eq (tgt := 20) hx hb dX3_given_10 (by decide) (fun c1 => ?_) (fun c1 => ?_)
  · skip
    refine lv_aload_n hx hb dX3_given_20 rfl (lv_at hl 0 rfl) ?_
    refine lv_iconst (v := 1) hx hb dX3_given_21 (by decide) ?_
    refine mr_calli (va_runV (As := [.int 1]) (rest := []) ⟨hx, hb, hml, hown, hts⟩ (c_m_fail l D I Z J ad hI (mst M 0 0 0) L H.size 1) (cwV 1 hts gX3_given_X3_fail rfl rfl rfl (by decide +kernel) ⟨Nat.le_of_ble_eq_true rfl, Nat.le_of_ble_eq_true rfl⟩) (mr_preV hK hW) rfl rfl hl.1 rfl (lv_room (Nat.le_of_ble_eq_true rfl)) dX3_given_22 ⟨Nat.le_of_ble_eq_true rfl, Nat.le_of_ble_eq_true rfl⟩) hA hDa hW (fun r u H locs hp hW => ?_)
    obtain ⟨hu, hv9⟩ := hp
    rw [show u.1 = mst (mst M 0 0 0) 0 0 1 from by rw [hu], show u.2 = L from by rw [hu]] at hW
    rw [hv9]
    exact hret 25 ls H locs _ ((mst (mst M 0 0 0) 0 0 1), L) dX3_given_25 (by show (mst (mst M 0 0 0) 0 0 1) 0 0 = _; simp only [mst_at]; simp) hW
  · exact absurd rfl c1

abbrev rm_m_without : Room := { frames := 2, cells := 0, slots := 0, locals := 200 }
set_option maxHeartbeats 4000000 in
set_option maxRecDepth 100000 in
theorem c_m_without (l : Launch) (D : va_G) (I Z J : ClassId) (ad : Nat → Nat) (hI : mI ad) (M : Nat → Nat → Int32) (L : Nat → Nat → Int64) (sz : Nat) (hz : ∀ j : Nat, j < 12 → M 1 j = 0) (a1 b1 c9 : Int32) : Met l yX3_without wsX3_without rm_m_without (va_Pc [.ref (ad 0), .int a1, .int b1, .int c9] (mU D I Z J ad sz M L)) (va_Qi (fun (r : Int32) (u : mU8) => u.1 0 0 = 1) (fun (u : mU8) t => mP D I Z J ad u.1 u.2 t.heap) (mA ad sz)) 0 0 (mA ad sz) := by
  refine mMet_i (cc := cX3_without) (maxL := 6) hI (by decide) rfl rfl (Nat.le_of_ble_eq_true rfl) (lv := [(0, .ref (ad 0)), (1, .int a1), (2, .int b1), (3, .int c9)]) rfl ?_
  intro p e s m args below meth c Q A ls hsz C0 hW hl hret
  obtain ⟨hx, hb, hml, hts, hown, hlocks, hK, hDa, hA, hargs⟩ := C0
  have hin3 : ∀ w ∈ u_ws RX3 TX3 15, w ∈ wsX3_without := by decide +kernel
  refine lv_aload_n hx hb dX3_without_0 rfl (lv_at hl 0 rfl) ?_
  refine lv_iconst (v := 0) hx hb dX3_without_1 (by decide) ?_
  refine mr_put hx hb hts hin3 hown hK hDa hW rfl 0 (by decide) rfl (by decide +kernel) (by decide +kernel) (Nat.le_of_ble_eq_true rfl) rfl dX3_without_2 (fun H locs hW => ?_)
  refine lv_aload_n hx hb dX3_without_5 rfl (lv_at hl 0 rfl) ?_
  refine lv_iload_n hx hb dX3_without_6 rfl (lv_at hl 1 rfl) ?_
  refine mr_calli (va_runV (As := [.int a1]) (rest := []) ⟨hx, hb, hml, hown, hts⟩ (c_m_isFold l D I Z J ad hI (mst M 0 0 0) L H.size (fun j hj => by rw [mst_ne (by decide)]; exact hz j hj) a1) (cwV 1 hts gX3_without_X3_isFold rfl rfl rfl (by decide +kernel) ⟨Nat.le_of_ble_eq_true rfl, Nat.le_of_ble_eq_true rfl⟩) (mr_preV hK hW) rfl rfl hl.1 rfl (lv_room (Nat.le_of_ble_eq_true rfl)) dX3_without_7 ⟨Nat.le_of_ble_eq_true rfl, Nat.le_of_ble_eq_true rfl⟩) hA hDa hW (fun r u H locs hp hW => ?_)
  obtain ⟨hu, hv9⟩ := hp
  rw [show u.1 = (mst M 0 0 0) from by rw [hu], show u.2 = L from by rw [hu]] at hW
  rw [hv9]
  refine lv_if_eq (tgt := 20) hx hb dX3_without_10 (by decide) (fun c1 => ?_) (fun c1 => ?_)
  · skip
    refine lv_aload_n hx hb dX3_without_20 rfl (lv_at hl 0 rfl) ?_
    refine lv_iconst (v := 1) hx hb dX3_without_21 (by decide) ?_
    refine mr_calli (va_runV (As := [.int 1]) (rest := []) ⟨hx, hb, hml, hown, hts⟩ (c_m_fail l D I Z J ad hI (mst M 0 0 0) L H.size 1) (cwV 1 hts gX3_without_X3_fail rfl rfl rfl (by decide +kernel) ⟨Nat.le_of_ble_eq_true rfl, Nat.le_of_ble_eq_true rfl⟩) (mr_preV hK hW) rfl rfl hl.1 rfl (lv_room (Nat.le_of_ble_eq_true rfl)) dX3_without_22 ⟨Nat.le_of_ble_eq_true rfl, Nat.le_of_ble_eq_true rfl⟩) hA hDa hW (fun r u H locs hp hW => ?_)
    obtain ⟨hu, hv9⟩ := hp
    rw [show u.1 = mst (mst M 0 0 0) 0 0 1 from by rw [hu], show u.2 = L from by rw [hu]] at hW
    rw [hv9]
    exact hret 25 ls H locs _ ((mst (mst M 0 0 0) 0 0 1), L) dX3_without_25 (by show (mst (mst M 0 0 0) 0 0 1) 0 0 = _; simp only [mst_at]; simp) hW
  · exact absurd rfl c1

abbrev rm_m_drop : Room := { frames := 2, cells := 0, slots := 0, locals := 200 }
set_option maxHeartbeats 4000000 in
set_option maxRecDepth 100000 in
theorem c_m_drop (l : Launch) (D : va_G) (I Z J : ClassId) (ad : Nat → Nat) (hI : mI ad) (M : Nat → Nat → Int32) (L : Nat → Nat → Int64) (sz : Nat) (hz : ∀ j : Nat, j < 12 → M 1 j = 0) (a1 : Int32) : Met l yX3_drop wsX3_drop rm_m_drop (va_Pc [.ref (ad 0), .int a1] (mU D I Z J ad sz M L)) (va_Qi (fun (r : Int32) (u : mU8) => u.1 0 0 = 1) (fun (u : mU8) t => mP D I Z J ad u.1 u.2 t.heap) (mA ad sz)) 0 0 (mA ad sz) := by
  refine mMet_i (cc := cX3_drop) (maxL := 2) hI (by decide) rfl rfl (Nat.le_of_ble_eq_true rfl) (lv := [(0, .ref (ad 0)), (1, .int a1)]) rfl ?_
  intro p e s m args below meth c Q A ls hsz C0 hW hl hret
  obtain ⟨hx, hb, hml, hts, hown, hlocks, hK, hDa, hA, hargs⟩ := C0
  have hin3 : ∀ w ∈ u_ws RX3 TX3 15, w ∈ wsX3_drop := by decide +kernel
  refine lv_aload_n hx hb dX3_drop_0 rfl (lv_at hl 0 rfl) ?_
  refine lv_iconst (v := 0) hx hb dX3_drop_1 (by decide) ?_
  refine mr_put hx hb hts hin3 hown hK hDa hW rfl 0 (by decide) rfl (by decide +kernel) (by decide +kernel) (Nat.le_of_ble_eq_true rfl) rfl dX3_drop_2 (fun H locs hW => ?_)
  refine lv_aload_n hx hb dX3_drop_5 rfl (lv_at hl 0 rfl) ?_
  refine lv_iload_n hx hb dX3_drop_6 rfl (lv_at hl 1 rfl) ?_
  refine mr_calli (va_runV (As := [.int a1]) (rest := []) ⟨hx, hb, hml, hown, hts⟩ (c_m_isFold l D I Z J ad hI (mst M 0 0 0) L H.size (fun j hj => by rw [mst_ne (by decide)]; exact hz j hj) a1) (cwV 1 hts gX3_drop_X3_isFold rfl rfl rfl (by decide +kernel) ⟨Nat.le_of_ble_eq_true rfl, Nat.le_of_ble_eq_true rfl⟩) (mr_preV hK hW) rfl rfl hl.1 rfl (lv_room (Nat.le_of_ble_eq_true rfl)) dX3_drop_7 ⟨Nat.le_of_ble_eq_true rfl, Nat.le_of_ble_eq_true rfl⟩) hA hDa hW (fun r u H locs hp hW => ?_)
  obtain ⟨hu, hv9⟩ := hp
  rw [show u.1 = (mst M 0 0 0) from by rw [hu], show u.2 = L from by rw [hu]] at hW
  rw [hv9]
  refine lv_if_ne (tgt := 19) hx hb dX3_drop_10 (by decide) (fun c1 => ?_) (fun c1 => ?_)
  · exact absurd rfl c1
  · skip
    refine lv_aload_n hx hb dX3_drop_13 rfl (lv_at hl 0 rfl) ?_
    refine lv_iconst (v := 1) hx hb dX3_drop_14 (by decide) ?_
    refine mr_calli (va_runV (As := [.int 1]) (rest := []) ⟨hx, hb, hml, hown, hts⟩ (c_m_fail l D I Z J ad hI (mst M 0 0 0) L H.size 1) (cwV 1 hts gX3_drop_X3_fail rfl rfl rfl (by decide +kernel) ⟨Nat.le_of_ble_eq_true rfl, Nat.le_of_ble_eq_true rfl⟩) (mr_preV hK hW) rfl rfl hl.1 rfl (lv_room (Nat.le_of_ble_eq_true rfl)) dX3_drop_15 ⟨Nat.le_of_ble_eq_true rfl, Nat.le_of_ble_eq_true rfl⟩) hA hDa hW (fun r u H locs hp hW => ?_)
    obtain ⟨hu, hv9⟩ := hp
    rw [show u.1 = mst (mst M 0 0 0) 0 0 1 from by rw [hu], show u.2 = L from by rw [hu]] at hW
    rw [hv9]
    exact hret 18 ls H locs _ ((mst (mst M 0 0 0) 0 0 1), L) dX3_drop_18 (by show (mst (mst M 0 0 0) 0 0 1) 0 0 = _; simp only [mst_at]; simp) hW

abbrev rm_m_about : Room := { frames := 2, cells := 0, slots := 0, locals := 200 }
set_option maxHeartbeats 4000000 in
set_option maxRecDepth 100000 in
theorem c_m_about (l : Launch) (D : va_G) (I Z J : ClassId) (ad : Nat → Nat) (hI : mI ad) (M : Nat → Nat → Int32) (L : Nat → Nat → Int64) (sz : Nat) (hz : ∀ j : Nat, j < 12 → M 1 j = 0) (a1 b1 : Int32) : Met l yX3_about wsX3_about rm_m_about (va_Pc [.ref (ad 0), .int a1, .int b1] (mU D I Z J ad sz M L)) (va_Qi (fun (r : Int32) (u : mU8) => u.1 0 0 = 1) (fun (u : mU8) t => mP D I Z J ad u.1 u.2 t.heap) (mA ad sz)) 0 0 (mA ad sz) := by
  refine mMet_i (cc := cX3_about) (maxL := 3) hI (by decide) rfl rfl (Nat.le_of_ble_eq_true rfl) (lv := [(0, .ref (ad 0)), (1, .int a1), (2, .int b1)]) rfl ?_
  intro p e s m args below meth c Q A ls hsz C0 hW hl hret
  obtain ⟨hx, hb, hml, hts, hown, hlocks, hK, hDa, hA, hargs⟩ := C0
  have hin3 : ∀ w ∈ u_ws RX3 TX3 15, w ∈ wsX3_about := by decide +kernel
  refine lv_aload_n hx hb dX3_about_0 rfl (lv_at hl 0 rfl) ?_
  refine lv_iconst (v := 0) hx hb dX3_about_1 (by decide) ?_
  refine mr_put hx hb hts hin3 hown hK hDa hW rfl 0 (by decide) rfl (by decide +kernel) (by decide +kernel) (Nat.le_of_ble_eq_true rfl) rfl dX3_about_2 (fun H locs hW => ?_)
  refine lv_aload_n hx hb dX3_about_5 rfl (lv_at hl 0 rfl) ?_
  refine lv_iload_n hx hb dX3_about_6 rfl (lv_at hl 1 rfl) ?_
  refine mr_calli (va_runV (As := [.int a1]) (rest := []) ⟨hx, hb, hml, hown, hts⟩ (c_m_isFold l D I Z J ad hI (mst M 0 0 0) L H.size (fun j hj => by rw [mst_ne (by decide)]; exact hz j hj) a1) (cwV 1 hts gX3_about_X3_isFold rfl rfl rfl (by decide +kernel) ⟨Nat.le_of_ble_eq_true rfl, Nat.le_of_ble_eq_true rfl⟩) (mr_preV hK hW) rfl rfl hl.1 rfl (lv_room (Nat.le_of_ble_eq_true rfl)) dX3_about_7 ⟨Nat.le_of_ble_eq_true rfl, Nat.le_of_ble_eq_true rfl⟩) hA hDa hW (fun r u H locs hp hW => ?_)
  obtain ⟨hu, hv9⟩ := hp
  rw [show u.1 = (mst M 0 0 0) from by rw [hu], show u.2 = L from by rw [hu]] at hW
  rw [hv9]
  refine lv_if_eq (tgt := 32) hx hb dX3_about_10 (by decide) (fun c1 => ?_) (fun c1 => ?_)
  · skip
    refine lv_aload_n hx hb dX3_about_32 rfl (lv_at hl 0 rfl) ?_
    refine lv_iconst (v := 1) hx hb dX3_about_33 (by decide) ?_
    refine mr_calli (va_runV (As := [.int 1]) (rest := []) ⟨hx, hb, hml, hown, hts⟩ (c_m_fail l D I Z J ad hI (mst M 0 0 0) L H.size 1) (cwV 1 hts gX3_about_X3_fail rfl rfl rfl (by decide +kernel) ⟨Nat.le_of_ble_eq_true rfl, Nat.le_of_ble_eq_true rfl⟩) (mr_preV hK hW) rfl rfl hl.1 rfl (lv_room (Nat.le_of_ble_eq_true rfl)) dX3_about_34 ⟨Nat.le_of_ble_eq_true rfl, Nat.le_of_ble_eq_true rfl⟩) hA hDa hW (fun r u H locs hp hW => ?_)
    obtain ⟨hu, hv9⟩ := hp
    rw [show u.1 = mst (mst M 0 0 0) 0 0 1 from by rw [hu], show u.2 = L from by rw [hu]] at hW
    rw [hv9]
    exact hret 37 ls H locs _ ((mst (mst M 0 0 0) 0 0 1), L) dX3_about_37 (by show (mst (mst M 0 0 0) 0 0 1) 0 0 = _; simp only [mst_at]; simp) hW
  · exact absurd rfl c1

abbrev rm_m_compare : Room := { frames := 2, cells := 0, slots := 0, locals := 200 }
set_option maxHeartbeats 4000000 in
set_option maxRecDepth 100000 in
theorem c_m_compare (l : Launch) (D : va_G) (I Z J : ClassId) (ad : Nat → Nat) (hI : mI ad) (M : Nat → Nat → Int32) (L : Nat → Nat → Int64) (sz : Nat) (hz : ∀ j : Nat, j < 12 → M 1 j = 0) (a1 b1 : Int32) : Met l yX3_compare wsX3_compare rm_m_compare (va_Pc [.ref (ad 0), .int a1, .int b1] (mU D I Z J ad sz M L)) (va_Qi (fun (r : Int32) (u : mU8) => u.1 0 0 = 1) (fun (u : mU8) t => mP D I Z J ad u.1 u.2 t.heap) (mA ad sz)) 0 0 (mA ad sz) := by
  refine mMet_i (cc := cX3_compare) (maxL := 14) hI (by decide) rfl rfl (Nat.le_of_ble_eq_true rfl) (lv := [(0, .ref (ad 0)), (1, .int a1), (2, .int b1)]) rfl ?_
  intro p e s m args below meth c Q A ls hsz C0 hW hl hret
  obtain ⟨hx, hb, hml, hts, hown, hlocks, hK, hDa, hA, hargs⟩ := C0
  have hin3 : ∀ w ∈ u_ws RX3 TX3 15, w ∈ wsX3_compare := by decide +kernel
  refine lv_aload_n hx hb dX3_compare_0 rfl (lv_at hl 0 rfl) ?_
  refine lv_iconst (v := 0) hx hb dX3_compare_1 (by decide) ?_
  refine mr_put hx hb hts hin3 hown hK hDa hW rfl 0 (by decide) rfl (by decide +kernel) (by decide +kernel) (Nat.le_of_ble_eq_true rfl) rfl dX3_compare_2 (fun H locs hW => ?_)
  refine lv_aload_n hx hb dX3_compare_5 rfl (lv_at hl 0 rfl) ?_
  refine lv_iload_n hx hb dX3_compare_6 rfl (lv_at hl 1 rfl) ?_
  refine mr_calli (va_runV (As := [.int a1]) (rest := []) ⟨hx, hb, hml, hown, hts⟩ (c_m_isFold l D I Z J ad hI (mst M 0 0 0) L H.size (fun j hj => by rw [mst_ne (by decide)]; exact hz j hj) a1) (cwV 1 hts gX3_compare_X3_isFold rfl rfl rfl (by decide +kernel) ⟨Nat.le_of_ble_eq_true rfl, Nat.le_of_ble_eq_true rfl⟩) (mr_preV hK hW) rfl rfl hl.1 rfl (lv_room (Nat.le_of_ble_eq_true rfl)) dX3_compare_7 ⟨Nat.le_of_ble_eq_true rfl, Nat.le_of_ble_eq_true rfl⟩) hA hDa hW (fun r u H locs hp hW => ?_)
  obtain ⟨hu, hv9⟩ := hp
  rw [show u.1 = (mst M 0 0 0) from by rw [hu], show u.2 = L from by rw [hu]] at hW
  rw [hv9]
  refine lv_if_eq (tgt := 21) hx hb dX3_compare_10 (by decide) (fun c1 => ?_) (fun c1 => ?_)
  · skip
    refine lv_aload_n hx hb dX3_compare_21 rfl (lv_at hl 0 rfl) ?_
    refine lv_iconst (v := 1) hx hb dX3_compare_22 (by decide) ?_
    refine mr_calli (va_runV (As := [.int 1]) (rest := []) ⟨hx, hb, hml, hown, hts⟩ (c_m_fail l D I Z J ad hI (mst M 0 0 0) L H.size 1) (cwV 1 hts gX3_compare_X3_fail rfl rfl rfl (by decide +kernel) ⟨Nat.le_of_ble_eq_true rfl, Nat.le_of_ble_eq_true rfl⟩) (mr_preV hK hW) rfl rfl hl.1 rfl (lv_room (Nat.le_of_ble_eq_true rfl)) dX3_compare_23 ⟨Nat.le_of_ble_eq_true rfl, Nat.le_of_ble_eq_true rfl⟩) hA hDa hW (fun r u H locs hp hW => ?_)
    obtain ⟨hu, hv9⟩ := hp
    rw [show u.1 = mst (mst M 0 0 0) 0 0 1 from by rw [hu], show u.2 = L from by rw [hu]] at hW
    rw [hv9]
    exact hret 26 ls H locs _ ((mst (mst M 0 0 0) 0 0 1), L) dX3_compare_26 (by show (mst (mst M 0 0 0) 0 0 1) 0 0 = _; simp only [mst_at]; simp) hW
  · exact absurd rfl c1

abbrev rm_m_would : Room := { frames := 2, cells := 0, slots := 0, locals := 200 }
set_option maxHeartbeats 4000000 in
set_option maxRecDepth 100000 in
theorem c_m_would (l : Launch) (D : va_G) (I Z J : ClassId) (ad : Nat → Nat) (hI : mI ad) (M : Nat → Nat → Int32) (L : Nat → Nat → Int64) (sz : Nat) (hz : ∀ j : Nat, j < 12 → M 1 j = 0) (a1 b1 c9 : Int32) : Met l yX3_would wsX3_would rm_m_would (va_Pc [.ref (ad 0), .int a1, .int b1, .int c9] (mU D I Z J ad sz M L)) (va_Qi (fun (r : Int32) (u : mU8) => u.1 0 0 = 1) (fun (u : mU8) t => mP D I Z J ad u.1 u.2 t.heap) (mA ad sz)) 0 0 (mA ad sz) := by
  refine mMet_i (cc := cX3_would) (maxL := 6) hI (by decide) rfl rfl (Nat.le_of_ble_eq_true rfl) (lv := [(0, .ref (ad 0)), (1, .int a1), (2, .int b1), (3, .int c9)]) rfl ?_
  intro p e s m args below meth c Q A ls hsz C0 hW hl hret
  obtain ⟨hx, hb, hml, hts, hown, hlocks, hK, hDa, hA, hargs⟩ := C0
  have hin3 : ∀ w ∈ u_ws RX3 TX3 15, w ∈ wsX3_would := by decide +kernel
  refine lv_aload_n hx hb dX3_would_0 rfl (lv_at hl 0 rfl) ?_
  refine lv_iconst (v := 0) hx hb dX3_would_1 (by decide) ?_
  refine mr_put hx hb hts hin3 hown hK hDa hW rfl 0 (by decide) rfl (by decide +kernel) (by decide +kernel) (Nat.le_of_ble_eq_true rfl) rfl dX3_would_2 (fun H locs hW => ?_)
  refine lv_aload_n hx hb dX3_would_5 rfl (lv_at hl 0 rfl) ?_
  refine lv_iload_n hx hb dX3_would_6 rfl (lv_at hl 1 rfl) ?_
  refine mr_calli (va_runV (As := [.int a1]) (rest := []) ⟨hx, hb, hml, hown, hts⟩ (c_m_isFold l D I Z J ad hI (mst M 0 0 0) L H.size (fun j hj => by rw [mst_ne (by decide)]; exact hz j hj) a1) (cwV 1 hts gX3_would_X3_isFold rfl rfl rfl (by decide +kernel) ⟨Nat.le_of_ble_eq_true rfl, Nat.le_of_ble_eq_true rfl⟩) (mr_preV hK hW) rfl rfl hl.1 rfl (lv_room (Nat.le_of_ble_eq_true rfl)) dX3_would_7 ⟨Nat.le_of_ble_eq_true rfl, Nat.le_of_ble_eq_true rfl⟩) hA hDa hW (fun r u H locs hp hW => ?_)
  obtain ⟨hu, hv9⟩ := hp
  rw [show u.1 = (mst M 0 0 0) from by rw [hu], show u.2 = L from by rw [hu]] at hW
  rw [hv9]
  refine lv_if_eq (tgt := 30) hx hb dX3_would_10 (by decide) (fun c1 => ?_) (fun c1 => ?_)
  · skip
    refine lv_aload_n hx hb dX3_would_30 rfl (lv_at hl 0 rfl) ?_
    refine lv_iconst (v := 1) hx hb dX3_would_31 (by decide) ?_
    refine mr_calli (va_runV (As := [.int 1]) (rest := []) ⟨hx, hb, hml, hown, hts⟩ (c_m_fail l D I Z J ad hI (mst M 0 0 0) L H.size 1) (cwV 1 hts gX3_would_X3_fail rfl rfl rfl (by decide +kernel) ⟨Nat.le_of_ble_eq_true rfl, Nat.le_of_ble_eq_true rfl⟩) (mr_preV hK hW) rfl rfl hl.1 rfl (lv_room (Nat.le_of_ble_eq_true rfl)) dX3_would_32 ⟨Nat.le_of_ble_eq_true rfl, Nat.le_of_ble_eq_true rfl⟩) hA hDa hW (fun r u H locs hp hW => ?_)
    obtain ⟨hu, hv9⟩ := hp
    rw [show u.1 = mst (mst M 0 0 0) 0 0 1 from by rw [hu], show u.2 = L from by rw [hu]] at hW
    rw [hv9]
    exact hret 35 ls H locs _ ((mst (mst M 0 0 0) 0 0 1), L) dX3_would_35 (by show (mst (mst M 0 0 0) 0 0 1) 0 0 = _; simp only [mst_at]; simp) hW
  · exact absurd rfl c1

abbrev rm_m_fork3 : Room := { frames := 2, cells := 0, slots := 0, locals := 200 }
set_option maxHeartbeats 4000000 in
set_option maxRecDepth 100000 in
theorem c_m_fork3 (l : Launch) (D : va_G) (I Z J : ClassId) (ad : Nat → Nat) (hI : mI ad) (M : Nat → Nat → Int32) (L : Nat → Nat → Int64) (sz : Nat) (hz : ∀ j : Nat, j < 12 → M 1 j = 0) (a1 b1 c9 : Int32) : Met l yX3_fork_ wsX3_fork_ rm_m_fork3 (va_Pc [.ref (ad 0), .int a1, .int b1, .int c9] (mU D I Z J ad sz M L)) (va_Qi (fun (r : Int32) (u : mU8) => u.1 0 0 = 1) (fun (u : mU8) t => mP D I Z J ad u.1 u.2 t.heap) (mA ad sz)) 0 0 (mA ad sz) := by
  refine mMet_i (cc := cX3_fork_) (maxL := 4) hI (by decide) rfl rfl (Nat.le_of_ble_eq_true rfl) (lv := [(0, .ref (ad 0)), (1, .int a1), (2, .int b1), (3, .int c9)]) rfl ?_
  intro p e s m args below meth c Q A ls hsz C0 hW hl hret
  obtain ⟨hx, hb, hml, hts, hown, hlocks, hK, hDa, hA, hargs⟩ := C0
  have hin3 : ∀ w ∈ u_ws RX3 TX3 15, w ∈ wsX3_fork_ := by decide +kernel
  refine lv_aload_n hx hb dX3_fork__0 rfl (lv_at hl 0 rfl) ?_
  refine lv_iconst (v := 0) hx hb dX3_fork__1 (by decide) ?_
  refine mr_put hx hb hts hin3 hown hK hDa hW rfl 0 (by decide) rfl (by decide +kernel) (by decide +kernel) (Nat.le_of_ble_eq_true rfl) rfl dX3_fork__2 (fun H locs hW => ?_)
  refine lv_aload_n hx hb dX3_fork__5 rfl (lv_at hl 0 rfl) ?_
  refine lv_iload_n hx hb dX3_fork__6 rfl (lv_at hl 1 rfl) ?_
  refine mr_calli (va_runV (As := [.int a1]) (rest := []) ⟨hx, hb, hml, hown, hts⟩ (c_m_isFold l D I Z J ad hI (mst M 0 0 0) L H.size (fun j hj => by rw [mst_ne (by decide)]; exact hz j hj) a1) (cwV 1 hts gX3_fork__X3_isFold rfl rfl rfl (by decide +kernel) ⟨Nat.le_of_ble_eq_true rfl, Nat.le_of_ble_eq_true rfl⟩) (mr_preV hK hW) rfl rfl hl.1 rfl (lv_room (Nat.le_of_ble_eq_true rfl)) dX3_fork__7 ⟨Nat.le_of_ble_eq_true rfl, Nat.le_of_ble_eq_true rfl⟩) hA hDa hW (fun r u H locs hp hW => ?_)
  obtain ⟨hu, hv9⟩ := hp
  rw [show u.1 = (mst M 0 0 0) from by rw [hu], show u.2 = L from by rw [hu]] at hW
  rw [hv9]
  refine lv_if_eq (tgt := 22) hx hb dX3_fork__10 (by decide) (fun c1 => ?_) (fun c1 => ?_)
  · skip
    refine lv_aload_n hx hb dX3_fork__22 rfl (lv_at hl 0 rfl) ?_
    refine lv_iconst (v := 1) hx hb dX3_fork__23 (by decide) ?_
    refine mr_calli (va_runV (As := [.int 1]) (rest := []) ⟨hx, hb, hml, hown, hts⟩ (c_m_fail l D I Z J ad hI (mst M 0 0 0) L H.size 1) (cwV 1 hts gX3_fork__X3_fail rfl rfl rfl (by decide +kernel) ⟨Nat.le_of_ble_eq_true rfl, Nat.le_of_ble_eq_true rfl⟩) (mr_preV hK hW) rfl rfl hl.1 rfl (lv_room (Nat.le_of_ble_eq_true rfl)) dX3_fork__24 ⟨Nat.le_of_ble_eq_true rfl, Nat.le_of_ble_eq_true rfl⟩) hA hDa hW (fun r u H locs hp hW => ?_)
    obtain ⟨hu, hv9⟩ := hp
    rw [show u.1 = mst (mst M 0 0 0) 0 0 1 from by rw [hu], show u.2 = L from by rw [hu]] at hW
    rw [hv9]
    exact hret 27 ls H locs _ ((mst (mst M 0 0 0) 0 0 1), L) dX3_fork__27 (by show (mst (mst M 0 0 0) 0 0 1) 0 0 = _; simp only [mst_at]; simp) hW
  · exact absurd rfl c1

abbrev rm_m_says : Room := { frames := 2, cells := 0, slots := 0, locals := 200 }
set_option maxHeartbeats 4000000 in
set_option maxRecDepth 100000 in
theorem c_m_says (l : Launch) (D : va_G) (I Z J : ClassId) (ad : Nat → Nat) (hI : mI ad) (M : Nat → Nat → Int32) (L : Nat → Nat → Int64) (sz : Nat) (hz : ∀ j : Nat, j < 12 → M 1 j = 0) (a1 b1 : Int32) : Met l yX3_says wsX3_says rm_m_says (va_Pc [.ref (ad 0), .int a1, .int b1] (mU D I Z J ad sz M L)) (va_Qi (fun (r : Int32) (u : mU8) => u.1 0 0 = 1) (fun (u : mU8) t => mP D I Z J ad u.1 u.2 t.heap) (mA ad sz)) 0 0 (mA ad sz) := by
  refine mMet_z (cc := cX3_says) (maxL := 3) hI (by decide) rfl rfl (Nat.le_of_ble_eq_true rfl) (lv := [(0, .ref (ad 0)), (1, .int a1), (2, .int b1)]) rfl ?_
  intro p e s m args below meth c Q A ls hsz C0 hW hl hret
  obtain ⟨hx, hb, hml, hts, hown, hlocks, hK, hDa, hA, hargs⟩ := C0
  have hin3 : ∀ w ∈ u_ws RX3 TX3 15, w ∈ wsX3_says := by decide +kernel
  refine lv_aload_n hx hb dX3_says_0 rfl (lv_at hl 0 rfl) ?_
  refine lv_aload_n hx hb dX3_says_1 rfl (lv_at hl 0 rfl) ?_
  refine lv_iload_n hx hb dX3_says_2 rfl (lv_at hl 1 rfl) ?_
  refine mr_calli (va_runV (As := [.int a1]) (rest := [.ref (ad 0)]) ⟨hx, hb, hml, hown, hts⟩ (c_m_isFold l D I Z J ad hI M L s.heap.size (fun j hj => by exact hz j hj) a1) (cwV 1 hts gX3_says_X3_isFold rfl rfl rfl (by decide +kernel) ⟨Nat.le_of_ble_eq_true rfl, Nat.le_of_ble_eq_true rfl⟩) (mr_preV hK hW) rfl rfl hl.1 rfl (lv_room (Nat.le_of_ble_eq_true rfl)) dX3_says_3 ⟨Nat.le_of_ble_eq_true rfl, Nat.le_of_ble_eq_true rfl⟩) hA hDa hW (fun r u H locs hp hW => ?_)
  obtain ⟨hu, hv9⟩ := hp
  rw [show u.1 = M from by rw [hu], show u.2 = L from by rw [hu]] at hW
  rw [hv9]
  refine lv_if_ne (tgt := 13) hx hb dX3_says_6 (by decide) (fun c1 => ?_) (fun c1 => ?_)
  · exact absurd rfl c1
  · skip
    refine lv_iconst (v := 1) hx hb dX3_says_9 (by decide) ?_
    refine lv_goto (tgt := 29) hx hb dX3_says_10 (by decide) ?_
    refine mr_put hx hb hts hin3 hown hK hDa hW rfl 0 (by decide) rfl (by decide +kernel) (by decide +kernel) (Nat.le_of_ble_eq_true rfl) rfl dX3_says_29 (fun H locs hW => ?_)
    refine lv_aload_n hx hb dX3_says_32 rfl (lv_at hl 0 rfl) ?_
    refine mr_get (v := .int ((mst M 0 0 1) 0 0)) hx hb hts hin3 hown hK hW rfl 0 (by decide) rfl (by decide +kernel) rfl dX3_says_33 ?_
    rw [show mst M 0 0 1 0 0 = 1 from by rw [mst_same, pk_us]]
    refine lv_if_ne (tgt := 52) hx hb dX3_says_36 (by decide) (fun c2 => ?_) (fun c2 => ?_)
    · skip
      refine lv_iconst (v := 0) hx hb dX3_says_52 (by decide) ?_
      exact hret 53 ls H locs _ ((mst M 0 0 1), L) dX3_says_53 (by show (mst M 0 0 1) 0 0 = _; simp only [mst_at]; simp) (Or.inl rfl) hW
    · exact absurd c2 (by decide)

abbrev rm_m_asked : Room := { frames := 2, cells := 0, slots := 0, locals := 200 }
set_option maxHeartbeats 4000000 in
set_option maxRecDepth 100000 in
theorem c_m_asked (l : Launch) (D : va_G) (I Z J : ClassId) (ad : Nat → Nat) (hI : mI ad) (M : Nat → Nat → Int32) (L : Nat → Nat → Int64) (sz : Nat) (hz : ∀ j : Nat, j < 12 → M 1 j = 0) (a1 : Int32) : Met l yX3_asked wsX3_asked rm_m_asked (va_Pc [.ref (ad 0), .int a1] (mU D I Z J ad sz M L)) (va_Qd (fun (r : UInt64) (u : mU8) => u.1 0 0 = 1) (fun (u : mU8) t => mP D I Z J ad u.1 u.2 t.heap) (mA ad sz)) 0 0 (mA ad sz) := by
  refine mMet_d (cc := cX3_asked) (maxL := 5) hI (by decide) rfl rfl (Nat.le_of_ble_eq_true rfl) (lv := [(0, .ref (ad 0)), (1, .int a1)]) rfl ?_
  intro p e s m args below meth c Q A ls hsz C0 hW hl hret
  obtain ⟨hx, hb, hml, hts, hown, hlocks, hK, hDa, hA, hargs⟩ := C0
  have hin3 : ∀ w ∈ u_ws RX3 TX3 15, w ∈ wsX3_asked := by decide +kernel
  refine lv_aload_n hx hb dX3_asked_0 rfl (lv_at hl 0 rfl) ?_
  refine lv_aload_n hx hb dX3_asked_1 rfl (lv_at hl 0 rfl) ?_
  refine lv_iload_n hx hb dX3_asked_2 rfl (lv_at hl 1 rfl) ?_
  refine mr_calli (va_runV (As := [.int a1]) (rest := [.ref (ad 0)]) ⟨hx, hb, hml, hown, hts⟩ (c_m_isFold l D I Z J ad hI M L s.heap.size (fun j hj => by exact hz j hj) a1) (cwV 1 hts gX3_asked_X3_isFold rfl rfl rfl (by decide +kernel) ⟨Nat.le_of_ble_eq_true rfl, Nat.le_of_ble_eq_true rfl⟩) (mr_preV hK hW) rfl rfl hl.1 rfl (lv_room (Nat.le_of_ble_eq_true rfl)) dX3_asked_3 ⟨Nat.le_of_ble_eq_true rfl, Nat.le_of_ble_eq_true rfl⟩) hA hDa hW (fun r u H locs hp hW => ?_)
  obtain ⟨hu, hv9⟩ := hp
  rw [show u.1 = M from by rw [hu], show u.2 = L from by rw [hu]] at hW
  rw [hv9]
  refine lv_if_eq (tgt := 13) hx hb dX3_asked_6 (by decide) (fun c1 => ?_) (fun c1 => ?_)
  · skip
    refine lv_iconst (v := 1) hx hb dX3_asked_13 (by decide) ?_
    refine mr_put hx hb hts hin3 hown hK hDa hW rfl 0 (by decide) rfl (by decide +kernel) (by decide +kernel) (Nat.le_of_ble_eq_true rfl) rfl dX3_asked_14 (fun H locs hW => ?_)
    refine lv_aload_n hx hb dX3_asked_17 rfl (lv_at hl 0 rfl) ?_
    refine mr_get (v := .int ((mst M 0 0 1) 0 0)) hx hb hts hin3 hown hK hW rfl 0 (by decide) rfl (by decide +kernel) rfl dX3_asked_18 ?_
    rw [show mst M 0 0 1 0 0 = 1 from by rw [mst_same, pk_us]]
    refine lv_if_eq (tgt := 26) hx hb dX3_asked_21 (by decide) (fun c2 => ?_) (fun c2 => ?_)
    · exact absurd c2 (by decide)
    · skip
      refine lv_dconst0 hx hb dX3_asked_24 ?_
      exact hret 25 ls H locs _ ((mst M 0 0 1), L) dX3_asked_25 (by show (mst M 0 0 1) 0 0 = _; simp only [mst_at]; simp) hW
  · exact absurd rfl c1

abbrev rm_m_exchange : Room := { frames := 1, cells := 0, slots := 0, locals := 100 }
set_option maxHeartbeats 4000000 in
set_option maxRecDepth 100000 in
theorem c_m_exchange (l : Launch) (D : va_G) (I Z J : ClassId) (ad : Nat → Nat) (hI : mI ad) (M : Nat → Nat → Int32) (L : Nat → Nat → Int64) (sz : Nat) (hz : ∀ j : Nat, j < 12 → M 1 j = 0) (p0 : Nat) (hp0 : p0 < 7) : Met l yX3_exchange wsX3_exchange rm_m_exchange (va_Pc [.ref (ad 0), .int (nI p0)] (mU D I Z J ad sz M L)) (va_Qv (fun (u : mU8) => u = (mst (mst (mst M 3 p0 (M 3 (p0 + 1))) 3 (p0 + 1) (M 3 p0)) 0 4 0, L)) (fun (u : mU8) t => mP D I Z J ad u.1 u.2 t.heap) (mA ad sz)) 0 0 (mA ad sz) := by
  refine mMet_v (cc := cX3_exchange) (maxL := 3) hI (by decide) rfl rfl (Nat.le_of_ble_eq_true rfl) (lv := [(0, .ref (ad 0)), (1, .int (nI p0))]) rfl ?_
  intro p e s m args below meth c Q A ls hsz C0 hW hl hret
  obtain ⟨hx, hb, hml, hts, hown, hlocks, hK, hDa, hA, hargs⟩ := C0
  have hin3 : ∀ w ∈ u_ws RX3 TX3 15, w ∈ wsX3_exchange := by decide +kernel
  refine lv_aload_n hx hb dX3_exchange_0 rfl (lv_at hl 0 rfl) ?_
  refine mr_get (v := .ref (ad 3)) hx hb hts hin3 hown hK hW rfl 3 (by decide) rfl (by decide +kernel) rfl dX3_exchange_1 ?_
  refine lv_iload_n hx hb dX3_exchange_4 rfl (lv_at hl 1 rfl) ?_
  refine mr_iald hx hb hK hW 3 (by decide) rfl p0 (by omega) (by decide) rfl dX3_exchange_5 ?_
  refine lv_istore_n (lv' := [(2, .int (M 3 p0)), (0, .ref (ad 0)), (1, .int (nI p0))]) hx hb dX3_exchange_6 rfl hl (by decide) rfl (fun ls hl => ?_)
  refine lv_aload_n hx hb dX3_exchange_7 rfl (lv_at hl 1 rfl) ?_
  refine mr_get (v := .ref (ad 3)) hx hb hts hin3 hown hK hW rfl 3 (by decide) rfl (by decide +kernel) rfl dX3_exchange_8 ?_
  refine lv_iload_n hx hb dX3_exchange_11 rfl (lv_at hl 2 rfl) ?_
  refine lv_aload_n hx hb dX3_exchange_12 rfl (lv_at hl 1 rfl) ?_
  refine mr_get (v := .ref (ad 3)) hx hb hts hin3 hown hK hW rfl 3 (by decide) rfl (by decide +kernel) rfl dX3_exchange_13 ?_
  refine lv_iload_n hx hb dX3_exchange_16 rfl (lv_at hl 2 rfl) ?_
  refine lv_iconst (v := 1) hx hb dX3_exchange_17 (by decide) ?_
  refine lv_iadd hx hb dX3_exchange_18 ?_
  rw [nI_1]
  refine mr_iald hx hb hK hW 3 (by decide) rfl (p0 + 1) (by omega) (by decide) rfl dX3_exchange_19 ?_
  refine mr_iast hx hb hK hDa hW 3 (by decide) (fun _ _ => rfl) p0 (by omega) (by decide) rfl dX3_exchange_20 (fun H locs hW => ?_)
  refine lv_aload_n hx hb dX3_exchange_21 rfl (lv_at hl 1 rfl) ?_
  refine mr_get (v := .ref (ad 3)) hx hb hts hin3 hown hK hW rfl 3 (by decide) rfl (by decide +kernel) rfl dX3_exchange_22 ?_
  refine lv_iload_n hx hb dX3_exchange_25 rfl (lv_at hl 2 rfl) ?_
  refine lv_iconst (v := 1) hx hb dX3_exchange_26 (by decide) ?_
  refine lv_iadd hx hb dX3_exchange_27 ?_
  rw [nI_1]
  refine lv_iload_n hx hb dX3_exchange_28 rfl (lv_at hl 0 rfl) ?_
  refine mr_iast hx hb hK hDa hW 3 (by decide) (fun _ _ => rfl) (p0 + 1) (by omega) (by decide) rfl dX3_exchange_29 (fun H locs hW => ?_)
  refine lv_aload_n hx hb dX3_exchange_30 rfl (lv_at hl 1 rfl) ?_
  refine mr_callv (va_runV (As := []) (rest := []) ⟨hx, hb, hml, hown, hts⟩ (c_m_make0 l D I Z J ad hI (mst (mst M 3 p0 (M 3 (p0 + 1))) 3 (p0 + 1) (M 3 p0)) L H.size (fun j hj => by rw [mst_ne (by decide), mst_ne (by decide)]; exact hz j hj)) (cwV 0 hts gX3_exchange_X3_make rfl rfl rfl (by decide +kernel) ⟨Nat.le_of_ble_eq_true rfl, Nat.le_of_ble_eq_true rfl⟩) (mr_preV hK hW) rfl rfl hl.1 rfl (lv_room (Nat.le_of_ble_eq_true rfl)) dX3_exchange_31 ⟨Nat.le_of_ble_eq_true rfl, Nat.le_of_ble_eq_true rfl⟩) hA hDa hW (fun u H locs hp hW => ?_)
  rw [show u.1 = _ from congrArg Prod.fst hp, show u.2 = _ from congrArg Prod.snd hp] at hW
  exact hret 34 ls H locs (_, L) dX3_exchange_34 (rfl) hW

theorem inB_b2 {x lim : Int32} {n : Nat} (hn : n ≤ 626) (hl : nI n = lim + 1) (hl2 : ∀ y : Int32, ¬ lim < y ↔ y < nI n) : (¬ b2 (¬ x < 0 ∧ ¬ lim < x) = 0) ↔ inB x n := by
  constructor
  · intro h
    have h2 : ¬ x < 0 ∧ ¬ lim < x := Classical.byContradiction fun q => h (by rw [b2, if_neg q])
    exact inB_of hn h2.1 ((hl2 x).mp h2.2)
  · rintro ⟨k, hk, rfl⟩
    rw [b2, if_pos ⟨nI_pos (by omega), (hl2 _).mpr (nI_lt hk (by omega))⟩]; decide
theorem lim_6 (y : Int32) : ¬ (6 : Int32) < y ↔ y < nI 7 := by rw [Int32.not_lt, Int32.le_iff_toInt_le, Int32.lt_iff_toInt_lt, show (6 : Int32).toInt = 6 from rfl, show (nI 7).toInt = 7 from rfl]; omega
theorem lim_7 (y : Int32) : ¬ (7 : Int32) < y ↔ y < nI 8 := by rw [Int32.not_lt, Int32.le_iff_toInt_le, Int32.lt_iff_toInt_lt, show (7 : Int32).toInt = 7 from rfl, show (nI 8).toInt = 8 from rfl]; omega
theorem lim_4 (y : Int32) : ¬ (4 : Int32) < y ↔ y < nI 5 := by rw [Int32.not_lt, Int32.le_iff_toInt_le, Int32.lt_iff_toInt_lt, show (4 : Int32).toInt = 4 from rfl, show (nI 5).toInt = 5 from rfl]; omega
theorem lim_11 (y : Int32) : ¬ (11 : Int32) < y ↔ y < nI 12 := by rw [Int32.not_lt, Int32.le_iff_toInt_le, Int32.lt_iff_toInt_lt, show (11 : Int32).toInt = 11 from rfl, show (nI 12).toInt = 12 from rfl]; omega
abbrev rm_m_swap : Room := { frames := 2, cells := 0, slots := 0, locals := 200 }
set_option maxHeartbeats 4000000 in
set_option maxRecDepth 100000 in
theorem c_m_swap (l : Launch) (D : va_G) (I Z J : ClassId) (ad : Nat → Nat) (hI : mI ad) (M : Nat → Nat → Int32) (L : Nat → Nat → Int64) (sz : Nat) (hz : ∀ j : Nat, j < 12 → M 1 j = 0) (x : Int32) : Met l yX3_swap wsX3_swap rm_m_swap (va_Pc [.ref (ad 0), .int x] (mU D I Z J ad sz M L)) (va_Qi (fun (r : Int32) (u : mU8) => (inB x 7 → r = 0 ∧ u.1 0 0 = 0) ∧ (¬ inB x 7 → u.1 0 0 = 1)) (fun (u : mU8) t => mP D I Z J ad u.1 u.2 t.heap) (mA ad sz)) 0 0 (mA ad sz) := by
  refine mMet_i (cc := cX3_swap) (maxL := 2) hI (by decide) rfl rfl (Nat.le_of_ble_eq_true rfl) (lv := [(0, .ref (ad 0)), (1, .int x)]) rfl ?_
  intro p e s m args below meth c Q A ls hsz C0 hW hl hret
  obtain ⟨hx, hb, hml, hts, hown, hlocks, hK, hDa, hA, hargs⟩ := C0
  have hin3 : ∀ w ∈ u_ws RX3 TX3 15, w ∈ wsX3_swap := by decide +kernel
  refine lv_aload_n hx hb dX3_swap_0 rfl (lv_at hl 0 rfl) ?_
  refine lv_iconst (v := 0) hx hb dX3_swap_1 (by decide) ?_
  refine mr_put hx hb hts hin3 hown hK hDa hW rfl 0 (by decide) rfl (by decide +kernel) (by decide +kernel) (Nat.le_of_ble_eq_true rfl) rfl dX3_swap_2 (fun H locs hW => ?_)
  refine lv_iload_n hx hb dX3_swap_5 rfl (lv_at hl 1 rfl) ?_
  refine lv_iconst (v := 0) hx hb dX3_swap_6 (by decide) ?_
  refine lv_bipush (v := 6) hx hb dX3_swap_7 (by decide) ?_
  refine mr_calli (va_runS (As := [.int x, .int 0, .int 6]) (rest := []) ⟨hx, hb, hml, hown, hts⟩ (c_m_isIn l D I Z J ad hI (mst M 0 0 0) L H.size x 0 6) (va_cwS 3 hts gX3_swap_X3_isIn rfl rfl rfl (by decide +kernel) ⟨Nat.le_of_ble_eq_true rfl, Nat.le_of_ble_eq_true rfl⟩) (mr_preS hK hW) rfl rfl hl.1 rfl (lv_room (Nat.le_of_ble_eq_true rfl)) dX3_swap_9 ⟨Nat.le_of_ble_eq_true rfl, Nat.le_of_ble_eq_true rfl⟩) hA hDa hW (fun r u H locs hp hW => ?_)
  obtain ⟨hu, hv9⟩ := hp
  rw [show u.1 = (mst M 0 0 0) from by rw [hu], show u.2 = L from by rw [hu]] at hW
  rw [hv9]
  refine lv_if_ne (tgt := 21) hx hb dX3_swap_12 (by decide) (fun c1 => ?_) (fun c1 => ?_)
  · skip
    have hin : inB x 7 := (inB_b2 (lim := 6) (by decide) rfl lim_6).mp c1
    obtain ⟨p0, hp0, rfl⟩ := hin
    refine lv_aload_n hx hb dX3_swap_21 rfl (lv_at hl 0 rfl) ?_
    refine lv_iload_n hx hb dX3_swap_22 rfl (lv_at hl 1 rfl) ?_
    refine mr_callv (va_runV (As := [.int (nI p0)]) (rest := []) ⟨hx, hb, hml, hown, hts⟩ (c_m_exchange l D I Z J ad hI (mst M 0 0 0) L H.size (fun j hj => by rw [mst_ne (by decide)]; exact hz j hj) p0 hp0) (cwV 1 hts gX3_swap_X3_exchange rfl rfl rfl (by decide +kernel) ⟨Nat.le_of_ble_eq_true rfl, Nat.le_of_ble_eq_true rfl⟩) (mr_preV hK hW) rfl rfl hl.1 rfl (lv_room (Nat.le_of_ble_eq_true rfl)) dX3_swap_23 ⟨Nat.le_of_ble_eq_true rfl, Nat.le_of_ble_eq_true rfl⟩) hA hDa hW (fun u H locs hp hW => ?_)
    obtain ⟨M2, hM2⟩ : ∃ M2, M2 = u.1 := ⟨_, rfl⟩
    have h04 : M2 0 4 = 0 := by rw [hM2, hp]; dsimp only; rw [mst_same, pk_us]
    have h00 : M2 0 0 = 0 := by rw [hM2, hp]; simp [mst_at]
    rw [← hM2] at hW
    refine lv_aload_n hx hb dX3_swap_26 rfl (lv_at hl 0 rfl) ?_
    refine mr_get (v := .int (M2 0 4)) hx hb hts hin3 hown hK hW rfl 4 (by decide) rfl (by decide +kernel) rfl dX3_swap_27 ?_
    rw [h04]
    exact hret 30 ls H locs _ (M2, u.2) dX3_swap_30 (⟨fun _ => ⟨rfl, h00⟩, fun h => absurd ⟨p0, hp0, rfl⟩ h⟩) hW
  · skip
    have hin : ¬ inB x 7 := fun h => (inB_b2 (lim := 6) (by decide) rfl lim_6).mpr h c1
    refine lv_aload_n hx hb dX3_swap_15 rfl (lv_at hl 0 rfl) ?_
    refine lv_iconst (v := 1) hx hb dX3_swap_16 (by decide) ?_
    refine mr_calli (va_runV (As := [.int 1]) (rest := []) ⟨hx, hb, hml, hown, hts⟩ (c_m_fail l D I Z J ad hI (mst M 0 0 0) L H.size 1) (cwV 1 hts gX3_swap_X3_fail rfl rfl rfl (by decide +kernel) ⟨Nat.le_of_ble_eq_true rfl, Nat.le_of_ble_eq_true rfl⟩) (mr_preV hK hW) rfl rfl hl.1 rfl (lv_room (Nat.le_of_ble_eq_true rfl)) dX3_swap_17 ⟨Nat.le_of_ble_eq_true rfl, Nat.le_of_ble_eq_true rfl⟩) hA hDa hW (fun r u H locs hp hW => ?_)
    obtain ⟨hu, hv9⟩ := hp
    rw [show u.1 = mst (mst M 0 0 0) 0 0 1 from by rw [hu], show u.2 = L from by rw [hu]] at hW
    rw [hv9]
    exact hret 20 ls H locs _ ((mst (mst M 0 0 0) 0 0 1), L) dX3_swap_20 (⟨fun h => absurd h hin, fun _ => by show (mst (mst M 0 0 0) 0 0 1) 0 0 = _; simp only [mst_at]; simp⟩) hW

abbrev rm_m_order : Room := { frames := 2, cells := 0, slots := 0, locals := 200 }
set_option maxHeartbeats 4000000 in
set_option maxRecDepth 100000 in
theorem c_m_order (l : Launch) (D : va_G) (I Z J : ClassId) (ad : Nat → Nat) (hI : mI ad) (M : Nat → Nat → Int32) (L : Nat → Nat → Int64) (sz : Nat) (x : Int32) : Met l yX3_order wsX3_order rm_m_order (va_Pc [.ref (ad 0), .int x] (mU D I Z J ad sz M L)) (va_Qi (fun (r : Int32) (u : mU8) => (∀ p0 : Nat, p0 < 8 → x = nI p0 → r = M 3 p0 ∧ u.1 0 0 = 0) ∧ (¬ inB x 8 → u.1 0 0 = 1)) (fun (u : mU8) t => mP D I Z J ad u.1 u.2 t.heap) (mA ad sz)) 0 0 (mA ad sz) := by
  refine mMet_i (cc := cX3_order) (maxL := 2) hI (by decide) rfl rfl (Nat.le_of_ble_eq_true rfl) (lv := [(0, .ref (ad 0)), (1, .int x)]) rfl ?_
  intro p e s m args below meth c Q A ls hsz C0 hW hl hret
  obtain ⟨hx, hb, hml, hts, hown, hlocks, hK, hDa, hA, hargs⟩ := C0
  have hin3 : ∀ w ∈ u_ws RX3 TX3 15, w ∈ wsX3_order := by decide +kernel
  refine lv_aload_n hx hb dX3_order_0 rfl (lv_at hl 0 rfl) ?_
  refine lv_iconst (v := 0) hx hb dX3_order_1 (by decide) ?_
  refine mr_put hx hb hts hin3 hown hK hDa hW rfl 0 (by decide) rfl (by decide +kernel) (by decide +kernel) (Nat.le_of_ble_eq_true rfl) rfl dX3_order_2 (fun H locs hW => ?_)
  refine lv_iload_n hx hb dX3_order_5 rfl (lv_at hl 1 rfl) ?_
  refine mr_calli (va_runS (As := [.int x]) (rest := []) ⟨hx, hb, hml, hown, hts⟩ (c_m_isQuestion l D I Z J ad hI (mst M 0 0 0) L H.size x) (va_cwS 1 hts gX3_order_X3_isQuestion rfl rfl rfl (by decide +kernel) ⟨Nat.le_of_ble_eq_true rfl, Nat.le_of_ble_eq_true rfl⟩) (mr_preS hK hW) rfl rfl hl.1 rfl (lv_room (Nat.le_of_ble_eq_true rfl)) dX3_order_6 ⟨Nat.le_of_ble_eq_true rfl, Nat.le_of_ble_eq_true rfl⟩) hA hDa hW (fun r u H locs hp hW => ?_)
  obtain ⟨hu, hv9⟩ := hp
  rw [show u.1 = (mst M 0 0 0) from by rw [hu], show u.2 = L from by rw [hu]] at hW
  rw [hv9]
  refine lv_if_eq (tgt := 21) hx hb dX3_order_9 (by decide) (fun c1 => ?_) (fun c1 => ?_)
  · skip
    have hin : ¬ inB x 8 := fun h => (inB_b2 (lim := 7) (by decide) rfl lim_7).mpr h c1
    refine lv_aload_n hx hb dX3_order_21 rfl (lv_at hl 0 rfl) ?_
    refine lv_iconst (v := 1) hx hb dX3_order_22 (by decide) ?_
    refine mr_calli (va_runV (As := [.int 1]) (rest := []) ⟨hx, hb, hml, hown, hts⟩ (c_m_fail l D I Z J ad hI (mst M 0 0 0) L H.size 1) (cwV 1 hts gX3_order_X3_fail rfl rfl rfl (by decide +kernel) ⟨Nat.le_of_ble_eq_true rfl, Nat.le_of_ble_eq_true rfl⟩) (mr_preV hK hW) rfl rfl hl.1 rfl (lv_room (Nat.le_of_ble_eq_true rfl)) dX3_order_23 ⟨Nat.le_of_ble_eq_true rfl, Nat.le_of_ble_eq_true rfl⟩) hA hDa hW (fun r u H locs hp hW => ?_)
    obtain ⟨hu, hv9⟩ := hp
    rw [show u.1 = mst (mst M 0 0 0) 0 0 1 from by rw [hu], show u.2 = L from by rw [hu]] at hW
    rw [hv9]
    exact hret 26 ls H locs _ ((mst (mst M 0 0 0) 0 0 1), L) dX3_order_26 (⟨fun p0 h1 h2 => absurd ⟨p0, h1, h2⟩ hin, fun _ => by show (mst (mst M 0 0 0) 0 0 1) 0 0 = _; simp only [mst_at]; simp⟩) hW
  · skip
    have hin : inB x 8 := (inB_b2 (lim := 7) (by decide) rfl lim_7).mp c1
    obtain ⟨p0, hp0, rfl⟩ := hin
    refine lv_aload_n hx hb dX3_order_12 rfl (lv_at hl 0 rfl) ?_
    refine mr_get (v := .ref (ad 3)) hx hb hts hin3 hown hK hW rfl 3 (by decide) rfl (by decide +kernel) rfl dX3_order_13 ?_
    refine lv_iload_n hx hb dX3_order_16 rfl (lv_at hl 1 rfl) ?_
    refine mr_iald hx hb hK hW 3 (by decide) rfl p0 hp0 (by decide) rfl dX3_order_17 ?_
    refine lv_goto (tgt := 26) hx hb dX3_order_18 (by decide) ?_
    exact hret 26 ls H locs _ ((mst M 0 0 0), L) dX3_order_26 (⟨fun q0 h1 h2 => by obtain rfl : p0 = q0 := (nI_eq (by omega) (by omega)).mp h2; exact ⟨by rw [mst_ne (by decide)], by show mst M 0 0 0 0 0 = 0; rw [mst_same, pk_us]⟩, fun h => absurd ⟨p0, hp0, rfl⟩ h⟩) hW
