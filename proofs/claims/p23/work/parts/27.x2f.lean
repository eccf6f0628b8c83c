abbrev rm_tellFold : Room := { frames := 3, cells := 0, slots := 0, locals := 300 }
set_option maxHeartbeats 4000000 in
set_option maxRecDepth 100000 in
/-- what is told of a fold -/
theorem c_tellFold (l : Launch) (D : va_G) (I Z F : ClassId) (ad : Nat → Nat) (hI : cI ad) (M : Nat → Nat → Int32) (sz : Nat) (f : Nat) (hf : f < 12) (n z : Nat) (hn6 : n ≤ 626) (hz7 : z ≤ 77) (hz : M (25 + 6 * f) 2 = nI z) (hrw : ∀ i : Nat, i < z → ∃ k : Nat, k < n ∧ M (25 + 6 * f + 2) i = nI k) (wh : Nat) (hwh : wh < 8) : Met l yX2_tellFold wsX2_tellFold rm_tellFold (va_Pc [.ref (ad 0), .ref (ad (25 + 6 * f)), .int (nI wh)] (cU D I Z F ad sz M)) (va_Qi (fun (r : Int32) (u : Nat → Nat → Int32) => u = M ∧ r = tdF M (25 + 6 * f) z wh) (fun u t => cP D I Z F ad u t.heap) (cA ad sz)) 0 0 (cA ad sz) := by
  refine cMet_i (cc := cX2_tellFold) (maxL := 3) hI (by decide) rfl ⟨rfl, rfl⟩ RX2 rfl (Nat.le_of_ble_eq_true rfl) (lv := [(0, .ref (ad 0)), (1, .ref (ad (25 + 6 * f))), (2, .int (nI wh))]) rfl ?_
  intro p e s m args below meth c Q A ls hsz C0 hW hl hret
  obtain ⟨hx, hb, hml, hts, hown, hlocks, hK, hN, hDa, hA, hargs⟩ := C0
  have hin2 : ∀ w ∈ u_ws RX2 TX2 6, w ∈ wsX2_tellFold := by decide +kernel
  have hin0 : ∀ w ∈ u_ws RX0 TX0 7, w ∈ wsX2_tellFold := by decide +kernel
  have hin1 : ∀ w ∈ u_ws RX1 TX1 10, w ∈ wsX2_tellFold := by decide +kernel
  refine lv_iload_n hx hb dX2_tellFold_0 rfl (lv_at hl 2 rfl) ?_
  rcases (show wh = 0 ∨ wh = 1 ∨ wh = 2 ∨ wh = 3 ∨ wh = 4 ∨ wh = 5 ∨ wh = 6 ∨ wh = 7 by omega) with rfl | rfl | rfl | rfl | rfl | rfl | rfl | rfl
  · skip
    refine lv_tableIn (off := 43) (tgt := 44) hx hb dX2_tellFold_1 (by decide) (by decide) rfl (by decide) ?_
    refine lv_aload_n hx hb dX2_tellFold_44 rfl (lv_at hl 1 rfl) ?_
    refine cr_getN (v := .int (M (25 + 6 * f) 2)) (host := "SharedForks") hx hb hts hin0 hown hK hW (25 + 6 * f) (by omega) (cE_d0 I Z F ad M f) rfl 2 (by decide) rfl hN (by decide +kernel) rfl dX2_tellFold_45 ?_
    rw [hz]
    exact hret 48 ls _ _ _ _ dX2_tellFold_48 ⟨rfl, rfl⟩ hW
  · skip
    refine lv_tableIn (off := 48) (tgt := 49) hx hb dX2_tellFold_1 (by decide) (by decide) rfl (by decide) ?_
    refine lv_aload_n hx hb dX2_tellFold_49 rfl (lv_at hl 1 rfl) ?_
    refine cr_calli (va_runS (As := [.ref (ad (25 + 6 * f))]) (rest := []) ⟨hx, hb, hml, hown, hts⟩ (c_countYes l D I Z F ad hI M s.heap.size f hf) (va_cwS 1 hts gX2_tellFold_X2_countYes rfl rfl rfl (by decide +kernel) ⟨Nat.le_of_ble_eq_true rfl, Nat.le_of_ble_eq_true rfl⟩) (cr_preS hK hN hW) rfl rfl hl.1 rfl (lv_room (Nat.le_of_ble_eq_true rfl)) dX2_tellFold_50 ⟨Nat.le_refl _, Nat.le_refl _⟩) hA hDa hW (fun r u H locs hp hW => ?_)
    obtain ⟨hu, hv9⟩ := hp
    rw [hu] at hW
    rw [hv9]
    exact hret 53 ls H locs _ _ dX2_tellFold_53 ⟨rfl, rfl⟩ hW
  · skip
    refine lv_tableIn (off := 53) (tgt := 54) hx hb dX2_tellFold_1 (by decide) (by decide) rfl (by decide) ?_
    refine lv_aload_n hx hb dX2_tellFold_54 rfl (lv_at hl 0 rfl) ?_
    refine lv_aload_n hx hb dX2_tellFold_55 rfl (lv_at hl 1 rfl) ?_
    refine cr_calli (va_runV (As := [.ref (ad (25 + 6 * f))]) (rest := []) ⟨hx, hb, hml, hown, hts⟩ (c_questionsThatMatter l D I Z F ad hI M s.heap.size f hf n z hn6 hz7 hz hrw) (cwV 1 hts gX2_tellFold_X2_questionsThatMatter rfl rfl rfl (by decide +kernel) ⟨Nat.le_of_ble_eq_true rfl, Nat.le_of_ble_eq_true rfl⟩) (cr_preV hK hN hW 0 (by decide) (cE_x I Z F ad M) rfl) rfl rfl hl.1 rfl (lv_room (Nat.le_of_ble_eq_true rfl)) dX2_tellFold_56 ⟨Nat.le_refl _, Nat.le_refl _⟩) hA hDa hW (fun r u H locs hp hW => ?_)
    obtain ⟨hu, hv9⟩ := hp
    rw [hu] at hW
    rw [hv9]
    exact hret 59 ls H locs _ _ dX2_tellFold_59 ⟨rfl, rfl⟩ hW
  · skip
    refine lv_tableIn (off := 59) (tgt := 60) hx hb dX2_tellFold_1 (by decide) (by decide) rfl (by decide) ?_
    refine lv_aload_n hx hb dX2_tellFold_60 rfl (lv_at hl 0 rfl) ?_
    refine lv_aload_n hx hb dX2_tellFold_61 rfl (lv_at hl 1 rfl) ?_
    refine cr_calli (va_runV (As := [.ref (ad (25 + 6 * f))]) (rest := []) ⟨hx, hb, hml, hown, hts⟩ (c_leastAsked l D I Z F ad hI M s.heap.size f hf n z hn6 hz7 hz hrw) (cwV 1 hts gX2_tellFold_X2_leastAsked rfl rfl rfl (by decide +kernel) ⟨Nat.le_of_ble_eq_true rfl, Nat.le_of_ble_eq_true rfl⟩) (cr_preV hK hN hW 0 (by decide) (cE_x I Z F ad M) rfl) rfl rfl hl.1 rfl (lv_room (Nat.le_of_ble_eq_true rfl)) dX2_tellFold_62 ⟨Nat.le_refl _, Nat.le_refl _⟩) hA hDa hW (fun r u H locs hp hW => ?_)
    obtain ⟨hu, hv9⟩ := hp
    rw [hu] at hW
    rw [hv9]
    exact hret 65 ls H locs _ _ dX2_tellFold_65 ⟨rfl, rfl⟩ hW
  · skip
    refine lv_tableIn (off := 65) (tgt := 66) hx hb dX2_tellFold_1 (by decide) (by decide) rfl (by decide) ?_
    refine lv_aload_n hx hb dX2_tellFold_66 rfl (lv_at hl 0 rfl) ?_
    refine lv_aload_n hx hb dX2_tellFold_67 rfl (lv_at hl 1 rfl) ?_
    refine cr_calli (va_runV (As := [.ref (ad (25 + 6 * f))]) (rest := []) ⟨hx, hb, hml, hown, hts⟩ (c_mostAsked l D I Z F ad hI M s.heap.size f hf n z hn6 hz7 hz hrw) (cwV 1 hts gX2_tellFold_X2_mostAsked rfl rfl rfl (by decide +kernel) ⟨Nat.le_of_ble_eq_true rfl, Nat.le_of_ble_eq_true rfl⟩) (cr_preV hK hN hW 0 (by decide) (cE_x I Z F ad M) rfl) rfl rfl hl.1 rfl (lv_room (Nat.le_of_ble_eq_true rfl)) dX2_tellFold_68 ⟨Nat.le_refl _, Nat.le_refl _⟩) hA hDa hW (fun r u H locs hp hW => ?_)
    obtain ⟨hu, hv9⟩ := hp
    rw [hu] at hW
    rw [hv9]
    exact hret 71 ls H locs _ _ dX2_tellFold_71 ⟨rfl, rfl⟩ hW
  · skip
    refine lv_tableIn (off := 71) (tgt := 72) hx hb dX2_tellFold_1 (by decide) (by decide) rfl (by decide) ?_
    refine lv_aload_n hx hb dX2_tellFold_72 rfl (lv_at hl 1 rfl) ?_
    refine cr_calli (va_runS (As := [.ref (ad (25 + 6 * f))]) (rest := []) ⟨hx, hb, hml, hown, hts⟩ (c_smallestYes l D I Z F ad hI M s.heap.size f hf) (va_cwS 1 hts gX2_tellFold_X2_smallestYes rfl rfl rfl (by decide +kernel) ⟨Nat.le_of_ble_eq_true rfl, Nat.le_of_ble_eq_true rfl⟩) (cr_preS hK hN hW) rfl rfl hl.1 rfl (lv_room (Nat.le_of_ble_eq_true rfl)) dX2_tellFold_73 ⟨Nat.le_refl _, Nat.le_refl _⟩) hA hDa hW (fun r u H locs hp hW => ?_)
    obtain ⟨hu, hv9⟩ := hp
    rw [hu] at hW
    rw [hv9]
    exact hret 76 ls H locs _ _ dX2_tellFold_76 ⟨rfl, rfl⟩ hW
  · skip
    refine lv_tableIn (off := 76) (tgt := 77) hx hb dX2_tellFold_1 (by decide) (by decide) rfl (by decide) ?_
    refine lv_aload_n hx hb dX2_tellFold_77 rfl (lv_at hl 1 rfl) ?_
    refine cr_calli (va_runS (As := [.ref (ad (25 + 6 * f))]) (rest := []) ⟨hx, hb, hml, hown, hts⟩ (c_greatestYes l D I Z F ad hI M s.heap.size f hf) (va_cwS 1 hts gX2_tellFold_X2_greatestYes rfl rfl rfl (by decide +kernel) ⟨Nat.le_of_ble_eq_true rfl, Nat.le_of_ble_eq_true rfl⟩) (cr_preS hK hN hW) rfl rfl hl.1 rfl (lv_room (Nat.le_of_ble_eq_true rfl)) dX2_tellFold_78 ⟨Nat.le_refl _, Nat.le_refl _⟩) hA hDa hW (fun r u H locs hp hW => ?_)
    obtain ⟨hu, hv9⟩ := hp
    rw [hu] at hW
    rw [hv9]
    exact hret 81 ls H locs _ _ dX2_tellFold_81 ⟨rfl, rfl⟩ hW
  · skip
    refine lv_tableOut (tgt := 82) hx hb dX2_tellFold_1 (Or.inr (by decide)) (by decide) ?_
    refine lv_aload_n hx hb dX2_tellFold_82 rfl (lv_at hl 0 rfl) ?_
    refine lv_aload_n hx hb dX2_tellFold_83 rfl (lv_at hl 1 rfl) ?_
    refine cr_calli (va_runV (As := [.ref (ad (25 + 6 * f))]) (rest := []) ⟨hx, hb, hml, hown, hts⟩ (c_countOwnForks l D I Z F ad hI M s.heap.size f hf n z hn6 hz7 hz hrw) (cwV 1 hts gX2_tellFold_X2_countOwnForks rfl rfl rfl (by decide +kernel) ⟨Nat.le_of_ble_eq_true rfl, Nat.le_of_ble_eq_true rfl⟩) (cr_preV hK hN hW 0 (by decide) (cE_x I Z F ad M) rfl) rfl rfl hl.1 rfl (lv_room (Nat.le_of_ble_eq_true rfl)) dX2_tellFold_84 ⟨Nat.le_refl _, Nat.le_refl _⟩) hA hDa hW (fun r u H locs hp hW => ?_)
    obtain ⟨hu, hv9⟩ := hp
    rw [hu] at hW
    rw [hv9]
    exact hret 87 ls H locs _ _ dX2_tellFold_87 ⟨rfl, rfl⟩ hW

abbrev rm_tellCount : Room := { frames := 1, cells := 0, slots := 0, locals := 100 }
set_option maxHeartbeats 4000000 in
set_option maxRecDepth 100000 in
/-- what is told of all -/
theorem c_tellCount (l : Launch) (D : va_G) (I Z F : ClassId) (ad : Nat → Nat) (hI : cI ad) (M : Nat → Nat → Int32) (sz : Nat) (n : Nat) (hn6 : n ≤ 626) (h0 : M 3 0 = nI n) (wh : Nat) (hwh : wh < 5) : Met l yX2_tellCount wsX2_tellCount rm_tellCount (va_Pc [.ref (ad 0), .int (nI wh)] (cU D I Z F ad sz M)) (va_Qi (fun (r : Int32) (u : Nat → Nat → Int32) => u = M ∧ r = tcF M n wh) (fun u t => cP D I Z F ad u t.heap) (cA ad sz)) 0 0 (cA ad sz) := by
  refine cMet_i (cc := cX2_tellCount) (maxL := 2) hI (by decide) rfl ⟨rfl, rfl⟩ RX2 rfl (Nat.le_of_ble_eq_true rfl) (lv := [(0, .ref (ad 0)), (1, .int (nI wh))]) rfl ?_
  intro p e s m args below meth c Q A ls hsz C0 hW hl hret
  obtain ⟨hx, hb, hml, hts, hown, hlocks, hK, hN, hDa, hA, hargs⟩ := C0
  have hin2 : ∀ w ∈ u_ws RX2 TX2 6, w ∈ wsX2_tellCount := by decide +kernel
  have hin0 : ∀ w ∈ u_ws RX0 TX0 7, w ∈ wsX2_tellCount := by decide +kernel
  have hin1 : ∀ w ∈ u_ws RX1 TX1 10, w ∈ wsX2_tellCount := by decide +kernel
  refine lv_iload_n hx hb dX2_tellCount_0 rfl (lv_at hl 1 rfl) ?_
  rcases (show wh = 0 ∨ wh = 1 ∨ wh = 2 ∨ wh = 3 ∨ wh = 4 by omega) with rfl | rfl | rfl | rfl | rfl
  · skip
    refine lv_tableIn (off := 31) (tgt := 32) hx hb dX2_tellCount_1 (by decide) (by decide) rfl (by decide) ?_
    refine lv_aload_n hx hb dX2_tellCount_32 rfl (lv_at hl 0 rfl) ?_
    refine cr_calli (va_runV (As := []) (rest := []) ⟨hx, hb, hml, hown, hts⟩ (c_countKept l D I Z F ad hI M s.heap.size) (cwV 0 hts gX2_tellCount_X2_countKept rfl rfl rfl (by decide +kernel) ⟨Nat.le_of_ble_eq_true rfl, Nat.le_of_ble_eq_true rfl⟩) (cr_preV hK hN hW 0 (by decide) (cE_x I Z F ad M) rfl) rfl rfl hl.1 rfl (lv_room (Nat.le_of_ble_eq_true rfl)) dX2_tellCount_33 ⟨Nat.le_refl _, Nat.le_refl _⟩) hA hDa hW (fun r u H locs hp hW => ?_)
    obtain ⟨hu, hv9⟩ := hp
    rw [hu] at hW
    rw [hv9]
    exact hret 36 ls H locs _ _ dX2_tellCount_36 ⟨rfl, rfl⟩ hW
  · skip
    refine lv_tableIn (off := 36) (tgt := 37) hx hb dX2_tellCount_1 (by decide) (by decide) rfl (by decide) ?_
    refine lv_aload_n hx hb dX2_tellCount_37 rfl (lv_at hl 0 rfl) ?_
    refine cr_get (v := .ref (ad 3)) hx hb hts hin2 hown hK hW 0 (by decide) (cE_x I Z F ad M) rfl 2 (by decide) rfl (by decide +kernel) rfl dX2_tellCount_38 ?_
    refine cr_getN (v := .int (M 3 0)) (host := "SharedForks") hx hb hts hin1 hown hK hW 3 (by decide) (cE_f0 I Z F ad M (Or.inl rfl)) rfl 0 (by decide) rfl hN (by decide +kernel) rfl dX2_tellCount_41 ?_
    rw [h0]
    exact hret 44 ls _ _ _ _ dX2_tellCount_44 ⟨rfl, rfl⟩ hW
  · skip
    refine lv_tableIn (off := 44) (tgt := 45) hx hb dX2_tellCount_1 (by decide) (by decide) rfl (by decide) ?_
    refine lv_aload_n hx hb dX2_tellCount_45 rfl (lv_at hl 0 rfl) ?_
    refine cr_calli (va_runV (As := []) (rest := []) ⟨hx, hb, hml, hown, hts⟩ (c_addForks l D I Z F ad hI M s.heap.size) (cwV 0 hts gX2_tellCount_X2_addForks rfl rfl rfl (by decide +kernel) ⟨Nat.le_of_ble_eq_true rfl, Nat.le_of_ble_eq_true rfl⟩) (cr_preV hK hN hW 0 (by decide) (cE_x I Z F ad M) rfl) rfl rfl hl.1 rfl (lv_room (Nat.le_of_ble_eq_true rfl)) dX2_tellCount_46 ⟨Nat.le_refl _, Nat.le_refl _⟩) hA hDa hW (fun r u H locs hp hW => ?_)
    obtain ⟨hu, hv9⟩ := hp
    rw [hu] at hW
    rw [hv9]
    exact hret 49 ls H locs _ _ dX2_tellCount_49 ⟨rfl, rfl⟩ hW
  · skip
    refine lv_tableIn (off := 49) (tgt := 50) hx hb dX2_tellCount_1 (by decide) (by decide) rfl (by decide) ?_
    refine lv_aload_n hx hb dX2_tellCount_50 rfl (lv_at hl 0 rfl) ?_
    refine cr_calli (va_runV (As := []) (rest := []) ⟨hx, hb, hml, hown, hts⟩ (c_countForksAtFirstPlace l D I Z F ad hI M s.heap.size n hn6 h0) (cwV 0 hts gX2_tellCount_X2_countForksAtFirstPlace rfl rfl rfl (by decide +kernel) ⟨Nat.le_of_ble_eq_true rfl, Nat.le_of_ble_eq_true rfl⟩) (cr_preV hK hN hW 0 (by decide) (cE_x I Z F ad M) rfl) rfl rfl hl.1 rfl (lv_room (Nat.le_of_ble_eq_true rfl)) dX2_tellCount_51 ⟨Nat.le_refl _, Nat.le_refl _⟩) hA hDa hW (fun r u H locs hp hW => ?_)
    obtain ⟨hu, hv9⟩ := hp
    rw [hu] at hW
    rw [hv9]
    exact hret 54 ls H locs _ _ dX2_tellCount_54 ⟨rfl, rfl⟩ hW
  · skip
    refine lv_tableOut (tgt := 55) hx hb dX2_tellCount_1 (Or.inr (by decide)) (by decide) ?_
    refine lv_aload_n hx hb dX2_tellCount_55 rfl (lv_at hl 0 rfl) ?_
    refine cr_calli (va_runV (As := []) (rest := []) ⟨hx, hb, hml, hown, hts⟩ (c_countLeaves l D I Z F ad hI M s.heap.size) (cwV 0 hts gX2_tellCount_X2_countLeaves rfl rfl rfl (by decide +kernel) ⟨Nat.le_of_ble_eq_true rfl, Nat.le_of_ble_eq_true rfl⟩) (cr_preV hK hN hW 0 (by decide) (cE_x I Z F ad M) rfl) rfl rfl hl.1 rfl (lv_room (Nat.le_of_ble_eq_true rfl)) dX2_tellCount_56 ⟨Nat.le_refl _, Nat.le_refl _⟩) hA hDa hW (fun r u H locs hp hW => ?_)
    obtain ⟨hu, hv9⟩ := hp
    rw [hu] at hW
    rw [hv9]
    exact hret 59 ls H locs _ _ dX2_tellCount_59 ⟨rfl, rfl⟩ hW

abbrev rm_countForksAfterSwap : Room := { frames := 12, cells := 0, slots := 0, locals := 600 }
set_option maxHeartbeats 4000000 in
set_option maxRecDepth 100000 in
/-- an exchange that is tried -/
theorem c_countForksAfterSwap (l : Launch) (D : va_G) (I Z F : ClassId) (ad : Nat → Nat) (hI : cI ad) (M : Nat → Nat → Int32) (sz : Nat) (p0 : Nat) (hp0 : p0 < 7) : Met l yX2_countForksAfterSwap wsX2_countForksAfterSwap rm_countForksAfterSwap (va_Pc [.ref (ad 0), .int (nI p0)] (cU D I Z F ad sz M)) (va_Qi (fun (r : Int32) (u : Nat → Nat → Int32) => u = csF M p0 ∧ r = csF M p0 15 0) (fun u t => cP D I Z F ad u t.heap) (cA ad sz)) 0 0 (cA ad sz) := by
  refine cMet_i (cc := cX2_countForksAfterSwap) (maxL := 3) hI (by decide) rfl ⟨rfl, rfl⟩ RX2 rfl (Nat.le_of_ble_eq_true rfl) (lv := [(0, .ref (ad 0)), (1, .int (nI p0))]) rfl ?_
  intro p e s m args below meth c Q A ls hsz C0 hW hl hret
  obtain ⟨hx, hb, hml, hts, hown, hlocks, hK, hN, hDa, hA, hargs⟩ := C0
  have hin2 : ∀ w ∈ u_ws RX2 TX2 6, w ∈ wsX2_countForksAfterSwap := by decide +kernel
  have hin0 : ∀ w ∈ u_ws RX0 TX0 7, w ∈ wsX2_countForksAfterSwap := by decide +kernel
  have hin1 : ∀ w ∈ u_ws RX1 TX1 10, w ∈ wsX2_countForksAfterSwap := by decide +kernel
  refine lv_aload_n hx hb dX2_countForksAfterSwap_0 rfl (lv_at hl 0 rfl) ?_
  refine cr_get (v := .ref (ad 2)) hx hb hts hin2 hown hK hW 0 (by decide) (cE_x I Z F ad M) rfl 1 (by decide) rfl (by decide +kernel) rfl dX2_countForksAfterSwap_1 ?_
  refine lv_iconst (v := 0) hx hb dX2_countForksAfterSwap_4 (by decide) ?_
  refine lv_aload_n hx hb dX2_countForksAfterSwap_5 rfl (lv_at hl 0 rfl) ?_
  refine cr_get (v := .ref (ad 14)) hx hb hts hin2 hown hK hW 0 (by decide) (cE_x I Z F ad M) rfl 4 (by decide) rfl (by decide +kernel) rfl dX2_countForksAfterSwap_6 ?_
  refine lv_iconst (v := 0) hx hb dX2_countForksAfterSwap_9 (by decide) ?_
  refine lv_bipush (v := 8) hx hb dX2_countForksAfterSwap_10 (by decide) ?_
  refine cr_copy hx hb (hml.trans hl.1.symm) hts hown (by decide +kernel) (by decide +kernel) (by decide +kernel) (by decide +kernel) hK hDa hW 2 14 (by decide) (by decide) (cE_q I Z F ad M) (cE_to I Z F ad M) 8 rfl (by decide) (by decide) (by decide) (by decide) (by decide) dX2_countForksAfterSwap_12 (fun H locs hW => ?_)
  refine lv_aload_n hx hb dX2_countForksAfterSwap_15 rfl (lv_at hl 0 rfl) ?_
  refine cr_get (v := .ref (ad 14)) hx hb hts hin2 hown hK hW 0 (by decide) (cE_x I Z F ad (mrow M 14 (va_cpy (M 2) (M 14) 0 0 8))) rfl 4 (by decide) rfl (by decide +kernel) rfl dX2_countForksAfterSwap_16 ?_
  refine lv_iload_n hx hb dX2_countForksAfterSwap_19 rfl (lv_at hl 1 rfl) ?_
  refine cr_callv (va_runS (As := [.ref (ad 14), .int (nI p0)]) (rest := []) ⟨hx, hb, hml, hown, hts⟩ (c_exchange l D I Z F ad hI (mrow M 14 (va_cpy (M 2) (M 14) 0 0 8)) H.size 14 (by decide) (cE_to I Z F ad _) p0 hp0) (va_cwS 2 hts gX2_countForksAfterSwap_X2_exchange rfl rfl rfl (by decide +kernel) ⟨Nat.le_of_ble_eq_true rfl, Nat.le_of_ble_eq_true rfl⟩) (cr_preS hK hN hW) rfl rfl hl.1 rfl (lv_room (Nat.le_of_ble_eq_true rfl)) dX2_countForksAfterSwap_20 ⟨Nat.le_refl _, Nat.le_refl _⟩) hA hDa hW (fun u H locs hp hW => ?_)
  rw [hp] at hW
  refine lv_aload_n hx hb dX2_countForksAfterSwap_23 rfl (lv_at hl 0 rfl) ?_
  refine cr_get (v := .ref (ad 15)) hx hb hts hin2 hown hK hW 0 (by decide) (cE_x I Z F ad (exF (mrow M 14 (va_cpy (M 2) (M 14) 0 0 8)) 14 p0)) rfl 5 (by decide) rfl (by decide +kernel) rfl dX2_countForksAfterSwap_24 ?_
  refine lv_aload_n hx hb dX2_countForksAfterSwap_27 rfl (lv_at hl 0 rfl) ?_
  refine cr_get (v := .ref (ad 14)) hx hb hts hin2 hown hK hW 0 (by decide) (cE_x I Z F ad (exF (mrow M 14 (va_cpy (M 2) (M 14) 0 0 8)) 14 p0)) rfl 4 (by decide) rfl (by decide +kernel) rfl dX2_countForksAfterSwap_28 ?_
  refine cr_callv (va_runVN (As := [.ref (ad 14)]) (rest := []) (own := RX2) (host := "SharedForks") ⟨hx, hb, hml, hown, hts⟩ (c_startOver l D I Z F ad hI (exF (mrow M 14 (va_cpy (M 2) (M 14) 0 0 8)) 14 p0) H.size 15 (Or.inr rfl) 14 (by decide) ⟨by decide, by decide, by decide⟩ (cE_to I Z F ad _)) ⟨va_cnB 1 hts gX2_countForksAfterSwap_X1_startOver_n113 rfl rfl rfl (hN (.methodLinkNest RX2 113 yX1_startOver "SharedForks") (by decide +kernel)) (hts (.initialized yX1_startOver.cls) (by decide +kernel)) (by decide +kernel) ⟨Nat.le_of_ble_eq_true rfl, Nat.le_of_ble_eq_true rfl⟩, hts (.instanceMethod yX1_startOver) (by decide +kernel), hts (.selects yX1_startOver.cls yX1_startOver yX1_startOver) (by decide +kernel)⟩ (cr_preV hK hN hW 15 (by decide) (cE_f0 I Z F ad (exF (mrow M 14 (va_cpy (M 2) (M 14) 0 0 8)) 14 p0) (Or.inr rfl)) rfl) rfl rfl hl.1 rfl (lv_room (Nat.le_of_ble_eq_true rfl)) dX2_countForksAfterSwap_31 ⟨Nat.le_refl _, Nat.le_refl _⟩) hA hDa hW (fun u H locs hp hW => ?_)
  rw [hp] at hW
  rw [show soF (exF (mrow M 14 (va_cpy (M 2) (M 14) 0 0 8)) 14 p0) 15 14 = csL M p0 0 from rfl] at hW
  refine lv_iconst (v := 0) hx hb dX2_countForksAfterSwap_34 (by decide) ?_
  refine lv_istore_n (lv' := [(2, .int 0), (0, .ref (ad 0)), (1, .int (nI p0))]) hx hb dX2_countForksAfterSwap_35 rfl hl (by decide) rfl (fun ls hl => ?_)
  have loop : ∀ q f : Nat, f + q = 12 → ∀ (ls : Array Slot) (H : Heap) (locs : List Loc), lv_has ls 3 [(2, .int (nI f)), (0, .ref (ad 0)), (1, .int (nI p0))] → cB9 D I Z F ad A s.heap (csL M p0 f) H locs → W p l e rm_countForksAfterSwap s m args below meth c H locs 0 0 Q (F0 m 36 ls []) := by
    intro q
    induction q with
    | zero =>
      intro f hf ls H locs hl hW
      obtain rfl : f = 12 := by omega
      refine lv_iload_n hx hb dX2_countForksAfterSwap_36 rfl (lv_at hl 0 rfl) ?_
      refine lv_bipush (v := 12) hx hb dX2_countForksAfterSwap_37 (by decide) ?_
      refine lv_icmp_ge (tgt := 77) hx hb dX2_countForksAfterSwap_39 (by decide) (fun c1 => ?_) (fun c1 => ?_)
      · skip
        refine lv_aload_n hx hb dX2_countForksAfterSwap_77 rfl (lv_at hl 1 rfl) ?_
        refine cr_get (v := .ref (ad 15)) hx hb hts hin2 hown hK hW 0 (by decide) (cE_x I Z F ad (csL M p0 12)) rfl 5 (by decide) rfl (by decide +kernel) rfl dX2_countForksAfterSwap_78 ?_
        refine cr_getN (v := .int ((csL M p0 12) 15 0)) (host := "SharedForks") hx hb hts hin1 hown hK hW 15 (by decide) (cE_f0 I Z F ad (csL M p0 12) (Or.inr rfl)) rfl 0 (by decide) rfl hN (by decide +kernel) rfl dX2_countForksAfterSwap_81 ?_
        exact hret 84 ls H locs _ _ dX2_countForksAfterSwap_84 ⟨rfl, rfl⟩ hW
      · exact absurd (nI_le (Nat.le_refl 12) (by decide)) c1
    | succ q ih =>
      intro f hf ls H locs hl hW
      have hstep := csL.eq_2 M p0 f
      obtain ⟨⟨n, hk2⟩, haw⟩ := csL_ok M p0 f
      obtain ⟨X, hX⟩ : ∃ X, X = csL M p0 f := ⟨_, rfl⟩
      rw [← hX] at hW hstep hk2 haw
      refine lv_iload_n hx hb dX2_countForksAfterSwap_36 rfl (lv_at hl 0 rfl) ?_
      refine lv_bipush (v := 12) hx hb dX2_countForksAfterSwap_37 (by decide) ?_
      refine lv_icmp_ge (tgt := 77) hx hb dX2_countForksAfterSwap_39 (by decide) (fun c1 => ?_) (fun c1 => ?_)
      · exact absurd c1 (nI_ge (b := 12) (by omega) (by decide))
      · skip
        refine lv_aload_n hx hb dX2_countForksAfterSwap_42 rfl (lv_at hl 1 rfl) ?_
        refine cr_get (v := .ref (ad 1)) hx hb hts hin2 hown hK hW 0 (by decide) (cE_x I Z F ad X) rfl 0 (by decide) rfl (by decide +kernel) rfl dX2_countForksAfterSwap_43 ?_
        refine lv_iload_n hx hb dX2_countForksAfterSwap_46 rfl (lv_at hl 0 rfl) ?_
        refine cr_fald hx hb hK hW f (by omega) rfl dX2_countForksAfterSwap_47 ?_
        refine cr_getN (v := .int (X (25 + 6 * f) 0)) (host := "SharedForks") hx hb hts hin0 hown hK hW (25 + 6 * f) (by omega) (cE_d0 I Z F ad X f) rfl 0 (by decide) rfl hN (by decide +kernel) rfl dX2_countForksAfterSwap_48 ?_
        refine lv_if_eq (tgt := 71) hx hb dX2_countForksAfterSwap_51 (by decide) (fun c2 => ?_) (fun c2 => ?_)
        · skip
          rw [if_pos c2] at hstep
          refine lv_iinc (v := nI (f + 1)) (lv' := [(2, .int (nI (f + 1))), (0, .ref (ad 0)), (1, .int (nI p0))]) hx hb dX2_countForksAfterSwap_71 hl (k := 0) rfl (nI_1 f) (by decide) rfl (fun ls hl => ?_)
          refine lv_goto (tgt := 36) hx hb dX2_countForksAfterSwap_74 (by decide) ?_
          exact ih (f + 1) (by omega) ls H locs (lv_sub hl [0, 1, 2] rfl) (by rw [hstep]; exact hW)
        · skip
          rw [if_neg c2] at hstep
          refine lv_aload_n hx hb dX2_countForksAfterSwap_54 rfl (lv_at hl 1 rfl) ?_
          refine cr_get (v := .ref (ad 15)) hx hb hts hin2 hown hK hW 0 (by decide) (cE_x I Z F ad X) rfl 5 (by decide) rfl (by decide +kernel) rfl dX2_countForksAfterSwap_55 ?_
          refine lv_aload_n hx hb dX2_countForksAfterSwap_58 rfl (lv_at hl 1 rfl) ?_
          refine cr_get (v := .ref (ad 1)) hx hb hts hin2 hown hK hW 0 (by decide) (cE_x I Z F ad X) rfl 0 (by decide) rfl (by decide +kernel) rfl dX2_countForksAfterSwap_59 ?_
          refine lv_iload_n hx hb dX2_countForksAfterSwap_62 rfl (lv_at hl 0 rfl) ?_
          refine cr_fald hx hb hK hW f (by omega) rfl dX2_countForksAfterSwap_63 ?_
          refine cr_getN (v := .ref (ad (25 + 6 * f + 1))) (host := "SharedForks") hx hb hts hin0 hown hK hW (25 + 6 * f) (by omega) (cE_d0 I Z F ad X f) rfl 1 (by decide) rfl hN (by decide +kernel) rfl dX2_countForksAfterSwap_64 ?_
          refine cr_calli (va_runVN (As := [.ref (ad (25 + 6 * f + 1))]) (rest := []) (own := RX2) (host := "SharedForks") ⟨hx, hb, hml, hown, hts⟩ (c_lay l D I Z F ad hI X H.size 15 (Or.inr rfl) hk2.ok haw (25 + 6 * f + 1) (by omega) (by omega) (cE_d1 I Z F ad X f)) ⟨va_cnB 1 hts gX2_countForksAfterSwap_X1_lay_n117 rfl rfl rfl (hN (.methodLinkNest RX2 117 yX1_lay "SharedForks") (by decide +kernel)) (hts (.initialized yX1_lay.cls) (by decide +kernel)) (by decide +kernel) ⟨Nat.le_of_ble_eq_true rfl, Nat.le_of_ble_eq_true rfl⟩, hts (.instanceMethod yX1_lay) (by decide +kernel), hts (.selects yX1_lay.cls yX1_lay yX1_lay) (by decide +kernel)⟩ (cr_preV hK hN hW 15 (by decide) (cE_f0 I Z F ad X (Or.inr rfl)) rfl) rfl rfl hl.1 rfl (lv_room (Nat.le_of_ble_eq_true rfl)) dX2_countForksAfterSwap_67 ⟨Nat.le_refl _, Nat.le_refl _⟩) hA hDa hW (fun r u H locs hp hW => ?_)
          obtain ⟨hu, hv9⟩ := hp
          rw [hu] at hW
          rw [hv9]
          refine lv_pop hx hb dX2_countForksAfterSwap_70 rfl ?_
          refine lv_iinc (v := nI (f + 1)) (lv' := [(2, .int (nI (f + 1))), (0, .ref (ad 0)), (1, .int (nI p0))]) hx hb dX2_countForksAfterSwap_71 hl (k := 0) rfl (nI_1 f) (by decide) rfl (fun ls hl => ?_)
          refine lv_goto (tgt := 36) hx hb dX2_countForksAfterSwap_74 (by decide) ?_
          exact ih (f + 1) (by omega) ls H locs (lv_sub hl [0, 1, 2] rfl) (by rw [hstep]; exact hW)
  exact loop 12 0 (by decide) ls H locs (lv_sub hl [0, 1, 2] rfl) hW

abbrev rm_advise : Room := { frames := 13, cells := 0, slots := 0, locals := 700 }
set_option maxHeartbeats 4000000 in
set_option maxRecDepth 100000 in
/-- the exchange that leaves the fewest forks -/
theorem c_advise (l : Launch) (D : va_G) (I Z F : ClassId) (ad : Nat → Nat) (hI : cI ad) (M : Nat → Nat → Int32) (sz : Nat)  : Met l yX2_advise wsX2_advise rm_advise (va_Pc [.ref (ad 0)] (cU D I Z F ad sz M)) (va_Qi (fun (r : Int32) (u : Nat → Nat → Int32) => u = (adL M 7).1 ∧ r = (adL M 7).2.2) (fun u t => cP D I Z F ad u t.heap) (cA ad sz)) 0 0 (cA ad sz) := by
  refine cMet_i (cc := cX2_advise) (maxL := 5) hI (by decide) rfl ⟨rfl, rfl⟩ RX2 rfl (Nat.le_of_ble_eq_true rfl) (lv := [(0, .ref (ad 0))]) rfl ?_
  intro p e s m args below meth c Q A ls hsz C0 hW hl hret
  obtain ⟨hx, hb, hml, hts, hown, hlocks, hK, hN, hDa, hA, hargs⟩ := C0
  have hin2 : ∀ w ∈ u_ws RX2 TX2 6, w ∈ wsX2_advise := by decide +kernel
  have hin0 : ∀ w ∈ u_ws RX0 TX0 7, w ∈ wsX2_advise := by decide +kernel
  have hin1 : ∀ w ∈ u_ws RX1 TX1 10, w ∈ wsX2_advise := by decide +kernel
  refine lv_iconst (v := -1) hx hb dX2_advise_0 (by decide) ?_
  refine lv_istore_n (lv' := [(1, .int (-1)), (0, .ref (ad 0))]) hx hb dX2_advise_1 rfl hl (by decide) rfl (fun ls hl => ?_)
  refine lv_aload_n hx hb dX2_advise_2 rfl (lv_at hl 1 rfl) ?_
  refine cr_get (v := .ref (ad 3)) hx hb hts hin2 hown hK hW 0 (by decide) (cE_x I Z F ad M) rfl 2 (by decide) rfl (by decide +kernel) rfl dX2_advise_3 ?_
  refine cr_getN (v := .int (M 3 0)) (host := "SharedForks") hx hb hts hin1 hown hK hW 3 (by decide) (cE_f0 I Z F ad M (Or.inl rfl)) rfl 0 (by decide) rfl hN (by decide +kernel) rfl dX2_advise_6 ?_
  refine lv_istore_n (lv' := [(2, .int (M 3 0)), (1, .int (-1)), (0, .ref (ad 0))]) hx hb dX2_advise_9 rfl hl (by decide) rfl (fun ls hl => ?_)
  refine lv_iconst (v := 0) hx hb dX2_advise_10 (by decide) ?_
  refine lv_istore_n (lv' := [(3, .int 0), (2, .int (M 3 0)), (1, .int (-1)), (0, .ref (ad 0))]) hx hb dX2_advise_11 rfl hl (by decide) rfl (fun ls hl => ?_)
  have loop : ∀ q i : Nat, i + q = 7 → ∀ (ls : Array Slot) (H : Heap) (locs : List Loc), lv_has ls 5 [(3, .int (nI i)), (2, .int (adL M i).2.1), (1, .int (adL M i).2.2), (0, .ref (ad 0))] → cB9 D I Z F ad A s.heap (adL M i).1 H locs → W p l e rm_advise s m args below meth c H locs 0 0 Q (F0 m 12 ls []) := by
    intro q
    induction q with
    | zero =>
      intro i hi ls H locs hl hW
      obtain rfl : i = 7 := by omega
      refine lv_iload_n hx hb dX2_advise_12 rfl (lv_at hl 0 rfl) ?_
      refine lv_bipush (v := 7) hx hb dX2_advise_13 (by decide) ?_
      refine lv_icmp_ge (tgt := 42) hx hb dX2_advise_15 (by decide) (fun c1 => ?_) (fun c1 => ?_)
      · skip
        refine lv_iload_n hx hb dX2_advise_42 rfl (lv_at hl 2 rfl) ?_
        exact hret 43 ls H locs _ _ dX2_advise_43 ⟨rfl, rfl⟩ hW
      · exact absurd (nI_le (Nat.le_refl 7) (by decide)) c1
    | succ q ih =>
      intro i hi ls H locs hl hW
      refine lv_iload_n hx hb dX2_advise_12 rfl (lv_at hl 0 rfl) ?_
      refine lv_bipush (v := 7) hx hb dX2_advise_13 (by decide) ?_
      refine lv_icmp_ge (tgt := 42) hx hb dX2_advise_15 (by decide) (fun c1 => ?_) (fun c1 => ?_)
      · exact absurd c1 (nI_ge (b := 7) (by omega) (by decide))
      · skip
        have hstep := adL.eq_2 M i
        obtain ⟨S, hS⟩ : ∃ S, S = adL M i := ⟨_, rfl⟩
        rw [← hS] at hstep hl hW
        obtain ⟨M1, fe, be⟩ := S
        dsimp only at hstep hl hW
        refine lv_aload_n hx hb dX2_advise_18 rfl (lv_at hl 3 rfl) ?_
        refine lv_iload_n hx hb dX2_advise_19 rfl (lv_at hl 0 rfl) ?_
        refine cr_calli (va_runV (As := [.int (nI i)]) (rest := []) ⟨hx, hb, hml, hown, hts⟩ (c_countForksAfterSwap l D I Z F ad hI M1 H.size i (by omega)) (cwV 1 hts gX2_advise_X2_countForksAfterSwap rfl rfl rfl (by decide +kernel) ⟨Nat.le_of_ble_eq_true rfl, Nat.le_of_ble_eq_true rfl⟩) (cr_preV hK hN hW 0 (by decide) (cE_x I Z F ad M1) rfl) rfl rfl hl.1 rfl (lv_room (Nat.le_of_ble_eq_true rfl)) dX2_advise_20 ⟨Nat.le_refl _, Nat.le_refl _⟩) hA hDa hW (fun r u H locs hp hW => ?_)
        obtain ⟨hu, hv9⟩ := hp
        obtain ⟨X, hX⟩ : ∃ X, X = csF M1 i := ⟨_, rfl⟩
        rw [← hX] at hu hv9 hstep
        rw [hu] at hW
        rw [hv9]
        refine lv_istore (lv' := [(4, .int (X 15 0)), (3, .int (nI i)), (2, .int fe), (1, .int be), (0, .ref (ad 0))]) hx hb dX2_advise_23 hl (by decide) rfl (fun ls hl => ?_)
        refine lv_iload hx hb dX2_advise_25 (lv_at hl 0 rfl) ?_
        refine lv_iload_n hx hb dX2_advise_27 rfl (lv_at hl 2 rfl) ?_
        refine lv_icmp_ge (tgt := 36) hx hb dX2_advise_28 (by decide) (fun c2 => ?_) (fun c2 => ?_)
        · skip
          rw [if_neg (fun h => Int32.not_le.mpr h c2)] at hstep
          have e1 : (adL M (i + 1)).1 = X := by rw [hstep]
          have e2 : (adL M (i + 1)).2.1 = fe := by rw [hstep]
          have e3 : (adL M (i + 1)).2.2 = be := by rw [hstep]
          refine lv_iinc (v := nI (i + 1)) (lv' := [(3, .int (nI (i + 1))), (4, .int (X 15 0)), (2, .int fe), (1, .int be), (0, .ref (ad 0))]) hx hb dX2_advise_36 hl (k := 1) rfl (nI_1 i) (by decide) rfl (fun ls hl => ?_)
          refine lv_goto (tgt := 12) hx hb dX2_advise_39 (by decide) ?_
          exact ih (i + 1) (by omega) ls H locs (by rw [e2, e3]; exact (lv_sub hl [0, 2, 3, 4] rfl)) (by rw [e1]; exact hW)
        · skip
          rw [if_pos (Int32.not_le.mp c2)] at hstep
          have e1 : (adL M (i + 1)).1 = X := by rw [hstep]
          have e2 : (adL M (i + 1)).2.1 = X 15 0 := by rw [hstep]
          have e3 : (adL M (i + 1)).2.2 = nI i := by rw [hstep]
          refine lv_iload hx hb dX2_advise_31 (lv_at hl 0 rfl) ?_
          refine lv_istore_n (lv' := [(2, .int (X 15 0)), (4, .int (X 15 0)), (3, .int (nI i)), (1, .int be), (0, .ref (ad 0))]) hx hb dX2_advise_33 rfl hl (by decide) rfl (fun ls hl => ?_)
          refine lv_iload_n hx hb dX2_advise_34 rfl (lv_at hl 2 rfl) ?_
          refine lv_istore_n (lv' := [(1, .int (nI i)), (2, .int (X 15 0)), (4, .int (X 15 0)), (3, .int (nI i)), (0, .ref (ad 0))]) hx hb dX2_advise_35 rfl hl (by decide) rfl (fun ls hl => ?_)
          refine lv_iinc (v := nI (i + 1)) (lv' := [(3, .int (nI (i + 1))), (1, .int (nI i)), (2, .int (X 15 0)), (4, .int (X 15 0)), (0, .ref (ad 0))]) hx hb dX2_advise_36 hl (k := 3) rfl (nI_1 i) (by decide) rfl (fun ls hl => ?_)
          refine lv_goto (tgt := 12) hx hb dX2_advise_39 (by decide) ?_
          exact ih (i + 1) (by omega) ls H locs (by rw [e2, e3]; exact (lv_sub hl [0, 2, 1, 4] rfl)) (by rw [e1]; exact hW)
  exact loop 7 0 (by decide) ls _ _ (lv_sub hl [0, 1, 2, 3] rfl) hW
