abbrev rm_m_counted : Room := { frames := 1, cells := 0, slots := 0, locals := 100 }
set_option maxHeartbeats 4000000 in
set_option maxRecDepth 100000 in
theorem c_m_counted (l : Launch) (D : va_G) (I Z J : ClassId) (ad : Nat → Nat) (hI : mI ad) (M : Nat → Nat → Int32) (L : Nat → Nat → Int64) (sz : Nat) (hz : ∀ j : Nat, j < 12 → M 1 j = 0) (hf : M 0 4 = 0) (wh : Nat) (hwh : wh < 5) : Met l yX3_counted wsX3_counted rm_m_counted (va_Pc [.ref (ad 0), .int (nI wh)] (mU D I Z J ad sz M L)) (va_Qi (fun (r : Int32) (u : mU8) => u = (M, L) ∧ r = 0) (fun (u : mU8) t => mP D I Z J ad u.1 u.2 t.heap) (mA ad sz)) 0 0 (mA ad sz) := by
  refine mMet_i (cc := cX3_counted) (maxL := 4) hI (by decide) rfl rfl (Nat.le_of_ble_eq_true rfl) (lv := [(0, .ref (ad 0)), (1, .int (nI wh))]) rfl ?_
  intro p e s m args below meth c Q A ls hsz C0 hW hl hret
  obtain ⟨hx, hb, hml, hts, hown, hlocks, hK, hDa, hA, hargs⟩ := C0
  have hin3 : ∀ w ∈ u_ws RX3 TX3 15, w ∈ wsX3_counted := by decide +kernel
  refine lv_iconst (v := 0) hx hb dX3_counted_0 (by decide) ?_
  refine lv_istore_n (lv' := [(2, .int 0), (0, .ref (ad 0)), (1, .int (nI wh))]) hx hb dX3_counted_1 rfl hl (by decide) rfl (fun ls hl => ?_)
  refine lv_iload_n hx hb dX3_counted_2 rfl (lv_at hl 2 rfl) ?_
  rcases (show wh = 0 ∨ wh = 1 ∨ wh = 2 ∨ wh = 3 ∨ wh = 4 by omega) with rfl | rfl | rfl | rfl | rfl
  · skip
    refine lv_tableIn (off := 29) (tgt := 32) hx hb dX3_counted_3 (by decide) (by decide) rfl (by decide) ?_
    refine lv_aload_n hx hb dX3_counted_32 rfl (lv_at hl 1 rfl) ?_
    refine mr_calli (va_runV (As := []) (rest := []) ⟨hx, hb, hml, hown, hts⟩ (c_m_folds l D I Z J ad hI M L s.heap.size hz) (cwV 0 hts gX3_counted_X3_folds rfl rfl rfl (by decide +kernel) ⟨Nat.le_of_ble_eq_true rfl, Nat.le_of_ble_eq_true rfl⟩) (mr_preV hK hW) rfl rfl hl.1 rfl (lv_room (Nat.le_of_ble_eq_true rfl)) dX3_counted_33 ⟨Nat.le_of_ble_eq_true rfl, Nat.le_of_ble_eq_true rfl⟩) hA hDa hW (fun r u H locs hp hW => ?_)
    obtain ⟨hu, hv9⟩ := hp
    rw [show u.1 = M from by rw [hu], show u.2 = L from by rw [hu]] at hW
    rw [hv9]
    exact hret 36 ls H locs _ (M, L) dX3_counted_36 (⟨rfl, rfl⟩) hW
  · skip
    refine lv_tableIn (off := 34) (tgt := 37) hx hb dX3_counted_3 (by decide) (by decide) rfl (by decide) ?_
    refine lv_aload_n hx hb dX3_counted_37 rfl (lv_at hl 1 rfl) ?_
    refine mr_get (v := .int (M 0 4)) hx hb hts hin3 hown hK hW rfl 4 (by decide) rfl (by decide +kernel) rfl dX3_counted_38 ?_
    rw [hf]
    exact hret 41 ls _ _ _ (M, L) dX3_counted_41 (⟨rfl, rfl⟩) hW
  · skip
    refine lv_tableIn (off := 39) (tgt := 42) hx hb dX3_counted_3 (by decide) (by decide) rfl (by decide) ?_
    refine lv_iconst (v := 0) hx hb dX3_counted_42 (by decide) ?_
    refine lv_istore_n (lv' := [(3, .int 0), (2, .int 0), (0, .ref (ad 0)), (1, .int (nI 2))]) hx hb dX3_counted_43 rfl hl (by decide) rfl (fun ls hl => ?_)
    have loop : ∀ q i : Nat, i + q = 12 → ∀ (ls : Array Slot), lv_has ls 4 [(3, .int (nI i)), (2, .int 0), (0, .ref (ad 0))] → W p l e rm_m_counted s m args below meth c s.heap [] 0 0 Q (F0 m 44 ls []) := by
      intro q
      induction q with
      | zero =>
        intro i hi ls hl
        obtain rfl : i = 12 := by omega
        refine lv_iload_n hx hb dX3_counted_44 rfl (lv_at hl 0 rfl) ?_
        refine lv_bipush (v := 12) hx hb dX3_counted_45 (by decide) ?_
        refine lv_icmp_ge (tgt := 77) hx hb dX3_counted_47 (by decide) (fun c1 => ?_) (fun c1 => ?_)
        · skip
          refine lv_iload_n hx hb dX3_counted_77 rfl (lv_at hl 1 rfl) ?_
          exact hret 78 ls _ _ _ (M, L) dX3_counted_78 (⟨rfl, rfl⟩) hW
        · exact absurd (nI_le (Nat.le_refl 12) (by decide)) c1
      | succ q ih =>
        intro i hi ls hl
        refine lv_iload_n hx hb dX3_counted_44 rfl (lv_at hl 0 rfl) ?_
        refine lv_bipush (v := 12) hx hb dX3_counted_45 (by decide) ?_
        refine lv_icmp_ge (tgt := 77) hx hb dX3_counted_47 (by decide) (fun c1 => ?_) (fun c1 => ?_)
        · exact absurd c1 (nI_ge (b := 12) (by omega) (by decide))
        · skip
          refine lv_iload_n hx hb dX3_counted_50 rfl (lv_at hl 1 rfl) ?_
          refine lv_aload_n hx hb dX3_counted_51 rfl (lv_at hl 2 rfl) ?_
          refine mr_get (v := .ref (ad 1)) hx hb hts hin3 hown hK hW rfl 1 (by decide) rfl (by decide +kernel) rfl dX3_counted_52 ?_
          refine lv_iload_n hx hb dX3_counted_55 rfl (lv_at hl 0 rfl) ?_
          refine mr_zald hx hb hK hW 1 (by decide) rfl i (by omega) (by decide) rfl dX3_counted_56 ?_
          rw [hz i (by omega)]
          refine lv_if_eq (tgt := 68) hx hb dX3_counted_57 (by decide) (fun c2 => ?_) (fun c2 => ?_)
          · skip
            refine lv_iconst (v := 0) hx hb dX3_counted_68 (by decide) ?_
            refine lv_iadd hx hb dX3_counted_69 ?_
            rw [show (0 : Int32) + 0 = 0 from rfl]
            refine lv_istore_n (lv' := [(2, .int 0), (3, .int (nI i)), (0, .ref (ad 0))]) hx hb dX3_counted_70 rfl hl (by decide) rfl (fun ls hl => ?_)
            refine lv_iinc (v := nI (i + 1)) (lv' := [(3, .int (nI (i + 1))), (2, .int 0), (0, .ref (ad 0))]) hx hb dX3_counted_71 hl (k := 1) rfl (nI_1 i) (by decide) rfl (fun ls hl => ?_)
            refine lv_goto (tgt := 44) hx hb dX3_counted_74 (by decide) ?_
            exact ih (i + 1) (by omega) ls (lv_sub hl [0, 1, 2] rfl)
          · exact absurd rfl c2
    exact loop 12 0 (by decide) ls (lv_sub hl [0, 1, 2] rfl)
  · skip
    refine lv_tableIn (off := 76) (tgt := 79) hx hb dX3_counted_3 (by decide) (by decide) rfl (by decide) ?_
    refine lv_iconst (v := 0) hx hb dX3_counted_79 (by decide) ?_
    refine lv_istore_n (lv' := [(3, .int 0), (2, .int 0), (0, .ref (ad 0)), (1, .int (nI 3))]) hx hb dX3_counted_80 rfl hl (by decide) rfl (fun ls hl => ?_)
    refine lv_iload_n hx hb dX3_counted_81 rfl (lv_at hl 0 rfl) ?_
    refine lv_aload_n hx hb dX3_counted_82 rfl (lv_at hl 2 rfl) ?_
    refine mr_get (v := .int (M 0 4)) hx hb hts hin3 hown hK hW rfl 4 (by decide) rfl (by decide +kernel) rfl dX3_counted_83 ?_
    rw [hf]
    refine lv_icmp_ge (tgt := 118) hx hb dX3_counted_86 (by decide) (fun c1 => ?_) (fun c1 => ?_)
    · skip
      refine lv_iload_n hx hb dX3_counted_118 rfl (lv_at hl 1 rfl) ?_
      exact hret 119 ls _ _ _ (M, L) dX3_counted_119 (⟨rfl, rfl⟩) hW
    · exact absurd (by decide) c1
  · skip
    refine lv_tableOut (tgt := 120) hx hb dX3_counted_3 (Or.inr (by decide)) (by decide) ?_
    refine lv_iconst (v := 0) hx hb dX3_counted_120 (by decide) ?_
    refine lv_istore_n (lv' := [(3, .int 0), (2, .int 0), (0, .ref (ad 0)), (1, .int (nI 4))]) hx hb dX3_counted_121 rfl hl (by decide) rfl (fun ls hl => ?_)
    have loop : ∀ q i : Nat, i + q = 12 → ∀ (ls : Array Slot), lv_has ls 4 [(3, .int (nI i)), (2, .int 0), (0, .ref (ad 0))] → W p l e rm_m_counted s m args below meth c s.heap [] 0 0 Q (F0 m 122 ls []) := by
      intro q
      induction q with
      | zero =>
        intro i hi ls hl
        obtain rfl : i = 12 := by omega
        refine lv_iload_n hx hb dX3_counted_122 rfl (lv_at hl 0 rfl) ?_
        refine lv_bipush (v := 12) hx hb dX3_counted_123 (by decide) ?_
        refine lv_icmp_ge (tgt := 160) hx hb dX3_counted_125 (by decide) (fun c1 => ?_) (fun c1 => ?_)
        · skip
          refine lv_iload_n hx hb dX3_counted_160 rfl (lv_at hl 1 rfl) ?_
          exact hret 161 ls _ _ _ (M, L) dX3_counted_161 (⟨rfl, rfl⟩) hW
        · exact absurd (nI_le (Nat.le_refl 12) (by decide)) c1
      | succ q ih =>
        intro i hi ls hl
        refine lv_iload_n hx hb dX3_counted_122 rfl (lv_at hl 0 rfl) ?_
        refine lv_bipush (v := 12) hx hb dX3_counted_123 (by decide) ?_
        refine lv_icmp_ge (tgt := 160) hx hb dX3_counted_125 (by decide) (fun c1 => ?_) (fun c1 => ?_)
        · exact absurd c1 (nI_ge (b := 12) (by omega) (by decide))
        · skip
          refine lv_iload_n hx hb dX3_counted_128 rfl (lv_at hl 1 rfl) ?_
          refine lv_aload_n hx hb dX3_counted_129 rfl (lv_at hl 2 rfl) ?_
          refine mr_get (v := .ref (ad 1)) hx hb hts hin3 hown hK hW rfl 1 (by decide) rfl (by decide +kernel) rfl dX3_counted_130 ?_
          refine lv_iload_n hx hb dX3_counted_133 rfl (lv_at hl 0 rfl) ?_
          refine mr_zald hx hb hK hW 1 (by decide) rfl i (by omega) (by decide) rfl dX3_counted_134 ?_
          rw [hz i (by omega)]
          refine lv_if_eq (tgt := 151) hx hb dX3_counted_135 (by decide) (fun c2 => ?_) (fun c2 => ?_)
          · skip
            refine lv_iconst (v := 0) hx hb dX3_counted_151 (by decide) ?_
            refine lv_iadd hx hb dX3_counted_152 ?_
            rw [show (0 : Int32) + 0 = 0 from rfl]
            refine lv_istore_n (lv' := [(2, .int 0), (3, .int (nI i)), (0, .ref (ad 0))]) hx hb dX3_counted_153 rfl hl (by decide) rfl (fun ls hl => ?_)
            refine lv_iinc (v := nI (i + 1)) (lv' := [(3, .int (nI (i + 1))), (2, .int 0), (0, .ref (ad 0))]) hx hb dX3_counted_154 hl (k := 1) rfl (nI_1 i) (by decide) rfl (fun ls hl => ?_)
            refine lv_goto (tgt := 122) hx hb dX3_counted_157 (by decide) ?_
            exact ih (i + 1) (by omega) ls (lv_sub hl [0, 1, 2] rfl)
          · exact absurd rfl c2
    exact loop 12 0 (by decide) ls (lv_sub hl [0, 1, 2] rfl)

abbrev rm_m_count : Room := { frames := 2, cells := 0, slots := 0, locals := 200 }
set_option maxHeartbeats 4000000 in
set_option maxRecDepth 100000 in
theorem c_m_count (l : Launch) (D : va_G) (I Z J : ClassId) (ad : Nat → Nat) (hI : mI ad) (M : Nat → Nat → Int32) (L : Nat → Nat → Int64) (sz : Nat) (hz : ∀ j : Nat, j < 12 → M 1 j = 0) (hf : M 0 4 = 0) (x : Int32) : Met l yX3_count wsX3_count rm_m_count (va_Pc [.ref (ad 0), .int x] (mU D I Z J ad sz M L)) (va_Qi (fun (r : Int32) (u : mU8) => (inB x 5 → r = 0 ∧ u.1 0 0 = 0) ∧ (¬ inB x 5 → u.1 0 0 = 1)) (fun (u : mU8) t => mP D I Z J ad u.1 u.2 t.heap) (mA ad sz)) 0 0 (mA ad sz) := by
  refine mMet_i (cc := cX3_count) (maxL := 2) hI (by decide) rfl rfl (Nat.le_of_ble_eq_true rfl) (lv := [(0, .ref (ad 0)), (1, .int x)]) rfl ?_
  intro p e s m args below meth c Q A ls hsz C0 hW hl hret
  obtain ⟨hx, hb, hml, hts, hown, hlocks, hK, hDa, hA, hargs⟩ := C0
  have hin3 : ∀ w ∈ u_ws RX3 TX3 15, w ∈ wsX3_count := by decide +kernel
  refine lv_aload_n hx hb dX3_count_0 rfl (lv_at hl 0 rfl) ?_
  refine lv_iconst (v := 0) hx hb dX3_count_1 (by decide) ?_
  refine mr_put hx hb hts hin3 hown hK hDa hW rfl 0 (by decide) rfl (by decide +kernel) (by decide +kernel) (Nat.le_of_ble_eq_true rfl) rfl dX3_count_2 (fun H locs hW => ?_)
  refine lv_iload_n hx hb dX3_count_5 rfl (lv_at hl 1 rfl) ?_
  refine lv_iconst (v := 0) hx hb dX3_count_6 (by decide) ?_
  refine lv_iconst (v := 4) hx hb dX3_count_7 (by decide) ?_
  refine mr_calli (va_runS (As := [.int x, .int 0, .int 4]) (rest := []) ⟨hx, hb, hml, hown, hts⟩ (c_m_isIn l D I Z J ad hI (mst M 0 0 0) L H.size x 0 4) (va_cwS 3 hts gX3_count_X3_isIn rfl rfl rfl (by decide +kernel) ⟨Nat.le_of_ble_eq_true rfl, Nat.le_of_ble_eq_true rfl⟩) (mr_preS hK hW) rfl rfl hl.1 rfl (lv_room (Nat.le_of_ble_eq_true rfl)) dX3_count_8 ⟨Nat.le_of_ble_eq_true rfl, Nat.le_of_ble_eq_true rfl⟩) hA hDa hW (fun r u H locs hp hW => ?_)
  obtain ⟨hu, hv9⟩ := hp
  rw [show u.1 = (mst M 0 0 0) from by rw [hu], show u.2 = L from by rw [hu]] at hW
  rw [hv9]
  refine lv_if_eq (tgt := 22) hx hb dX3_count_11 (by decide) (fun c1 => ?_) (fun c1 => ?_)
  · skip
    have hin : ¬ inB x 5 := fun h => (inB_b2 (lim := 4) (by decide) rfl lim_4).mpr h c1
    refine lv_aload_n hx hb dX3_count_22 rfl (lv_at hl 0 rfl) ?_
    refine lv_iconst (v := 1) hx hb dX3_count_23 (by decide) ?_
    refine mr_calli (va_runV (As := [.int 1]) (rest := []) ⟨hx, hb, hml, hown, hts⟩ (c_m_fail l D I Z J ad hI (mst M 0 0 0) L H.size 1) (cwV 1 hts gX3_count_X3_fail rfl rfl rfl (by decide +kernel) ⟨Nat.le_of_ble_eq_true rfl, Nat.le_of_ble_eq_true rfl⟩) (mr_preV hK hW) rfl rfl hl.1 rfl (lv_room (Nat.le_of_ble_eq_true rfl)) dX3_count_24 ⟨Nat.le_of_ble_eq_true rfl, Nat.le_of_ble_eq_true rfl⟩) hA hDa hW (fun r u H locs hp hW => ?_)
    obtain ⟨hu, hv9⟩ := hp
    rw [show u.1 = mst (mst M 0 0 0) 0 0 1 from by rw [hu], show u.2 = L from by rw [hu]] at hW
    rw [hv9]
    exact hret 27 ls H locs _ ((mst (mst M 0 0 0) 0 0 1), L) dX3_count_27 (⟨fun h => absurd h hin, fun _ => by show (mst (mst M 0 0 0) 0 0 1) 0 0 = _; simp only [mst_at]; simp⟩) hW
  · skip
    have hin : inB x 5 := (inB_b2 (lim := 4) (by decide) rfl lim_4).mp c1
    obtain ⟨wh, hwh, rfl⟩ := hin
    refine lv_aload_n hx hb dX3_count_14 rfl (lv_at hl 0 rfl) ?_
    refine lv_iload_n hx hb dX3_count_15 rfl (lv_at hl 1 rfl) ?_
    refine mr_calli (va_runV (As := [.int (nI wh)]) (rest := []) ⟨hx, hb, hml, hown, hts⟩ (c_m_counted l D I Z J ad hI (mst M 0 0 0) L H.size (fun j hj => by rw [mst_ne (by decide)]; exact hz j hj) (by rw [mst_same, pk_un (by decide)]; exact hf) wh hwh) (cwV 1 hts gX3_count_X3_counted rfl rfl rfl (by decide +kernel) ⟨Nat.le_of_ble_eq_true rfl, Nat.le_of_ble_eq_true rfl⟩) (mr_preV hK hW) rfl rfl hl.1 rfl (lv_room (Nat.le_of_ble_eq_true rfl)) dX3_count_16 ⟨Nat.le_of_ble_eq_true rfl, Nat.le_of_ble_eq_true rfl⟩) hA hDa hW (fun r u H locs hp hW => ?_)
    obtain ⟨hu, hv9⟩ := hp
    rw [show u.1 = (mst M 0 0 0) from by rw [hu], show u.2 = L from by rw [hu]] at hW
    rw [hv9]
    refine lv_goto (tgt := 27) hx hb dX3_count_19 (by decide) ?_
    exact hret 27 ls H locs _ ((mst M 0 0 0), L) dX3_count_27 (⟨fun _ => ⟨rfl, by show (mst M 0 0 0) 0 0 = _; simp only [mst_at]; simp⟩, fun h => absurd ⟨wh, hwh, rfl⟩ h⟩) hW

abbrev rm_m_has : Room := { frames := 2, cells := 0, slots := 0, locals := 200 }
set_option maxHeartbeats 4000000 in
set_option maxRecDepth 100000 in
theorem c_m_has (l : Launch) (D : va_G) (I Z J : ClassId) (ad : Nat → Nat) (hI : mI ad) (M : Nat → Nat → Int32) (L : Nat → Nat → Int64) (sz : Nat) (hz : ∀ j : Nat, j < 12 → M 1 j = 0) (x : Int32) : Met l yX3_has wsX3_has rm_m_has (va_Pc [.ref (ad 0), .int x] (mU D I Z J ad sz M L)) (va_Qi (fun (r : Int32) (u : mU8) => (inB x 12 → r = 0 ∧ u.1 0 0 = 0) ∧ (¬ inB x 12 → u.1 0 0 = 1)) (fun (u : mU8) t => mP D I Z J ad u.1 u.2 t.heap) (mA ad sz)) 0 0 (mA ad sz) := by
  refine mMet_z (cc := cX3_has) (maxL := 2) hI (by decide) rfl rfl (Nat.le_of_ble_eq_true rfl) (lv := [(0, .ref (ad 0)), (1, .int x)]) rfl ?_
  intro p e s m args below meth c Q A ls hsz C0 hW hl hret
  obtain ⟨hx, hb, hml, hts, hown, hlocks, hK, hDa, hA, hargs⟩ := C0
  have hin3 : ∀ w ∈ u_ws RX3 TX3 15, w ∈ wsX3_has := by decide +kernel
  refine lv_aload_n hx hb dX3_has_0 rfl (lv_at hl 0 rfl) ?_
  refine lv_iload_n hx hb dX3_has_1 rfl (lv_at hl 1 rfl) ?_
  refine lv_iconst (v := 0) hx hb dX3_has_2 (by decide) ?_
  refine lv_bipush (v := 11) hx hb dX3_has_3 (by decide) ?_
  refine mr_calli (va_runS (As := [.int x, .int 0, .int 11]) (rest := [.ref (ad 0)]) ⟨hx, hb, hml, hown, hts⟩ (c_m_isIn l D I Z J ad hI M L s.heap.size x 0 11) (va_cwS 3 hts gX3_has_X3_isIn rfl rfl rfl (by decide +kernel) ⟨Nat.le_of_ble_eq_true rfl, Nat.le_of_ble_eq_true rfl⟩) (mr_preS hK hW) rfl rfl hl.1 rfl (lv_room (Nat.le_of_ble_eq_true rfl)) dX3_has_5 ⟨Nat.le_of_ble_eq_true rfl, Nat.le_of_ble_eq_true rfl⟩) hA hDa hW (fun r u H locs hp hW => ?_)
  obtain ⟨hu, hv9⟩ := hp
  rw [show u.1 = M from by rw [hu], show u.2 = L from by rw [hu]] at hW
  rw [hv9]
  refine lv_if_eq (tgt := 15) hx hb dX3_has_8 (by decide) (fun c1 => ?_) (fun c1 => ?_)
  · skip
    have hin : ¬ inB x 12 := fun h => (inB_b2 (lim := 11) (by decide) rfl lim_11).mpr h c1
    refine lv_iconst (v := 1) hx hb dX3_has_15 (by decide) ?_
    refine mr_put hx hb hts hin3 hown hK hDa hW rfl 0 (by decide) rfl (by decide +kernel) (by decide +kernel) (Nat.le_of_ble_eq_true rfl) rfl dX3_has_16 (fun H locs hW => ?_)
    refine lv_aload_n hx hb dX3_has_19 rfl (lv_at hl 0 rfl) ?_
    refine mr_get (v := .int ((mst M 0 0 1) 0 0)) hx hb hts hin3 hown hK hW rfl 0 (by decide) rfl (by decide +kernel) rfl dX3_has_20 ?_
    rw [show mst M 0 0 1 0 0 = 1 from by rw [mst_same, pk_us]]
    refine lv_if_ne (tgt := 39) hx hb dX3_has_23 (by decide) (fun c2 => ?_) (fun c2 => ?_)
    · skip
      refine lv_iconst (v := 0) hx hb dX3_has_39 (by decide) ?_
      exact hret 40 ls H locs _ ((mst M 0 0 1), L) dX3_has_40 (⟨fun h => absurd h hin, fun _ => by show (mst M 0 0 1) 0 0 = _; simp only [mst_at]; simp⟩) (Or.inl rfl) hW
    · exact absurd c2 (by decide)
  · skip
    have hin : inB x 12 := (inB_b2 (lim := 11) (by decide) rfl lim_11).mp c1
    obtain ⟨f, hf1, rfl⟩ := hin
    refine lv_iconst (v := 0) hx hb dX3_has_11 (by decide) ?_
    refine lv_goto (tgt := 16) hx hb dX3_has_12 (by decide) ?_
    refine mr_put hx hb hts hin3 hown hK hDa hW rfl 0 (by decide) rfl (by decide +kernel) (by decide +kernel) (Nat.le_of_ble_eq_true rfl) rfl dX3_has_16 (fun H locs hW => ?_)
    refine lv_aload_n hx hb dX3_has_19 rfl (lv_at hl 0 rfl) ?_
    refine mr_get (v := .int ((mst M 0 0 0) 0 0)) hx hb hts hin3 hown hK hW rfl 0 (by decide) rfl (by decide +kernel) rfl dX3_has_20 ?_
    rw [show mst M 0 0 0 0 0 = 0 from by rw [mst_same, pk_us]]
    refine lv_if_ne (tgt := 39) hx hb dX3_has_23 (by decide) (fun c2 => ?_) (fun c2 => ?_)
    · exact absurd rfl c2
    · skip
      refine lv_aload_n hx hb dX3_has_26 rfl (lv_at hl 0 rfl) ?_
      refine mr_get (v := .ref (ad 1)) hx hb hts hin3 hown hK hW rfl 1 (by decide) rfl (by decide +kernel) rfl dX3_has_27 ?_
      refine lv_iload_n hx hb dX3_has_30 rfl (lv_at hl 1 rfl) ?_
      refine mr_zald hx hb hK hW 1 (by decide) rfl f hf1 (by decide) rfl dX3_has_31 ?_
      rw [show mst M 0 0 0 1 f = 0 from by rw [mst_ne (by decide)]; exact hz f hf1]
      refine lv_if_eq (tgt := 39) hx hb dX3_has_32 (by decide) (fun c3 => ?_) (fun c3 => ?_)
      · skip
        refine lv_iconst (v := 0) hx hb dX3_has_39 (by decide) ?_
        exact hret 40 ls H locs _ ((mst M 0 0 0), L) dX3_has_40 (⟨fun _ => ⟨rfl, by show (mst M 0 0 0) 0 0 = _; simp only [mst_at]; simp⟩, fun h => absurd ⟨f, hf1, rfl⟩ h⟩) (Or.inl rfl) hW
      · exact absurd rfl c3

abbrev rm_m_mean : Room := { frames := 2, cells := 0, slots := 0, locals := 200 }
set_option maxHeartbeats 4000000 in
set_option maxRecDepth 100000 in
theorem c_m_mean (l : Launch) (D : va_G) (I Z J : ClassId) (ad : Nat → Nat) (hI : mI ad) (M : Nat → Nat → Int32) (L : Nat → Nat → Int64) (sz : Nat) (hz : ∀ j : Nat, j < 12 → M 1 j = 0) : Met l yX3_mean wsX3_mean rm_m_mean (va_Pc [.ref (ad 0)] (mU D I Z J ad sz M L)) (va_Qd (fun (r : UInt64) (u : mU8) => r = FP.dconst0) (fun (u : mU8) t => mP D I Z J ad u.1 u.2 t.heap) (mA ad sz)) 0 0 (mA ad sz) := by
  refine mMet_d (cc := cX3_mean) (maxL := 2) hI (by decide) rfl rfl (Nat.le_of_ble_eq_true rfl) (lv := [(0, .ref (ad 0))]) rfl ?_
  intro p e s m args below meth c Q A ls hsz C0 hW hl hret
  obtain ⟨hx, hb, hml, hts, hown, hlocks, hK, hDa, hA, hargs⟩ := C0
  have hin3 : ∀ w ∈ u_ws RX3 TX3 15, w ∈ wsX3_mean := by decide +kernel
  refine lv_aload_n hx hb dX3_mean_0 rfl (lv_at hl 0 rfl) ?_
  refine lv_iconst (v := 0) hx hb dX3_mean_1 (by decide) ?_
  refine mr_put hx hb hts hin3 hown hK hDa hW rfl 0 (by decide) rfl (by decide +kernel) (by decide +kernel) (Nat.le_of_ble_eq_true rfl) rfl dX3_mean_2 (fun H locs hW => ?_)
  refine lv_aload_n hx hb dX3_mean_5 rfl (lv_at hl 0 rfl) ?_
  refine mr_calli (va_runV (As := []) (rest := []) ⟨hx, hb, hml, hown, hts⟩ (c_m_folds l D I Z J ad hI (mst M 0 0 0) L H.size (fun j hj => by rw [mst_ne (by decide)]; exact hz j hj)) (cwV 0 hts gX3_mean_X3_folds rfl rfl rfl (by decide +kernel) ⟨Nat.le_of_ble_eq_true rfl, Nat.le_of_ble_eq_true rfl⟩) (mr_preV hK hW) rfl rfl hl.1 rfl (lv_room (Nat.le_of_ble_eq_true rfl)) dX3_mean_6 ⟨Nat.le_of_ble_eq_true rfl, Nat.le_of_ble_eq_true rfl⟩) hA hDa hW (fun r u H locs hp hW => ?_)
  obtain ⟨hu, hv9⟩ := hp
  rw [show u.1 = (mst M 0 0 0) from by rw [hu], show u.2 = L from by rw [hu]] at hW
  rw [hv9]
  refine lv_istore_n (lv' := [(1, .int 0), (0, .ref (ad 0))]) hx hb dX3_mean_9 rfl hl (by decide) rfl (fun ls hl => ?_)
  refine lv_iload_n hx hb dX3_mean_10 rfl (lv_at hl 0 rfl) ?_
  refine lv_if_ne (tgt := 18) hx hb dX3_mean_11 (by decide) (fun c1 => ?_) (fun c1 => ?_)
  · exact absurd rfl c1
  · skip
    refine lv_dconst0 hx hb dX3_mean_14 ?_
    refine lv_goto (tgt := 27) hx hb dX3_mean_15 (by decide) ?_
    exact hret 27 ls H locs _ ((mst M 0 0 0), L) dX3_mean_27 (rfl) hW

abbrev rm_m_advise : Room := { frames := 3, cells := 0, slots := 0, locals := 300 }
set_option maxHeartbeats 4000000 in
set_option maxRecDepth 100000 in
theorem c_m_advise (l : Launch) (D : va_G) (I Z J : ClassId) (ad : Nat → Nat) (hI : mI ad) (M : Nat → Nat → Int32) (L : Nat → Nat → Int64) (sz : Nat) (hz : ∀ j : Nat, j < 12 → M 1 j = 0) (hf : M 0 4 = 0) : Met l yX3_advise wsX3_advise rm_m_advise (va_Pc [.ref (ad 0)] (mU D I Z J ad sz M L)) (va_Qi (fun (r : Int32) (u : mU8) => r = -1) (fun (u : mU8) t => mP D I Z J ad u.1 u.2 t.heap) (mA ad sz)) 0 0 (mA ad sz) := by
  refine mMet_i (cc := cX3_advise) (maxL := 5) hI (by decide) rfl rfl (Nat.le_of_ble_eq_true rfl) (lv := [(0, .ref (ad 0))]) rfl ?_
  intro p e s m args below meth c Q A ls hsz C0 hW hl hret
  obtain ⟨hx, hb, hml, hts, hown, hlocks, hK, hDa, hA, hargs⟩ := C0
  have hin3 : ∀ w ∈ u_ws RX3 TX3 15, w ∈ wsX3_advise := by decide +kernel
  refine lv_aload_n hx hb dX3_advise_0 rfl (lv_at hl 0 rfl) ?_
  refine lv_iconst (v := 0) hx hb dX3_advise_1 (by decide) ?_
  refine mr_put hx hb hts hin3 hown hK hDa hW rfl 0 (by decide) rfl (by decide +kernel) (by decide +kernel) (Nat.le_of_ble_eq_true rfl) rfl dX3_advise_2 (fun H locs hW => ?_)
  refine lv_aload_n hx hb dX3_advise_5 rfl (lv_at hl 0 rfl) ?_
  refine mr_get (v := .int ((mst M 0 0 0) 0 4)) hx hb hts hin3 hown hK hW rfl 4 (by decide) rfl (by decide +kernel) rfl dX3_advise_6 ?_
  rw [show mst M 0 0 0 0 4 = 0 from by rw [mst_same, pk_un (by decide)]; exact hf]
  refine lv_istore_n (lv' := [(1, .int 0), (0, .ref (ad 0))]) hx hb dX3_advise_9 rfl hl (by decide) rfl (fun ls hl => ?_)
  refine lv_iconst (v := -1) hx hb dX3_advise_10 (by decide) ?_
  refine lv_istore_n (lv' := [(2, .int (-1)), (1, .int 0), (0, .ref (ad 0))]) hx hb dX3_advise_11 rfl hl (by decide) rfl (fun ls hl => ?_)
  refine lv_iconst (v := 0) hx hb dX3_advise_12 (by decide) ?_
  refine lv_istore_n (lv' := [(3, .int 0), (2, .int (-1)), (1, .int 0), (0, .ref (ad 0))]) hx hb dX3_advise_13 rfl hl (by decide) rfl (fun ls hl => ?_)
  have loop : ∀ q i : Nat, i + q = 7 → ∀ (M1 : Nat → Nat → Int32), (∀ j : Nat, j < 12 → M1 1 j = 0) → ∀ (ls : Array Slot) (H : Heap) (locs : List Loc), lv_has ls 5 [(3, .int (nI i)), (2, .int (-1)), (1, .int 0), (0, .ref (ad 0))] → mB9 D I Z J ad A s.heap M1 L H locs → W p l e rm_m_advise s m args below meth c H locs 0 0 Q (F0 m 14 ls []) := by
    intro q
    induction q with
    | zero =>
      intro i hi M1 hz1 ls H locs hl hW
      obtain rfl : i = 7 := by omega
      refine lv_iload_n hx hb dX3_advise_14 rfl (lv_at hl 0 rfl) ?_
      refine lv_bipush (v := 7) hx hb dX3_advise_15 (by decide) ?_
      refine lv_icmp_ge (tgt := 56) hx hb dX3_advise_17 (by decide) (fun c1 => ?_) (fun c1 => ?_)
      · skip
        refine lv_iload_n hx hb dX3_advise_56 rfl (lv_at hl 1 rfl) ?_
        exact hret 57 ls H locs _ (M1, L) dX3_advise_57 (rfl) hW
      · exact absurd (nI_le (Nat.le_refl 7) (by decide)) c1
    | succ q ih =>
      intro i hi M1 hz1 ls H locs hl hW
      refine lv_iload_n hx hb dX3_advise_14 rfl (lv_at hl 0 rfl) ?_
      refine lv_bipush (v := 7) hx hb dX3_advise_15 (by decide) ?_
      refine lv_icmp_ge (tgt := 56) hx hb dX3_advise_17 (by decide) (fun c1 => ?_) (fun c1 => ?_)
      · exact absurd c1 (nI_ge (b := 7) (by omega) (by decide))
      · skip
        refine lv_aload_n hx hb dX3_advise_20 rfl (lv_at hl 3 rfl) ?_
        refine lv_iload_n hx hb dX3_advise_21 rfl (lv_at hl 0 rfl) ?_
        refine mr_callv (va_runV (As := [.int (nI i)]) (rest := []) ⟨hx, hb, hml, hown, hts⟩ (c_m_exchange l D I Z J ad hI M1 L H.size hz1 i (by omega)) (cwV 1 hts gX3_advise_X3_exchange rfl rfl rfl (by decide +kernel) ⟨Nat.le_of_ble_eq_true rfl, Nat.le_of_ble_eq_true rfl⟩) (mr_preV hK hW) rfl rfl hl.1 rfl (lv_room (Nat.le_of_ble_eq_true rfl)) dX3_advise_22 ⟨Nat.le_of_ble_eq_true rfl, Nat.le_of_ble_eq_true rfl⟩) hA hDa hW (fun u H locs hp hW => ?_)
        obtain ⟨M2, hM2⟩ : ∃ M2, M2 = u.1 := ⟨_, rfl⟩
        have hzM2 : ∀ j : Nat, j < 12 → M2 1 j = 0 := fun j hj => by rw [hM2, hp]; dsimp only; rw [mst_ne (by decide), mst_ne (by decide), mst_ne (by decide)]; exact hz1 j hj
        have h4M2 : M2 0 4 = 0 := by rw [hM2, hp]; dsimp only; rw [mst_same, pk_us]
        rw [← hM2, show u.2 = L from by rw [hp]] at hW
        refine lv_aload_n hx hb dX3_advise_25 rfl (lv_at hl 3 rfl) ?_
        refine mr_get (v := .int (M2 0 4)) hx hb hts hin3 hown hK hW rfl 4 (by decide) rfl (by decide +kernel) rfl dX3_advise_26 ?_
        rw [h4M2]
        refine lv_istore (lv' := [(4, .int 0), (3, .int (nI i)), (2, .int (-1)), (1, .int 0), (0, .ref (ad 0))]) hx hb dX3_advise_29 hl (by decide) rfl (fun ls hl => ?_)
        refine lv_aload_n hx hb dX3_advise_31 rfl (lv_at hl 4 rfl) ?_
        refine lv_iload_n hx hb dX3_advise_32 rfl (lv_at hl 1 rfl) ?_
        refine mr_callv (va_runV (As := [.int (nI i)]) (rest := []) ⟨hx, hb, hml, hown, hts⟩ (c_m_exchange l D I Z J ad hI M2 L H.size hzM2 i (by omega)) (cwV 1 hts gX3_advise_X3_exchange rfl rfl rfl (by decide +kernel) ⟨Nat.le_of_ble_eq_true rfl, Nat.le_of_ble_eq_true rfl⟩) (mr_preV hK hW) rfl rfl hl.1 rfl (lv_room (Nat.le_of_ble_eq_true rfl)) dX3_advise_33 ⟨Nat.le_of_ble_eq_true rfl, Nat.le_of_ble_eq_true rfl⟩) hA hDa hW (fun u H locs hp hW => ?_)
        obtain ⟨M3, hM3⟩ : ∃ M3, M3 = u.1 := ⟨_, rfl⟩
        have hzM3 : ∀ j : Nat, j < 12 → M3 1 j = 0 := fun j hj => by rw [hM3, hp]; dsimp only; rw [mst_ne (by decide), mst_ne (by decide), mst_ne (by decide)]; exact hzM2 j hj
        have h4M3 : M3 0 4 = 0 := by rw [hM3, hp]; dsimp only; rw [mst_same, pk_us]
        rw [← hM3, show u.2 = L from by rw [hp]] at hW
        refine lv_iload hx hb dX3_advise_36 (lv_at hl 0 rfl) ?_
        refine lv_iload_n hx hb dX3_advise_38 rfl (lv_at hl 3 rfl) ?_
        refine lv_icmp_lt (tgt := 45) hx hb dX3_advise_39 (by decide) (fun c2 => ?_) (fun c2 => ?_)
        · exact absurd c2 (by decide)
        · skip
          refine lv_goto (tgt := 50) hx hb dX3_advise_42 (by decide) ?_
          refine lv_iinc (v := nI (i + 1)) (lv' := [(3, .int (nI (i + 1))), (4, .int 0), (2, .int (-1)), (1, .int 0), (0, .ref (ad 0))]) hx hb dX3_advise_50 hl (k := 1) rfl (nI_1 i) (by decide) rfl (fun ls hl => ?_)
          refine lv_goto (tgt := 14) hx hb dX3_advise_53 (by decide) ?_
          exact ih (i + 1) (by omega) M3 hzM3 ls H locs (lv_sub hl [0, 2, 3, 4] rfl) hW
  exact loop 7 0 (by decide) _ (fun j hj => by rw [mst_ne (by decide)]; exact hz j hj) ls H locs (lv_sub hl [0, 1, 2, 3] rfl) hW
