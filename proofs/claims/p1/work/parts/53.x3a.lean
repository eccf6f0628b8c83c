abbrev rm_m_thrown : Room := { frames := 0, cells := 0, slots := 0, locals := 0 }
set_option maxHeartbeats 4000000 in
set_option maxRecDepth 100000 in
theorem c_m_thrown (l : Launch) (D : va_G) (I Z J : ClassId) (ad : Nat → Nat) (hI : mI ad) (M : Nat → Nat → Int32) (L : Nat → Nat → Int64) (sz : Nat)  : Met l yX3_thrown wsX3_thrown rm_m_thrown (va_Pc [.ref (ad 0)] (mU D I Z J ad sz M L)) (va_Qi (fun (r : Int32) (u : mU8) => u = (M, L) ∧ r = M 0 0) (fun (u : mU8) t => mP D I Z J ad u.1 u.2 t.heap) (mA ad sz)) 0 0 (mA ad sz) := by
  refine mMet_i (cc := cX3_thrown) (maxL := 1) hI (by decide) rfl rfl (Nat.le_of_ble_eq_true rfl) (lv := [(0, .ref (ad 0))]) rfl ?_
  intro p e s m args below meth c Q A ls hsz C0 hW hl hret
  obtain ⟨hx, hb, hml, hts, hown, hlocks, hK, hDa, hA, hargs⟩ := C0
  have hin3 : ∀ w ∈ u_ws RX3 TX3 15, w ∈ wsX3_thrown := by decide +kernel
  refine lv_aload_n hx hb dX3_thrown_0 rfl (lv_at hl 0 rfl) ?_
  refine mr_get (v := .int (M 0 0)) hx hb hts hin3 hown hK hW rfl 0 (by decide) rfl (by decide +kernel) rfl dX3_thrown_1 ?_
  exact hret 4 ls _ _ _ (M, L) dX3_thrown_4 (⟨rfl, rfl⟩) hW

abbrev rm_m_fail : Room := { frames := 0, cells := 0, slots := 0, locals := 0 }
set_option maxHeartbeats 4000000 in
set_option maxRecDepth 100000 in
theorem c_m_fail (l : Launch) (D : va_G) (I Z J : ClassId) (ad : Nat → Nat) (hI : mI ad) (M : Nat → Nat → Int32) (L : Nat → Nat → Int64) (sz : Nat) (x : Int32) : Met l yX3_fail wsX3_fail rm_m_fail (va_Pc [.ref (ad 0), .int x] (mU D I Z J ad sz M L)) (va_Qi (fun (r : Int32) (u : mU8) => u = (mst M 0 0 x, L) ∧ r = 0) (fun (u : mU8) t => mP D I Z J ad u.1 u.2 t.heap) (mA ad sz)) 0 0 (mA ad sz) := by
  refine mMet_i (cc := cX3_fail) (maxL := 2) hI (by decide) rfl rfl (Nat.le_of_ble_eq_true rfl) (lv := [(0, .ref (ad 0)), (1, .int x)]) rfl ?_
  intro p e s m args below meth c Q A ls hsz C0 hW hl hret
  obtain ⟨hx, hb, hml, hts, hown, hlocks, hK, hDa, hA, hargs⟩ := C0
  have hin3 : ∀ w ∈ u_ws RX3 TX3 15, w ∈ wsX3_fail := by decide +kernel
  refine lv_aload_n hx hb dX3_fail_0 rfl (lv_at hl 0 rfl) ?_
  refine lv_iload_n hx hb dX3_fail_1 rfl (lv_at hl 1 rfl) ?_
  refine mr_put hx hb hts hin3 hown hK hDa hW rfl 0 (by decide) rfl (by decide +kernel) (by decide +kernel) (Nat.le_of_ble_eq_true rfl) rfl dX3_fail_2 (fun H locs hW => ?_)
  refine lv_iconst (v := 0) hx hb dX3_fail_5 (by decide) ?_
  exact hret 6 ls H locs _ (mst M 0 0 x, L) dX3_fail_6 (⟨rfl, rfl⟩) hW

abbrev rm_m_isIn : Room := { frames := 0, cells := 0, slots := 0, locals := 0 }
set_option maxHeartbeats 4000000 in
set_option maxRecDepth 100000 in
theorem c_m_isIn (l : Launch) (D : va_G) (I Z J : ClassId) (ad : Nat → Nat) (hI : mI ad) (M : Nat → Nat → Int32) (L : Nat → Nat → Int64) (sz : Nat) (v lo hi : Int32) : Met l yX3_isIn wsX3_isIn rm_m_isIn (va_Pc [.int v, .int lo, .int hi] (mU D I Z J ad sz M L)) (va_Qi (fun (r : Int32) (u : mU8) => u = (M, L) ∧ r = b2 (¬ v < lo ∧ ¬ hi < v)) (fun (u : mU8) t => mP D I Z J ad u.1 u.2 t.heap) (mA ad sz)) 0 0 (mA ad sz) := by
  refine mMet_z (cc := cX3_isIn) (maxL := 3) hI (by decide) rfl rfl (Nat.le_of_ble_eq_true rfl) (lv := [(0, .int v), (1, .int lo), (2, .int hi)]) rfl ?_
  intro p e s m args below meth c Q A ls hsz C0 hW hl hret
  obtain ⟨hx, hb, hml, hts, hown, hlocks, hK, hDa, hA, hargs⟩ := C0
  refine lv_iload_n hx hb dX3_isIn_0 rfl (lv_at hl 0 rfl) ?_
  refine lv_iload_n hx hb dX3_isIn_1 rfl (lv_at hl 1 rfl) ?_
  refine lv_icmp_lt (tgt := 14) hx hb dX3_isIn_2 (by decide) (fun c1 => ?_) (fun c1 => ?_)
  · skip
    refine lv_iconst (v := 0) hx hb dX3_isIn_14 (by decide) ?_
    exact hret 15 ls _ _ _ (M, L) dX3_isIn_15 (⟨rfl, by simp [b2, c1]⟩) (Or.inl rfl) hW
  · skip
    refine lv_iload_n hx hb dX3_isIn_5 rfl (lv_at hl 0 rfl) ?_
    refine lv_iload_n hx hb dX3_isIn_6 rfl (lv_at hl 2 rfl) ?_
    refine lv_icmp_gt (tgt := 14) hx hb dX3_isIn_7 (by decide) (fun c2 => ?_) (fun c2 => ?_)
    · skip
      refine lv_iconst (v := 0) hx hb dX3_isIn_14 (by decide) ?_
      exact hret 15 ls _ _ _ (M, L) dX3_isIn_15 (⟨rfl, by simp [b2, c1, c2]⟩) (Or.inl rfl) hW
    · skip
      refine lv_iconst (v := 1) hx hb dX3_isIn_10 (by decide) ?_
      refine lv_goto (tgt := 15) hx hb dX3_isIn_11 (by decide) ?_
      exact hret 15 ls _ _ _ (M, L) dX3_isIn_15 (⟨rfl, by simp [b2, c1, c2]⟩) (Or.inr rfl) hW

abbrev rm_m_isQuestion : Room := { frames := 1, cells := 0, slots := 0, locals := 100 }
set_option maxHeartbeats 4000000 in
set_option maxRecDepth 100000 in
theorem c_m_isQuestion (l : Launch) (D : va_G) (I Z J : ClassId) (ad : Nat → Nat) (hI : mI ad) (M : Nat → Nat → Int32) (L : Nat → Nat → Int64) (sz : Nat) (x : Int32) : Met l yX3_isQuestion wsX3_isQuestion rm_m_isQuestion (va_Pc [.int x] (mU D I Z J ad sz M L)) (va_Qi (fun (r : Int32) (u : mU8) => u = (M, L) ∧ r = b2 (¬ x < 0 ∧ ¬ 7 < x)) (fun (u : mU8) t => mP D I Z J ad u.1 u.2 t.heap) (mA ad sz)) 0 0 (mA ad sz) := by
  refine mMet_z (cc := cX3_isQuestion) (maxL := 1) hI (by decide) rfl rfl (Nat.le_of_ble_eq_true rfl) (lv := [(0, .int x)]) rfl ?_
  intro p e s m args below meth c Q A ls hsz C0 hW hl hret
  obtain ⟨hx, hb, hml, hts, hown, hlocks, hK, hDa, hA, hargs⟩ := C0
  refine lv_iload_n hx hb dX3_isQuestion_0 rfl (lv_at hl 0 rfl) ?_
  refine lv_iconst (v := 0) hx hb dX3_isQuestion_1 (by decide) ?_
  refine lv_bipush (v := 7) hx hb dX3_isQuestion_2 (by decide) ?_
  refine mr_calli (va_runS (As := [.int x, .int 0, .int 7]) (rest := []) ⟨hx, hb, hml, hown, hts⟩ (c_m_isIn l D I Z J ad hI M L s.heap.size x 0 7) (va_cwS 3 hts gX3_isQuestion_X3_isIn rfl rfl rfl (by decide +kernel) ⟨Nat.le_of_ble_eq_true rfl, Nat.le_of_ble_eq_true rfl⟩) (mr_preS hK hW) rfl rfl hl.1 rfl (lv_room (Nat.le_of_ble_eq_true rfl)) dX3_isQuestion_4 ⟨Nat.le_of_ble_eq_true rfl, Nat.le_of_ble_eq_true rfl⟩) hA hDa hW (fun r u H locs hp hW => ?_)
  obtain ⟨hu, hv9⟩ := hp
  rw [show u.1 = M from by rw [hu], show u.2 = L from by rw [hu]] at hW
  rw [hv9]
  exact hret 7 ls H locs _ (M, L) dX3_isQuestion_7 (⟨rfl, rfl⟩) (b2_01 _) hW

abbrev rm_m_isFold : Room := { frames := 1, cells := 0, slots := 0, locals := 100 }
set_option maxHeartbeats 4000000 in
set_option maxRecDepth 100000 in
theorem c_m_isFold (l : Launch) (D : va_G) (I Z J : ClassId) (ad : Nat → Nat) (hI : mI ad) (M : Nat → Nat → Int32) (L : Nat → Nat → Int64) (sz : Nat) (hz : ∀ j : Nat, j < 12 → M 1 j = 0) (x : Int32) : Met l yX3_isFold wsX3_isFold rm_m_isFold (va_Pc [.ref (ad 0), .int x] (mU D I Z J ad sz M L)) (va_Qi (fun (r : Int32) (u : mU8) => u = (M, L) ∧ r = 0) (fun (u : mU8) t => mP D I Z J ad u.1 u.2 t.heap) (mA ad sz)) 0 0 (mA ad sz) := by
  refine mMet_z (cc := cX3_isFold) (maxL := 2) hI (by decide) rfl rfl (Nat.le_of_ble_eq_true rfl) (lv := [(0, .ref (ad 0)), (1, .int x)]) rfl ?_
  intro p e s m args below meth c Q A ls hsz C0 hW hl hret
  obtain ⟨hx, hb, hml, hts, hown, hlocks, hK, hDa, hA, hargs⟩ := C0
  have hin3 : ∀ w ∈ u_ws RX3 TX3 15, w ∈ wsX3_isFold := by decide +kernel
  refine lv_iload_n hx hb dX3_isFold_0 rfl (lv_at hl 1 rfl) ?_
  refine lv_iconst (v := 0) hx hb dX3_isFold_1 (by decide) ?_
  refine lv_bipush (v := 11) hx hb dX3_isFold_2 (by decide) ?_
  refine mr_calli (va_runS (As := [.int x, .int 0, .int 11]) (rest := []) ⟨hx, hb, hml, hown, hts⟩ (c_m_isIn l D I Z J ad hI M L s.heap.size x 0 11) (va_cwS 3 hts gX3_isFold_X3_isIn rfl rfl rfl (by decide +kernel) ⟨Nat.le_of_ble_eq_true rfl, Nat.le_of_ble_eq_true rfl⟩) (mr_preS hK hW) rfl rfl hl.1 rfl (lv_room (Nat.le_of_ble_eq_true rfl)) dX3_isFold_4 ⟨Nat.le_of_ble_eq_true rfl, Nat.le_of_ble_eq_true rfl⟩) hA hDa hW (fun r u H locs hp hW => ?_)
  obtain ⟨hu, hv9⟩ := hp
  rw [show u.1 = M from by rw [hu], show u.2 = L from by rw [hu]] at hW
  rw [hv9]
  refine lv_if_eq (tgt := 23) hx hb dX3_isFold_7 (by decide) (fun c1 => ?_) (fun c1 => ?_)
  · skip
    refine lv_iconst (v := 0) hx hb dX3_isFold_23 (by decide) ?_
    exact hret 24 ls H locs _ (M, L) dX3_isFold_24 (⟨rfl, rfl⟩) (Or.inl rfl) hW
  · skip
    have hb3 : ¬ x < 0 ∧ ¬ 11 < x := Classical.byContradiction fun h => c1 (by rw [b2, if_neg h])
    obtain ⟨j, hj, rfl⟩ := part_of (n := 12) (by decide) hb3.1 (fun h => hb3.2 (Int32.lt_of_lt_of_le (by decide) h))
    refine lv_aload_n hx hb dX3_isFold_10 rfl (lv_at hl 0 rfl) ?_
    refine mr_get (v := .ref (ad 1)) hx hb hts hin3 hown hK hW rfl 1 (by decide) rfl (by decide +kernel) rfl dX3_isFold_11 ?_
    refine lv_iload_n hx hb dX3_isFold_14 rfl (lv_at hl 1 rfl) ?_
    refine mr_zald hx hb hK hW 1 (by decide) rfl j hj (by decide) rfl dX3_isFold_15 ?_
    rw [hz j hj]
    refine lv_if_eq (tgt := 23) hx hb dX3_isFold_16 (by decide) (fun c2 => ?_) (fun c2 => ?_)
    · skip
      refine lv_iconst (v := 0) hx hb dX3_isFold_23 (by decide) ?_
      exact hret 24 ls H locs _ (M, L) dX3_isFold_24 (⟨rfl, rfl⟩) (Or.inl rfl) hW
    · exact absurd rfl c2

abbrev rm_m_free : Room := { frames := 0, cells := 0, slots := 0, locals := 0 }
set_option maxHeartbeats 4000000 in
set_option maxRecDepth 100000 in
theorem c_m_free (l : Launch) (D : va_G) (I Z J : ClassId) (ad : Nat → Nat) (hI : mI ad) (M : Nat → Nat → Int32) (L : Nat → Nat → Int64) (sz : Nat) (hz : ∀ j : Nat, j < 12 → M 1 j = 0) : Met l yX3_free wsX3_free rm_m_free (va_Pc [.ref (ad 0)] (mU D I Z J ad sz M L)) (va_Qi (fun (r : Int32) (u : mU8) => u = (M, L) ∧ r = 0) (fun (u : mU8) t => mP D I Z J ad u.1 u.2 t.heap) (mA ad sz)) 0 0 (mA ad sz) := by
  refine mMet_i (cc := cX3_free) (maxL := 2) hI (by decide) rfl rfl (Nat.le_of_ble_eq_true rfl) (lv := [(0, .ref (ad 0))]) rfl ?_
  intro p e s m args below meth c Q A ls hsz C0 hW hl hret
  obtain ⟨hx, hb, hml, hts, hown, hlocks, hK, hDa, hA, hargs⟩ := C0
  have hin3 : ∀ w ∈ u_ws RX3 TX3 15, w ∈ wsX3_free := by decide +kernel
  refine lv_iconst (v := 0) hx hb dX3_free_0 (by decide) ?_
  refine lv_istore_n (lv' := [(1, .int 0), (0, .ref (ad 0))]) hx hb dX3_free_1 rfl hl (by decide) rfl (fun ls hl => ?_)
  refine lv_iload_n hx hb dX3_free_2 rfl (lv_at hl 0 rfl) ?_
  refine lv_bipush (v := 12) hx hb dX3_free_3 (by decide) ?_
  refine lv_icmp_ge (tgt := 23) hx hb dX3_free_5 (by decide) (fun c1 => ?_) (fun c1 => ?_)
  · exact absurd c1 (by decide)
  · skip
    refine lv_aload_n hx hb dX3_free_8 rfl (lv_at hl 1 rfl) ?_
    refine mr_get (v := .ref (ad 1)) hx hb hts hin3 hown hK hW rfl 1 (by decide) rfl (by decide +kernel) rfl dX3_free_9 ?_
    refine lv_iload_n hx hb dX3_free_12 rfl (lv_at hl 0 rfl) ?_
    refine mr_zald hx hb hK hW 1 (by decide) rfl 0 (by decide) (by decide) rfl dX3_free_13 ?_
    rw [hz 0 (by decide)]
    refine lv_if_eq (tgt := 23) hx hb dX3_free_14 (by decide) (fun c2 => ?_) (fun c2 => ?_)
    · skip
      refine lv_iload_n hx hb dX3_free_23 rfl (lv_at hl 0 rfl) ?_
      exact hret 24 ls _ _ _ (M, L) dX3_free_24 (⟨rfl, rfl⟩) hW
    · exact absurd rfl c2

abbrev rm_m_folds : Room := { frames := 0, cells := 0, slots := 0, locals := 0 }
set_option maxHeartbeats 4000000 in
set_option maxRecDepth 100000 in
theorem c_m_folds (l : Launch) (D : va_G) (I Z J : ClassId) (ad : Nat → Nat) (hI : mI ad) (M : Nat → Nat → Int32) (L : Nat → Nat → Int64) (sz : Nat) (hz : ∀ j : Nat, j < 12 → M 1 j = 0) : Met l yX3_folds wsX3_folds rm_m_folds (va_Pc [.ref (ad 0)] (mU D I Z J ad sz M L)) (va_Qi (fun (r : Int32) (u : mU8) => u = (M, L) ∧ r = 0) (fun (u : mU8) t => mP D I Z J ad u.1 u.2 t.heap) (mA ad sz)) 0 0 (mA ad sz) := by
  refine mMet_i (cc := cX3_folds) (maxL := 6) hI (by decide) rfl rfl (Nat.le_of_ble_eq_true rfl) (lv := [(0, .ref (ad 0))]) rfl ?_
  intro p e s m args below meth c Q A ls hsz C0 hW hl hret
  obtain ⟨hx, hb, hml, hts, hown, hlocks, hK, hDa, hA, hargs⟩ := C0
  have hin3 : ∀ w ∈ u_ws RX3 TX3 15, w ∈ wsX3_folds := by decide +kernel
  refine lv_iconst (v := 0) hx hb dX3_folds_0 (by decide) ?_
  refine lv_istore_n (lv' := [(1, .int 0), (0, .ref (ad 0))]) hx hb dX3_folds_1 rfl hl (by decide) rfl (fun ls hl => ?_)
  refine lv_aload_n hx hb dX3_folds_2 rfl (lv_at hl 1 rfl) ?_
  refine mr_get (v := .ref (ad 1)) hx hb hts hin3 hown hK hW rfl 1 (by decide) rfl (by decide +kernel) rfl dX3_folds_3 ?_
  refine lv_astore_n (lv' := [(2, .ref (ad 1)), (1, .int 0), (0, .ref (ad 0))]) hx hb dX3_folds_6 rfl hl (by decide) rfl (fun ls hl => ?_)
  refine lv_aload_n hx hb dX3_folds_7 rfl (lv_at hl 0 rfl) ?_
  refine va_alen (x := (12, .inl (M 1))) hx hb hK hW.1 1 1 (ty := .boolean) (by rw [mW, cWn_get ad _ (by decide)]; rfl) rfl rfl dX3_folds_8 ?_
  refine lv_istore_n (lv' := [(3, .int (nI 12)), (2, .ref (ad 1)), (1, .int 0), (0, .ref (ad 0))]) hx hb dX3_folds_9 rfl hl (by decide) rfl (fun ls hl => ?_)
  refine lv_iconst (v := 0) hx hb dX3_folds_10 (by decide) ?_
  refine lv_istore (lv' := [(4, .int 0), (3, .int (nI 12)), (2, .ref (ad 1)), (1, .int 0), (0, .ref (ad 0))]) hx hb dX3_folds_11 hl (by decide) rfl (fun ls hl => ?_)
  have loop : ∀ q i : Nat, i + q = 12 → ∀ (ls : Array Slot), lv_has ls 6 [(4, .int (nI i)), (1, .int 0), (2, .ref (ad 1)), (3, .int (nI 12))] → W p l e rm_m_folds s m args below meth c s.heap [] 0 0 Q (F0 m 13 ls []) := by
    intro q
    induction q with
    | zero =>
      intro i hi ls hl
      obtain rfl : i = 12 := by omega
      refine lv_iload hx hb dX3_folds_13 (lv_at hl 0 rfl) ?_
      refine lv_iload_n hx hb dX3_folds_15 rfl (lv_at hl 3 rfl) ?_
      refine lv_icmp_ge (tgt := 44) hx hb dX3_folds_16 (by decide) (fun c1 => ?_) (fun c1 => ?_)
      · skip
        refine lv_iload_n hx hb dX3_folds_44 rfl (lv_at hl 1 rfl) ?_
        exact hret 45 ls _ _ _ (M, L) dX3_folds_45 (⟨rfl, rfl⟩) hW
      · exact absurd (nI_le (Nat.le_refl 12) (by decide)) c1
    | succ q ih =>
      intro i hi ls hl
      refine lv_iload hx hb dX3_folds_13 (lv_at hl 0 rfl) ?_
      refine lv_iload_n hx hb dX3_folds_15 rfl (lv_at hl 3 rfl) ?_
      refine lv_icmp_ge (tgt := 44) hx hb dX3_folds_16 (by decide) (fun c1 => ?_) (fun c1 => ?_)
      · exact absurd c1 (nI_ge (by omega) (by decide))
      · skip
        refine lv_aload_n hx hb dX3_folds_19 rfl (lv_at hl 2 rfl) ?_
        refine lv_iload hx hb dX3_folds_20 (lv_at hl 0 rfl) ?_
        refine mr_zald hx hb hK hW 1 (by decide) rfl i (by omega) (by decide) rfl dX3_folds_22 ?_
        rw [hz i (by omega)]
        refine lv_istore (lv' := [(5, .int 0), (4, .int (nI i)), (1, .int 0), (2, .ref (ad 1)), (3, .int (nI 12))]) hx hb dX3_folds_23 hl (by decide) rfl (fun ls hl => ?_)
        refine lv_iload_n hx hb dX3_folds_25 rfl (lv_at hl 2 rfl) ?_
        refine lv_iload hx hb dX3_folds_26 (lv_at hl 0 rfl) ?_
        refine lv_if_eq (tgt := 35) hx hb dX3_folds_28 (by decide) (fun c2 => ?_) (fun c2 => ?_)
        · skip
          refine lv_iconst (v := 0) hx hb dX3_folds_35 (by decide) ?_
          refine lv_iadd hx hb dX3_folds_36 ?_
          rw [show (0 : Int32) + 0 = 0 from rfl]
          refine lv_istore_n (lv' := [(1, .int 0), (5, .int 0), (4, .int (nI i)), (2, .ref (ad 1)), (3, .int (nI 12))]) hx hb dX3_folds_37 rfl hl (by decide) rfl (fun ls hl => ?_)
          refine lv_iinc (v := nI (i + 1)) (lv' := [(4, .int (nI (i + 1))), (1, .int 0), (5, .int 0), (2, .ref (ad 1)), (3, .int (nI 12))]) hx hb dX3_folds_38 hl (k := 2) rfl (nI_1 i) (by decide) rfl (fun ls hl => ?_)
          refine lv_goto (tgt := 13) hx hb dX3_folds_41 (by decide) ?_
          exact ih (i + 1) (by omega) ls (lv_sub hl [0, 1, 3, 4] rfl)
        · exact absurd rfl c2
  exact loop 12 0 (by decide) ls (lv_sub hl [0, 3, 2, 1] rfl)

abbrev rm_m_make0 : Room := { frames := 0, cells := 0, slots := 0, locals := 0 }
set_option maxHeartbeats 4000000 in
set_option maxRecDepth 100000 in
/-- no folds: no forks -/
theorem c_m_make0 (l : Launch) (D : va_G) (I Z J : ClassId) (ad : Nat → Nat) (hI : mI ad) (M : Nat → Nat → Int32) (L : Nat → Nat → Int64) (sz : Nat) (hz : ∀ j : Nat, j < 12 → M 1 j = 0) : Met l yX3_make wsX3_make rm_m_make0 (va_Pc [.ref (ad 0)] (mU D I Z J ad sz M L)) (va_Qv (fun (u : mU8) => u = (mst M 0 4 0, L)) (fun (u : mU8) t => mP D I Z J ad u.1 u.2 t.heap) (mA ad sz)) 0 0 (mA ad sz) := by
  refine mMet_v (cc := cX3_make) (maxL := 2) hI (by decide) rfl rfl (Nat.le_of_ble_eq_true rfl) (lv := [(0, .ref (ad 0))]) rfl ?_
  intro p e s m args below meth c Q A ls hsz C0 hW hl hret
  obtain ⟨hx, hb, hml, hts, hown, hlocks, hK, hDa, hA, hargs⟩ := C0
  have hin3 : ∀ w ∈ u_ws RX3 TX3 15, w ∈ wsX3_make := by decide +kernel
  refine lv_aload_n hx hb dX3_make_0 rfl (lv_at hl 0 rfl) ?_
  refine lv_iconst (v := 0) hx hb dX3_make_1 (by decide) ?_
  refine mr_put hx hb hts hin3 hown hK hDa hW rfl 4 (by decide) rfl (by decide +kernel) (by decide +kernel) (Nat.le_of_ble_eq_true rfl) rfl dX3_make_2 (fun H locs hW => ?_)
  refine lv_iconst (v := 0) hx hb dX3_make_5 (by decide) ?_
  refine lv_istore_n (lv' := [(1, .int 0), (0, .ref (ad 0))]) hx hb dX3_make_6 rfl hl (by decide) rfl (fun ls hl => ?_)
  have l2 : ∀ q i : Nat, i + q = 12 → ∀ (ls : Array Slot) (H : Heap) (locs : List Loc), lv_has ls 2 [(1, .int (nI i)), (0, .ref (ad 0))] → mB9 D I Z J ad A s.heap (mst M 0 4 0) L H locs → W p l e rm_m_make0 s m args below meth c H locs 0 0 Q (F0 m 60 ls []) := by
    intro q
    induction q with
    | zero =>
      intro i hi ls H locs hl hW
      obtain rfl : i = 12 := by omega
      refine lv_iload_n hx hb dX3_make_60 rfl (lv_at hl 0 rfl) ?_
      refine lv_bipush (v := 12) hx hb dX3_make_61 (by decide) ?_
      refine lv_icmp_ge (tgt := 92) hx hb dX3_make_63 (by decide) (fun c1 => ?_) (fun c1 => ?_)
      · skip
        exact hret 92 ls H locs (mst M 0 4 0, L) dX3_make_92 (rfl) hW
      · exact absurd (nI_le (Nat.le_refl 12) (by decide)) c1
    | succ q ih =>
      intro i hi ls H locs hl hW
      refine lv_iload_n hx hb dX3_make_60 rfl (lv_at hl 0 rfl) ?_
      refine lv_bipush (v := 12) hx hb dX3_make_61 (by decide) ?_
      refine lv_icmp_ge (tgt := 92) hx hb dX3_make_63 (by decide) (fun c1 => ?_) (fun c1 => ?_)
      · exact absurd c1 (nI_ge (b := 12) (by omega) (by decide))
      · skip
        refine lv_aload_n hx hb dX3_make_66 rfl (lv_at hl 1 rfl) ?_
        refine mr_get (v := .ref (ad 1)) hx hb hts hin3 hown hK hW rfl 1 (by decide) rfl (by decide +kernel) rfl dX3_make_67 ?_
        refine lv_iload_n hx hb dX3_make_70 rfl (lv_at hl 0 rfl) ?_
        refine mr_zald hx hb hK hW 1 (by decide) rfl i (by omega) (by decide) rfl dX3_make_71 ?_
        rw [show mst M 0 4 0 1 i = 0 from by rw [mst_ne (by decide)]; exact hz i (by omega)]
        refine lv_if_eq (tgt := 86) hx hb dX3_make_72 (by decide) (fun c2 => ?_) (fun c2 => ?_)
        · skip
          refine lv_iinc (v := nI (i + 1)) (lv' := [(1, .int (nI (i + 1))), (0, .ref (ad 0))]) hx hb dX3_make_86 hl (k := 0) rfl (nI_1 i) (by decide) rfl (fun ls hl => ?_)
          refine lv_goto (tgt := 60) hx hb dX3_make_89 (by decide) ?_
          exact ih (i + 1) (by omega) ls H locs (lv_sub hl [0, 1] rfl) hW
        · exact absurd rfl c2
  have l1 : ∀ q i : Nat, i + q = 12 → ∀ (ls : Array Slot) (H : Heap) (locs : List Loc), lv_has ls 2 [(1, .int (nI i)), (0, .ref (ad 0))] → mB9 D I Z J ad A s.heap (mst M 0 4 0) L H locs → W p l e rm_m_make0 s m args below meth c H locs 0 0 Q (F0 m 7 ls []) := by
    intro q
    induction q with
    | zero =>
      intro i hi ls H locs hl hW
      obtain rfl : i = 12 := by omega
      refine lv_iload_n hx hb dX3_make_7 rfl (lv_at hl 0 rfl) ?_
      refine lv_bipush (v := 12) hx hb dX3_make_8 (by decide) ?_
      refine lv_icmp_ge (tgt := 58) hx hb dX3_make_10 (by decide) (fun c1 => ?_) (fun c1 => ?_)
      · skip
        refine lv_iconst (v := 0) hx hb dX3_make_58 (by decide) ?_
        refine lv_istore_n (lv' := [(1, .int 0), (0, .ref (ad 0))]) hx hb dX3_make_59 rfl hl (by decide) rfl (fun ls hl => ?_)
        exact l2 12 0 (by decide) ls H locs (lv_sub hl [0, 1] rfl) hW
      · exact absurd (nI_le (Nat.le_refl 12) (by decide)) c1
    | succ q ih =>
      intro i hi ls H locs hl hW
      refine lv_iload_n hx hb dX3_make_7 rfl (lv_at hl 0 rfl) ?_
      refine lv_bipush (v := 12) hx hb dX3_make_8 (by decide) ?_
      refine lv_icmp_ge (tgt := 58) hx hb dX3_make_10 (by decide) (fun c1 => ?_) (fun c1 => ?_)
      · exact absurd c1 (nI_ge (b := 12) (by omega) (by decide))
      · skip
        refine lv_aload_n hx hb dX3_make_13 rfl (lv_at hl 1 rfl) ?_
        refine mr_get (v := .ref (ad 1)) hx hb hts hin3 hown hK hW rfl 1 (by decide) rfl (by decide +kernel) rfl dX3_make_14 ?_
        refine lv_iload_n hx hb dX3_make_17 rfl (lv_at hl 0 rfl) ?_
        refine mr_zald hx hb hK hW 1 (by decide) rfl i (by omega) (by decide) rfl dX3_make_18 ?_
        rw [show mst M 0 4 0 1 i = 0 from by rw [mst_ne (by decide)]; exact hz i (by omega)]
        refine lv_if_ne (tgt := 25) hx hb dX3_make_19 (by decide) (fun c2 => ?_) (fun c2 => ?_)
        · exact absurd rfl c2
        · skip
          refine lv_goto (tgt := 52) hx hb dX3_make_22 (by decide) ?_
          refine lv_iinc (v := nI (i + 1)) (lv' := [(1, .int (nI (i + 1))), (0, .ref (ad 0))]) hx hb dX3_make_52 hl (k := 0) rfl (nI_1 i) (by decide) rfl (fun ls hl => ?_)
          refine lv_goto (tgt := 7) hx hb dX3_make_55 (by decide) ?_
          exact ih (i + 1) (by omega) ls H locs (lv_sub hl [0, 1] rfl) hW
  exact l1 12 0 (by decide) ls H locs (lv_sub hl [0, 1] rfl) hW
