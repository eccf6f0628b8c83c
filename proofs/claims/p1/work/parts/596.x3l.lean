theorem hz_tail {M : Nat → Nat → Int32} {x : Int32} (hz : ∀ j : Nat, j < 12 → M 1 j = 0) : ∀ j : Nat, 0 < j → j < 12 → mst M 0 0 x 1 j = 0 := fun j _ h1 => by rw [mst_ne (by decide)]; exact hz j h1

abbrev rm_m_leaf : Room := { frames := 5, cells := 0, slots := 0, locals := 800 }
set_option maxHeartbeats 4000000 in
set_option maxRecDepth 100000 in
theorem c_m_leaf (l : Launch) (D : va_G) (I Z J : ClassId) (ad : Nat → Nat) (hI : mI ad) (M : Nat → Nat → Int32) (L : Nat → Nat → Int64) (sz : Nat) (hz : ∀ j : Nat, j < 12 → M 1 j = 0) (ho : ∀ k : Nat, k < 8 → M 3 k = nI k) (y0 : Int32) : Met l yX3_leaf wsX3_leaf rm_m_leaf (va_Pc [.ref (ad 0), .int y0] (mU D I Z J ad sz M L)) (va_Qi (fun (r : Int32) (u : mU8) => u.1 0 0 = 0 ∧ r = 0) (fun (u : mU8) t => mP D I Z J ad u.1 u.2 t.heap) (mA ad sz)) 0 0 (mA ad sz) := by
  refine mMet_i (cc := cX3_leaf) (maxL := 4) hI (by decide) rfl rfl (Nat.le_of_ble_eq_true rfl) (lv := [(0, .ref (ad 0)), (1, .int y0)]) rfl ?_
  intro p e s m args below meth c Q A ls hsz C0 hW hl hret
  obtain ⟨hx, hb, hml, hts, hown, hlocks, hK, hDa, hA, hargs⟩ := C0
  have hin3 : ∀ w ∈ u_ws RX3 TX3 15, w ∈ wsX3_leaf := by decide +kernel
  refine lv_aload_n hx hb dX3_leaf_0 rfl (lv_at hl 0 rfl) ?_
  refine lv_iconst (v := 0) hx hb dX3_leaf_1 (by decide) ?_
  refine mr_put hx hb hts hin3 hown hK hDa hW rfl 0 (by decide) rfl (by decide +kernel) (by decide +kernel) (Nat.le_of_ble_eq_true rfl) rfl dX3_leaf_2 (fun H locs hW => ?_)
  refine lv_aload_n hx hb dX3_leaf_5 rfl (lv_at hl 0 rfl) ?_
  refine mr_calli (va_runV (As := []) (rest := []) ⟨hx, hb, hml, hown, hts⟩ (c_m_free l D I Z J ad hI (mst M 0 0 0) L H.size (fun j hj => by rw [mst_ne (by decide)]; exact hz j hj)) (cwV 0 hts gX3_leaf_X3_free rfl rfl rfl (by decide +kernel) ⟨Nat.le_of_ble_eq_true rfl, Nat.le_of_ble_eq_true rfl⟩) (mr_preV hK hW) rfl rfl hl.1 rfl (lv_room (Nat.le_of_ble_eq_true rfl)) dX3_leaf_6 ⟨Nat.le_of_ble_eq_true rfl, Nat.le_of_ble_eq_true rfl⟩) hA hDa hW (fun r u H locs hp hW => ?_)
  obtain ⟨hu, hv9⟩ := hp
  rw [show u.1 = (mst M 0 0 0) from by rw [hu], show u.2 = L from by rw [hu]] at hW
  rw [hv9]
  refine lv_istore_n (lv' := [(2, .int 0), (0, .ref (ad 0)), (1, .int y0)]) hx hb dX3_leaf_9 rfl hl (by decide) rfl (fun ls hl => ?_)
  refine lv_iload_n hx hb dX3_leaf_10 rfl (lv_at hl 0 rfl) ?_
  refine lv_bipush (v := 12) hx hb dX3_leaf_11 (by decide) ?_
  refine lv_icmp_ne (tgt := 22) hx hb dX3_leaf_13 (by decide) (fun c1 => ?_) (fun c1 => ?_)
  · skip
    refine lv_iconst (v := 0) hx hb dX3_leaf_22 (by decide) ?_
    refine lv_istore_n (lv' := [(3, .int 0), (2, .int 0), (0, .ref (ad 0)), (1, .int y0)]) hx hb dX3_leaf_23 rfl hl (by decide) rfl (fun ls hl => ?_)
    have loop : ∀ q i : Nat, i + q = 4 → ∀ (ls : Array Slot) (H : Heap) (locs : List Loc) (Y : Nat → Nat → Int64), (∀ k : Nat, k < i → Y 2 k = if y0 = 0 then 0 else -1) → lv_has ls 4 [(3, .int (nI i)), (2, .int 0), (0, .ref (ad 0)), (1, .int y0)] → mB9 D I Z J ad A s.heap (mst M 0 0 0) Y H locs → W p l e rm_m_leaf s m args below meth c H locs 0 0 Q (F0 m 24 ls []) := by
      intro q
      induction q with
      | zero =>
        intro i hi ls H locs Y hY hl hW
        obtain rfl : i = 4 := by omega
        refine lv_iload_n hx hb dX3_leaf_24 rfl (lv_at hl 0 rfl) ?_
        refine lv_iconst (v := 4) hx hb dX3_leaf_25 (by decide) ?_
        refine lv_icmp_ge (tgt := 56) hx hb dX3_leaf_26 (by decide) (fun c2 => ?_) (fun c2 => ?_)
        · skip
          refine lv_aload_n hx hb dX3_leaf_56 rfl (lv_at hl 2 rfl) ?_
          refine lv_iload_n hx hb dX3_leaf_57 rfl (lv_at hl 1 rfl) ?_
          refine mr_calli (va_runV (As := [.int 0]) (rest := []) ⟨hx, hb, hml, hown, hts⟩ (c_m_kept l D I Z J ad hI (mst M 0 0 0) Y H.size (hz_tail hz) (fun k hk => by rw [mst_ne (by decide)]; exact ho k hk) (if h : y0 = 0 then Or.inl (fun k hk => by rw [hY k hk, if_pos h]) else Or.inr (Or.inl (fun k hk => by rw [hY k hk, if_neg h])))) (cwV 1 hts gX3_leaf_X3_kept rfl rfl rfl (by decide +kernel) ⟨Nat.le_of_ble_eq_true rfl, Nat.le_of_ble_eq_true rfl⟩) (mr_preV hK hW) rfl rfl hl.1 rfl (lv_room (Nat.le_of_ble_eq_true rfl)) dX3_leaf_58 ⟨Nat.le_of_ble_eq_true rfl, Nat.le_of_ble_eq_true rfl⟩) hA hDa hW (fun r u H locs hp hW => ?_)
          exact hret 61 ls H locs _ u dX3_leaf_61 (⟨by rw [hp.1, mst_same, pk_us], hp.2⟩) hW
        · exact absurd (nI_le (Nat.le_refl 4) (by decide)) c2
      | succ q ih =>
        intro i hi ls H locs Y hY hl hW
        refine lv_iload_n hx hb dX3_leaf_24 rfl (lv_at hl 0 rfl) ?_
        refine lv_iconst (v := 4) hx hb dX3_leaf_25 (by decide) ?_
        refine lv_icmp_ge (tgt := 56) hx hb dX3_leaf_26 (by decide) (fun c2 => ?_) (fun c2 => ?_)
        · exact absurd c2 (nI_ge (b := 4) (by omega) (by decide))
        · skip
          refine lv_aload_n hx hb dX3_leaf_29 rfl (lv_at hl 2 rfl) ?_
          refine mr_get (v := .ref (ad 2)) hx hb hts hin3 hown hK hW rfl 2 (by decide) rfl (by decide +kernel) rfl dX3_leaf_30 ?_
          refine lv_iconst (v := 4) hx hb dX3_leaf_33 (by decide) ?_
          refine lv_iload_n hx hb dX3_leaf_34 rfl (lv_at hl 1 rfl) ?_
          refine lv_imul hx hb dX3_leaf_35 ?_
          refine lv_iload_n hx hb dX3_leaf_36 rfl (lv_at hl 0 rfl) ?_
          refine lv_iadd hx hb dX3_leaf_37 ?_
          rw [show (4 : Int32) * 0 + nI i = nI i from by rw [show (4 : Int32) * 0 = 0 from rfl, Int32.zero_add]]
          refine lv_iload_n hx hb dX3_leaf_38 rfl (lv_at hl 3 rfl) ?_
          refine lv_if_eq (tgt := 48) hx hb dX3_leaf_39 (by decide) (fun c3 => ?_) (fun c3 => ?_)
          · skip
            refine lv_lconst (v := 0) hx hb dX3_leaf_48 (by decide) ?_
            refine mr_jast hx hb hK hDa hW 2 (by decide) (fun _ _ => rfl) i (by omega) (by decide) rfl dX3_leaf_49 (fun H locs hW => ?_)
            refine lv_iinc (v := nI (i + 1)) (lv' := [(3, .int (nI (i + 1))), (2, .int 0), (0, .ref (ad 0)), (1, .int y0)]) hx hb dX3_leaf_50 hl (k := 0) rfl (nI_1 i) (by decide) rfl (fun ls hl => ?_)
            refine lv_goto (tgt := 24) hx hb dX3_leaf_53 (by decide) ?_
            exact ih (i + 1) (by omega) ls H locs _ (fun k hk => if h : k = i then by rw [lst, lrow_same, h, pk_uLs, if_pos c3] else by rw [lst, lrow_same, pk_uLn h]; exact hY k (by omega)) (lv_sub hl [0, 1, 2, 3] rfl) hW
          · skip
            refine lv_ldc2 (v := -1) hx hb hown (hts (.constantLong RX3 56 (-1)) (by decide +kernel)) dX3_leaf_42 ?_
            refine lv_goto (tgt := 49) hx hb dX3_leaf_45 (by decide) ?_
            refine mr_jast hx hb hK hDa hW 2 (by decide) (fun _ _ => rfl) i (by omega) (by decide) rfl dX3_leaf_49 (fun H locs hW => ?_)
            refine lv_iinc (v := nI (i + 1)) (lv' := [(3, .int (nI (i + 1))), (2, .int 0), (0, .ref (ad 0)), (1, .int y0)]) hx hb dX3_leaf_50 hl (k := 0) rfl (nI_1 i) (by decide) rfl (fun ls hl => ?_)
            refine lv_goto (tgt := 24) hx hb dX3_leaf_53 (by decide) ?_
            exact ih (i + 1) (by omega) ls H locs _ (fun k hk => if h : k = i then by rw [lst, lrow_same, h, pk_uLs, if_neg c3] else by rw [lst, lrow_same, pk_uLn h]; exact hY k (by omega)) (lv_sub hl [0, 1, 2, 3] rfl) hW
    exact loop 4 0 (by decide) ls H locs L (fun k hk => absurd hk (Nat.not_lt_zero k)) (lv_sub hl [0, 1, 2, 3] rfl) hW
  · exact absurd c1 (by decide)

abbrev rm_m_ask : Room := { frames := 5, cells := 0, slots := 0, locals := 800 }
set_option maxHeartbeats 4000000 in
set_option maxRecDepth 100000 in
theorem c_m_ask (l : Launch) (D : va_G) (I Z J : ClassId) (ad : Nat → Nat) (hI : mI ad) (M : Nat → Nat → Int32) (L : Nat → Nat → Int64) (sz : Nat) (hz : ∀ j : Nat, j < 12 → M 1 j = 0) (ho : ∀ k : Nat, k < 8 → M 3 k = nI k) (x : Int32) : Met l yX3_ask wsX3_ask rm_m_ask (va_Pc [.ref (ad 0), .int x] (mU D I Z J ad sz M L)) (va_Qi (fun (r : Int32) (u : mU8) => (inB x 8 → u.1 0 0 = 0 ∧ r = 0) ∧ (¬ inB x 8 → u.1 0 0 = 1)) (fun (u : mU8) t => mP D I Z J ad u.1 u.2 t.heap) (mA ad sz)) 0 0 (mA ad sz) := by
  refine mMet_i (cc := cX3_ask) (maxL := 4) hI (by decide) rfl rfl (Nat.le_of_ble_eq_true rfl) (lv := [(0, .ref (ad 0)), (1, .int x)]) rfl ?_
  intro p e s m args below meth c Q A ls hsz C0 hW hl hret
  obtain ⟨hx, hb, hml, hts, hown, hlocks, hK, hDa, hA, hargs⟩ := C0
  have hin3 : ∀ w ∈ u_ws RX3 TX3 15, w ∈ wsX3_ask := by decide +kernel
  refine lv_aload_n hx hb dX3_ask_0 rfl (lv_at hl 0 rfl) ?_
  refine lv_iconst (v := 0) hx hb dX3_ask_1 (by decide) ?_
  refine mr_put hx hb hts hin3 hown hK hDa hW rfl 0 (by decide) rfl (by decide +kernel) (by decide +kernel) (Nat.le_of_ble_eq_true rfl) rfl dX3_ask_2 (fun H locs hW => ?_)
  refine lv_iload_n hx hb dX3_ask_5 rfl (lv_at hl 1 rfl) ?_
  refine mr_calli (va_runS (As := [.int x]) (rest := []) ⟨hx, hb, hml, hown, hts⟩ (c_m_isQuestion l D I Z J ad hI (mst M 0 0 0) L H.size x) (va_cwS 1 hts gX3_ask_X3_isQuestion rfl rfl rfl (by decide +kernel) ⟨Nat.le_of_ble_eq_true rfl, Nat.le_of_ble_eq_true rfl⟩) (mr_preS hK hW) rfl rfl hl.1 rfl (lv_room (Nat.le_of_ble_eq_true rfl)) dX3_ask_6 ⟨Nat.le_of_ble_eq_true rfl, Nat.le_of_ble_eq_true rfl⟩) hA hDa hW (fun r u H locs hp hW => ?_)
  obtain ⟨hu, hv9⟩ := hp
  rw [show u.1 = (mst M 0 0 0) from by rw [hu], show u.2 = L from by rw [hu]] at hW
  rw [hv9]
  refine lv_if_ne (tgt := 18) hx hb dX3_ask_9 (by decide) (fun c0 => ?_) (fun c0 => ?_)
  · skip
    have hin : inB x 8 := (inB_b2 (lim := 7) (by decide) rfl lim_7).mp c0
    obtain ⟨q0, hq0, rfl⟩ := hin
    refine lv_aload_n hx hb dX3_ask_18 rfl (lv_at hl 0 rfl) ?_
    refine mr_calli (va_runV (As := []) (rest := []) ⟨hx, hb, hml, hown, hts⟩ (c_m_free l D I Z J ad hI (mst M 0 0 0) L H.size (fun j hj => by rw [mst_ne (by decide)]; exact hz j hj)) (cwV 0 hts gX3_ask_X3_free rfl rfl rfl (by decide +kernel) ⟨Nat.le_of_ble_eq_true rfl, Nat.le_of_ble_eq_true rfl⟩) (mr_preV hK hW) rfl rfl hl.1 rfl (lv_room (Nat.le_of_ble_eq_true rfl)) dX3_ask_19 ⟨Nat.le_of_ble_eq_true rfl, Nat.le_of_ble_eq_true rfl⟩) hA hDa hW (fun r u H locs hp hW => ?_)
    obtain ⟨hu, hv9⟩ := hp
    rw [show u.1 = (mst M 0 0 0) from by rw [hu], show u.2 = L from by rw [hu]] at hW
    rw [hv9]
    refine lv_istore_n (lv' := [(2, .int 0), (0, .ref (ad 0)), (1, .int (nI q0))]) hx hb dX3_ask_22 rfl hl (by decide) rfl (fun ls hl => ?_)
    refine lv_iload_n hx hb dX3_ask_23 rfl (lv_at hl 0 rfl) ?_
    refine lv_bipush (v := 12) hx hb dX3_ask_24 (by decide) ?_
    refine lv_icmp_ne (tgt := 35) hx hb dX3_ask_26 (by decide) (fun c1 => ?_) (fun c1 => ?_)
    · skip
      refine lv_iconst (v := 0) hx hb dX3_ask_35 (by decide) ?_
      refine lv_istore_n (lv' := [(3, .int 0), (2, .int 0), (0, .ref (ad 0)), (1, .int (nI q0))]) hx hb dX3_ask_36 rfl hl (by decide) rfl (fun ls hl => ?_)
      have loop : ∀ q i : Nat, i + q = 4 → ∀ (ls : Array Slot) (H : Heap) (locs : List Loc) (Y : Nat → Nat → Int64), (∀ k : Nat, k < i → Y 2 k = ywF q0 k) → lv_has ls 4 [(3, .int (nI i)), (2, .int 0), (0, .ref (ad 0)), (1, .int (nI q0))] → mB9 D I Z J ad A s.heap (mst M 0 0 0) Y H locs → W p l e rm_m_ask s m args below meth c H locs 0 0 Q (F0 m 37 ls []) := by
        intro q
        induction q with
        | zero =>
          intro i hi ls H locs Y hY hl hW
          obtain rfl : i = 4 := by omega
          refine lv_iload_n hx hb dX3_ask_37 rfl (lv_at hl 0 rfl) ?_
          refine lv_iconst (v := 4) hx hb dX3_ask_38 (by decide) ?_
          refine lv_icmp_ge (tgt := 63) hx hb dX3_ask_39 (by decide) (fun c2 => ?_) (fun c2 => ?_)
          · skip
            refine lv_aload_n hx hb dX3_ask_63 rfl (lv_at hl 2 rfl) ?_
            refine lv_iload_n hx hb dX3_ask_64 rfl (lv_at hl 1 rfl) ?_
            refine mr_calli (va_runV (As := [.int 0]) (rest := []) ⟨hx, hb, hml, hown, hts⟩ (c_m_kept l D I Z J ad hI (mst M 0 0 0) Y H.size (hz_tail hz) (fun k hk => by rw [mst_ne (by decide)]; exact ho k hk) (Or.inr (Or.inr ⟨q0, hq0, hY⟩))) (cwV 1 hts gX3_ask_X3_kept rfl rfl rfl (by decide +kernel) ⟨Nat.le_of_ble_eq_true rfl, Nat.le_of_ble_eq_true rfl⟩) (mr_preV hK hW) rfl rfl hl.1 rfl (lv_room (Nat.le_of_ble_eq_true rfl)) dX3_ask_65 ⟨Nat.le_of_ble_eq_true rfl, Nat.le_of_ble_eq_true rfl⟩) hA hDa hW (fun r u H locs hp hW => ?_)
            exact hret 68 ls H locs _ u dX3_ask_68 (⟨fun _ => ⟨by rw [hp.1, mst_same, pk_us], hp.2⟩, fun h => absurd ⟨q0, hq0, rfl⟩ h⟩) hW
          · exact absurd (nI_le (Nat.le_refl 4) (by decide)) c2
        | succ q ih =>
          intro i hi ls H locs Y hY hl hW
          refine lv_iload_n hx hb dX3_ask_37 rfl (lv_at hl 0 rfl) ?_
          refine lv_iconst (v := 4) hx hb dX3_ask_38 (by decide) ?_
          refine lv_icmp_ge (tgt := 63) hx hb dX3_ask_39 (by decide) (fun c2 => ?_) (fun c2 => ?_)
          · exact absurd c2 (nI_ge (b := 4) (by omega) (by decide))
          · skip
            refine lv_aload_n hx hb dX3_ask_42 rfl (lv_at hl 2 rfl) ?_
            refine mr_get (v := .ref (ad 2)) hx hb hts hin3 hown hK hW rfl 2 (by decide) rfl (by decide +kernel) rfl dX3_ask_43 ?_
            refine lv_iconst (v := 4) hx hb dX3_ask_46 (by decide) ?_
            refine lv_iload_n hx hb dX3_ask_47 rfl (lv_at hl 1 rfl) ?_
            refine lv_imul hx hb dX3_ask_48 ?_
            refine lv_iload_n hx hb dX3_ask_49 rfl (lv_at hl 0 rfl) ?_
            refine lv_iadd hx hb dX3_ask_50 ?_
            rw [show (4 : Int32) * 0 + nI i = nI i from by rw [show (4 : Int32) * 0 = 0 from rfl, Int32.zero_add]]
            refine lv_iload_n hx hb dX3_ask_51 rfl (lv_at hl 3 rfl) ?_
            refine lv_iload_n hx hb dX3_ask_52 rfl (lv_at hl 0 rfl) ?_
            refine mr_calll (va_runS (As := [.int (nI q0), .int (nI i)]) (rest := [.int (nI i), .ref (ad 2)]) ⟨hx, hb, hml, hown, hts⟩ (c_m_yes l D I Z J ad hI (mst M 0 0 0) Y H.size (nI q0) (nI i)) (va_cwS 2 hts gX3_ask_X3_yes rfl rfl rfl (by decide +kernel) ⟨Nat.le_of_ble_eq_true rfl, Nat.le_of_ble_eq_true rfl⟩) (mr_preS hK hW) rfl rfl hl.1 rfl (lv_room (Nat.le_of_ble_eq_true rfl)) dX3_ask_53 ⟨Nat.le_of_ble_eq_true rfl, Nat.le_of_ble_eq_true rfl⟩) hA hDa hW (fun r u H locs hp hW => ?_)
            obtain ⟨hu, hv9⟩ := hp
            rw [show u.1 = (mst M 0 0 0) from by rw [hu], show u.2 = Y from by rw [hu]] at hW
            rw [hv9]
            refine mr_jast hx hb hK hDa hW 2 (by decide) (fun _ _ => rfl) i (by omega) (by decide) rfl dX3_ask_56 (fun H locs hW => ?_)
            refine lv_iinc (v := nI (i + 1)) (lv' := [(3, .int (nI (i + 1))), (2, .int 0), (0, .ref (ad 0)), (1, .int (nI q0))]) hx hb dX3_ask_57 hl (k := 0) rfl (nI_1 i) (by decide) rfl (fun ls hl => ?_)
            refine lv_goto (tgt := 37) hx hb dX3_ask_60 (by decide) ?_
            exact ih (i + 1) (by omega) ls H locs _ (fun k hk => if h : k = i then by rw [lst, lrow_same, h, pk_uLs]; rfl else by rw [lst, lrow_same, pk_uLn h]; exact hY k (by omega)) (lv_sub hl [0, 1, 2, 3] rfl) hW
      exact loop 4 0 (by decide) ls H locs L (fun k hk => absurd hk (Nat.not_lt_zero k)) (lv_sub hl [0, 1, 2, 3] rfl) hW
    · exact absurd c1 (by decide)
  · skip
    have hin : ¬ inB x 8 := fun h => (inB_b2 (lim := 7) (by decide) rfl lim_7).mpr h c0
    refine lv_aload_n hx hb dX3_ask_12 rfl (lv_at hl 0 rfl) ?_
    refine lv_iconst (v := 1) hx hb dX3_ask_13 (by decide) ?_
    refine mr_calli (va_runV (As := [.int 1]) (rest := []) ⟨hx, hb, hml, hown, hts⟩ (c_m_fail l D I Z J ad hI (mst M 0 0 0) L H.size 1) (cwV 1 hts gX3_ask_X3_fail rfl rfl rfl (by decide +kernel) ⟨Nat.le_of_ble_eq_true rfl, Nat.le_of_ble_eq_true rfl⟩) (mr_preV hK hW) rfl rfl hl.1 rfl (lv_room (Nat.le_of_ble_eq_true rfl)) dX3_ask_14 ⟨Nat.le_of_ble_eq_true rfl, Nat.le_of_ble_eq_true rfl⟩) hA hDa hW (fun r u H locs hp hW => ?_)
    obtain ⟨hu, hv9⟩ := hp
    rw [show u.1 = mst (mst M 0 0 0) 0 0 1 from by rw [hu], show u.2 = L from by rw [hu]] at hW
    rw [hv9]
    exact hret 17 ls H locs _ ((mst (mst M 0 0 0) 0 0 1), L) dX3_ask_17 (⟨fun h => absurd h hin, fun _ => by show (mst (mst M 0 0 0) 0 0 1) 0 0 = _; simp only [mst_at]; simp⟩) hW
