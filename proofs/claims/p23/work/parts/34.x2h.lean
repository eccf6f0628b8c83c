abbrev rm_leaf : Room := { frames := 14, cells := 1, slots := 6, locals := 800 }
set_option maxHeartbeats 4000000 in
set_option maxRecDepth 100000 in
/-- a new fold that says the same to all -/
theorem c_leaf (l : Launch) (hst : l.stackTraces = false) (D : va_G) (I Z F : ClassId) (ad sa : Nat → Nat) (hI : cI ad) (M : Nat → Nat → Int32) (sz : Nat) (y : Int32) (hy : y = 0 ∨ y = 1) : vx_Met l yX2_leaf wsX2_leaf rm_leaf (va_Pc [.ref (ad 0), .int y] (cUX D I Z F ad sa sz M)) (va_Qi (fun (r : Int32) (u : Nat → Nat → Int32) => ∃ f : Nat, frOk M f ∧ r = nI f ∧ u = nwF M f (fun _ => y)) (fun u t => cP D I Z F ad u t.heap) (cA ad sz)) (xQ D I Z F ad M sz (fun E => E = xIS ∧ frNo M)) 1 6 (cA ad sz) := by
  refine cMetX_i (cc := cX2_leaf) (maxL := 5) hst hI (by decide) rfl ⟨rfl, rfl, by decide, by decide⟩ RX2 rfl (Nat.le_of_ble_eq_true rfl) (lv := [(0, .ref (ad 0)), (1, .int y)]) rfl ?_
  intro p e s m args below meth c Q A ls hsz C0 hX hW hl hret hthr hprp
  obtain ⟨hx, hb, hml, hts, hown, hlocks, hK, hN, hDa, hA, hargs⟩ := C0
  have hin2 : ∀ w ∈ u_ws RX2 TX2 6, w ∈ wsX2_leaf := by decide +kernel
  have hin0 : ∀ w ∈ u_ws RX0 TX0 7, w ∈ wsX2_leaf := by decide +kernel
  have hin1 : ∀ w ∈ u_ws RX1 TX1 10, w ∈ wsX2_leaf := by decide +kernel
  refine lv_aload_n hx hb dX2_leaf_0 rfl (lv_at hl 0 rfl) ?_
  refine cx_calli (vx_runV (As := []) (rest := []) ⟨hx, hb, hml, hown, hts⟩ (c_freeNumber l hst D I Z F ad sa hI M s.heap.size) (cwV 0 hts gX2_leaf_X2_freeNumber rfl rfl rfl (by decide +kernel) ⟨Nat.le_of_ble_eq_true rfl, Nat.le_of_ble_eq_true rfl⟩) (cx_preV hK hN hX hA hDa hW 0 (by decide) (cE_x I Z F ad M) rfl) rfl rfl hl.1 rfl (lv_room (Nat.le_of_ble_eq_true rfl)) dX2_leaf_1 ⟨Nat.le_of_ble_eq_true rfl, Nat.le_of_ble_eq_true rfl⟩) hA hDa hW (fun E ce q9 H locs hxp hW h1 h2 h3 => ?_) (fun r u H locs hp hW => ?_)
  · exact hprp 1 ls _ H locs 1 6 E ce q9 (hxp) hW (by decide) (by decide) h1 h2 h3
  obtain ⟨hu, f, hf, hr9⟩ := hp
  rw [hu] at hW
  rw [hr9]
  have hf12 := hf.1
  refine lv_istore_n (lv' := [(2, .int (nI f)), (0, .ref (ad 0)), (1, .int y)]) hx hb dX2_leaf_4 rfl hl (by decide) rfl (fun ls hl => ?_)
  refine lv_aload_n hx hb dX2_leaf_5 rfl (lv_at hl 1 rfl) ?_
  refine cr_get (v := .ref (ad 1)) hx hb hts hin2 hown hK hW 0 (by decide) (cE_x I Z F ad M) rfl 0 (by decide) rfl (by decide +kernel) rfl dX2_leaf_6 ?_
  refine lv_iload_n hx hb dX2_leaf_9 rfl (lv_at hl 0 rfl) ?_
  refine cr_fald hx hb hK hW f hf12 rfl dX2_leaf_10 ?_
  refine cr_getN (v := .ref (ad (25 + 6 * f + 1))) (host := "SharedForks") hx hb hts hin0 hown hK hW (25 + 6 * f) (by omega) (cE_d0 I Z F ad M f) rfl 1 (by decide) rfl hN (by decide +kernel) rfl dX2_leaf_11 ?_
  refine lv_astore_n (lv' := [(3, .ref (ad (25 + 6 * f + 1))), (2, .int (nI f)), (0, .ref (ad 0)), (1, .int y)]) hx hb dX2_leaf_14 rfl hl (by decide) rfl (fun ls hl => ?_)
  refine lv_iconst (v := 0) hx hb dX2_leaf_15 (by decide) ?_
  refine lv_istore (lv' := [(4, .int 0), (3, .ref (ad (25 + 6 * f + 1))), (2, .int (nI f)), (0, .ref (ad 0)), (1, .int y)]) hx hb dX2_leaf_16 hl (by decide) rfl (fun ls hl => ?_)
  have loop : ∀ q j : Nat, j + q = 256 → ∀ (ls : Array Slot) (H : Heap) (locs : List Loc), lv_has ls 5 [(4, .int (nI j)), (0, .ref (ad 0)), (1, .int y), (2, .int (nI f)), (3, .ref (ad (25 + 6 * f + 1)))] → cB9 D I Z F ad A s.heap (flC M (25 + 6 * f + 1) (fun _ => y) j) H locs → W p l e rm_leaf s m args below meth c H locs 1 6 Q (F0 m 18 ls []) := by
    intro q
    induction q with
    | zero =>
      intro j hj ls H locs hl hW
      obtain rfl : j = 256 := by omega
      refine lv_iload hx hb dX2_leaf_18 (lv_at hl 0 rfl) ?_
      refine lv_sipush (v := 256) hx hb dX2_leaf_20 (by decide) ?_
      refine lv_icmp_ge (tgt := 37) hx hb dX2_leaf_23 (by decide) (fun c1 => ?_) (fun c1 => ?_)
      · skip
        refine lv_aload_n hx hb dX2_leaf_37 rfl (lv_at hl 1 rfl) ?_
        refine lv_iload_n hx hb dX2_leaf_38 rfl (lv_at hl 3 rfl) ?_
        refine cr_calli (va_runV (As := [.int (nI f)]) (rest := []) ⟨hx, hb, hml, hown, hts⟩ (c_keep l D I Z F ad hI (flC M (25 + 6 * f + 1) (fun _ => y) 256) H.size f hf12) (cwV 1 hts gX2_leaf_X2_keep rfl rfl rfl (by decide +kernel) ⟨Nat.le_of_ble_eq_true rfl, Nat.le_of_ble_eq_true rfl⟩) (cr_preV hK hN hW 0 (by decide) (cE_x I Z F ad (flC M (25 + 6 * f + 1) (fun _ => y) 256)) rfl) rfl rfl hl.1 rfl (lv_room (Nat.le_of_ble_eq_true rfl)) dX2_leaf_39 ⟨Nat.le_of_ble_eq_true rfl, Nat.le_of_ble_eq_true rfl⟩) hA hDa hW (fun r u H locs hp hW => ?_)
        obtain ⟨hu, hv9⟩ := hp
        rw [hu] at hW
        rw [hv9]
        exact hret 42 ls H locs 1 6 _ _ dX2_leaf_42 (by decide) (by decide) (⟨f, hf, rfl, rfl⟩) hW
      · exact absurd (nI_le (Nat.le_refl 256) (by decide)) c1
    | succ q ih =>
      intro j hj ls H locs hl hW
      refine lv_iload hx hb dX2_leaf_18 (lv_at hl 0 rfl) ?_
      refine lv_sipush (v := 256) hx hb dX2_leaf_20 (by decide) ?_
      refine lv_icmp_ge (tgt := 37) hx hb dX2_leaf_23 (by decide) (fun c1 => ?_) (fun c1 => ?_)
      · exact absurd c1 (nI_ge (b := 256) (by omega) (by decide))
      · skip
        refine lv_aload_n hx hb dX2_leaf_26 rfl (lv_at hl 4 rfl) ?_
        refine lv_iload hx hb dX2_leaf_27 (lv_at hl 0 rfl) ?_
        refine lv_iload_n hx hb dX2_leaf_29 rfl (lv_at hl 2 rfl) ?_
        refine cr_zast hx hb hK hDa hW (25 + 6 * f + 1) (by omega) (cE_d1 I Z F ad _ f) j (by omega) (by decide) rfl (hy) dX2_leaf_30 (fun H locs hW => ?_)
        rw [flC_s M (25 + 6 * f + 1) (fun _ => y) j (v := y) (rfl)] at hW
        refine lv_iinc (v := nI (j + 1)) (lv' := [(4, .int (nI (j + 1))), (0, .ref (ad 0)), (1, .int y), (2, .int (nI f)), (3, .ref (ad (25 + 6 * f + 1)))]) hx hb dX2_leaf_31 hl (k := 0) rfl (nI_1 j) (by decide) rfl (fun ls hl => ?_)
        refine lv_goto (tgt := 18) hx hb dX2_leaf_34 (by decide) ?_
        exact ih (j + 1) (by omega) ls H locs (lv_sub hl [0, 1, 2, 3, 4] rfl) hW
  exact loop 256 0 (by decide) ls H locs (lv_sub hl [0, 3, 4, 2, 1] rfl) (by rw [flC_0]; exact hW)

abbrev rm_ask : Room := { frames := 14, cells := 2, slots := 12, locals := 800 }
set_option maxHeartbeats 4000000 in
set_option maxRecDepth 100000 in
/-- a new fold that says what is answered to a question -/
theorem c_ask (l : Launch) (hst : l.stackTraces = false) (D : va_G) (I Z F : ClassId) (ad sa : Nat → Nat) (hI : cI ad) (M : Nat → Nat → Int32) (sz : Nat) (x : Int32) : vx_Met l yX2_ask wsX2_ask rm_ask (va_Pc [.ref (ad 0), .int x] (cUX D I Z F ad sa sz M)) (va_Qi (fun (r : Int32) (u : Nat → Nat → Int32) => ∃ f : Nat, inB x 8 ∧ frOk M f ∧ r = nI f ∧ u = nwF M f (fun j => isF (nI j) x)) (fun u t => cP D I Z F ad u t.heap) (cA ad sz)) (xQ D I Z F ad M sz (fun E => xpN M (inB x 8) E)) 2 12 (cA ad sz) := by
  refine cMetX_i (cc := cX2_ask) (maxL := 5) hst hI (by decide) rfl ⟨rfl, rfl, by decide, by decide⟩ RX2 rfl (Nat.le_of_ble_eq_true rfl) (lv := [(0, .ref (ad 0)), (1, .int x)]) rfl ?_
  intro p e s m args below meth c Q A ls hsz C0 hX hW hl hret hthr hprp
  obtain ⟨hx, hb, hml, hts, hown, hlocks, hK, hN, hDa, hA, hargs⟩ := C0
  have hin2 : ∀ w ∈ u_ws RX2 TX2 6, w ∈ wsX2_ask := by decide +kernel
  have hin0 : ∀ w ∈ u_ws RX0 TX0 7, w ∈ wsX2_ask := by decide +kernel
  have hin1 : ∀ w ∈ u_ws RX1 TX1 10, w ∈ wsX2_ask := by decide +kernel
  refine lv_iload_n hx hb dX2_ask_0 rfl (lv_at hl 1 rfl) ?_
  refine lv_bipush (v := 8) hx hb dX2_ask_1 (by decide) ?_
  refine cx_callv (vx_runS (As := [.int x, .int 8]) (rest := []) ⟨hx, hb, hml, hown, hts⟩ (c_checkBelow l hst D I Z F ad sa hI M s.heap.size x 8) (va_cwS 2 hts gX2_ask_X2_checkBelow rfl rfl rfl (by decide +kernel) ⟨Nat.le_of_ble_eq_true rfl, Nat.le_of_ble_eq_true rfl⟩) (cx_preS hK hN hX hA hDa hW) rfl rfl hl.1 rfl (lv_room (Nat.le_of_ble_eq_true rfl)) dX2_ask_3 ⟨Nat.le_of_ble_eq_true rfl, Nat.le_of_ble_eq_true rfl⟩) hA hDa hW (fun E ce q9 H locs hxp hW h1 h2 h3 => ?_) (fun u H locs hp hW => ?_)
  · exact hprp 3 ls _ H locs 1 6 E ce q9 (Or.inl ⟨hxp.1, inB_no (n := 8) (by decide) hxp.2⟩) hW (by decide) (by decide) h1 h2 h3
  obtain ⟨hu, hb1, hb2⟩ := hp
  rw [hu] at hW
  have hin : inB x 8 := inB_of (n := 8) (by decide) hb1 hb2
  refine lv_aload_n hx hb dX2_ask_6 rfl (lv_at hl 0 rfl) ?_
  refine cx_calli (vx_runV (As := []) (rest := []) ⟨hx, hb, hml, hown, hts⟩ (c_freeNumber l hst D I Z F ad sa hI M H.size) (cwV 0 hts gX2_ask_X2_freeNumber rfl rfl rfl (by decide +kernel) ⟨Nat.le_of_ble_eq_true rfl, Nat.le_of_ble_eq_true rfl⟩) (cx_preV hK hN hX hA hDa hW 0 (by decide) (cE_x I Z F ad M) rfl) rfl rfl hl.1 rfl (lv_room (Nat.le_of_ble_eq_true rfl)) dX2_ask_7 ⟨Nat.le_of_ble_eq_true rfl, Nat.le_of_ble_eq_true rfl⟩) hA hDa hW (fun E ce q9 H locs hxp hW h1 h2 h3 => ?_) (fun r u H locs hp hW => ?_)
  · exact hprp 7 ls _ H locs 2 12 E ce q9 (Or.inr ⟨hxp.1, hin, hxp.2⟩) hW (by decide) (by decide) h1 h2 h3
  obtain ⟨hu, f, hf, hr9⟩ := hp
  rw [hu] at hW
  rw [hr9]
  have hf12 := hf.1
  refine lv_istore_n (lv' := [(2, .int (nI f)), (0, .ref (ad 0)), (1, .int x)]) hx hb dX2_ask_10 rfl hl (by decide) rfl (fun ls hl => ?_)
  refine lv_aload_n hx hb dX2_ask_11 rfl (lv_at hl 1 rfl) ?_
  refine cr_get (v := .ref (ad 1)) hx hb hts hin2 hown hK hW 0 (by decide) (cE_x I Z F ad M) rfl 0 (by decide) rfl (by decide +kernel) rfl dX2_ask_12 ?_
  refine lv_iload_n hx hb dX2_ask_15 rfl (lv_at hl 0 rfl) ?_
  refine cr_fald hx hb hK hW f hf12 rfl dX2_ask_16 ?_
  refine cr_getN (v := .ref (ad (25 + 6 * f + 1))) (host := "SharedForks") hx hb hts hin0 hown hK hW (25 + 6 * f) (by omega) (cE_d0 I Z F ad M f) rfl 1 (by decide) rfl hN (by decide +kernel) rfl dX2_ask_17 ?_
  refine lv_astore_n (lv' := [(3, .ref (ad (25 + 6 * f + 1))), (2, .int (nI f)), (0, .ref (ad 0)), (1, .int x)]) hx hb dX2_ask_20 rfl hl (by decide) rfl (fun ls hl => ?_)
  refine lv_iconst (v := 0) hx hb dX2_ask_21 (by decide) ?_
  refine lv_istore (lv' := [(4, .int 0), (3, .ref (ad (25 + 6 * f + 1))), (2, .int (nI f)), (0, .ref (ad 0)), (1, .int x)]) hx hb dX2_ask_22 hl (by decide) rfl (fun ls hl => ?_)
  have loop : ∀ q j : Nat, j + q = 256 → ∀ (ls : Array Slot) (H : Heap) (locs : List Loc), lv_has ls 5 [(4, .int (nI j)), (0, .ref (ad 0)), (1, .int x), (2, .int (nI f)), (3, .ref (ad (25 + 6 * f + 1)))] → cB9 D I Z F ad A s.heap (flC M (25 + 6 * f + 1) (fun j => isF (nI j) x) j) H locs → W p l e rm_ask s m args below meth c H locs 2 12 Q (F0 m 24 ls []) := by
    intro q
    induction q with
    | zero =>
      intro j hj ls H locs hl hW
      obtain rfl : j = 256 := by omega
      refine lv_iload hx hb dX2_ask_24 (lv_at hl 0 rfl) ?_
      refine lv_sipush (v := 256) hx hb dX2_ask_26 (by decide) ?_
      refine lv_icmp_ge (tgt := 48) hx hb dX2_ask_29 (by decide) (fun c1 => ?_) (fun c1 => ?_)
      · skip
        refine lv_aload_n hx hb dX2_ask_48 rfl (lv_at hl 1 rfl) ?_
        refine lv_iload_n hx hb dX2_ask_49 rfl (lv_at hl 3 rfl) ?_
        refine cr_calli (va_runV (As := [.int (nI f)]) (rest := []) ⟨hx, hb, hml, hown, hts⟩ (c_keep l D I Z F ad hI (flC M (25 + 6 * f + 1) (fun j => isF (nI j) x) 256) H.size f hf12) (cwV 1 hts gX2_ask_X2_keep rfl rfl rfl (by decide +kernel) ⟨Nat.le_of_ble_eq_true rfl, Nat.le_of_ble_eq_true rfl⟩) (cr_preV hK hN hW 0 (by decide) (cE_x I Z F ad (flC M (25 + 6 * f + 1) (fun j => isF (nI j) x) 256)) rfl) rfl rfl hl.1 rfl (lv_room (Nat.le_of_ble_eq_true rfl)) dX2_ask_50 ⟨Nat.le_of_ble_eq_true rfl, Nat.le_of_ble_eq_true rfl⟩) hA hDa hW (fun r u H locs hp hW => ?_)
        obtain ⟨hu, hv9⟩ := hp
        rw [hu] at hW
        rw [hv9]
        exact hret 53 ls H locs 2 12 _ _ dX2_ask_53 (by decide) (by decide) (⟨f, hin, hf, rfl, rfl⟩) hW
      · exact absurd (nI_le (Nat.le_refl 256) (by decide)) c1
    | succ q ih =>
      intro j hj ls H locs hl hW
      refine lv_iload hx hb dX2_ask_24 (lv_at hl 0 rfl) ?_
      refine lv_sipush (v := 256) hx hb dX2_ask_26 (by decide) ?_
      refine lv_icmp_ge (tgt := 48) hx hb dX2_ask_29 (by decide) (fun c1 => ?_) (fun c1 => ?_)
      · exact absurd c1 (nI_ge (b := 256) (by omega) (by decide))
      · skip
        refine lv_aload_n hx hb dX2_ask_32 rfl (lv_at hl 4 rfl) ?_
        refine lv_iload hx hb dX2_ask_33 (lv_at hl 0 rfl) ?_
        refine lv_iload hx hb dX2_ask_35 (lv_at hl 0 rfl) ?_
        refine lv_iload_n hx hb dX2_ask_37 rfl (lv_at hl 2 rfl) ?_
        refine cr_calli (va_runS (As := [.int (nI j), .int x]) (rest := [.int (nI j), .ref (ad (25 + 6 * f + 1))]) ⟨hx, hb, hml, hown, hts⟩ (c_isYes l D I Z F ad hI (flC M (25 + 6 * f + 1) (fun j => isF (nI j) x) j) H.size (nI j) x) (va_cwS 2 hts gX2_ask_X2_isYes rfl rfl rfl (by decide +kernel) ⟨Nat.le_of_ble_eq_true rfl, Nat.le_of_ble_eq_true rfl⟩) (cr_preS hK hN hW) rfl rfl hl.1 rfl (lv_room (Nat.le_of_ble_eq_true rfl)) dX2_ask_38 ⟨Nat.le_of_ble_eq_true rfl, Nat.le_of_ble_eq_true rfl⟩) hA hDa hW (fun r u H locs hp hW => ?_)
        obtain ⟨hu, hv9⟩ := hp
        rw [hu] at hW
        rw [hv9]
        refine cr_zast hx hb hK hDa hW (25 + 6 * f + 1) (by omega) (cE_d1 I Z F ad _ f) j (by omega) (by decide) rfl (b2_01 _) dX2_ask_41 (fun H locs hW => ?_)
        rw [flC_s M (25 + 6 * f + 1) (fun j => isF (nI j) x) j (v := isF (nI j) x) (rfl)] at hW
        refine lv_iinc (v := nI (j + 1)) (lv' := [(4, .int (nI (j + 1))), (0, .ref (ad 0)), (1, .int x), (2, .int (nI f)), (3, .ref (ad (25 + 6 * f + 1)))]) hx hb dX2_ask_42 hl (k := 0) rfl (nI_1 j) (by decide) rfl (fun ls hl => ?_)
        refine lv_goto (tgt := 24) hx hb dX2_ask_45 (by decide) ?_
        exact ih (j + 1) (by omega) ls H locs (lv_sub hl [0, 1, 2, 3, 4] rfl) hW
  exact loop 256 0 (by decide) ls H locs (lv_sub hl [0, 3, 4, 2, 1] rfl) (by rw [flC_0]; exact hW)
