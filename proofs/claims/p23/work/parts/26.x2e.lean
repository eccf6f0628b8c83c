abbrev rm_leastAsked : Room := { frames := 2, cells := 0, slots := 0, locals := 200 }
set_option maxHeartbeats 4000000 in
set_option maxRecDepth 100000 in
theorem c_leastAsked (l : Launch) (D : va_G) (I Z F : ClassId) (ad : Nat → Nat) (hI : cI ad) (M : Nat → Nat → Int32) (sz : Nat) (f : Nat) (hf : f < 12) (n z : Nat) (hn6 : n ≤ 626) (hz7 : z ≤ 77) (hz : M (25 + 6 * f) 2 = nI z) (hrw : ∀ i : Nat, i < z → ∃ k : Nat, k < n ∧ M (25 + 6 * f + 2) i = nI k) : Met l yX2_leastAsked wsX2_leastAsked rm_leastAsked (va_Pc [.ref (ad 0), .ref (ad (25 + 6 * f))] (cU D I Z F ad sz M)) (va_Qi (fun (r : Int32) (u : Nat → Nat → Int32) => u = M ∧ r = mnL (caT M (25 + 6 * f)) 256) (fun u t => cP D I Z F ad u t.heap) (cA ad sz)) 0 0 (cA ad sz) := by
  refine cMet_i (cc := cX2_leastAsked) (maxL := 4) hI (by decide) rfl ⟨rfl, rfl⟩ RX2 rfl (Nat.le_of_ble_eq_true rfl) (lv := [(0, .ref (ad 0)), (1, .ref (ad (25 + 6 * f)))]) rfl ?_
  intro p e s m args below meth c Q A ls hsz C0 hW hl hret
  obtain ⟨hx, hb, hml, hts, hown, hlocks, hK, hN, hDa, hA, hargs⟩ := C0
  have hin2 : ∀ w ∈ u_ws RX2 TX2 6, w ∈ wsX2_leastAsked := by decide +kernel
  have hin0 : ∀ w ∈ u_ws RX0 TX0 7, w ∈ wsX2_leastAsked := by decide +kernel
  have hin1 : ∀ w ∈ u_ws RX1 TX1 10, w ∈ wsX2_leastAsked := by decide +kernel
  refine lv_bipush (v := 8) hx hb dX2_leastAsked_0 (by decide) ?_
  refine lv_istore_n (lv' := [(2, .int 8), (0, .ref (ad 0)), (1, .ref (ad (25 + 6 * f)))]) hx hb dX2_leastAsked_2 rfl hl (by decide) rfl (fun ls hl => ?_)
  refine lv_iconst (v := 0) hx hb dX2_leastAsked_3 (by decide) ?_
  refine lv_istore_n (lv' := [(3, .int 0), (2, .int 8), (0, .ref (ad 0)), (1, .ref (ad (25 + 6 * f)))]) hx hb dX2_leastAsked_4 rfl hl (by decide) rfl (fun ls hl => ?_)
  have loop : ∀ q i : Nat, i + q = 256 → ∀ (ls : Array Slot) (H : Heap) (locs : List Loc), lv_has ls 4 [(3, .int (nI i)), (2, .int (mnL (caT M (25 + 6 * f)) i)), (0, .ref (ad 0)), (1, .ref (ad (25 + 6 * f)))] → cB9 D I Z F ad A s.heap M H locs → W p l e rm_leastAsked s m args below meth c H locs 0 0 Q (F0 m 5 ls []) := by
    intro q
    induction q with
    | zero =>
      intro i hi ls H locs hl hW
      obtain rfl : i = 256 := by omega
      refine lv_iload_n hx hb dX2_leastAsked_5 rfl (lv_at hl 0 rfl) ?_
      refine lv_sipush (v := 256) hx hb dX2_leastAsked_6 (by decide) ?_
      refine lv_icmp_ge (tgt := 29) hx hb dX2_leastAsked_9 (by decide) (fun c1 => ?_) (fun c1 => ?_)
      · skip
        refine lv_iload_n hx hb dX2_leastAsked_29 rfl (lv_at hl 1 rfl) ?_
        exact hret 30 ls H locs _ _ dX2_leastAsked_30 ⟨rfl, rfl⟩ hW
      · exact absurd (nI_le (Nat.le_refl 256) (by decide)) c1
    | succ q ih =>
      intro i hi ls H locs hl hW
      refine lv_iload_n hx hb dX2_leastAsked_5 rfl (lv_at hl 0 rfl) ?_
      refine lv_sipush (v := 256) hx hb dX2_leastAsked_6 (by decide) ?_
      refine lv_icmp_ge (tgt := 29) hx hb dX2_leastAsked_9 (by decide) (fun c1 => ?_) (fun c1 => ?_)
      · exact absurd c1 (nI_ge (b := 256) (by omega) (by decide))
      · skip
        refine lv_iload_n hx hb dX2_leastAsked_12 rfl (lv_at hl 1 rfl) ?_
        refine lv_aload_n hx hb dX2_leastAsked_13 rfl (lv_at hl 2 rfl) ?_
        refine lv_aload_n hx hb dX2_leastAsked_14 rfl (lv_at hl 3 rfl) ?_
        refine lv_iload_n hx hb dX2_leastAsked_15 rfl (lv_at hl 0 rfl) ?_
        refine cr_calli (va_runV (As := [.ref (ad (25 + 6 * f)), .int (nI i)]) (rest := [.int (mnL (caT M (25 + 6 * f)) i)]) ⟨hx, hb, hml, hown, hts⟩ (c_countAsked l D I Z F ad hI M H.size f hf n z hn6 hz7 hz hrw (nI i)) (cwV 2 hts gX2_leastAsked_X2_countAsked rfl rfl rfl (by decide +kernel) ⟨Nat.le_of_ble_eq_true rfl, Nat.le_of_ble_eq_true rfl⟩) (cr_preV hK hN hW 0 (by decide) (cE_x I Z F ad M) rfl) rfl rfl hl.1 rfl (lv_room (Nat.le_of_ble_eq_true rfl)) dX2_leastAsked_16 ⟨Nat.le_refl _, Nat.le_refl _⟩) hA hDa hW (fun r u H locs hp hW => ?_)
        obtain ⟨hu, hv9⟩ := hp
        rw [hu] at hW
        rw [hv9, show caF M (25 + 6 * f) (nI i) = caT M (25 + 6 * f) i from rfl]
        refine va_mmin hx hb (hml.trans hl.1.symm) hown (hts (.methodLink RX2 204 Lib.Math.min.name) (by decide +kernel)) (hts (.static Lib.Math.min.name) (by decide +kernel)) (hts (.initialized "java/lang/Math") (by decide +kernel)) (hts (.code Lib.Math.min.name Lib.Math.min.code 2 (some .int)) (by decide +kernel)) (by decide) (by decide) (by decide) (by decide) dX2_leastAsked_19 ?_
        rw [show (if caT M (25 + 6 * f) i < mnL (caT M (25 + 6 * f)) i then caT M (25 + 6 * f) i else mnL (caT M (25 + 6 * f)) i) = mnL (caT M (25 + 6 * f)) (i + 1) from rfl]
        refine lv_istore_n (lv' := [(2, .int (mnL (caT M (25 + 6 * f)) (i + 1))), (3, .int (nI i)), (0, .ref (ad 0)), (1, .ref (ad (25 + 6 * f)))]) hx hb dX2_leastAsked_22 rfl hl (by decide) rfl (fun ls hl => ?_)
        refine lv_iinc (v := nI (i + 1)) (lv' := [(3, .int (nI (i + 1))), (2, .int (mnL (caT M (25 + 6 * f)) (i + 1))), (0, .ref (ad 0)), (1, .ref (ad (25 + 6 * f)))]) hx hb dX2_leastAsked_23 hl (k := 1) rfl (nI_1 i) (by decide) rfl (fun ls hl => ?_)
        refine lv_goto (tgt := 5) hx hb dX2_leastAsked_26 (by decide) ?_
        exact ih (i + 1) (by omega) ls H locs (lv_sub hl [0, 1, 2, 3] rfl) hW
  exact loop 256 0 (by decide) ls _ _ (lv_sub hl [0, 1, 2, 3] rfl) hW

abbrev rm_mostAsked : Room := { frames := 2, cells := 0, slots := 0, locals := 200 }
set_option maxHeartbeats 4000000 in
set_option maxRecDepth 100000 in
theorem c_mostAsked (l : Launch) (D : va_G) (I Z F : ClassId) (ad : Nat → Nat) (hI : cI ad) (M : Nat → Nat → Int32) (sz : Nat) (f : Nat) (hf : f < 12) (n z : Nat) (hn6 : n ≤ 626) (hz7 : z ≤ 77) (hz : M (25 + 6 * f) 2 = nI z) (hrw : ∀ i : Nat, i < z → ∃ k : Nat, k < n ∧ M (25 + 6 * f + 2) i = nI k) : Met l yX2_mostAsked wsX2_mostAsked rm_mostAsked (va_Pc [.ref (ad 0), .ref (ad (25 + 6 * f))] (cU D I Z F ad sz M)) (va_Qi (fun (r : Int32) (u : Nat → Nat → Int32) => u = M ∧ r = mxL (caT M (25 + 6 * f)) 256) (fun u t => cP D I Z F ad u t.heap) (cA ad sz)) 0 0 (cA ad sz) := by
  refine cMet_i (cc := cX2_mostAsked) (maxL := 4) hI (by decide) rfl ⟨rfl, rfl⟩ RX2 rfl (Nat.le_of_ble_eq_true rfl) (lv := [(0, .ref (ad 0)), (1, .ref (ad (25 + 6 * f)))]) rfl ?_
  intro p e s m args below meth c Q A ls hsz C0 hW hl hret
  obtain ⟨hx, hb, hml, hts, hown, hlocks, hK, hN, hDa, hA, hargs⟩ := C0
  have hin2 : ∀ w ∈ u_ws RX2 TX2 6, w ∈ wsX2_mostAsked := by decide +kernel
  have hin0 : ∀ w ∈ u_ws RX0 TX0 7, w ∈ wsX2_mostAsked := by decide +kernel
  have hin1 : ∀ w ∈ u_ws RX1 TX1 10, w ∈ wsX2_mostAsked := by decide +kernel
  refine lv_iconst (v := 0) hx hb dX2_mostAsked_0 (by decide) ?_
  refine lv_istore_n (lv' := [(2, .int 0), (0, .ref (ad 0)), (1, .ref (ad (25 + 6 * f)))]) hx hb dX2_mostAsked_1 rfl hl (by decide) rfl (fun ls hl => ?_)
  refine lv_iconst (v := 0) hx hb dX2_mostAsked_2 (by decide) ?_
  refine lv_istore_n (lv' := [(3, .int 0), (2, .int 0), (0, .ref (ad 0)), (1, .ref (ad (25 + 6 * f)))]) hx hb dX2_mostAsked_3 rfl hl (by decide) rfl (fun ls hl => ?_)
  have loop : ∀ q i : Nat, i + q = 256 → ∀ (ls : Array Slot) (H : Heap) (locs : List Loc), lv_has ls 4 [(3, .int (nI i)), (2, .int (mxL (caT M (25 + 6 * f)) i)), (0, .ref (ad 0)), (1, .ref (ad (25 + 6 * f)))] → cB9 D I Z F ad A s.heap M H locs → W p l e rm_mostAsked s m args below meth c H locs 0 0 Q (F0 m 4 ls []) := by
    intro q
    induction q with
    | zero =>
      intro i hi ls H locs hl hW
      obtain rfl : i = 256 := by omega
      refine lv_iload_n hx hb dX2_mostAsked_4 rfl (lv_at hl 0 rfl) ?_
      refine lv_sipush (v := 256) hx hb dX2_mostAsked_5 (by decide) ?_
      refine lv_icmp_ge (tgt := 28) hx hb dX2_mostAsked_8 (by decide) (fun c1 => ?_) (fun c1 => ?_)
      · skip
        refine lv_iload_n hx hb dX2_mostAsked_28 rfl (lv_at hl 1 rfl) ?_
        exact hret 29 ls H locs _ _ dX2_mostAsked_29 ⟨rfl, rfl⟩ hW
      · exact absurd (nI_le (Nat.le_refl 256) (by decide)) c1
    | succ q ih =>
      intro i hi ls H locs hl hW
      refine lv_iload_n hx hb dX2_mostAsked_4 rfl (lv_at hl 0 rfl) ?_
      refine lv_sipush (v := 256) hx hb dX2_mostAsked_5 (by decide) ?_
      refine lv_icmp_ge (tgt := 28) hx hb dX2_mostAsked_8 (by decide) (fun c1 => ?_) (fun c1 => ?_)
      · exact absurd c1 (nI_ge (b := 256) (by omega) (by decide))
      · skip
        refine lv_iload_n hx hb dX2_mostAsked_11 rfl (lv_at hl 1 rfl) ?_
        refine lv_aload_n hx hb dX2_mostAsked_12 rfl (lv_at hl 2 rfl) ?_
        refine lv_aload_n hx hb dX2_mostAsked_13 rfl (lv_at hl 3 rfl) ?_
        refine lv_iload_n hx hb dX2_mostAsked_14 rfl (lv_at hl 0 rfl) ?_
        refine cr_calli (va_runV (As := [.ref (ad (25 + 6 * f)), .int (nI i)]) (rest := [.int (mxL (caT M (25 + 6 * f)) i)]) ⟨hx, hb, hml, hown, hts⟩ (c_countAsked l D I Z F ad hI M H.size f hf n z hn6 hz7 hz hrw (nI i)) (cwV 2 hts gX2_mostAsked_X2_countAsked rfl rfl rfl (by decide +kernel) ⟨Nat.le_of_ble_eq_true rfl, Nat.le_of_ble_eq_true rfl⟩) (cr_preV hK hN hW 0 (by decide) (cE_x I Z F ad M) rfl) rfl rfl hl.1 rfl (lv_room (Nat.le_of_ble_eq_true rfl)) dX2_mostAsked_15 ⟨Nat.le_refl _, Nat.le_refl _⟩) hA hDa hW (fun r u H locs hp hW => ?_)
        obtain ⟨hu, hv9⟩ := hp
        rw [hu] at hW
        rw [hv9, show caF M (25 + 6 * f) (nI i) = caT M (25 + 6 * f) i from rfl]
        refine va_mmax hx hb (hml.trans hl.1.symm) hown (hts (.methodLink RX2 210 Lib.Math.max.name) (by decide +kernel)) (hts (.static Lib.Math.max.name) (by decide +kernel)) (hts (.initialized "java/lang/Math") (by decide +kernel)) (hts (.code Lib.Math.max.name Lib.Math.max.code 2 (some .int)) (by decide +kernel)) (by decide) (by decide) (by decide) (by decide) dX2_mostAsked_18 ?_
        rw [show (if mxL (caT M (25 + 6 * f)) i < caT M (25 + 6 * f) i then caT M (25 + 6 * f) i else mxL (caT M (25 + 6 * f)) i) = mxL (caT M (25 + 6 * f)) (i + 1) from rfl]
        refine lv_istore_n (lv' := [(2, .int (mxL (caT M (25 + 6 * f)) (i + 1))), (3, .int (nI i)), (0, .ref (ad 0)), (1, .ref (ad (25 + 6 * f)))]) hx hb dX2_mostAsked_21 rfl hl (by decide) rfl (fun ls hl => ?_)
        refine lv_iinc (v := nI (i + 1)) (lv' := [(3, .int (nI (i + 1))), (2, .int (mxL (caT M (25 + 6 * f)) (i + 1))), (0, .ref (ad 0)), (1, .ref (ad (25 + 6 * f)))]) hx hb dX2_mostAsked_22 hl (k := 1) rfl (nI_1 i) (by decide) rfl (fun ls hl => ?_)
        refine lv_goto (tgt := 4) hx hb dX2_mostAsked_25 (by decide) ?_
        exact ih (i + 1) (by omega) ls H locs (lv_sub hl [0, 1, 2, 3] rfl) hW
  exact loop 256 0 (by decide) ls _ _ (lv_sub hl [0, 1, 2, 3] rfl) hW

def sjT (M : Nat → Nat → Int32) (f1 f2 wh : Nat) : Nat → Int32 := fun j => jnF (M (25 + 6 * f1 + 1) j) (M (25 + 6 * f2 + 1) j) wh
def sjF (M : Nat → Nat → Int32) (f1 f2 wh yi : Nat) : Nat → Nat → Int32 := flC M yi (sjT M f1 f2 wh) 256
theorem jnF_01 (a b : Int32) (wh : Nat) : jnF a b wh = 0 ∨ jnF a b wh = 1 := by
  unfold jnF; split <;> exact b2_01 _
abbrev rm_sayJoined : Room := { frames := 1, cells := 0, slots := 0, locals := 100 }
set_option maxHeartbeats 4000000 in
set_option maxRecDepth 100000 in
/-- two folds joined, into the cell yi -/
theorem c_sayJoined (l : Launch) (D : va_G) (I Z F : ClassId) (ad : Nat → Nat) (hI : cI ad) (M : Nat → Nat → Int32) (sz : Nat) (f1 f2 : Nat) (hf1 : f1 < 12) (hf2 : f2 < 12) (wh : Nat) (hwh : wh < 6) (yi : Nat) (hyi : yi < 97) (hye : cE I Z F ad M yi = .inl (Z, 256, .inl (M yi))) (hn1 : yi ≠ 25 + 6 * f1 + 1) (hn2 : yi ≠ 25 + 6 * f2 + 1) : Met l yX2_sayJoined wsX2_sayJoined rm_sayJoined (va_Pc [.ref (ad (25 + 6 * f1)), .ref (ad (25 + 6 * f2)), .int (nI wh), .ref (ad yi)] (cU D I Z F ad sz M)) (va_Qv (fun (u : Nat → Nat → Int32) => u = sjF M f1 f2 wh yi) (fun u t => cP D I Z F ad u t.heap) (cA ad sz)) 0 0 (cA ad sz) := by
  refine cMet_v (cc := cX2_sayJoined) (maxL := 5) hI (by decide) rfl ⟨rfl, rfl⟩ RX2 rfl (Nat.le_of_ble_eq_true rfl) (lv := [(0, .ref (ad (25 + 6 * f1))), (1, .ref (ad (25 + 6 * f2))), (2, .int (nI wh)), (3, .ref (ad yi))]) rfl ?_
  intro p e s m args below meth c Q A ls hsz C0 hW hl hret
  obtain ⟨hx, hb, hml, hts, hown, hlocks, hK, hN, hDa, hA, hargs⟩ := C0
  have hin0 : ∀ w ∈ u_ws RX0 TX0 7, w ∈ wsX2_sayJoined := by decide +kernel
  refine lv_iconst (v := 0) hx hb dX2_sayJoined_0 (by decide) ?_
  refine lv_istore (lv' := [(4, .int 0), (0, .ref (ad (25 + 6 * f1))), (1, .ref (ad (25 + 6 * f2))), (2, .int (nI wh)), (3, .ref (ad yi))]) hx hb dX2_sayJoined_1 hl (by decide) rfl (fun ls hl => ?_)
  have loop : ∀ q i : Nat, i + q = 256 → ∀ (ls : Array Slot) (H : Heap) (locs : List Loc), lv_has ls 5 [(4, .int (nI i)), (0, .ref (ad (25 + 6 * f1))), (1, .ref (ad (25 + 6 * f2))), (2, .int (nI wh)), (3, .ref (ad yi))] → cB9 D I Z F ad A s.heap (flC M yi (sjT M f1 f2 wh) i) H locs → W p l e rm_sayJoined s m args below meth c H locs 0 0 Q (F0 m 3 ls []) := by
    intro q
    induction q with
    | zero =>
      intro i hi ls H locs hl hW
      obtain rfl : i = 256 := by omega
      refine lv_iload hx hb dX2_sayJoined_3 (lv_at hl 0 rfl) ?_
      refine lv_sipush (v := 256) hx hb dX2_sayJoined_5 (by decide) ?_
      refine lv_icmp_ge (tgt := 39) hx hb dX2_sayJoined_8 (by decide) (fun c1 => ?_) (fun c1 => ?_)
      · skip
        exact hret 39 ls H locs _ dX2_sayJoined_39 rfl hW
      · exact absurd (nI_le (Nat.le_refl 256) (by decide)) c1
    | succ q ih =>
      intro i hi ls H locs hl hW
      refine lv_iload hx hb dX2_sayJoined_3 (lv_at hl 0 rfl) ?_
      refine lv_sipush (v := 256) hx hb dX2_sayJoined_5 (by decide) ?_
      refine lv_icmp_ge (tgt := 39) hx hb dX2_sayJoined_8 (by decide) (fun c1 => ?_) (fun c1 => ?_)
      · exact absurd c1 (nI_ge (b := 256) (by omega) (by decide))
      · skip
        have e1 : flC M yi (sjT M f1 f2 wh) i (25 + 6 * f1 + 1) = M (25 + 6 * f1 + 1) := flC_row (Ne.symm hn1)
        have e2 : flC M yi (sjT M f1 f2 wh) i (25 + 6 * f2 + 1) = M (25 + 6 * f2 + 1) := flC_row (Ne.symm hn2)
        refine lv_aload_n hx hb dX2_sayJoined_11 rfl (lv_at hl 4 rfl) ?_
        refine lv_iload hx hb dX2_sayJoined_12 (lv_at hl 0 rfl) ?_
        refine lv_aload_n hx hb dX2_sayJoined_14 rfl (lv_at hl 1 rfl) ?_
        refine cr_getN (v := .ref (ad (25 + 6 * f1 + 1))) (host := "SharedForks") hx hb hts hin0 hown hK hW (25 + 6 * f1) (by omega) (cE_d0 I Z F ad (flC M yi (sjT M f1 f2 wh) i) f1) rfl 1 (by decide) rfl hN (by decide +kernel) rfl dX2_sayJoined_15 ?_
        refine lv_iload hx hb dX2_sayJoined_18 (lv_at hl 0 rfl) ?_
        refine cr_zald hx hb hK hW (25 + 6 * f1 + 1) (by omega) (cE_d1 I Z F ad (flC M yi (sjT M f1 f2 wh) i) f1) i (by omega) (by decide) rfl dX2_sayJoined_20 ?_
        rw [e1]
        refine lv_aload_n hx hb dX2_sayJoined_21 rfl (lv_at hl 2 rfl) ?_
        refine cr_getN (v := .ref (ad (25 + 6 * f2 + 1))) (host := "SharedForks") hx hb hts hin0 hown hK hW (25 + 6 * f2) (by omega) (cE_d0 I Z F ad (flC M yi (sjT M f1 f2 wh) i) f2) rfl 1 (by decide) rfl hN (by decide +kernel) rfl dX2_sayJoined_22 ?_
        refine lv_iload hx hb dX2_sayJoined_25 (lv_at hl 0 rfl) ?_
        refine cr_zald hx hb hK hW (25 + 6 * f2 + 1) (by omega) (cE_d1 I Z F ad (flC M yi (sjT M f1 f2 wh) i) f2) i (by omega) (by decide) rfl dX2_sayJoined_27 ?_
        rw [e2]
        refine lv_iload_n hx hb dX2_sayJoined_28 rfl (lv_at hl 3 rfl) ?_
        refine cr_calli (va_runS (As := [.int (M (25 + 6 * f1 + 1) i), .int (M (25 + 6 * f2 + 1) i), .int (nI wh)]) (rest := [.int (nI i), .ref (ad yi)]) ⟨hx, hb, hml, hown, hts⟩ (c_joined l D I Z F ad hI (flC M yi (sjT M f1 f2 wh) i) H.size (M (25 + 6 * f1 + 1) i) (M (25 + 6 * f2 + 1) i) wh hwh) (va_cwS 3 hts gX2_sayJoined_X2_joined rfl rfl rfl (by decide +kernel) ⟨Nat.le_of_ble_eq_true rfl, Nat.le_of_ble_eq_true rfl⟩) (cr_preS hK hN hW) rfl rfl hl.1 rfl (lv_room (Nat.le_of_ble_eq_true rfl)) dX2_sayJoined_29 ⟨Nat.le_refl _, Nat.le_refl _⟩) hA hDa hW (fun r u H locs hp hW => ?_)
        obtain ⟨hu, hv9⟩ := hp
        rw [hu] at hW
        rw [hv9]
        refine cr_zast hx hb hK hDa hW yi hyi (cE_arr hye _) i (by omega) (by decide) rfl (jnF_01 _ _ _) dX2_sayJoined_32 (fun H locs hW => ?_)
        rw [flC_s M yi (sjT M f1 f2 wh) i (v := jnF (M (25 + 6 * f1 + 1) i) (M (25 + 6 * f2 + 1) i) wh) rfl] at hW
        refine lv_iinc (v := nI (i + 1)) (lv' := [(4, .int (nI (i + 1))), (0, .ref (ad (25 + 6 * f1))), (1, .ref (ad (25 + 6 * f2))), (2, .int (nI wh)), (3, .ref (ad yi))]) hx hb dX2_sayJoined_33 hl (k := 0) rfl (nI_1 i) (by decide) rfl (fun ls hl => ?_)
        refine lv_goto (tgt := 3) hx hb dX2_sayJoined_36 (by decide) ?_
        exact ih (i + 1) (by omega) ls H locs (lv_sub hl [0, 1, 2, 3, 4] rfl) hW
  exact loop 256 0 (by decide) ls _ _ (lv_sub hl [0, 1, 2, 3, 4] rfl) (by rw [flC_0]; exact hW)

abbrev rm_keep : Room := { frames := 13, cells := 0, slots := 0, locals := 700 }
set_option maxHeartbeats 4000000 in
set_option maxRecDepth 100000 in
/-- a new fold is kept -/
theorem c_keep (l : Launch) (D : va_G) (I Z F : ClassId) (ad : Nat → Nat) (hI : cI ad) (M : Nat → Nat → Int32) (sz : Nat) (f : Nat) (hf : f < 12) : Met l yX2_keep wsX2_keep rm_keep (va_Pc [.ref (ad 0), .int (nI f)] (cU D I Z F ad sz M)) (va_Qi (fun (r : Int32) (u : Nat → Nat → Int32) => u = laF (mst M (25 + 6 * f) 0 1) ∧ r = nI f) (fun u t => cP D I Z F ad u t.heap) (cA ad sz)) 0 0 (cA ad sz) := by
  refine cMet_i (cc := cX2_keep) (maxL := 2) hI (by decide) rfl ⟨rfl, rfl⟩ RX2 rfl (Nat.le_of_ble_eq_true rfl) (lv := [(0, .ref (ad 0)), (1, .int (nI f))]) rfl ?_
  intro p e s m args below meth c Q A ls hsz C0 hW hl hret
  obtain ⟨hx, hb, hml, hts, hown, hlocks, hK, hN, hDa, hA, hargs⟩ := C0
  have hin2 : ∀ w ∈ u_ws RX2 TX2 6, w ∈ wsX2_keep := by decide +kernel
  have hin0 : ∀ w ∈ u_ws RX0 TX0 7, w ∈ wsX2_keep := by decide +kernel
  have hin1 : ∀ w ∈ u_ws RX1 TX1 10, w ∈ wsX2_keep := by decide +kernel
  refine lv_aload_n hx hb dX2_keep_0 rfl (lv_at hl 0 rfl) ?_
  refine cr_get (v := .ref (ad 1)) hx hb hts hin2 hown hK hW 0 (by decide) (cE_x I Z F ad M) rfl 0 (by decide) rfl (by decide +kernel) rfl dX2_keep_1 ?_
  refine lv_iload_n hx hb dX2_keep_4 rfl (lv_at hl 1 rfl) ?_
  refine cr_fald hx hb hK hW f hf rfl dX2_keep_5 ?_
  refine lv_iconst (v := 1) hx hb dX2_keep_6 (by decide) ?_
  refine cr_putN (host := "SharedForks") hx hb hts hin0 tyX0 tyX0_ok nmX0 hown hK hDa hW (25 + 6 * f) (by omega) (cE_d0 I Z F ad M f) rfl 0 (by decide) rfl hN (by decide +kernel) (ty := .boolean) (by decide +kernel) (vp_narZn (Or.inr rfl)) (vp_narZf (Or.inr rfl)) (Nat.le_of_ble_eq_true rfl) (cS_d0p0 f _ _) dX2_keep_7 (fun H locs hW => ?_)
  refine lv_aload_n hx hb dX2_keep_10 rfl (lv_at hl 0 rfl) ?_
  refine cr_callv (va_runV (As := []) (rest := []) ⟨hx, hb, hml, hown, hts⟩ (c_layAll l D I Z F ad hI (mst M (25 + 6 * f) 0 1) H.size) (cwV 0 hts gX2_keep_X2_layAll rfl rfl rfl (by decide +kernel) ⟨Nat.le_of_ble_eq_true rfl, Nat.le_of_ble_eq_true rfl⟩) (cr_preV hK hN hW 0 (by decide) (cE_x I Z F ad (mst M (25 + 6 * f) 0 1)) rfl) rfl rfl hl.1 rfl (lv_room (Nat.le_of_ble_eq_true rfl)) dX2_keep_11 ⟨Nat.le_refl _, Nat.le_refl _⟩) hA hDa hW (fun u H locs hp hW => ?_)
  rw [hp] at hW
  refine lv_iload_n hx hb dX2_keep_14 rfl (lv_at hl 1 rfl) ?_
  exact hret 15 ls H locs _ _ dX2_keep_15 ⟨rfl, rfl⟩ hW

abbrev rm_tellFork : Room := { frames := 0, cells := 0, slots := 0, locals := 0 }
set_option maxHeartbeats 4000000 in
set_option maxRecDepth 100000 in
/-- what is told of a fork -/
theorem c_tellFork (l : Launch) (D : va_G) (I Z F : ClassId) (ad : Nat → Nat) (hI : cI ad) (M : Nat → Nat → Int32) (sz : Nat) (f : Nat) (hf : f < 12) (n z : Nat) (hn6 : n ≤ 626) (hz7 : z ≤ 77) (hz : M (25 + 6 * f) 2 = nI z) (hrw : ∀ i : Nat, i < z → ∃ k : Nat, k < n ∧ M (25 + 6 * f + 2) i = nI k) (i : Nat) (hi : i < z) (wh : Nat) (hwh : wh < 5) : Met l yX2_tellFork wsX2_tellFork rm_tellFork (va_Pc [.ref (ad 0), .ref (ad (25 + 6 * f)), .int (nI i), .int (nI wh)] (cU D I Z F ad sz M)) (va_Qi (fun (r : Int32) (u : Nat → Nat → Int32) => u = M ∧ r = tfF M (25 + 6 * f) i wh) (fun u t => cP D I Z F ad u t.heap) (cA ad sz)) 0 0 (cA ad sz) := by
  refine cMet_i (cc := cX2_tellFork) (maxL := 5) hI (by decide) rfl ⟨rfl, rfl⟩ RX2 rfl (Nat.le_of_ble_eq_true rfl) (lv := [(0, .ref (ad 0)), (1, .ref (ad (25 + 6 * f))), (2, .int (nI i)), (3, .int (nI wh))]) rfl ?_
  intro p e s m args below meth c Q A ls hsz C0 hW hl hret
  obtain ⟨hx, hb, hml, hts, hown, hlocks, hK, hN, hDa, hA, hargs⟩ := C0
  have hin2 : ∀ w ∈ u_ws RX2 TX2 6, w ∈ wsX2_tellFork := by decide +kernel
  have hin0 : ∀ w ∈ u_ws RX0 TX0 7, w ∈ wsX2_tellFork := by decide +kernel
  have hin1 : ∀ w ∈ u_ws RX1 TX1 10, w ∈ wsX2_tellFork := by decide +kernel
  obtain ⟨k, hk, ek⟩ := hrw i hi
  refine lv_aload_n hx hb dX2_tellFork_0 rfl (lv_at hl 1 rfl) ?_
  refine cr_getN (v := .ref (ad (25 + 6 * f + 2))) (host := "SharedForks") hx hb hts hin0 hown hK hW (25 + 6 * f) (by omega) (cE_d0 I Z F ad M f) rfl 3 (by decide) rfl hN (by decide +kernel) rfl dX2_tellFork_1 ?_
  refine lv_iload_n hx hb dX2_tellFork_4 rfl (lv_at hl 2 rfl) ?_
  refine cr_iald hx hb hK hW (25 + 6 * f + 2) (by omega) (cE_d2 I Z F ad M f) i (by omega) (by decide) rfl dX2_tellFork_5 ?_
  rw [ek]
  refine lv_istore (lv' := [(4, .int (nI k)), (0, .ref (ad 0)), (1, .ref (ad (25 + 6 * f))), (2, .int (nI i)), (3, .int (nI wh))]) hx hb dX2_tellFork_6 hl (by decide) rfl (fun ls hl => ?_)
  refine lv_iload_n hx hb dX2_tellFork_8 rfl (lv_at hl 4 rfl) ?_
  rcases (show wh = 0 ∨ wh = 1 ∨ wh = 2 ∨ wh = 3 ∨ wh = 4 by omega) with rfl | rfl | rfl | rfl | rfl
  · skip
    refine lv_tableIn (off := 31) (tgt := 40) hx hb dX2_tellFork_9 (by decide) (by decide) rfl (by decide) ?_
    refine lv_aload_n hx hb dX2_tellFork_40 rfl (lv_at hl 1 rfl) ?_
    refine cr_get (v := .ref (ad 3)) hx hb hts hin2 hown hK hW 0 (by decide) (cE_x I Z F ad M) rfl 2 (by decide) rfl (by decide +kernel) rfl dX2_tellFork_41 ?_
    refine cr_getN (v := .ref (ad (3 + 1))) (host := "SharedForks") hx hb hts hin1 hown hK hW 3 (by decide) (cE_f0 I Z F ad M (Or.inl rfl)) rfl 1 (by decide) rfl hN (by decide +kernel) rfl dX2_tellFork_44 ?_
    refine lv_iload hx hb dX2_tellFork_47 (lv_at hl 0 rfl) ?_
    refine cr_iald hx hb hK hW (3 + 1) (by decide) (cE_f1 I Z F ad M (Or.inl rfl)) k (by omega) (by decide) rfl dX2_tellFork_49 ?_
    exact hret 50 ls _ _ _ _ dX2_tellFork_50 ⟨rfl, by simp only [tfF, ek, nI_clamp (show k < 2 ^ 31 by omega)]⟩ hW
  · skip
    refine lv_tableIn (off := 42) (tgt := 51) hx hb dX2_tellFork_9 (by decide) (by decide) rfl (by decide) ?_
    refine lv_aload_n hx hb dX2_tellFork_51 rfl (lv_at hl 2 rfl) ?_
    refine cr_getN (v := .ref (ad (25 + 6 * f + 3))) (host := "SharedForks") hx hb hts hin0 hown hK hW (25 + 6 * f) (by omega) (cE_d0 I Z F ad M f) rfl 4 (by decide) rfl hN (by decide +kernel) rfl dX2_tellFork_52 ?_
    refine lv_iload_n hx hb dX2_tellFork_55 rfl (lv_at hl 3 rfl) ?_
    refine cr_iald hx hb hK hW (25 + 6 * f + 3) (by omega) (cE_d3 I Z F ad M f) i (by omega) (by decide) rfl dX2_tellFork_56 ?_
    exact hret 57 ls _ _ _ _ dX2_tellFork_57 ⟨rfl, by simp only [tfF, ek, nI_clamp (show k < 2 ^ 31 by omega)]⟩ hW
  · skip
    refine lv_tableIn (off := 49) (tgt := 58) hx hb dX2_tellFork_9 (by decide) (by decide) rfl (by decide) ?_
    refine lv_aload_n hx hb dX2_tellFork_58 rfl (lv_at hl 2 rfl) ?_
    refine cr_getN (v := .ref (ad (25 + 6 * f + 4))) (host := "SharedForks") hx hb hts hin0 hown hK hW (25 + 6 * f) (by omega) (cE_d0 I Z F ad M f) rfl 5 (by decide) rfl hN (by decide +kernel) rfl dX2_tellFork_59 ?_
    refine lv_iload_n hx hb dX2_tellFork_62 rfl (lv_at hl 3 rfl) ?_
    refine cr_iald hx hb hK hW (25 + 6 * f + 4) (by omega) (cE_d4 I Z F ad M f) i (by omega) (by decide) rfl dX2_tellFork_63 ?_
    exact hret 64 ls _ _ _ _ dX2_tellFork_64 ⟨rfl, by simp only [tfF, ek, nI_clamp (show k < 2 ^ 31 by omega)]⟩ hW
  · skip
    refine lv_tableIn (off := 56) (tgt := 65) hx hb dX2_tellFork_9 (by decide) (by decide) rfl (by decide) ?_
    refine lv_aload_n hx hb dX2_tellFork_65 rfl (lv_at hl 2 rfl) ?_
    refine cr_getN (v := .ref (ad (25 + 6 * f + 5))) (host := "SharedForks") hx hb hts hin0 hown hK hW (25 + 6 * f) (by omega) (cE_d0 I Z F ad M f) rfl 6 (by decide) rfl hN (by decide +kernel) rfl dX2_tellFork_66 ?_
    refine lv_iload_n hx hb dX2_tellFork_69 rfl (lv_at hl 3 rfl) ?_
    refine cr_iald hx hb hK hW (25 + 6 * f + 5) (by omega) (cE_d5 I Z F ad M f) i (by omega) (by decide) rfl dX2_tellFork_70 ?_
    exact hret 71 ls _ _ _ _ dX2_tellFork_71 ⟨rfl, by simp only [tfF, ek, nI_clamp (show k < 2 ^ 31 by omega)]⟩ hW
  · skip
    refine lv_tableOut (tgt := 72) hx hb dX2_tellFork_9 (Or.inr (by decide)) (by decide) ?_
    refine lv_aload_n hx hb dX2_tellFork_72 rfl (lv_at hl 1 rfl) ?_
    refine cr_get (v := .ref (ad 3)) hx hb hts hin2 hown hK hW 0 (by decide) (cE_x I Z F ad M) rfl 2 (by decide) rfl (by decide +kernel) rfl dX2_tellFork_73 ?_
    refine cr_getN (v := .ref (ad (3 + 4))) (host := "SharedForks") hx hb hts hin1 hown hK hW 3 (by decide) (cE_f0 I Z F ad M (Or.inl rfl)) rfl 4 (by decide) rfl hN (by decide +kernel) rfl dX2_tellFork_76 ?_
    refine lv_iload hx hb dX2_tellFork_79 (lv_at hl 0 rfl) ?_
    refine cr_iald hx hb hK hW (3 + 4) (by decide) (cE_f4 I Z F ad M (Or.inl rfl)) k (by omega) (by decide) rfl dX2_tellFork_81 ?_
    exact hret 82 ls _ _ _ _ dX2_tellFork_82 ⟨rfl, by simp only [tfF, ek, nI_clamp (show k < 2 ^ 31 by omega)]⟩ hW
