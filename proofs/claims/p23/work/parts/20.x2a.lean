abbrev rm_layAll : Room := { frames := 12, cells := 0, slots := 0, locals := 600 }
set_option maxHeartbeats 4000000 in
set_option maxRecDepth 100000 in
/-- all folds are laid anew -/
theorem c_layAll (l : Launch) (D : va_G) (I Z F : ClassId) (ad : Nat → Nat) (hI : cI ad) (M : Nat → Nat → Int32) (sz : Nat)  : Met l yX2_layAll wsX2_layAll rm_layAll (va_Pc [.ref (ad 0)] (cU D I Z F ad sz M)) (va_Qv (fun (u : Nat → Nat → Int32) => u = laF M) (fun u t => cP D I Z F ad u t.heap) (cA ad sz)) 0 0 (cA ad sz) := by
  refine cMet_v (cc := cX2_layAll) (maxL := 3) hI (by decide) rfl ⟨rfl, rfl⟩ RX2 rfl (Nat.le_of_ble_eq_true rfl) (lv := [(0, .ref (ad 0))]) rfl ?_
  intro p e s m args below meth c Q A ls hsz C0 hW hl hret
  obtain ⟨hx, hb, hml, hts, hown, hlocks, hK, hN, hDa, hA, hargs⟩ := C0
  have hin2 : ∀ w ∈ u_ws RX2 TX2 6, w ∈ wsX2_layAll := by decide +kernel
  have hin0 : ∀ w ∈ u_ws RX0 TX0 7, w ∈ wsX2_layAll := by decide +kernel
  have hin1 : ∀ w ∈ u_ws RX1 TX1 10, w ∈ wsX2_layAll := by decide +kernel
  refine lv_aload_n hx hb dX2_layAll_0 rfl (lv_at hl 0 rfl) ?_
  refine cr_get (v := .ref (ad 3)) hx hb hts hin2 hown hK hW 0 (by decide) (cE_x I Z F ad M) rfl 2 (by decide) rfl (by decide +kernel) rfl dX2_layAll_1 ?_
  refine lv_aload_n hx hb dX2_layAll_4 rfl (lv_at hl 0 rfl) ?_
  refine cr_get (v := .ref (ad 2)) hx hb hts hin2 hown hK hW 0 (by decide) (cE_x I Z F ad M) rfl 1 (by decide) rfl (by decide +kernel) rfl dX2_layAll_5 ?_
  refine cr_callv (va_runVN (As := [.ref (ad 2)]) (rest := []) (own := RX2) (host := "SharedForks") ⟨hx, hb, hml, hown, hts⟩ (c_startOver l D I Z F ad hI M s.heap.size 3 (Or.inl rfl) 2 (by decide) ⟨by decide, by decide, by decide⟩ (cE_q I Z F ad M)) ⟨va_cnB 1 hts gX2_layAll_X1_startOver_n113 rfl rfl rfl (hN (.methodLinkNest RX2 113 yX1_startOver "SharedForks") (by decide +kernel)) (hts (.initialized yX1_startOver.cls) (by decide +kernel)) (by decide +kernel) ⟨Nat.le_of_ble_eq_true rfl, Nat.le_of_ble_eq_true rfl⟩, hts (.instanceMethod yX1_startOver) (by decide +kernel), hts (.selects yX1_startOver.cls yX1_startOver yX1_startOver) (by decide +kernel)⟩ (cr_preV hK hN hW 3 (by decide) (cE_f0 I Z F ad M (Or.inl rfl)) rfl) rfl rfl hl.1 rfl (lv_room (Nat.le_of_ble_eq_true rfl)) dX2_layAll_8 ⟨Nat.le_of_ble_eq_true rfl, Nat.le_of_ble_eq_true rfl⟩) hA hDa hW (fun u H locs hp hW => ?_)
  rw [hp] at hW
  refine lv_iconst (v := 0) hx hb dX2_layAll_11 (by decide) ?_
  refine lv_istore_n (lv' := [(1, .int 0), (0, .ref (ad 0))]) hx hb dX2_layAll_12 rfl hl (by decide) rfl (fun ls hl => ?_)
  have loop : ∀ q f : Nat, f + q = 12 → ∀ (ls : Array Slot) (H : Heap) (locs : List Loc), lv_has ls 3 [(1, .int (nI f)), (0, .ref (ad 0))] → cB9 D I Z F ad A s.heap (laL (soF M 3 2) f) H locs → W p l e rm_layAll s m args below meth c H locs 0 0 Q (F0 m 13 ls []) := by
    intro q
    induction q with
    | zero =>
      intro f hf ls H locs hl hW
      obtain rfl : f = 12 := by omega
      refine lv_iload_n hx hb dX2_layAll_13 rfl (lv_at hl 0 rfl) ?_
      refine lv_bipush (v := 12) hx hb dX2_layAll_14 (by decide) ?_
      refine lv_icmp_ge (tgt := 58) hx hb dX2_layAll_16 (by decide) (fun c1 => ?_) (fun c1 => ?_)
      · skip
        exact hret 58 ls H locs _ dX2_layAll_58 rfl hW
      · exact absurd (nI_le (by decide) (by decide)) c1
    | succ q ih =>
      intro f hf ls H locs hl hW
      have hstep := laL.eq_2 (soF M 3 2) f
      obtain ⟨⟨n, hk2⟩, haw⟩ := laL_ok (soF_laOk M 2) f (by omega)
      obtain ⟨X, hX⟩ : ∃ X, X = laL (soF M 3 2) f := ⟨_, rfl⟩
      rw [← hX] at hW hstep hk2 haw
      refine lv_iload_n hx hb dX2_layAll_13 rfl (lv_at hl 0 rfl) ?_
      refine lv_bipush (v := 12) hx hb dX2_layAll_14 (by decide) ?_
      refine lv_icmp_ge (tgt := 58) hx hb dX2_layAll_16 (by decide) (fun c1 => ?_) (fun c1 => ?_)
      · exact absurd c1 (nI_ge (b := 12) (by omega) (by decide))
      · skip
        refine lv_aload_n hx hb dX2_layAll_19 rfl (lv_at hl 1 rfl) ?_
        refine cr_get (v := .ref (ad 1)) hx hb hts hin2 hown hK hW 0 (by decide) (cE_x I Z F ad X) rfl 0 (by decide) rfl (by decide +kernel) rfl dX2_layAll_20 ?_
        refine lv_iload_n hx hb dX2_layAll_23 rfl (lv_at hl 0 rfl) ?_
        refine cr_fald hx hb hK hW f (by omega) rfl dX2_layAll_24 ?_
        refine lv_astore_n (lv' := [(2, .ref (ad (25 + 6 * f))), (1, .int (nI f)), (0, .ref (ad 0))]) hx hb dX2_layAll_25 rfl hl (by decide) rfl (fun ls hl => ?_)
        refine lv_aload_n hx hb dX2_layAll_26 rfl (lv_at hl 0 rfl) ?_
        refine cr_getN (v := .int (X (25 + 6 * f) 0)) (host := "SharedForks") hx hb hts hin0 hown hK hW (25 + 6 * f) (by omega) (cE_d0 I Z F ad X f) rfl 0 (by decide) rfl hN (by decide +kernel) rfl dX2_layAll_27 ?_
        refine lv_if_eq (tgt := 52) hx hb dX2_layAll_30 (by decide) (fun c2 => ?_) (fun c2 => ?_)
        · skip
          rw [if_pos c2] at hstep
          refine lv_iinc (v := nI (f + 1)) (lv' := [(1, .int (nI (f + 1))), (2, .ref (ad (25 + 6 * f))), (0, .ref (ad 0))]) hx hb dX2_layAll_52 hl (k := 1) rfl (nI_1 f) (by decide) rfl (fun ls hl => ?_)
          refine lv_goto (tgt := 13) hx hb dX2_layAll_55 (by decide) ?_
          exact ih (f + 1) (by omega) ls H locs (lv_sub hl [0, 2] rfl) (by rw [hstep]; exact hW)
        · skip
          rw [if_neg c2] at hstep
          refine lv_aload_n hx hb dX2_layAll_33 rfl (lv_at hl 2 rfl) ?_
          refine cr_get (v := .ref (ad 3)) hx hb hts hin2 hown hK hW 0 (by decide) (cE_x I Z F ad X) rfl 2 (by decide) rfl (by decide +kernel) rfl dX2_layAll_34 ?_
          refine lv_aload_n hx hb dX2_layAll_37 rfl (lv_at hl 0 rfl) ?_
          refine lv_aload_n hx hb dX2_layAll_38 rfl (lv_at hl 2 rfl) ?_
          refine cr_get (v := .ref (ad 3)) hx hb hts hin2 hown hK hW 0 (by decide) (cE_x I Z F ad X) rfl 2 (by decide) rfl (by decide +kernel) rfl dX2_layAll_39 ?_
          refine lv_aload_n hx hb dX2_layAll_42 rfl (lv_at hl 0 rfl) ?_
          refine cr_getN (v := .ref (ad (25 + 6 * f + 1))) (host := "SharedForks") hx hb hts hin0 hown hK hW (25 + 6 * f) (by omega) (cE_d0 I Z F ad X f) rfl 1 (by decide) rfl hN (by decide +kernel) rfl dX2_layAll_43 ?_
          refine cr_calli (va_runVN (As := [.ref (ad (25 + 6 * f + 1))]) (rest := [.ref (ad (25 + 6 * f)), .ref (ad 3)]) (own := RX2) (host := "SharedForks") ⟨hx, hb, hml, hown, hts⟩ (c_lay l D I Z F ad hI X H.size 3 (Or.inl rfl) hk2.ok haw (25 + 6 * f + 1) (by omega) (by omega) (cE_d1 I Z F ad X f)) ⟨va_cnB 1 hts gX2_layAll_X1_lay_n117 rfl rfl rfl (hN (.methodLinkNest RX2 117 yX1_lay "SharedForks") (by decide +kernel)) (hts (.initialized yX1_lay.cls) (by decide +kernel)) (by decide +kernel) ⟨Nat.le_of_ble_eq_true rfl, Nat.le_of_ble_eq_true rfl⟩, hts (.instanceMethod yX1_lay) (by decide +kernel), hts (.selects yX1_lay.cls yX1_lay yX1_lay) (by decide +kernel)⟩ (cr_preV hK hN hW 3 (by decide) (cE_f0 I Z F ad X (Or.inl rfl)) rfl) rfl rfl hl.1 rfl (lv_room (Nat.le_of_ble_eq_true rfl)) dX2_layAll_46 ⟨Nat.le_of_ble_eq_true rfl, Nat.le_of_ble_eq_true rfl⟩) hA hDa hW (fun r u H locs hp hW => ?_)
          obtain ⟨hu, hv9⟩ := hp
          rw [hu] at hW
          rw [hv9]
          obtain ⟨n2, -, hk3, -⟩ := lyF_fk2 (yi := 25 + 6 * f + 1) hk2
          refine cr_callv (va_runVN (As := [.ref (ad (25 + 6 * f)), .int (lyF X 3 (25 + 6 * f + 1) (3 + 8) 0)]) (rest := []) (own := RX2) (host := "SharedForks") ⟨hx, hb, hml, hown, hts⟩ (c_putInRow l D I Z F ad hI (lyF X 3 (25 + 6 * f + 1)) H.size 3 (Or.inl rfl) f (by omega) n2 hk3.1 hk3.2.1 hk3.lh (lyF X 3 (25 + 6 * f + 1) (3 + 8) 0)) ⟨va_cnB 2 hts gX2_layAll_X1_putInRow_n144 rfl rfl rfl (hN (.methodLinkNest RX2 144 yX1_putInRow "SharedForks") (by decide +kernel)) (hts (.initialized yX1_putInRow.cls) (by decide +kernel)) (by decide +kernel) ⟨Nat.le_of_ble_eq_true rfl, Nat.le_of_ble_eq_true rfl⟩, hts (.instanceMethod yX1_putInRow) (by decide +kernel), hts (.selects yX1_putInRow.cls yX1_putInRow yX1_putInRow) (by decide +kernel)⟩ (cr_preV hK hN hW 3 (by decide) (cE_f0 I Z F ad (lyF X 3 (25 + 6 * f + 1)) (Or.inl rfl)) rfl) rfl rfl hl.1 rfl (lv_room (Nat.le_of_ble_eq_true rfl)) dX2_layAll_49 ⟨Nat.le_of_ble_eq_true rfl, Nat.le_of_ble_eq_true rfl⟩) hA hDa hW (fun u H locs hp hW => ?_)
          rw [hp] at hW
          refine lv_iinc (v := nI (f + 1)) (lv' := [(1, .int (nI (f + 1))), (2, .ref (ad (25 + 6 * f))), (0, .ref (ad 0))]) hx hb dX2_layAll_52 hl (k := 1) rfl (nI_1 f) (by decide) rfl (fun ls hl => ?_)
          refine lv_goto (tgt := 13) hx hb dX2_layAll_55 (by decide) ?_
          exact ih (f + 1) (by omega) ls H locs (lv_sub hl [0, 2] rfl) (by rw [hstep]; exact hW)
  exact loop 12 0 (by decide) ls H locs (lv_sub hl [0, 1] rfl) hW
