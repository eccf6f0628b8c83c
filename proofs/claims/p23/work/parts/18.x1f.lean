abbrev rm_putInRow : Room := { frames := 10, cells := 0, slots := 0, locals := 400 }
set_option maxHeartbeats 4000000 in
set_option maxRecDepth 100000 in
/-- a fold's row is written -/
theorem c_putInRow (l : Launch) (D : va_G) (I Z F : ClassId) (ad : Nat → Nat) (hI : cI ad) (M : Nat → Nat → Int32) (sz : Nat) (g : Nat) (hg : g = 3 ∨ g = 15) (f : Nat) (hf : f < 12) (n : Nat) (hn6 : n ≤ 626) (h0 : M g 0 = nI n) (hlh : lhOk M g n) (part : Int32) : Met l yX1_putInRow wsX1_putInRow rm_putInRow (va_Pc [.ref (ad g), .ref (ad (25 + 6 * f)), .int part] (cU D I Z F ad sz M)) (va_Qv (fun (u : Nat → Nat → Int32) => u = prF M g (25 + 6 * f) part) (fun u t => cP D I Z F ad u t.heap) (cA ad sz)) 0 0 (cA ad sz) := by
  refine cMet_v (cc := cX1_putInRow) (maxL := 5) hI (by decide) rfl ⟨rfl, rfl⟩ RX1 rfl (Nat.le_of_ble_eq_true rfl) (lv := [(0, .ref (ad g)), (1, .ref (ad (25 + 6 * f))), (2, .int part)]) rfl ?_
  intro p e s m args below meth c Q A ls hsz C0 hW hl hret
  obtain ⟨hx, hb, hml, hts, hown, hlocks, hK, hN, hDa, hA, hargs⟩ := C0
  have hin1 : ∀ w ∈ u_ws RX1 TX1 10, w ∈ wsX1_putInRow := by decide +kernel
  have hgl : g < 16 := by omega
  have hin0 : ∀ w ∈ u_ws RX0 TX0 7, w ∈ wsX1_putInRow := by decide +kernel
  refine lv_aload_n hx hb dX1_putInRow_0 rfl (lv_at hl 1 rfl) ?_
  refine lv_iconst (v := 0) hx hb dX1_putInRow_1 (by decide) ?_
  refine cr_putN (host := "SharedForks") hx hb hts hin0 tyX0 tyX0_ok nmX0 hown hK hDa hW (25 + 6 * f) (by omega) (cE_d0 I Z F ad M f) rfl 2 (by decide) rfl hN (by decide +kernel) (ty := .int) (by decide +kernel) rfl rfl (Nat.le_of_ble_eq_true rfl) (cS_d0p2 f _ _) dX1_putInRow_2 (fun H locs hW => ?_)
  rw [show mst M (25 + 6 * f) 2 0 = pr1 M (25 + 6 * f) from rfl] at hW
  refine lv_aload_n hx hb dX1_putInRow_5 rfl (lv_at hl 0 rfl) ?_
  refine cr_get (v := .ref (ad (g + 9))) hx hb hts hin1 hown hK hW g (by omega) (cE_f0 I Z F ad (pr1 M (25 + 6 * f)) hg) rfl 9 (by decide) rfl (by decide +kernel) rfl dX1_putInRow_6 ?_
  refine lv_iconst (v := -1) hx hb dX1_putInRow_9 (by decide) ?_
  refine cr_callv (va_runS (As := [.ref (ad (g + 9)), .int (-1)]) (rest := []) ⟨hx, hb, hml, hown, hts⟩ (c_fill l D I Z F ad hI (pr1 M (25 + 6 * f)) H.size (g + 9) 626 (by omega) (by decide) (cE_f9 I Z F ad _ hg) (-1)) (va_cwS 2 hts gX1_putInRow_J7_fill_53178 rfl rfl rfl (by decide +kernel) ⟨Nat.le_of_ble_eq_true rfl, Nat.le_of_ble_eq_true rfl⟩) (cr_preS hK hN hW) rfl rfl hl.1 rfl (lv_room (Nat.le_of_ble_eq_true rfl)) dX1_putInRow_10 ⟨Nat.le_refl _, Nat.le_refl _⟩) hA hDa hW (fun u H locs hp hW => ?_)
  obtain rfl := hp
  rw [show mrow (pr1 M (25 + 6 * f)) (g + 9) (flF (-1) 626 (pr1 M (25 + 6 * f) (g + 9))) = pr2 M g (25 + 6 * f) from rfl] at hW
  refine lv_aload_n hx hb dX1_putInRow_13 rfl (lv_at hl 0 rfl) ?_
  refine lv_aload_n hx hb dX1_putInRow_14 rfl (lv_at hl 1 rfl) ?_
  refine lv_iload_n hx hb dX1_putInRow_15 rfl (lv_at hl 2 rfl) ?_
  refine lv_iconst (v := 0) hx hb dX1_putInRow_16 (by decide) ?_
  refine cr_callv (va_runS (As := [.ref (ad g), .ref (ad (25 + 6 * f)), .int part, .int 0]) (rest := []) ⟨hx, hb, hml, hown, hts⟩ (c_walk l D I Z F ad hI g hg f hf n 8 (Nat.le_refl _) (pr2 M g (25 + 6 * f)) H.size part (pr2_ok (by omega) hn6 h0)) (va_cwS 4 hts gX1_putInRow_X1_walk rfl rfl rfl (by decide +kernel) ⟨Nat.le_of_ble_eq_true rfl, Nat.le_of_ble_eq_true rfl⟩) (cr_preS hK hN hW) rfl rfl hl.1 rfl (lv_room (Nat.le_of_ble_eq_true rfl)) dX1_putInRow_17 ⟨Nat.le_refl _, Nat.le_refl _⟩) hA hDa hW (fun u H locs hp hW => ?_)
  obtain rfl := hp
  rw [show wkF g (25 + 6 * f) 8 (pr2 M g (25 + 6 * f)) part = pr3 M g (25 + 6 * f) part from rfl] at hW
  obtain ⟨-, e0, z, hz7, hz, h9, h2⟩ := pr3_ok (M := M) (g := g) (b := (25 + 6 * f)) (by omega) hn6 h0 part
  have hF : prF M g (25 + 6 * f) part = prL (pr3 M g (25 + 6 * f) part) g (25 + 6 * f) z := by rw [prF, hz, nI_clamp (by omega)]
  have r2 : (pr3 M g (25 + 6 * f) part) (g + 2) = M (g + 2) := pr3_row (by omega) (by omega) (by omega) (by omega)
  have r3 : (pr3 M g (25 + 6 * f) part) (g + 3) = M (g + 3) := pr3_row (by omega) (by omega) (by omega) (by omega)
  obtain ⟨P, hP⟩ : ∃ P, P = (pr3 M g (25 + 6 * f) part) := ⟨_, rfl⟩
  rw [← hP] at hW e0 hz h9 h2 hF r2 r3
  refine lv_iconst (v := 0) hx hb dX1_putInRow_20 (by decide) ?_
  refine lv_istore_n (lv' := [(3, .int 0), (0, .ref (ad g)), (1, .ref (ad (25 + 6 * f))), (2, .int part)]) hx hb dX1_putInRow_21 rfl hl (by decide) rfl (fun ls hl => ?_)
  have loop : ∀ q i : Nat, i + q = z → ∀ (ls : Array Slot) (H : Heap) (locs : List Loc), lv_has ls 5 [(3, .int (nI i)), (0, .ref (ad g)), (1, .ref (ad (25 + 6 * f))), (2, .int part)] → cB9 D I Z F ad A s.heap (prL P g (25 + 6 * f) i) H locs → W p l e rm_putInRow s m args below meth c H locs 0 0 Q (F0 m 22 ls []) := by
    intro q
    induction q with
    | zero =>
      intro i hi ls H locs hl hW
      obtain rfl : i = z := by omega
      have ez : prL P g (25 + 6 * f) i (25 + 6 * f) 2 = nI i := by rw [prL_row (by omega) (by omega) (by omega)]; exact hz
      refine lv_iload_n hx hb dX1_putInRow_22 rfl (lv_at hl 0 rfl) ?_
      refine lv_aload_n hx hb dX1_putInRow_23 rfl (lv_at hl 2 rfl) ?_
      refine cr_getN (v := .int ((prL P g (25 + 6 * f) i) (25 + 6 * f) 2)) (host := "SharedForks") hx hb hts hin0 hown hK hW (25 + 6 * f) (by omega) (cE_d0 I Z F ad (prL P g (25 + 6 * f) i) f) rfl 2 (by decide) rfl hN (by decide +kernel) rfl dX1_putInRow_24 ?_
      rw [ez]
      refine lv_icmp_ge (tgt := 89) hx hb dX1_putInRow_27 (by decide) (fun c1 => ?_) (fun c1 => ?_)
      · skip
        exact hret 89 ls H locs _ dX1_putInRow_89 hF.symm hW
      · exact absurd (nI_le (Nat.le_refl _) (by omega)) c1
    | succ q ih =>
      intro i hi ls H locs hl hW
      have hstep := prL.eq_2 P g (25 + 6 * f) i
      have ez : prL P g (25 + 6 * f) i (25 + 6 * f) 2 = nI z := by rw [prL_row (by omega) (by omega) (by omega)]; exact hz
      obtain ⟨k, hk, ek⟩ := h2 i (by omega)
      have ef : prL P g (25 + 6 * f) i (25 + 6 * f + 2) i = nI k := by rw [prL_row (by omega) (by omega) (by omega)]; exact ek
      rw [ef, nI_clamp (show k < 2 ^ 31 by omega)] at hstep
      have g2 : prL P g (25 + 6 * f) i (g + 2) = M (g + 2) := by rw [prL_row (by omega) (by omega) (by omega)]; exact r2
      have g3 : prL P g (25 + 6 * f) i (g + 3) = M (g + 3) := by rw [prL_row (by omega) (by omega) (by omega)]; exact r3
      obtain ⟨X, hX⟩ : ∃ X, X = prL P g (25 + 6 * f) i := ⟨_, rfl⟩
      rw [← hX] at hW ez ef g2 g3 hstep
      refine lv_iload_n hx hb dX1_putInRow_22 rfl (lv_at hl 0 rfl) ?_
      refine lv_aload_n hx hb dX1_putInRow_23 rfl (lv_at hl 2 rfl) ?_
      refine cr_getN (v := .int (X (25 + 6 * f) 2)) (host := "SharedForks") hx hb hts hin0 hown hK hW (25 + 6 * f) (by omega) (cE_d0 I Z F ad X f) rfl 2 (by decide) rfl hN (by decide +kernel) rfl dX1_putInRow_24 ?_
      rw [ez]
      refine lv_icmp_ge (tgt := 89) hx hb dX1_putInRow_27 (by decide) (fun c1 => ?_) (fun c1 => ?_)
      · exact absurd c1 (nI_ge (by omega) (by omega))
      · skip
        refine lv_aload_n hx hb dX1_putInRow_30 rfl (lv_at hl 2 rfl) ?_
        refine cr_getN (v := .ref (ad (25 + 6 * f + 2))) (host := "SharedForks") hx hb hts hin0 hown hK hW (25 + 6 * f) (by omega) (cE_d0 I Z F ad X f) rfl 3 (by decide) rfl hN (by decide +kernel) rfl dX1_putInRow_31 ?_
        refine lv_iload_n hx hb dX1_putInRow_34 rfl (lv_at hl 0 rfl) ?_
        refine cr_iald hx hb hK hW (25 + 6 * f + 2) (by omega) (cE_d2 I Z F ad X f) i (by omega) (by decide) rfl dX1_putInRow_35 ?_
        rw [ef]
        refine lv_istore (lv' := [(4, .int (nI k)), (3, .int (nI i)), (0, .ref (ad g)), (1, .ref (ad (25 + 6 * f))), (2, .int part)]) hx hb dX1_putInRow_36 hl (by decide) rfl (fun ls hl => ?_)
        refine lv_aload_n hx hb dX1_putInRow_38 rfl (lv_at hl 2 rfl) ?_
        refine cr_get (v := .ref (ad (g + 4))) hx hb hts hin1 hown hK hW g (by omega) (cE_f0 I Z F ad X hg) rfl 4 (by decide) rfl (by decide +kernel) rfl dX1_putInRow_39 ?_
        refine lv_iload hx hb dX1_putInRow_42 (lv_at hl 0 rfl) ?_
        refine lv_dup2_11 hx hb dX1_putInRow_44 rfl rfl ?_
        refine cr_iald hx hb hK hW (g + 4) (by omega) (cE_f4 I Z F ad X hg) k (by omega) (by decide) rfl dX1_putInRow_45 ?_
        refine lv_iconst (v := 1) hx hb dX1_putInRow_46 (by decide) ?_
        refine lv_iadd hx hb dX1_putInRow_47 ?_
        refine cr_iast hx hb hK hDa hW (g + 4) (by omega) (cE_f4 I Z F ad X hg) k (by omega) (by decide) rfl dX1_putInRow_48 (fun H locs hW => ?_)
        rw [show mst X (g + 4) k (X (g + 4) k + 1) = prA X g k from rfl] at hW
        refine lv_aload_n hx hb dX1_putInRow_49 rfl (lv_at hl 3 rfl) ?_
        refine cr_getN (v := .ref (ad (25 + 6 * f + 3))) (host := "SharedForks") hx hb hts hin0 hown hK hW (25 + 6 * f) (by omega) (cE_d0 I Z F ad (prA X g k) f) rfl 4 (by decide) rfl hN (by decide +kernel) rfl dX1_putInRow_50 ?_
        refine lv_iload_n hx hb dX1_putInRow_53 rfl (lv_at hl 1 rfl) ?_
        refine lv_aload_n hx hb dX1_putInRow_54 rfl (lv_at hl 2 rfl) ?_
        refine lv_aload_n hx hb dX1_putInRow_55 rfl (lv_at hl 2 rfl) ?_
        refine cr_get (v := .ref (ad (g + 2))) hx hb hts hin1 hown hK hW g (by omega) (cE_f0 I Z F ad (prA X g k) hg) rfl 2 (by decide) rfl (by decide +kernel) rfl dX1_putInRow_56 ?_
        refine lv_iload hx hb dX1_putInRow_59 (lv_at hl 0 rfl) ?_
        refine cr_iald hx hb hK hW (g + 2) (by omega) (cE_f2 I Z F ad (prA X g k) hg) k (by omega) (by decide) rfl dX1_putInRow_61 ?_
        have p2 : prA X g k (g + 2) k < 0 ∨ ∃ j : Nat, j < 626 ∧ prA X g k (g + 2) k = nI j := by rw [prA, mst_ne (by omega), g2]; exact (hlh k hk).1
        refine cr_calli (va_runV (As := [.int ((prA X g k) (g + 2) k)]) (rest := [.int (nI i), .ref (ad (25 + 6 * f + 3))]) ⟨hx, hb, hml, hown, hts⟩ (c_placeOrLeaf l D I Z F ad hI (prA X g k) H.size g hg (prA X g k (g + 2) k) p2) (cwV 1 hts gX1_putInRow_X1_placeOrLeaf rfl rfl rfl (by decide +kernel) ⟨Nat.le_of_ble_eq_true rfl, Nat.le_of_ble_eq_true rfl⟩) (cr_preV hK hN hW g (by omega) (cE_f0 I Z F ad (prA X g k) hg) rfl) rfl rfl hl.1 rfl (lv_room (Nat.le_of_ble_eq_true rfl)) dX1_putInRow_62 ⟨Nat.le_refl _, Nat.le_refl _⟩) hA hDa hW (fun r u H locs hp hW => ?_)
        obtain ⟨rfl, rfl⟩ := hp
        refine cr_iast hx hb hK hDa hW (25 + 6 * f + 3) (by omega) (cE_d3 I Z F ad (prA X g k) f) i (by omega) (by decide) rfl dX1_putInRow_65 (fun H locs hW => ?_)
        rw [show mst (prA X g k) (25 + 6 * f + 3) i (polF (prA X g k) g (prA X g k (g + 2) k)) = prB (prA X g k) g (25 + 6 * f) i k from rfl] at hW
        refine lv_aload_n hx hb dX1_putInRow_66 rfl (lv_at hl 3 rfl) ?_
        refine cr_getN (v := .ref (ad (25 + 6 * f + 4))) (host := "SharedForks") hx hb hts hin0 hown hK hW (25 + 6 * f) (by omega) (cE_d0 I Z F ad (prB (prA X g k) g (25 + 6 * f) i k) f) rfl 5 (by decide) rfl hN (by decide +kernel) rfl dX1_putInRow_67 ?_
        refine lv_iload_n hx hb dX1_putInRow_70 rfl (lv_at hl 1 rfl) ?_
        refine lv_aload_n hx hb dX1_putInRow_71 rfl (lv_at hl 2 rfl) ?_
        refine lv_aload_n hx hb dX1_putInRow_72 rfl (lv_at hl 2 rfl) ?_
        refine cr_get (v := .ref (ad (g + 3))) hx hb hts hin1 hown hK hW g (by omega) (cE_f0 I Z F ad (prB (prA X g k) g (25 + 6 * f) i k) hg) rfl 3 (by decide) rfl (by decide +kernel) rfl dX1_putInRow_73 ?_
        refine lv_iload hx hb dX1_putInRow_76 (lv_at hl 0 rfl) ?_
        refine cr_iald hx hb hK hW (g + 3) (by omega) (cE_f3 I Z F ad (prB (prA X g k) g (25 + 6 * f) i k) hg) k (by omega) (by decide) rfl dX1_putInRow_78 ?_
        have p3 : prB (prA X g k) g (25 + 6 * f) i k (g + 3) k < 0 ∨ ∃ j : Nat, j < 626 ∧ prB (prA X g k) g (25 + 6 * f) i k (g + 3) k = nI j := by rw [prB, mst_ne (by omega), prA, mst_ne (by omega), g3]; exact (hlh k hk).2
        refine cr_calli (va_runV (As := [.int ((prB (prA X g k) g (25 + 6 * f) i k) (g + 3) k)]) (rest := [.int (nI i), .ref (ad (25 + 6 * f + 4))]) ⟨hx, hb, hml, hown, hts⟩ (c_placeOrLeaf l D I Z F ad hI (prB (prA X g k) g (25 + 6 * f) i k) H.size g hg ((prB (prA X g k) g (25 + 6 * f) i k) (g + 3) k) p3) (cwV 1 hts gX1_putInRow_X1_placeOrLeaf rfl rfl rfl (by decide +kernel) ⟨Nat.le_of_ble_eq_true rfl, Nat.le_of_ble_eq_true rfl⟩) (cr_preV hK hN hW g (by omega) (cE_f0 I Z F ad (prB (prA X g k) g (25 + 6 * f) i k) hg) rfl) rfl rfl hl.1 rfl (lv_room (Nat.le_of_ble_eq_true rfl)) dX1_putInRow_79 ⟨Nat.le_refl _, Nat.le_refl _⟩) hA hDa hW (fun r u H locs hp hW => ?_)
        obtain ⟨rfl, rfl⟩ := hp
        refine cr_iast hx hb hK hDa hW (25 + 6 * f + 4) (by omega) (cE_d4 I Z F ad (prB (prA X g k) g (25 + 6 * f) i k) f) i (by omega) (by decide) rfl dX1_putInRow_82 (fun H locs hW => ?_)
        rw [show mst (prB (prA X g k) g (25 + 6 * f) i k) (25 + 6 * f + 4) i (polF (prB (prA X g k) g (25 + 6 * f) i k) g (prB (prA X g k) g (25 + 6 * f) i k (g + 3) k)) = prC (prB (prA X g k) g (25 + 6 * f) i k) g (25 + 6 * f) i k from rfl, ← hstep] at hW
        refine lv_iinc (v := nI (i + 1)) (lv' := [(3, .int (nI (i + 1))), (4, .int (nI k)), (0, .ref (ad g)), (1, .ref (ad (25 + 6 * f))), (2, .int part)]) hx hb dX1_putInRow_83 hl (k := 1) rfl (nI_1 i) (by decide) rfl (fun ls hl => ?_)
        refine lv_goto (tgt := 22) hx hb dX1_putInRow_86 (by decide) ?_
        exact ih (i + 1) (by omega) ls H locs (lv_sub hl [0, 2, 3, 4] rfl) hW
  exact loop z 0 (by omega) ls H locs (lv_sub hl [0, 1, 2, 3] rfl) hW
