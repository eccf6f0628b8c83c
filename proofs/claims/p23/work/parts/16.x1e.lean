abbrev rm_putLast : Room := { frames := 0, cells := 0, slots := 0, locals := 0 }
set_option maxHeartbeats 4000000 in
set_option maxRecDepth 100000 in
/-- a fork is put last into a fold's row -/
theorem c_putLast (l : Launch) (D : va_G) (I Z F : ClassId) (ad : Nat → Nat) (hI : cI ad) (M : Nat → Nat → Int32) (sz : Nat) (g : Nat) (hg : g = 3 ∨ g = 15) (f : Nat) (hf : f < 12) (z : Nat) (hz : M (25 + 6 * f) 2 = nI z) (hz7 : z < 77) (k : Nat) (hk : k < 626) : Met l yX1_putLast wsX1_putLast rm_putLast (va_Pc [.ref (ad g), .ref (ad (25 + 6 * f)), .int (nI k)] (cU D I Z F ad sz M)) (va_Qi (fun (r : Int32) (u : Nat → Nat → Int32) => u = plM M g (25 + 6 * f) z k ∧ r = nI z) (fun u t => cP D I Z F ad u t.heap) (cA ad sz)) 0 0 (cA ad sz) := by
  refine cMet_i (cc := cX1_putLast) (maxL := 4) hI (by decide) rfl ⟨rfl, rfl⟩ RX1 rfl (Nat.le_of_ble_eq_true rfl) (lv := [(0, .ref (ad g)), (1, .ref (ad (25 + 6 * f))), (2, .int (nI k))]) rfl ?_
  intro p e s m args below meth c Q A ls hsz C0 hW hl hret
  obtain ⟨hx, hb, hml, hts, hown, hlocks, hK, hN, hDa, hA, hargs⟩ := C0
  have hin1 : ∀ w ∈ u_ws RX1 TX1 10, w ∈ wsX1_putLast := by decide +kernel
  have hgl : g < 16 := by omega
  have hin0 : ∀ w ∈ u_ws RX0 TX0 7, w ∈ wsX1_putLast := by decide +kernel
  refine lv_aload_n hx hb dX1_putLast_0 rfl (lv_at hl 1 rfl) ?_
  refine cr_getN (v := .int (M (25 + 6 * f) 2)) (host := "SharedForks") hx hb hts hin0 hown hK hW (25 + 6 * f) (by omega) (cE_d0 I Z F ad M f) rfl 2 (by decide) rfl hN (by decide +kernel) rfl dX1_putLast_1 ?_
  rw [hz]
  refine lv_istore_n (lv' := [(3, .int (nI z)), (0, .ref (ad g)), (1, .ref (ad (25 + 6 * f))), (2, .int (nI k))]) hx hb dX1_putLast_4 rfl hl (by decide) rfl (fun ls hl => ?_)
  refine lv_aload_n hx hb dX1_putLast_5 rfl (lv_at hl 2 rfl) ?_
  refine lv_dup hx hb dX1_putLast_6 rfl ?_
  refine cr_getN (v := .int (M (25 + 6 * f) 2)) (host := "SharedForks") hx hb hts hin0 hown hK hW (25 + 6 * f) (by omega) (cE_d0 I Z F ad M f) rfl 2 (by decide) rfl hN (by decide +kernel) rfl dX1_putLast_7 ?_
  rw [hz]
  refine lv_iconst (v := 1) hx hb dX1_putLast_10 (by decide) ?_
  refine lv_iadd hx hb dX1_putLast_11 ?_
  rw [nI_1]
  refine cr_putN (host := "SharedForks") hx hb hts hin0 tyX0 tyX0_ok nmX0 hown hK hDa hW (25 + 6 * f) (by omega) (cE_d0 I Z F ad M f) rfl 2 (by decide) rfl hN (by decide +kernel) (ty := .int) (by decide +kernel) rfl rfl (Nat.le_of_ble_eq_true rfl) (cS_d0p2 f _ _) dX1_putLast_12 (fun H locs hW => ?_)
  refine lv_aload_n hx hb dX1_putLast_15 rfl (lv_at hl 2 rfl) ?_
  refine cr_getN (v := .ref (ad (25 + 6 * f + 2))) (host := "SharedForks") hx hb hts hin0 hown hK hW (25 + 6 * f) (by omega) (cE_d0 I Z F ad (mst M (25 + 6 * f) 2 (nI (z + 1))) f) rfl 3 (by decide) rfl hN (by decide +kernel) rfl dX1_putLast_16 ?_
  refine lv_iload_n hx hb dX1_putLast_19 rfl (lv_at hl 0 rfl) ?_
  refine lv_iload_n hx hb dX1_putLast_20 rfl (lv_at hl 3 rfl) ?_
  refine cr_iast hx hb hK hDa hW (25 + 6 * f + 2) (by omega) (cE_d2 I Z F ad (mst M (25 + 6 * f) 2 (nI (z + 1))) f) z hz7 (by decide) rfl dX1_putLast_21 (fun H locs hW => ?_)
  refine lv_aload_n hx hb dX1_putLast_22 rfl (lv_at hl 1 rfl) ?_
  refine cr_get (v := .ref (ad (g + 9))) hx hb hts hin1 hown hK hW g (by omega) (cE_f0 I Z F ad (mst (mst M (25 + 6 * f) 2 (nI (z + 1))) (25 + 6 * f + 2) z (nI k)) hg) rfl 9 (by decide) rfl (by decide +kernel) rfl dX1_putLast_23 ?_
  refine lv_iload_n hx hb dX1_putLast_26 rfl (lv_at hl 3 rfl) ?_
  refine lv_iload_n hx hb dX1_putLast_27 rfl (lv_at hl 0 rfl) ?_
  refine cr_iast hx hb hK hDa hW (g + 9) (by omega) (cE_f9 I Z F ad (mst (mst M (25 + 6 * f) 2 (nI (z + 1))) (25 + 6 * f + 2) z (nI k)) hg) k hk (by decide) rfl dX1_putLast_28 (fun H locs hW => ?_)
  refine lv_iload_n hx hb dX1_putLast_29 rfl (lv_at hl 0 rfl) ?_
  exact hret 30 ls H locs _ _ dX1_putLast_30 ⟨rfl, rfl⟩ hW

def polF (M : Nat → Nat → Int32) (g : Nat) (part : Int32) : Int32 := if part < 0 then part else M (g + 9) part.toNatClampNeg
abbrev rm_placeOrLeaf : Room := { frames := 0, cells := 0, slots := 0, locals := 0 }
set_option maxHeartbeats 4000000 in
set_option maxRecDepth 100000 in
/-- the place of a part, or the leaf itself -/
theorem c_placeOrLeaf (l : Launch) (D : va_G) (I Z F : ClassId) (ad : Nat → Nat) (hI : cI ad) (M : Nat → Nat → Int32) (sz : Nat) (g : Nat) (hg : g = 3 ∨ g = 15) (part : Int32) (hp0 : part < 0 ∨ ∃ k : Nat, k < 626 ∧ part = nI k) : Met l yX1_placeOrLeaf wsX1_placeOrLeaf rm_placeOrLeaf (va_Pc [.ref (ad g), .int part] (cU D I Z F ad sz M)) (va_Qi (fun (r : Int32) (u : Nat → Nat → Int32) => u = M ∧ r = polF M g part) (fun u t => cP D I Z F ad u t.heap) (cA ad sz)) 0 0 (cA ad sz) := by
  refine cMet_i (cc := cX1_placeOrLeaf) (maxL := 2) hI (by decide) rfl ⟨rfl, rfl⟩ RX1 rfl (Nat.le_of_ble_eq_true rfl) (lv := [(0, .ref (ad g)), (1, .int part)]) rfl ?_
  intro p e s m args below meth c Q A ls hsz C0 hW hl hret
  obtain ⟨hx, hb, hml, hts, hown, hlocks, hK, hN, hDa, hA, hargs⟩ := C0
  have hin1 : ∀ w ∈ u_ws RX1 TX1 10, w ∈ wsX1_placeOrLeaf := by decide +kernel
  have hgl : g < 16 := by omega
  refine lv_iload_n hx hb dX1_placeOrLeaf_0 rfl (lv_at hl 1 rfl) ?_
  refine lv_if_ge (tgt := 8) hx hb dX1_placeOrLeaf_1 (by decide) (fun c1 => ?_) (fun c1 => ?_)
  · skip
    have hng : ¬ part < 0 := fun h => Int32.not_le.mpr h c1
    obtain ⟨k, hk, rfl⟩ := hp0.resolve_left hng
    refine lv_aload_n hx hb dX1_placeOrLeaf_8 rfl (lv_at hl 0 rfl) ?_
    refine cr_get (v := .ref (ad (g + 9))) hx hb hts hin1 hown hK hW g (by omega) (cE_f0 I Z F ad M hg) rfl 9 (by decide) rfl (by decide +kernel) rfl dX1_placeOrLeaf_9 ?_
    refine lv_iload_n hx hb dX1_placeOrLeaf_12 rfl (lv_at hl 1 rfl) ?_
    refine cr_iald hx hb hK hW (g + 9) (by omega) (cE_f9 I Z F ad M hg) k hk (by decide) rfl dX1_placeOrLeaf_13 ?_
    exact hret 14 ls _ _ _ _ dX1_placeOrLeaf_14 ⟨rfl, by rw [polF, if_neg hng, nI_clamp (by omega)]⟩ hW
  · skip
    have hng : part < 0 := Int32.not_le.mp c1
    refine lv_iload_n hx hb dX1_placeOrLeaf_4 rfl (lv_at hl 1 rfl) ?_
    refine lv_goto (tgt := 14) hx hb dX1_placeOrLeaf_5 (by decide) ?_
    exact hret 14 ls _ _ _ _ dX1_placeOrLeaf_14 ⟨rfl, by rw [polF, if_pos hng]⟩ hW

abbrev rm_walk (d : Nat) : Room := { frames := d + 1, cells := 0, slots := 0, locals := 30 * (d + 1) }
set_option maxHeartbeats 4000000 in
set_option maxRecDepth 100000 in
/-- the walk through a part's forks, with at most d levels to come -/
theorem c_walk (l : Launch) (D : va_G) (I Z F : ClassId) (ad : Nat → Nat) (hI : cI ad) (g : Nat) (hg : g = 3 ∨ g = 15) (f : Nat) (hf : f < 12) (n : Nat) : ∀ (d : Nat), d ≤ 8 → ∀ (M : Nat → Nat → Int32) (sz : Nat) (part : Int32), wkOk M g (25 + 6 * f) n → Met l yX1_walk wsX1_walk (rm_walk d) (va_Pc [.ref (ad g), .ref (ad (25 + 6 * f)), .int part, .int (nI (8 - d))] (cU D I Z F ad sz M)) (va_Qv (fun (u : Nat → Nat → Int32) => u = wkF g (25 + 6 * f) d M part) (fun u t => cP D I Z F ad u t.heap) (cA ad sz)) 0 0 (cA ad sz) := by
  intro d
  induction d with
  | zero =>
    intro hd M sz part hok
    refine cMet_v (cc := cX1_walk) (maxL := 6) hI (by decide) rfl ⟨rfl, rfl⟩ RX1 rfl (Nat.le_of_ble_eq_true rfl) (lv := [(0, .ref (ad g)), (1, .ref (ad (25 + 6 * f))), (2, .int part), (3, .int (nI (8 - 0)))]) rfl ?_
    intro p e s m args below meth c Q A ls hsz C0 hW hl hret
    obtain ⟨hx, hb, hml, hts, hown, hlocks, hK, hN, hDa, hA, hargs⟩ := C0
    have hin1 : ∀ w ∈ u_ws RX1 TX1 10, w ∈ wsX1_walk := by decide +kernel
    have hin0 : ∀ w ∈ u_ws RX0 TX0 7, w ∈ wsX1_walk := by decide +kernel
    have hgl : g < 16 := by omega
    obtain ⟨hn6, h0, z, hz7, hz, h9, h2⟩ := id hok
    refine lv_iload_n hx hb dX1_walk_0 rfl (lv_at hl 2 rfl) ?_
    refine lv_if_lt (tgt := 18) hx hb dX1_walk_1 (by decide) (fun c1 => ?_) (fun c1 => ?_)
    · skip
      exact hret 18 ls _ _ _ dX1_walk_18 rfl hW
    · skip
      refine lv_iload_n hx hb dX1_walk_4 rfl (lv_at hl 2 rfl) ?_
      refine lv_aload_n hx hb dX1_walk_5 rfl (lv_at hl 0 rfl) ?_
      refine cr_get (v := .int (M g 0)) hx hb hts hin1 hown hK hW g (by omega) (cE_f0 I Z F ad M hg) rfl 0 (by decide) rfl (by decide +kernel) rfl dX1_walk_6 ?_
      refine lv_icmp_ge (tgt := 18) hx hb dX1_walk_9 (by decide) (fun c2 => ?_) (fun c2 => ?_)
      · skip
        exact hret 18 ls _ _ _ dX1_walk_18 rfl hW
      · skip
        refine lv_iload_n hx hb dX1_walk_12 rfl (lv_at hl 3 rfl) ?_
        refine lv_bipush (v := 8) hx hb dX1_walk_13 (by decide) ?_
        refine lv_icmp_lt (tgt := 19) hx hb dX1_walk_15 (by decide) (fun c3 => ?_) (fun c3 => ?_)
        · exact absurd c3 (by decide)
        · skip
          exact hret 18 ls _ _ _ dX1_walk_18 rfl hW
  | succ d ih =>
    intro hd M sz part hok
    have e87 : 8 - (d + 1) = 7 - d := by omega
    rw [e87]
    refine cMet_v (cc := cX1_walk) (maxL := 6) hI (by decide) rfl ⟨rfl, rfl⟩ RX1 rfl (Nat.le_of_ble_eq_true rfl) (lv := [(0, .ref (ad g)), (1, .ref (ad (25 + 6 * f))), (2, .int part), (3, .int (nI (7 - d)))]) rfl ?_
    intro p e s m args below meth c Q A ls hsz C0 hW hl hret
    obtain ⟨hx, hb, hml, hts, hown, hlocks, hK, hN, hDa, hA, hargs⟩ := C0
    have hin1 : ∀ w ∈ u_ws RX1 TX1 10, w ∈ wsX1_walk := by decide +kernel
    have hin0 : ∀ w ∈ u_ws RX0 TX0 7, w ∈ wsX1_walk := by decide +kernel
    have hgl : g < 16 := by omega
    obtain ⟨hn6, h0, z, hz7, hz, h9, h2⟩ := id hok
    refine lv_iload_n hx hb dX1_walk_0 rfl (lv_at hl 2 rfl) ?_
    refine lv_if_lt (tgt := 18) hx hb dX1_walk_1 (by decide) (fun c1 => ?_) (fun c1 => ?_)
    · skip
      exact hret 18 ls _ _ _ dX1_walk_18 (by rw [wkF, if_pos c1]) hW
    · skip
      refine lv_iload_n hx hb dX1_walk_4 rfl (lv_at hl 2 rfl) ?_
      refine lv_aload_n hx hb dX1_walk_5 rfl (lv_at hl 0 rfl) ?_
      refine cr_get (v := .int (M g 0)) hx hb hts hin1 hown hK hW g (by omega) (cE_f0 I Z F ad M hg) rfl 0 (by decide) rfl (by decide +kernel) rfl dX1_walk_6 ?_
      refine lv_icmp_ge (tgt := 18) hx hb dX1_walk_9 (by decide) (fun c2 => ?_) (fun c2 => ?_)
      · skip
        exact hret 18 ls _ _ _ dX1_walk_18 (by rw [wkF, if_neg c1, if_pos c2]) hW
      · skip
        refine lv_iload_n hx hb dX1_walk_12 rfl (lv_at hl 3 rfl) ?_
        refine lv_bipush (v := 8) hx hb dX1_walk_13 (by decide) ?_
        refine lv_icmp_lt (tgt := 19) hx hb dX1_walk_15 (by decide) (fun c3 => ?_) (fun c3 => ?_)
        · skip
          have c2n := c2
          rw [h0] at c2n
          obtain ⟨k, hk, rfl⟩ := part_of hn6 c1 c2n
          have hF := wkF.eq_2 g (25 + 6 * f) M (nI k) d
          rw [if_neg c1, if_neg c2, nI_clamp (show k < 2 ^ 31 by omega)] at hF
          refine lv_aload_n hx hb dX1_walk_19 rfl (lv_at hl 0 rfl) ?_
          refine cr_get (v := .ref (ad (g + 9))) hx hb hts hin1 hown hK hW g (by omega) (cE_f0 I Z F ad M hg) rfl 9 (by decide) rfl (by decide +kernel) rfl dX1_walk_20 ?_
          refine lv_iload_n hx hb dX1_walk_23 rfl (lv_at hl 2 rfl) ?_
          refine cr_iald hx hb hK hW (g + 9) (by omega) (cE_f9 I Z F ad M hg) k (by omega) (by decide) rfl dX1_walk_24 ?_
          refine lv_istore (lv' := [(4, .int (M (g + 9) k)), (0, .ref (ad g)), (1, .ref (ad (25 + 6 * f))), (2, .int (nI k)), (3, .int (nI (7 - d)))]) hx hb dX1_walk_25 hl (by decide) rfl (fun ls hl => ?_)
          refine lv_iload hx hb dX1_walk_27 (lv_at hl 0 rfl) ?_
          refine lv_if_ge (tgt := 49) hx hb dX1_walk_29 (by decide) (fun c4 => ?_) (fun c4 => ?_)
          · skip
            have hng : ¬ M (g + 9) k < 0 := fun h => Int32.not_le.mpr h c4
            obtain ⟨i, hi, ei⟩ := (h9 k (by omega)).resolve_left hng
            rw [if_neg hng, ei, nI_clamp (show i < 2 ^ 31 by omega)] at hF
            rw [ei] at hl
            refine lv_iload_n hx hb dX1_walk_49 rfl (lv_at hl 4 rfl) ?_
            refine lv_aload_n hx hb dX1_walk_50 rfl (lv_at hl 2 rfl) ?_
            refine cr_getN (v := .ref (ad (25 + 6 * f + 5))) (host := "SharedForks") hx hb hts hin0 hown hK hW (25 + 6 * f) (by omega) (cE_d0 I Z F ad M f) rfl 6 (by decide) rfl hN (by decide +kernel) rfl dX1_walk_51 ?_
            refine lv_iload hx hb dX1_walk_54 (lv_at hl 0 rfl) ?_
            refine cr_iald hx hb hK hW (25 + 6 * f + 5) (by omega) (cE_d5 I Z F ad M f) i (by omega) (by decide) rfl dX1_walk_56 ?_
            refine lv_icmp_lt (tgt := 64) hx hb dX1_walk_57 (by decide) (fun c5 => ?_) (fun c5 => ?_)
            · skip
              rw [if_neg (fun h => Int32.not_le.mpr c5 h)] at hF
              refine lv_iconst (v := 0) hx hb dX1_walk_64 (by decide) ?_
              refine lv_istore (lv' := [(5, .int 0), (4, .int (nI i)), (0, .ref (ad g)), (1, .ref (ad (25 + 6 * f))), (2, .int (nI k)), (3, .int (nI (7 - d)))]) hx hb dX1_walk_65 hl (by decide) rfl (fun ls hl => ?_)
              refine lv_iload hx hb dX1_walk_67 (lv_at hl 0 rfl) ?_
              refine lv_if_eq (tgt := 73) hx hb dX1_walk_69 (by decide) (fun c6 => ?_) (fun c6 => ?_)
              · skip
                refine lv_iload hx hb dX1_walk_73 (lv_at hl 1 rfl) ?_
                refine lv_if_ge (tgt := 86) hx hb dX1_walk_75 (by decide) (fun c7 => ?_) (fun c7 => ?_)
                · skip
                  refine lv_aload_n hx hb dX1_walk_86 rfl (lv_at hl 3 rfl) ?_
                  refine cr_getN (v := .ref (ad (25 + 6 * f + 5))) (host := "SharedForks") hx hb hts hin0 hown hK hW (25 + 6 * f) (by omega) (cE_d0 I Z F ad M f) rfl 6 (by decide) rfl hN (by decide +kernel) rfl dX1_walk_87 ?_
                  refine lv_iload hx hb dX1_walk_90 (lv_at hl 1 rfl) ?_
                  refine lv_iload_n hx hb dX1_walk_92 rfl (lv_at hl 5 rfl) ?_
                  refine cr_iast hx hb hK hDa hW (25 + 6 * f + 5) (by omega) (cE_d5 I Z F ad M f) i (by omega) (by decide) rfl dX1_walk_93 (fun H locs hW => ?_)
                  obtain ⟨M2, hM2⟩ : ∃ M2, M2 = (mst M (25 + 6 * f + 5) i (nI (7 - d))) := ⟨_, rfl⟩
                  rw [← hM2] at hW
                  have hok2 : wkOk M2 g (25 + 6 * f) n := by rw [hM2]; exact wkOk_st (by omega) hok _ _
                  rw [← hM2] at hF
                  refine lv_aload_n hx hb dX1_walk_94 rfl (lv_at hl 2 rfl) ?_
                  refine lv_aload_n hx hb dX1_walk_95 rfl (lv_at hl 3 rfl) ?_
                  refine lv_aload_n hx hb dX1_walk_96 rfl (lv_at hl 2 rfl) ?_
                  refine cr_get (v := .ref (ad (g + 2))) hx hb hts hin1 hown hK hW g (by omega) (cE_f0 I Z F ad M2 hg) rfl 2 (by decide) rfl (by decide +kernel) rfl dX1_walk_97 ?_
                  refine lv_iload_n hx hb dX1_walk_100 rfl (lv_at hl 4 rfl) ?_
                  refine cr_iald hx hb hK hW (g + 2) (by omega) (cE_f2 I Z F ad M2 hg) k (by omega) (by decide) rfl dX1_walk_101 ?_
                  refine lv_iload_n hx hb dX1_walk_102 rfl (lv_at hl 5 rfl) ?_
                  refine lv_iconst (v := 1) hx hb dX1_walk_103 (by decide) ?_
                  refine lv_iadd hx hb dX1_walk_104 ?_
                  rw [nI_1, show 7 - d + 1 = 8 - d by omega]
                  refine cr_callv (va_runS (As := [.ref (ad g), .ref (ad (25 + 6 * f)), .int (M2 (g + 2) k), .int (nI (8 - d))]) (rest := []) ⟨hx, hb, hml, hown, hts⟩ (ih (by omega) M2 H.size ((M2 (g + 2) k)) hok2) (va_cwS 4 hts gX1_walk_X1_walk rfl rfl rfl (by decide +kernel) ⟨Nat.le_refl _, by show 8 + (6 + 11) + 30 * (d + 1) ≤ 30 * (d + 1 + 1); omega⟩) (cr_preS hK hN hW) rfl rfl hl.1 rfl (lv_room (Nat.le_of_ble_eq_true rfl)) dX1_walk_105 ⟨Nat.le_refl _, Nat.le_refl _⟩) hA hDa hW (fun u H locs hp hW => ?_)
                  obtain ⟨M3, hM3⟩ : ∃ M3, M3 = wkF g (25 + 6 * f) d M2 ((M2 (g + 2) k)) := ⟨_, rfl⟩
                  rw [← hM3] at hp hF
                  have hok3 : wkOk M3 g (25 + 6 * f) n := by rw [hM3]; exact wkF_ok (by omega) _ _ _ hok2
                  rw [hp] at hW
                  refine lv_aload_n hx hb dX1_walk_108 rfl (lv_at hl 2 rfl) ?_
                  refine lv_aload_n hx hb dX1_walk_109 rfl (lv_at hl 3 rfl) ?_
                  refine lv_aload_n hx hb dX1_walk_110 rfl (lv_at hl 2 rfl) ?_
                  refine cr_get (v := .ref (ad (g + 3))) hx hb hts hin1 hown hK hW g (by omega) (cE_f0 I Z F ad M3 hg) rfl 3 (by decide) rfl (by decide +kernel) rfl dX1_walk_111 ?_
                  refine lv_iload_n hx hb dX1_walk_114 rfl (lv_at hl 4 rfl) ?_
                  refine cr_iald hx hb hK hW (g + 3) (by omega) (cE_f3 I Z F ad M3 hg) k (by omega) (by decide) rfl dX1_walk_115 ?_
                  refine lv_iload_n hx hb dX1_walk_116 rfl (lv_at hl 5 rfl) ?_
                  refine lv_iconst (v := 1) hx hb dX1_walk_117 (by decide) ?_
                  refine lv_iadd hx hb dX1_walk_118 ?_
                  rw [nI_1, show 7 - d + 1 = 8 - d by omega]
                  refine cr_callv (va_runS (As := [.ref (ad g), .ref (ad (25 + 6 * f)), .int (M3 (g + 3) k), .int (nI (8 - d))]) (rest := []) ⟨hx, hb, hml, hown, hts⟩ (ih (by omega) M3 H.size ((M3 (g + 3) k)) hok3) (va_cwS 4 hts gX1_walk_X1_walk rfl rfl rfl (by decide +kernel) ⟨Nat.le_refl _, by show 8 + (6 + 11) + 30 * (d + 1) ≤ 30 * (d + 1 + 1); omega⟩) (cr_preS hK hN hW) rfl rfl hl.1 rfl (lv_room (Nat.le_of_ble_eq_true rfl)) dX1_walk_119 ⟨Nat.le_refl _, Nat.le_refl _⟩) hA hDa hW (fun u H locs hp hW => ?_)
                  exact hret 122 ls H locs _ dX1_walk_122 (by rw [hp, hF]) hW
                · exact absurd (nI_pos' (by omega)) c7
              · exact absurd c6 (by decide)
            · skip
              rw [if_pos (Int32.not_lt.mp c5)] at hF
              refine lv_iconst (v := 1) hx hb dX1_walk_60 (by decide) ?_
              refine lv_goto (tgt := 65) hx hb dX1_walk_61 (by decide) ?_
              refine lv_istore (lv' := [(5, .int 1), (4, .int (nI i)), (0, .ref (ad g)), (1, .ref (ad (25 + 6 * f))), (2, .int (nI k)), (3, .int (nI (7 - d)))]) hx hb dX1_walk_65 hl (by decide) rfl (fun ls hl => ?_)
              refine lv_iload hx hb dX1_walk_67 (lv_at hl 0 rfl) ?_
              refine lv_if_eq (tgt := 73) hx hb dX1_walk_69 (by decide) (fun c6 => ?_) (fun c6 => ?_)
              · exact absurd c6 (by decide)
              · skip
                exact hret 72 ls _ _ _ dX1_walk_72 hF.symm hW
          · skip
            have hng : M (g + 9) k < 0 := Int32.not_le.mp c4
            rw [if_pos hng] at hF
            refine lv_aload_n hx hb dX1_walk_32 rfl (lv_at hl 2 rfl) ?_
            refine cr_getN (v := .int (M (25 + 6 * f) 2)) (host := "SharedForks") hx hb hts hin0 hown hK hW (25 + 6 * f) (by omega) (cE_d0 I Z F ad M f) rfl 2 (by decide) rfl hN (by decide +kernel) rfl dX1_walk_33 ?_
            refine lv_bipush (v := 77) hx hb dX1_walk_36 (by decide) ?_
            refine lv_icmp_lt (tgt := 45) hx hb dX1_walk_38 (by decide) (fun c5 => ?_) (fun c5 => ?_)
            · skip
              rw [if_neg (fun h => Int32.not_le.mpr c5 h), hz, nI_clamp (show z < 2 ^ 31 by omega)] at hF
              have hz8 : z < 77 := by rw [hz] at c5; exact (nI_ltI (by omega) (by decide)).mp c5
              refine lv_iconst (v := 0) hx hb dX1_walk_45 (by decide) ?_
              refine lv_goto (tgt := 65) hx hb dX1_walk_46 (by decide) ?_
              refine lv_istore (lv' := [(5, .int 0), (4, .int (M (g + 9) k)), (0, .ref (ad g)), (1, .ref (ad (25 + 6 * f))), (2, .int (nI k)), (3, .int (nI (7 - d)))]) hx hb dX1_walk_65 hl (by decide) rfl (fun ls hl => ?_)
              refine lv_iload hx hb dX1_walk_67 (lv_at hl 0 rfl) ?_
              refine lv_if_eq (tgt := 73) hx hb dX1_walk_69 (by decide) (fun c6 => ?_) (fun c6 => ?_)
              · skip
                refine lv_iload hx hb dX1_walk_73 (lv_at hl 1 rfl) ?_
                refine lv_if_ge (tgt := 86) hx hb dX1_walk_75 (by decide) (fun c7 => ?_) (fun c7 => ?_)
                · exact absurd c7 c4
                · skip
                  refine lv_aload_n hx hb dX1_walk_78 rfl (lv_at hl 2 rfl) ?_
                  refine lv_aload_n hx hb dX1_walk_79 rfl (lv_at hl 3 rfl) ?_
                  refine lv_iload_n hx hb dX1_walk_80 rfl (lv_at hl 4 rfl) ?_
                  refine cr_calli (va_runV (As := [.ref (ad (25 + 6 * f)), .int (nI k)]) (rest := []) ⟨hx, hb, hml, hown, hts⟩ (c_putLast l D I Z F ad hI M s.heap.size g hg f hf z hz hz8 k (by omega)) (cwV 2 hts gX1_walk_X1_putLast rfl rfl rfl (by decide +kernel) ⟨by show 0 + 1 ≤ d + 1 + 1; omega, by show 8 + (4 + 11) + 0 ≤ 30 * (d + 1 + 1); omega⟩) (cr_preV hK hN hW g (by omega) (cE_f0 I Z F ad M hg) rfl) rfl rfl hl.1 rfl (lv_room (Nat.le_of_ble_eq_true rfl)) dX1_walk_81 ⟨Nat.le_refl _, Nat.le_refl _⟩) hA hDa hW (fun r u H locs hp hW => ?_)
                  obtain ⟨rfl, rfl⟩ := hp
                  refine lv_istore (lv' := [(4, .int (nI z)), (5, .int 0), (0, .ref (ad g)), (1, .ref (ad (25 + 6 * f))), (2, .int (nI k)), (3, .int (nI (7 - d)))]) hx hb dX1_walk_84 hl (by decide) rfl (fun ls hl => ?_)
                  refine lv_aload_n hx hb dX1_walk_86 rfl (lv_at hl 3 rfl) ?_
                  refine cr_getN (v := .ref (ad (25 + 6 * f + 5))) (host := "SharedForks") hx hb hts hin0 hown hK hW (25 + 6 * f) (by omega) (cE_d0 I Z F ad (plM M g (25 + 6 * f) z k) f) rfl 6 (by decide) rfl hN (by decide +kernel) rfl dX1_walk_87 ?_
                  refine lv_iload hx hb dX1_walk_90 (lv_at hl 0 rfl) ?_
                  refine lv_iload_n hx hb dX1_walk_92 rfl (lv_at hl 5 rfl) ?_
                  refine cr_iast hx hb hK hDa hW (25 + 6 * f + 5) (by omega) (cE_d5 I Z F ad (plM M g (25 + 6 * f) z k) f) z hz8 (by decide) rfl dX1_walk_93 (fun H locs hW => ?_)
                  obtain ⟨M2, hM2⟩ : ∃ M2, M2 = (mst (plM M g (25 + 6 * f) z k) (25 + 6 * f + 5) z (nI (7 - d))) := ⟨_, rfl⟩
                  rw [← hM2] at hW
                  have hok2 : wkOk M2 g (25 + 6 * f) n := by rw [hM2]; exact wkOk_pl (by omega) hok hz hz8 hk _
                  rw [← hM2] at hF
                  refine lv_aload_n hx hb dX1_walk_94 rfl (lv_at hl 2 rfl) ?_
                  refine lv_aload_n hx hb dX1_walk_95 rfl (lv_at hl 3 rfl) ?_
                  refine lv_aload_n hx hb dX1_walk_96 rfl (lv_at hl 2 rfl) ?_
                  refine cr_get (v := .ref (ad (g + 2))) hx hb hts hin1 hown hK hW g (by omega) (cE_f0 I Z F ad M2 hg) rfl 2 (by decide) rfl (by decide +kernel) rfl dX1_walk_97 ?_
                  refine lv_iload_n hx hb dX1_walk_100 rfl (lv_at hl 4 rfl) ?_
                  refine cr_iald hx hb hK hW (g + 2) (by omega) (cE_f2 I Z F ad M2 hg) k (by omega) (by decide) rfl dX1_walk_101 ?_
                  refine lv_iload_n hx hb dX1_walk_102 rfl (lv_at hl 5 rfl) ?_
                  refine lv_iconst (v := 1) hx hb dX1_walk_103 (by decide) ?_
                  refine lv_iadd hx hb dX1_walk_104 ?_
                  rw [nI_1, show 7 - d + 1 = 8 - d by omega]
                  refine cr_callv (va_runS (As := [.ref (ad g), .ref (ad (25 + 6 * f)), .int (M2 (g + 2) k), .int (nI (8 - d))]) (rest := []) ⟨hx, hb, hml, hown, hts⟩ (ih (by omega) M2 H.size ((M2 (g + 2) k)) hok2) (va_cwS 4 hts gX1_walk_X1_walk rfl rfl rfl (by decide +kernel) ⟨Nat.le_refl _, by show 8 + (6 + 11) + 30 * (d + 1) ≤ 30 * (d + 1 + 1); omega⟩) (cr_preS hK hN hW) rfl rfl hl.1 rfl (lv_room (Nat.le_of_ble_eq_true rfl)) dX1_walk_105 ⟨Nat.le_refl _, Nat.le_refl _⟩) hA hDa hW (fun u H locs hp hW => ?_)
                  obtain ⟨M3, hM3⟩ : ∃ M3, M3 = wkF g (25 + 6 * f) d M2 ((M2 (g + 2) k)) := ⟨_, rfl⟩
                  rw [← hM3] at hp hF
                  have hok3 : wkOk M3 g (25 + 6 * f) n := by rw [hM3]; exact wkF_ok (by omega) _ _ _ hok2
                  rw [hp] at hW
                  refine lv_aload_n hx hb dX1_walk_108 rfl (lv_at hl 2 rfl) ?_
                  refine lv_aload_n hx hb dX1_walk_109 rfl (lv_at hl 3 rfl) ?_
                  refine lv_aload_n hx hb dX1_walk_110 rfl (lv_at hl 2 rfl) ?_
                  refine cr_get (v := .ref (ad (g + 3))) hx hb hts hin1 hown hK hW g (by omega) (cE_f0 I Z F ad M3 hg) rfl 3 (by decide) rfl (by decide +kernel) rfl dX1_walk_111 ?_
                  refine lv_iload_n hx hb dX1_walk_114 rfl (lv_at hl 4 rfl) ?_
                  refine cr_iald hx hb hK hW (g + 3) (by omega) (cE_f3 I Z F ad M3 hg) k (by omega) (by decide) rfl dX1_walk_115 ?_
                  refine lv_iload_n hx hb dX1_walk_116 rfl (lv_at hl 5 rfl) ?_
                  refine lv_iconst (v := 1) hx hb dX1_walk_117 (by decide) ?_
                  refine lv_iadd hx hb dX1_walk_118 ?_
                  rw [nI_1, show 7 - d + 1 = 8 - d by omega]
                  refine cr_callv (va_runS (As := [.ref (ad g), .ref (ad (25 + 6 * f)), .int (M3 (g + 3) k), .int (nI (8 - d))]) (rest := []) ⟨hx, hb, hml, hown, hts⟩ (ih (by omega) M3 H.size ((M3 (g + 3) k)) hok3) (va_cwS 4 hts gX1_walk_X1_walk rfl rfl rfl (by decide +kernel) ⟨Nat.le_refl _, by show 8 + (6 + 11) + 30 * (d + 1) ≤ 30 * (d + 1 + 1); omega⟩) (cr_preS hK hN hW) rfl rfl hl.1 rfl (lv_room (Nat.le_of_ble_eq_true rfl)) dX1_walk_119 ⟨Nat.le_refl _, Nat.le_refl _⟩) hA hDa hW (fun u H locs hp hW => ?_)
                  exact hret 122 ls H locs _ dX1_walk_122 (by rw [hp, hF]) hW
              · exact absurd c6 (by decide)
            · skip
              rw [if_pos (Int32.not_lt.mp c5)] at hF
              refine lv_iconst (v := 1) hx hb dX1_walk_41 (by decide) ?_
              refine lv_goto (tgt := 65) hx hb dX1_walk_42 (by decide) ?_
              refine lv_istore (lv' := [(5, .int 1), (4, .int (M (g + 9) k)), (0, .ref (ad g)), (1, .ref (ad (25 + 6 * f))), (2, .int (nI k)), (3, .int (nI (7 - d)))]) hx hb dX1_walk_65 hl (by decide) rfl (fun ls hl => ?_)
              refine lv_iload hx hb dX1_walk_67 (lv_at hl 0 rfl) ?_
              refine lv_if_eq (tgt := 73) hx hb dX1_walk_69 (by decide) (fun c6 => ?_) (fun c6 => ?_)
              · exact absurd c6 (by decide)
              · skip
                exact hret 72 ls _ _ _ dX1_walk_72 hF.symm hW
        · exact absurd ((nI_ltI (by omega) (by decide)).mpr (show 7 - d < 8 by omega)) c3
