def syL (M : Nat → Nat → Int32) (b : Nat) : Nat → Nat → Int32
  | 0, _ => -1
  | q + 1, i => if M (b + 1) i = 0 then syL M b q (i + 1) else nI i
def gyL (M : Nat → Nat → Int32) (b : Nat) : Nat → Int32
  | 0 => -1
  | i + 1 => if M (b + 1) i = 0 then gyL M b i else nI i
abbrev rm_smallestYes : Room := { frames := 0, cells := 0, slots := 0, locals := 0 }
set_option maxHeartbeats 4000000 in
set_option maxRecDepth 100000 in
/-- the smallest answers with yes -/
theorem c_smallestYes (l : Launch) (D : va_G) (I Z F : ClassId) (ad : Nat → Nat) (hI : cI ad) (M : Nat → Nat → Int32) (sz : Nat) (f : Nat) (hf : f < 12) : Met l yX2_smallestYes wsX2_smallestYes rm_smallestYes (va_Pc [.ref (ad (25 + 6 * f))] (cU D I Z F ad sz M)) (va_Qi (fun (r : Int32) (u : Nat → Nat → Int32) => u = M ∧ r = syL M (25 + 6 * f) 256 0) (fun u t => cP D I Z F ad u t.heap) (cA ad sz)) 0 0 (cA ad sz) := by
  refine cMet_i (cc := cX2_smallestYes) (maxL := 2) hI (by decide) rfl ⟨rfl, rfl⟩ RX2 rfl (Nat.le_of_ble_eq_true rfl) (lv := [(0, .ref (ad (25 + 6 * f)))]) rfl ?_
  intro p e s m args below meth c Q A ls hsz C0 hW hl hret
  obtain ⟨hx, hb, hml, hts, hown, hlocks, hK, hN, hDa, hA, hargs⟩ := C0
  have hin0 : ∀ w ∈ u_ws RX0 TX0 7, w ∈ wsX2_smallestYes := by decide +kernel
  refine lv_iconst (v := 0) hx hb dX2_smallestYes_0 (by decide) ?_
  refine lv_istore_n (lv' := [(1, .int 0), (0, .ref (ad (25 + 6 * f)))]) hx hb dX2_smallestYes_1 rfl hl (by decide) rfl (fun ls hl => ?_)
  have loop : ∀ q i : Nat, i + q = 256 → syL M (25 + 6 * f) 256 0 = syL M (25 + 6 * f) q i → ∀ (ls : Array Slot), lv_has ls 2 [(1, .int (nI i)), (0, .ref (ad (25 + 6 * f)))] → W p l e rm_smallestYes s m args below meth c s.heap [] 0 0 Q (F0 m 2 ls []) := by
    intro q
    induction q with
    | zero =>
      intro i hi hv ls hl
      obtain rfl : i = 256 := by omega
      refine lv_iload_n hx hb dX2_smallestYes_2 rfl (lv_at hl 0 rfl) ?_
      refine lv_sipush (v := 256) hx hb dX2_smallestYes_3 (by decide) ?_
      refine lv_icmp_ge (tgt := 26) hx hb dX2_smallestYes_6 (by decide) (fun c1 => ?_) (fun c1 => ?_)
      · skip
        refine lv_iconst (v := -1) hx hb dX2_smallestYes_26 (by decide) ?_
        exact hret 27 ls _ _ _ _ dX2_smallestYes_27 ⟨rfl, by rw [hv]; rfl⟩ hW
      · exact absurd (nI_le (Nat.le_refl 256) (by decide)) c1
    | succ q ih =>
      intro i hi hv ls hl
      rw [show syL M (25 + 6 * f) (q + 1) i = if M ((25 + 6 * f) + 1) i = 0 then syL M (25 + 6 * f) q (i + 1) else nI i from rfl] at hv
      refine lv_iload_n hx hb dX2_smallestYes_2 rfl (lv_at hl 0 rfl) ?_
      refine lv_sipush (v := 256) hx hb dX2_smallestYes_3 (by decide) ?_
      refine lv_icmp_ge (tgt := 26) hx hb dX2_smallestYes_6 (by decide) (fun c1 => ?_) (fun c1 => ?_)
      · exact absurd c1 (nI_ge (b := 256) (by omega) (by decide))
      · skip
        refine lv_aload_n hx hb dX2_smallestYes_9 rfl (lv_at hl 1 rfl) ?_
        refine cr_getN (v := .ref (ad (25 + 6 * f + 1))) (host := "SharedForks") hx hb hts hin0 hown hK hW (25 + 6 * f) (by omega) (cE_d0 I Z F ad M f) rfl 1 (by decide) rfl hN (by decide +kernel) rfl dX2_smallestYes_10 ?_
        refine lv_iload_n hx hb dX2_smallestYes_13 rfl (lv_at hl 0 rfl) ?_
        refine cr_zald hx hb hK hW (25 + 6 * f + 1) (by omega) (cE_d1 I Z F ad M f) i (by omega) (by decide) rfl dX2_smallestYes_14 ?_
        refine lv_if_eq (tgt := 20) hx hb dX2_smallestYes_15 (by decide) (fun c2 => ?_) (fun c2 => ?_)
        · skip
          rw [if_pos c2] at hv
          refine lv_iinc (v := nI (i + 1)) (lv' := [(1, .int (nI (i + 1))), (0, .ref (ad (25 + 6 * f)))]) hx hb dX2_smallestYes_20 hl (k := 0) rfl (nI_1 i) (by decide) rfl (fun ls hl => ?_)
          refine lv_goto (tgt := 2) hx hb dX2_smallestYes_23 (by decide) ?_
          exact ih (i + 1) (by omega) hv ls (lv_sub hl [0, 1] rfl)
        · skip
          rw [if_neg c2] at hv
          refine lv_iload_n hx hb dX2_smallestYes_18 rfl (lv_at hl 0 rfl) ?_
          exact hret 19 ls _ _ _ _ dX2_smallestYes_19 ⟨rfl, hv.symm⟩ hW
  exact loop 256 0 (by decide) rfl ls (lv_sub hl [0, 1] rfl)

abbrev rm_greatestYes : Room := { frames := 0, cells := 0, slots := 0, locals := 0 }
set_option maxHeartbeats 4000000 in
set_option maxRecDepth 100000 in
/-- the greatest answers with yes -/
theorem c_greatestYes (l : Launch) (D : va_G) (I Z F : ClassId) (ad : Nat → Nat) (hI : cI ad) (M : Nat → Nat → Int32) (sz : Nat) (f : Nat) (hf : f < 12) : Met l yX2_greatestYes wsX2_greatestYes rm_greatestYes (va_Pc [.ref (ad (25 + 6 * f))] (cU D I Z F ad sz M)) (va_Qi (fun (r : Int32) (u : Nat → Nat → Int32) => u = M ∧ r = gyL M (25 + 6 * f) 256) (fun u t => cP D I Z F ad u t.heap) (cA ad sz)) 0 0 (cA ad sz) := by
  refine cMet_i (cc := cX2_greatestYes) (maxL := 2) hI (by decide) rfl ⟨rfl, rfl⟩ RX2 rfl (Nat.le_of_ble_eq_true rfl) (lv := [(0, .ref (ad (25 + 6 * f)))]) rfl ?_
  intro p e s m args below meth c Q A ls hsz C0 hW hl hret
  obtain ⟨hx, hb, hml, hts, hown, hlocks, hK, hN, hDa, hA, hargs⟩ := C0
  have hin0 : ∀ w ∈ u_ws RX0 TX0 7, w ∈ wsX2_greatestYes := by decide +kernel
  refine lv_sipush (v := 255) hx hb dX2_greatestYes_0 (by decide) ?_
  refine lv_istore_n (lv' := [(1, .int 255), (0, .ref (ad (25 + 6 * f)))]) hx hb dX2_greatestYes_3 rfl hl (by decide) rfl (fun ls hl => ?_)
  have loop : ∀ i : Nat, i ≤ 256 → gyL M (25 + 6 * f) 256 = gyL M (25 + 6 * f) i → ∀ (ls : Array Slot), lv_has ls 2 [(1, .int (nI i - 1)), (0, .ref (ad (25 + 6 * f)))] → W p l e rm_greatestYes s m args below meth c s.heap [] 0 0 Q (F0 m 4 ls []) := by
    intro i
    induction i with
    | zero =>
      intro hi hv ls hl
      refine lv_iload_n hx hb dX2_greatestYes_4 rfl (lv_at hl 0 rfl) ?_
      refine lv_if_lt (tgt := 25) hx hb dX2_greatestYes_5 (by decide) (fun c1 => ?_) (fun c1 => ?_)
      · skip
        refine lv_iconst (v := -1) hx hb dX2_greatestYes_25 (by decide) ?_
        exact hret 26 ls _ _ _ _ dX2_greatestYes_26 ⟨rfl, by rw [hv]; rfl⟩ hW
      · exact absurd (by decide : nI 0 - 1 < 0) c1
    | succ i ih =>
      intro hi hv ls hl
      rw [nI_pred] at hl
      rw [show gyL M (25 + 6 * f) (i + 1) = if M ((25 + 6 * f) + 1) i = 0 then gyL M (25 + 6 * f) i else nI i from rfl] at hv
      refine lv_iload_n hx hb dX2_greatestYes_4 rfl (lv_at hl 0 rfl) ?_
      refine lv_if_lt (tgt := 25) hx hb dX2_greatestYes_5 (by decide) (fun c1 => ?_) (fun c1 => ?_)
      · exact absurd c1 (nI_pos (by omega))
      · skip
        refine lv_aload_n hx hb dX2_greatestYes_8 rfl (lv_at hl 1 rfl) ?_
        refine cr_getN (v := .ref (ad (25 + 6 * f + 1))) (host := "SharedForks") hx hb hts hin0 hown hK hW (25 + 6 * f) (by omega) (cE_d0 I Z F ad M f) rfl 1 (by decide) rfl hN (by decide +kernel) rfl dX2_greatestYes_9 ?_
        refine lv_iload_n hx hb dX2_greatestYes_12 rfl (lv_at hl 0 rfl) ?_
        refine cr_zald hx hb hK hW (25 + 6 * f + 1) (by omega) (cE_d1 I Z F ad M f) i (by omega) (by decide) rfl dX2_greatestYes_13 ?_
        refine lv_if_eq (tgt := 19) hx hb dX2_greatestYes_14 (by decide) (fun c2 => ?_) (fun c2 => ?_)
        · skip
          rw [if_pos c2] at hv
          refine lv_iinc (v := nI i - 1) (lv' := [(1, .int (nI i - 1)), (0, .ref (ad (25 + 6 * f)))]) hx hb dX2_greatestYes_19 hl (k := 0) rfl (nI_m1 i) (by decide) rfl (fun ls hl => ?_)
          refine lv_goto (tgt := 4) hx hb dX2_greatestYes_22 (by decide) ?_
          exact ih (by omega) hv ls (lv_sub hl [0, 1] rfl)
        · skip
          rw [if_neg c2] at hv
          refine lv_iload_n hx hb dX2_greatestYes_17 rfl (lv_at hl 0 rfl) ?_
          exact hret 18 ls _ _ _ _ dX2_greatestYes_18 ⟨rfl, hv.symm⟩ hW
  exact loop 256 (by decide) rfl ls (lv_sub hl [0, 1] rfl)

def caL (M : Nat → Nat → Int32) (b : Nat) (ans : Int32) : Nat → Int32 → Int32 → Int32
  | 0, _, c => c
  | q + 1, at0, c => if at0 < 0 then c else if M b 2 ≤ at0 then c else caL M b ans q (if isF ans (M (3 + 1) (M (b + 2) at0.toNatClampNeg).toNatClampNeg) = 0 then M (b + 3) at0.toNatClampNeg else M (b + 4) at0.toNatClampNeg) (c + 1)
def caF (M : Nat → Nat → Int32) (b : Nat) (ans : Int32) : Int32 := caL M b ans 8 (if M b 2 = 0 then -1 else 0) 0
abbrev rm_countAsked : Room := { frames := 1, cells := 0, slots := 0, locals := 100 }
set_option maxHeartbeats 4000000 in
set_option maxRecDepth 100000 in
/-- how many questions are asked to some answers -/
theorem c_countAsked (l : Launch) (D : va_G) (I Z F : ClassId) (ad : Nat → Nat) (hI : cI ad) (M : Nat → Nat → Int32) (sz : Nat) (f : Nat) (hf : f < 12) (n z : Nat) (hn6 : n ≤ 626) (hz7 : z ≤ 77) (hz : M (25 + 6 * f) 2 = nI z) (hrw : ∀ i : Nat, i < z → ∃ k : Nat, k < n ∧ M (25 + 6 * f + 2) i = nI k) (ans : Int32) : Met l yX2_countAsked wsX2_countAsked rm_countAsked (va_Pc [.ref (ad 0), .ref (ad (25 + 6 * f)), .int ans] (cU D I Z F ad sz M)) (va_Qi (fun (r : Int32) (u : Nat → Nat → Int32) => u = M ∧ r = caF M (25 + 6 * f) ans) (fun u t => cP D I Z F ad u t.heap) (cA ad sz)) 0 0 (cA ad sz) := by
  refine cMet_i (cc := cX2_countAsked) (maxL := 6) hI (by decide) rfl ⟨rfl, rfl⟩ RX2 rfl (Nat.le_of_ble_eq_true rfl) (lv := [(0, .ref (ad 0)), (1, .ref (ad (25 + 6 * f))), (2, .int ans)]) rfl ?_
  intro p e s m args below meth c Q A ls hsz C0 hW hl hret
  obtain ⟨hx, hb, hml, hts, hown, hlocks, hK, hN, hDa, hA, hargs⟩ := C0
  have hin2 : ∀ w ∈ u_ws RX2 TX2 6, w ∈ wsX2_countAsked := by decide +kernel
  have hin0 : ∀ w ∈ u_ws RX0 TX0 7, w ∈ wsX2_countAsked := by decide +kernel
  have hin1 : ∀ w ∈ u_ws RX1 TX1 10, w ∈ wsX2_countAsked := by decide +kernel
  have loop : ∀ q : Nat, q ≤ 8 → ∀ at0 : Int32, caF M (25 + 6 * f) ans = caL M (25 + 6 * f) ans q at0 (nI (8 - q)) → ∀ (ls : Array Slot) (H : Heap) (locs : List Loc), lv_has ls 6 [(4, .int at0), (3, .int (nI (8 - q))), (0, .ref (ad 0)), (1, .ref (ad (25 + 6 * f))), (2, .int ans)] → cB9 D I Z F ad A s.heap M H locs → W p l e rm_countAsked s m args below meth c H locs 0 0 Q (F0 m 16 ls []) := by
    intro q
    induction q with
    | zero =>
      intro hq at0 hv ls H locs hl hW
      refine lv_iload hx hb dX2_countAsked_16 (lv_at hl 0 rfl) ?_
      refine lv_if_lt (tgt := 87) hx hb dX2_countAsked_18 (by decide) (fun c1 => ?_) (fun c1 => ?_)
      · skip
        refine lv_iload_n hx hb dX2_countAsked_87 rfl (lv_at hl 1 rfl) ?_
        exact hret 88 ls H locs _ _ dX2_countAsked_88 ⟨rfl, by rw [hv]; rfl⟩ hW
      · skip
        refine lv_iload hx hb dX2_countAsked_21 (lv_at hl 0 rfl) ?_
        refine lv_aload_n hx hb dX2_countAsked_23 rfl (lv_at hl 3 rfl) ?_
        refine cr_getN (v := .int (M (25 + 6 * f) 2)) (host := "SharedForks") hx hb hts hin0 hown hK hW (25 + 6 * f) (by omega) (cE_d0 I Z F ad M f) rfl 2 (by decide) rfl hN (by decide +kernel) rfl dX2_countAsked_24 ?_
        refine lv_icmp_ge (tgt := 87) hx hb dX2_countAsked_27 (by decide) (fun c2 => ?_) (fun c2 => ?_)
        · skip
          refine lv_iload_n hx hb dX2_countAsked_87 rfl (lv_at hl 1 rfl) ?_
          exact hret 88 ls H locs _ _ dX2_countAsked_88 ⟨rfl, by rw [hv]; rfl⟩ hW
        · skip
          refine lv_iload_n hx hb dX2_countAsked_30 rfl (lv_at hl 1 rfl) ?_
          refine lv_bipush (v := 8) hx hb dX2_countAsked_31 (by decide) ?_
          refine lv_icmp_ge (tgt := 87) hx hb dX2_countAsked_33 (by decide) (fun c3 => ?_) (fun c3 => ?_)
          · skip
            refine lv_iload_n hx hb dX2_countAsked_87 rfl (lv_at hl 1 rfl) ?_
            exact hret 88 ls H locs _ _ dX2_countAsked_88 ⟨rfl, by rw [hv]; rfl⟩ hW
          · exact absurd (by decide) c3
    | succ q ih =>
      intro hq at0 hv ls H locs hl hW
      rw [caL] at hv
      refine lv_iload hx hb dX2_countAsked_16 (lv_at hl 0 rfl) ?_
      refine lv_if_lt (tgt := 87) hx hb dX2_countAsked_18 (by decide) (fun c1 => ?_) (fun c1 => ?_)
      · skip
        refine lv_iload_n hx hb dX2_countAsked_87 rfl (lv_at hl 1 rfl) ?_
        exact hret 88 ls H locs _ _ dX2_countAsked_88 ⟨rfl, by rw [hv, if_pos c1]⟩ hW
      · skip
        refine lv_iload hx hb dX2_countAsked_21 (lv_at hl 0 rfl) ?_
        refine lv_aload_n hx hb dX2_countAsked_23 rfl (lv_at hl 3 rfl) ?_
        refine cr_getN (v := .int (M (25 + 6 * f) 2)) (host := "SharedForks") hx hb hts hin0 hown hK hW (25 + 6 * f) (by omega) (cE_d0 I Z F ad M f) rfl 2 (by decide) rfl hN (by decide +kernel) rfl dX2_countAsked_24 ?_
        refine lv_icmp_ge (tgt := 87) hx hb dX2_countAsked_27 (by decide) (fun c2 => ?_) (fun c2 => ?_)
        · skip
          refine lv_iload_n hx hb dX2_countAsked_87 rfl (lv_at hl 1 rfl) ?_
          exact hret 88 ls H locs _ _ dX2_countAsked_88 ⟨rfl, by rw [hv, if_neg c1, if_pos c2]⟩ hW
        · skip
          refine lv_iload_n hx hb dX2_countAsked_30 rfl (lv_at hl 1 rfl) ?_
          refine lv_bipush (v := 8) hx hb dX2_countAsked_31 (by decide) ?_
          refine lv_icmp_ge (tgt := 87) hx hb dX2_countAsked_33 (by decide) (fun c3 => ?_) (fun c3 => ?_)
          · exact absurd c3 (nI_ge (b := 8) (by omega) (by decide))
          · skip
            rw [if_neg c1, if_neg c2] at hv
            have c2n := c2
            rw [hz] at c2n
            obtain ⟨i, hi, rfl⟩ := part_of (n := z) (by omega) c1 c2n
            obtain ⟨k, hk, ek⟩ := hrw i hi
            rw [nI_clamp (show i < 2 ^ 31 by omega), ek, nI_clamp (show k < 2 ^ 31 by omega), nI_1, show 8 - (q + 1) + 1 = 8 - q by omega] at hv
            refine lv_iload_n hx hb dX2_countAsked_36 rfl (lv_at hl 4 rfl) ?_
            refine lv_aload_n hx hb dX2_countAsked_37 rfl (lv_at hl 2 rfl) ?_
            refine cr_get (v := .ref (ad 3)) hx hb hts hin2 hown hK hW 0 (by decide) (cE_x I Z F ad M) rfl 2 (by decide) rfl (by decide +kernel) rfl dX2_countAsked_38 ?_
            refine cr_getN (v := .ref (ad (3 + 1))) (host := "SharedForks") hx hb hts hin1 hown hK hW 3 (by decide) (cE_f0 I Z F ad M (Or.inl rfl)) rfl 1 (by decide) rfl hN (by decide +kernel) rfl dX2_countAsked_41 ?_
            refine lv_aload_n hx hb dX2_countAsked_44 rfl (lv_at hl 3 rfl) ?_
            refine cr_getN (v := .ref (ad (25 + 6 * f + 2))) (host := "SharedForks") hx hb hts hin0 hown hK hW (25 + 6 * f) (by omega) (cE_d0 I Z F ad M f) rfl 3 (by decide) rfl hN (by decide +kernel) rfl dX2_countAsked_45 ?_
            refine lv_iload hx hb dX2_countAsked_48 (lv_at hl 0 rfl) ?_
            refine cr_iald hx hb hK hW (25 + 6 * f + 2) (by omega) (cE_d2 I Z F ad M f) i (by omega) (by decide) rfl dX2_countAsked_50 ?_
            refine cr_iald hx hb hK hW (3 + 1) (by decide) (cE_f1 I Z F ad M (Or.inl rfl)) k (by omega) (by decide) ek dX2_countAsked_51 ?_
            refine cr_calli (va_runS (As := [.int ans, .int (M (3 + 1) k)]) (rest := []) ⟨hx, hb, hml, hown, hts⟩ (c_isYes l D I Z F ad hI M H.size ans (M (3 + 1) k)) (va_cwS 2 hts gX2_countAsked_X2_isYes rfl rfl rfl (by decide +kernel) ⟨Nat.le_of_ble_eq_true rfl, Nat.le_of_ble_eq_true rfl⟩) (cr_preS hK hN hW) rfl rfl hl.1 rfl (lv_room (Nat.le_of_ble_eq_true rfl)) dX2_countAsked_52 ⟨Nat.le_refl _, Nat.le_refl _⟩) hA hDa hW (fun r u H locs hp hW => ?_)
            obtain ⟨hu, hv9⟩ := hp
            rw [hu] at hW
            rw [hv9]
            refine lv_istore (lv' := [(5, .int (isF ans (M (3 + 1) k))), (4, .int (nI i)), (3, .int (nI (8 - (q + 1)))), (0, .ref (ad 0)), (1, .ref (ad (25 + 6 * f))), (2, .int ans)]) hx hb dX2_countAsked_55 hl (by decide) rfl (fun ls hl => ?_)
            refine lv_iload hx hb dX2_countAsked_57 (lv_at hl 0 rfl) ?_
            refine lv_if_eq (tgt := 72) hx hb dX2_countAsked_59 (by decide) (fun c4 => ?_) (fun c4 => ?_)
            · skip
              rw [if_pos c4] at hv
              refine lv_aload_n hx hb dX2_countAsked_72 rfl (lv_at hl 4 rfl) ?_
              refine cr_getN (v := .ref (ad (25 + 6 * f + 3))) (host := "SharedForks") hx hb hts hin0 hown hK hW (25 + 6 * f) (by omega) (cE_d0 I Z F ad M f) rfl 4 (by decide) rfl hN (by decide +kernel) rfl dX2_countAsked_73 ?_
              refine lv_iload hx hb dX2_countAsked_76 (lv_at hl 1 rfl) ?_
              refine cr_iald hx hb hK hW (25 + 6 * f + 3) (by omega) (cE_d3 I Z F ad M f) i (by omega) (by decide) rfl dX2_countAsked_78 ?_
              refine lv_istore (lv' := [(4, .int (M (25 + 6 * f + 3) i)), (5, .int (isF ans (M (3 + 1) k))), (3, .int (nI (8 - (q + 1)))), (0, .ref (ad 0)), (1, .ref (ad (25 + 6 * f))), (2, .int ans)]) hx hb dX2_countAsked_79 hl (by decide) rfl (fun ls hl => ?_)
              refine lv_iinc (v := nI (8 - q)) (lv' := [(3, .int (nI (8 - q))), (4, .int (M (25 + 6 * f + 3) i)), (5, .int (isF ans (M (3 + 1) k))), (0, .ref (ad 0)), (1, .ref (ad (25 + 6 * f))), (2, .int ans)]) hx hb dX2_countAsked_81 hl (k := 2) rfl (by rw [show (Int32.ofInt 1) = 1 from rfl, nI_1]; congr 1; omega) (by decide) rfl (fun ls hl => ?_)
              refine lv_goto (tgt := 16) hx hb dX2_countAsked_84 (by decide) ?_
              exact ih (by omega) _ hv ls H locs (lv_sub hl [1, 0, 3, 4, 5] rfl) hW
            · skip
              rw [if_neg c4] at hv
              refine lv_aload_n hx hb dX2_countAsked_62 rfl (lv_at hl 4 rfl) ?_
              refine cr_getN (v := .ref (ad (25 + 6 * f + 4))) (host := "SharedForks") hx hb hts hin0 hown hK hW (25 + 6 * f) (by omega) (cE_d0 I Z F ad M f) rfl 5 (by decide) rfl hN (by decide +kernel) rfl dX2_countAsked_63 ?_
              refine lv_iload hx hb dX2_countAsked_66 (lv_at hl 1 rfl) ?_
              refine cr_iald hx hb hK hW (25 + 6 * f + 4) (by omega) (cE_d4 I Z F ad M f) i (by omega) (by decide) rfl dX2_countAsked_68 ?_
              refine lv_goto (tgt := 79) hx hb dX2_countAsked_69 (by decide) ?_
              refine lv_istore (lv' := [(4, .int (M (25 + 6 * f + 4) i)), (5, .int (isF ans (M (3 + 1) k))), (3, .int (nI (8 - (q + 1)))), (0, .ref (ad 0)), (1, .ref (ad (25 + 6 * f))), (2, .int ans)]) hx hb dX2_countAsked_79 hl (by decide) rfl (fun ls hl => ?_)
              refine lv_iinc (v := nI (8 - q)) (lv' := [(3, .int (nI (8 - q))), (4, .int (M (25 + 6 * f + 4) i)), (5, .int (isF ans (M (3 + 1) k))), (0, .ref (ad 0)), (1, .ref (ad (25 + 6 * f))), (2, .int ans)]) hx hb dX2_countAsked_81 hl (k := 2) rfl (by rw [show (Int32.ofInt 1) = 1 from rfl, nI_1]; congr 1; omega) (by decide) rfl (fun ls hl => ?_)
              refine lv_goto (tgt := 16) hx hb dX2_countAsked_84 (by decide) ?_
              exact ih (by omega) _ hv ls H locs (lv_sub hl [1, 0, 3, 4, 5] rfl) hW
  refine lv_iconst (v := 0) hx hb dX2_countAsked_0 (by decide) ?_
  refine lv_istore_n (lv' := [(3, .int 0), (0, .ref (ad 0)), (1, .ref (ad (25 + 6 * f))), (2, .int ans)]) hx hb dX2_countAsked_1 rfl hl (by decide) rfl (fun ls hl => ?_)
  refine lv_aload_n hx hb dX2_countAsked_2 rfl (lv_at hl 2 rfl) ?_
  refine cr_getN (v := .int (M (25 + 6 * f) 2)) (host := "SharedForks") hx hb hts hin0 hown hK hW (25 + 6 * f) (by omega) (cE_d0 I Z F ad M f) rfl 2 (by decide) rfl hN (by decide +kernel) rfl dX2_countAsked_3 ?_
  refine lv_if_ne (tgt := 13) hx hb dX2_countAsked_6 (by decide) (fun c0 => ?_) (fun c0 => ?_)
  · skip
    refine lv_iconst (v := 0) hx hb dX2_countAsked_13 (by decide) ?_
    refine lv_istore (lv' := [(4, .int 0), (3, .int 0), (0, .ref (ad 0)), (1, .ref (ad (25 + 6 * f))), (2, .int ans)]) hx hb dX2_countAsked_14 hl (by decide) rfl (fun ls hl => ?_)
    exact loop 8 (by decide) 0 (by rw [caF, if_neg c0]; rfl) ls _ _ (lv_sub hl [0, 1, 2, 3, 4] rfl) hW
  · skip
    refine lv_iconst (v := -1) hx hb dX2_countAsked_9 (by decide) ?_
    refine lv_goto (tgt := 14) hx hb dX2_countAsked_10 (by decide) ?_
    refine lv_istore (lv' := [(4, .int (-1)), (3, .int 0), (0, .ref (ad 0)), (1, .ref (ad (25 + 6 * f))), (2, .int ans)]) hx hb dX2_countAsked_14 hl (by decide) rfl (fun ls hl => ?_)
    exact loop 8 (by decide) (-1) (by rw [caF, if_pos c0]; rfl) ls _ _ (lv_sub hl [0, 1, 2, 3, 4] rfl) hW
