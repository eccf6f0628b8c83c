abbrev rm_lay : Room := { frames := 2, cells := 0, slots := 0, locals := 200 }
set_option maxHeartbeats 4000000 in
set_option maxRecDepth 100000 in
/-- a fold is laid: what it says stands in the cell yi -/
theorem c_lay (l : Launch) (D : va_G) (I Z F : ClassId) (ad : Nat → Nat) (hI : cI ad) (M : Nat → Nat → Int32) (sz : Nat) (g : Nat) (hg : g = 3 ∨ g = 15) (hok : fkOk M g) (haw : ∀ w : Nat, w < 256 → ∃ a : Nat, a < 256 ∧ M (g + 7) w = nI a) (yi : Nat) (hyi : yi < 97) (hne : yi ≠ g + 8) (hye : cE I Z F ad M yi = .inl (Z, 256, .inl (M yi))) : Met l yX1_lay wsX1_lay rm_lay (va_Pc [.ref (ad g), .ref (ad yi)] (cU D I Z F ad sz M)) (va_Qi (fun (r : Int32) (u : Nat → Nat → Int32) => u = lyF M g yi ∧ r = lyF M g yi (g + 8) 0) (fun u t => cP D I Z F ad u t.heap) (cA ad sz)) 0 0 (cA ad sz) := by
  refine cMet_i (cc := cX1_lay) (maxL := 4) hI (by decide) rfl ⟨rfl, rfl⟩ RX1 rfl (Nat.le_of_ble_eq_true rfl) (lv := [(0, .ref (ad g)), (1, .ref (ad yi))]) rfl ?_
  intro p e s m args below meth c Q A ls hsz C0 hW hl hret
  obtain ⟨hx, hb, hml, hts, hown, hlocks, hK, hN, hDa, hA, hargs⟩ := C0
  have hin1 : ∀ w ∈ u_ws RX1 TX1 10, w ∈ wsX1_lay := by decide +kernel
  have hgl : g < 16 := by omega
  refine lv_iconst (v := 0) hx hb dX1_lay_0 (by decide) ?_
  refine lv_istore_n (lv' := [(2, .int 0), (0, .ref (ad g)), (1, .ref (ad yi))]) hx hb dX1_lay_1 rfl hl (by decide) rfl (fun ls hl => ?_)
  have outer : ∀ (r : Nat), r ≤ 8 → ∀ (M1 : Nat → Nat → Int32), fkOk M1 g → lyF M g yi = lyD M1 g r → ∀ (ls : Array Slot) (H : Heap) (locs : List Loc), lv_has ls 4 [(2, .int (nI r - 1)), (0, .ref (ad g)), (1, .ref (ad yi))] → cB9 D I Z F ad A s.heap M1 H locs → W p l e rm_lay s m args below meth c H locs 0 0 Q (F0 m 41 ls []) := by
    intro r
    induction r with
    | zero =>
      intro hr8 M1 hok1 hv ls H locs hl hW
      rw [lyD] at hv
      refine lv_iload_n hx hb dX1_lay_41 rfl (lv_at hl 0 rfl) ?_
      refine lv_if_lt (tgt := 100) hx hb dX1_lay_42 (by decide) (fun c1 => ?_) (fun c1 => ?_)
      · skip
        refine lv_aload_n hx hb dX1_lay_100 rfl (lv_at hl 1 rfl) ?_
        refine cr_get (v := .ref (ad (g + 8))) hx hb hts hin1 hown hK hW g (by omega) (cE_f0 I Z F ad M1 hg) rfl 8 (by decide) rfl (by decide +kernel) rfl dX1_lay_101 ?_
        refine lv_iconst (v := 0) hx hb dX1_lay_104 (by decide) ?_
        refine cr_iald hx hb hK hW (g + 8) (by omega) (cE_f8 I Z F ad M1 hg) 0 (by decide) (by decide) rfl dX1_lay_105 ?_
        exact hret 106 ls H locs _ _ dX1_lay_106 ⟨hv.symm, by rw [hv]⟩ hW
      · exact absurd (by decide : nI 0 - 1 < 0) c1
    | succ r ih =>
      intro hr8 M1 hok1 hv ls H locs hl hW
      rw [nI_pred] at hl
      refine lv_iload_n hx hb dX1_lay_41 rfl (lv_at hl 0 rfl) ?_
      refine lv_if_lt (tgt := 100) hx hb dX1_lay_42 (by decide) (fun c1 => ?_) (fun c1 => ?_)
      · exact absurd c1 (nI_pos (by omega))
      · skip
        refine lv_iconst (v := 0) hx hb dX1_lay_45 (by decide) ?_
        refine lv_istore_n (lv' := [(3, .int 0), (2, .int (nI r)), (0, .ref (ad g)), (1, .ref (ad yi))]) hx hb dX1_lay_46 rfl hl (by decide) rfl (fun ls hl => ?_)
        have inner : ∀ (q w : Nat), w + q = 2 ^ r → ∀ (ls : Array Slot) (H : Heap) (locs : List Loc), lv_has ls 4 [(3, .int (nI w)), (2, .int (nI r)), (0, .ref (ad g)), (1, .ref (ad yi))] → cB9 D I Z F ad A s.heap (lyW M1 g r w) H locs → W p l e rm_lay s m args below meth c H locs 0 0 Q (F0 m 47 ls []) := by
          have hp := pw8 r (by omega)
          intro q
          induction q with
          | zero =>
            intro w hw ls H locs hl hW
            obtain rfl : w = 2 ^ r := by omega
            refine lv_iload_n hx hb dX1_lay_47 rfl (lv_at hl 0 rfl) ?_
            refine lv_iconst (v := 1) hx hb dX1_lay_48 (by decide) ?_
            refine lv_iload_n hx hb dX1_lay_49 rfl (lv_at hl 1 rfl) ?_
            refine lv_ishl hx hb dX1_lay_50 ?_
            rw [sh1 r (by omega)]
            refine lv_icmp_ge (tgt := 94) hx hb dX1_lay_51 (by decide) (fun c1 => ?_) (fun c1 => ?_)
            · skip
              refine lv_iinc (v := nI r - 1) (lv' := [(2, .int (nI r - 1)), (3, .int (nI (2 ^ r))), (0, .ref (ad g)), (1, .ref (ad yi))]) hx hb dX1_lay_94 hl (k := 1) rfl (nI_m1 r) (by decide) rfl (fun ls hl => ?_)
              refine lv_goto (tgt := 41) hx hb dX1_lay_97 (by decide) ?_
              exact ih (by omega) (lyW M1 g r (2 ^ r)) (lyW_ok hok1 _) hv ls H locs (lv_sub hl [0, 2, 3] rfl) hW
            · exact absurd (nI_le (Nat.le_refl _) (by omega)) c1
          | succ q ihq =>
            intro w hw ls H locs hl hW
            refine lv_iload_n hx hb dX1_lay_47 rfl (lv_at hl 0 rfl) ?_
            refine lv_iconst (v := 1) hx hb dX1_lay_48 (by decide) ?_
            refine lv_iload_n hx hb dX1_lay_49 rfl (lv_at hl 1 rfl) ?_
            refine lv_ishl hx hb dX1_lay_50 ?_
            rw [sh1 r (by omega)]
            refine lv_icmp_ge (tgt := 94) hx hb dX1_lay_51 (by decide) (fun c1 => ?_) (fun c1 => ?_)
            · exact absurd c1 (nI_ge (by omega) (by omega))
            · skip
              refine lv_aload_n hx hb dX1_lay_54 rfl (lv_at hl 2 rfl) ?_
              refine cr_get (v := .ref (ad (g + 8))) hx hb hts hin1 hown hK hW g (by omega) (cE_f0 I Z F ad (lyW M1 g r w) hg) rfl 8 (by decide) rfl (by decide +kernel) rfl dX1_lay_55 ?_
              refine lv_iload_n hx hb dX1_lay_58 rfl (lv_at hl 0 rfl) ?_
              refine lv_aload_n hx hb dX1_lay_59 rfl (lv_at hl 2 rfl) ?_
              refine lv_aload_n hx hb dX1_lay_60 rfl (lv_at hl 2 rfl) ?_
              refine cr_get (v := .ref (ad (g + 6))) hx hb hts hin1 hown hK hW g (by omega) (cE_f0 I Z F ad (lyW M1 g r w) hg) rfl 6 (by decide) rfl (by decide +kernel) rfl dX1_lay_61 ?_
              refine lv_iload_n hx hb dX1_lay_64 rfl (lv_at hl 1 rfl) ?_
              refine cr_iald hx hb hK hW (g + 6) (by omega) (cE_f6 I Z F ad (lyW M1 g r w) hg) r (by omega) (by decide) rfl dX1_lay_65 ?_
              refine lv_aload_n hx hb dX1_lay_66 rfl (lv_at hl 2 rfl) ?_
              refine cr_get (v := .ref (ad (g + 8))) hx hb hts hin1 hown hK hW g (by omega) (cE_f0 I Z F ad (lyW M1 g r w) hg) rfl 8 (by decide) rfl (by decide +kernel) rfl dX1_lay_67 ?_
              refine lv_iconst (v := 2) hx hb dX1_lay_70 (by decide) ?_
              refine lv_iload_n hx hb dX1_lay_71 rfl (lv_at hl 0 rfl) ?_
              refine lv_imul hx hb dX1_lay_72 ?_
              rw [two_mul]
              refine cr_iald hx hb hK hW (g + 8) (by omega) (cE_f8 I Z F ad (lyW M1 g r w) hg) (2 * w) (by omega) (by decide) rfl dX1_lay_73 ?_
              refine lv_aload_n hx hb dX1_lay_74 rfl (lv_at hl 2 rfl) ?_
              refine cr_get (v := .ref (ad (g + 8))) hx hb hts hin1 hown hK hW g (by omega) (cE_f0 I Z F ad (lyW M1 g r w) hg) rfl 8 (by decide) rfl (by decide +kernel) rfl dX1_lay_75 ?_
              refine lv_iconst (v := 2) hx hb dX1_lay_78 (by decide) ?_
              refine lv_iload_n hx hb dX1_lay_79 rfl (lv_at hl 0 rfl) ?_
              refine lv_imul hx hb dX1_lay_80 ?_
              refine lv_iconst (v := 1) hx hb dX1_lay_81 (by decide) ?_
              refine lv_iadd hx hb dX1_lay_82 ?_
              rw [two_mul, nI_1]
              refine cr_iald hx hb hK hW (g + 8) (by omega) (cE_f8 I Z F ad (lyW M1 g r w) hg) (2 * w + 1) (by omega) (by decide) rfl dX1_lay_83 ?_
              obtain ⟨n, hn6, hn, hsl⟩ := lyW_ok hok1 (place := r) w
              refine cr_calli (va_runV (As := [.int ((lyW M1 g r w) (g + 6) r), .int ((lyW M1 g r w) (g + 8) (2 * w)), .int ((lyW M1 g r w) (g + 8) (2 * w + 1))]) (rest := [.int (nI w), .ref (ad (g + 8))]) ⟨hx, hb, hml, hown, hts⟩ (c_part l D I Z F ad hI (lyW M1 g r w) H.size g hg n hn hn6 hsl _ _ _) (cwV 3 hts gX1_lay_X1_part rfl rfl rfl (by decide +kernel) ⟨Nat.le_of_ble_eq_true rfl, Nat.le_of_ble_eq_true rfl⟩) (cr_preV hK hN hW g (by omega) (cE_f0 I Z F ad (lyW M1 g r w) hg) rfl) rfl rfl hl.1 rfl (lv_room (Nat.le_of_ble_eq_true rfl)) dX1_lay_84 ⟨Nat.le_refl _, Nat.le_refl _⟩) hA hDa hW (fun r u H locs hp hW => ?_)
              obtain ⟨rfl, rfl⟩ := hp
              refine cr_iast hx hb hK hDa hW (g + 8) (by omega) (cE_f8 I Z F ad (ptF (lyW M1 g r w) g (lyW M1 g r w (g + 6) r) (lyW M1 g r w (g + 8) (2 * w)) (lyW M1 g r w (g + 8) (2 * w + 1))).1 hg) w (by omega) (by decide) rfl dX1_lay_87 (fun H locs hW => ?_)
              rw [show mst (ptF (lyW M1 g r w) g (lyW M1 g r w (g + 6) r) (lyW M1 g r w (g + 8) (2 * w)) (lyW M1 g r w (g + 8) (2 * w + 1))).1 (g + 8) w (ptF (lyW M1 g r w) g (lyW M1 g r w (g + 6) r) (lyW M1 g r w (g + 8) (2 * w)) (lyW M1 g r w (g + 8) (2 * w + 1))).2 = lyW M1 g r (w + 1) from rfl] at hW
              refine lv_iinc (v := nI (w + 1)) (lv' := [(3, .int (nI (w + 1))), (2, .int (nI r)), (0, .ref (ad g)), (1, .ref (ad yi))]) hx hb dX1_lay_88 hl (k := 0) rfl (nI_1 w) (by decide) rfl (fun ls hl => ?_)
              refine lv_goto (tgt := 47) hx hb dX1_lay_91 (by decide) ?_
              exact ihq (w + 1) (by omega) ls H locs (lv_sub hl [0, 1, 2, 3] rfl) hW
        exact inner (2 ^ r) 0 (by omega) ls H locs (lv_sub hl [0, 1, 2, 3] rfl) hW
  have loop : ∀ q k : Nat, k + q = 256 → ∀ (ls : Array Slot) (H : Heap) (locs : List Loc), lv_has ls 4 [(2, .int (nI k)), (0, .ref (ad g)), (1, .ref (ad yi))] → cB9 D I Z F ad A s.heap (ly0 M g yi k) H locs → W p l e rm_lay s m args below meth c H locs 0 0 Q (F0 m 2 ls []) := by
    intro q
    induction q with
    | zero =>
      intro k hk ls H locs hl hW
      obtain rfl : k = 256 := by omega
      refine lv_iload_n hx hb dX1_lay_2 rfl (lv_at hl 0 rfl) ?_
      refine lv_sipush (v := 256) hx hb dX1_lay_3 (by decide) ?_
      refine lv_icmp_ge (tgt := 38) hx hb dX1_lay_6 (by decide) (fun c1 => ?_) (fun c1 => ?_)
      · skip
        refine lv_bipush (v := 7) hx hb dX1_lay_38 (by decide) ?_
        refine lv_istore_n (lv' := [(2, .int 7), (0, .ref (ad g)), (1, .ref (ad yi))]) hx hb dX1_lay_40 rfl hl (by decide) rfl (fun ls hl => ?_)
        exact outer 8 (by decide) _ (fkOk_mrow hok (by omega) (by omega)) rfl ls H locs (lv_sub hl [0, 1, 2] rfl) hW
      · exact absurd (nI_le (by decide) (by decide)) c1
    | succ q ih =>
      intro k hk ls H locs hl hW
      refine lv_iload_n hx hb dX1_lay_2 rfl (lv_at hl 0 rfl) ?_
      refine lv_sipush (v := 256) hx hb dX1_lay_3 (by decide) ?_
      refine lv_icmp_ge (tgt := 38) hx hb dX1_lay_6 (by decide) (fun c1 => ?_) (fun c1 => ?_)
      · exact absurd c1 (nI_ge (b := 256) (by omega) (by decide))
      · skip
        obtain ⟨a, ha, ea⟩ := haw k (by omega)
        have e7 : ly0 M g yi k (g + 7) = M (g + 7) := mrow_ne (by omega)
        have ey : ly0 M g yi k yi = M yi := mrow_ne hne
        refine lv_aload_n hx hb dX1_lay_9 rfl (lv_at hl 1 rfl) ?_
        refine cr_get (v := .ref (ad (g + 8))) hx hb hts hin1 hown hK hW g (by omega) (cE_f0 I Z F ad (ly0 M g yi k) hg) rfl 8 (by decide) rfl (by decide +kernel) rfl dX1_lay_10 ?_
        refine lv_iload_n hx hb dX1_lay_13 rfl (lv_at hl 0 rfl) ?_
        refine lv_aload_n hx hb dX1_lay_14 rfl (lv_at hl 2 rfl) ?_
        refine lv_aload_n hx hb dX1_lay_15 rfl (lv_at hl 1 rfl) ?_
        refine cr_get (v := .ref (ad (g + 7))) hx hb hts hin1 hown hK hW g (by omega) (cE_f0 I Z F ad (ly0 M g yi k) hg) rfl 7 (by decide) rfl (by decide +kernel) rfl dX1_lay_16 ?_
        refine lv_iload_n hx hb dX1_lay_19 rfl (lv_at hl 0 rfl) ?_
        refine cr_iald hx hb hK hW (g + 7) (by omega) (cE_f7 I Z F ad (ly0 M g yi k) hg) k (by omega) (by decide) rfl dX1_lay_20 ?_
        rw [e7, ea]
        refine cr_zald hx hb hK hW yi hyi (cE_arr hye _) a ha (by decide) rfl dX1_lay_21 ?_
        rw [ey]
        have hstep := ly0_s M g yi k
        rw [ea, nI_clamp (by omega)] at hstep
        refine lv_if_eq (tgt := 30) hx hb dX1_lay_22 (by decide) (fun c2 => ?_) (fun c2 => ?_)
        · skip
          rw [if_pos c2] at hstep
          refine lv_iconst (v := -1) hx hb dX1_lay_30 (by decide) ?_
          refine cr_iast hx hb hK hDa hW (g + 8) (by omega) (cE_f8 I Z F ad (ly0 M g yi k) hg) k (by omega) (by decide) rfl dX1_lay_31 (fun H locs hW => ?_)
          rw [hstep] at hW
          refine lv_iinc (v := nI (k + 1)) (lv' := [(2, .int (nI (k + 1))), (0, .ref (ad g)), (1, .ref (ad yi))]) hx hb dX1_lay_32 hl (k := 0) rfl (nI_1 k) (by decide) rfl (fun ls hl => ?_)
          refine lv_goto (tgt := 2) hx hb dX1_lay_35 (by decide) ?_
          exact ih (k + 1) (by omega) ls H locs (lv_sub hl [0, 1, 2] rfl) hW
        · skip
          rw [if_neg c2] at hstep
          refine lv_bipush (v := -2) hx hb dX1_lay_25 (by decide) ?_
          refine lv_goto (tgt := 31) hx hb dX1_lay_27 (by decide) ?_
          refine cr_iast hx hb hK hDa hW (g + 8) (by omega) (cE_f8 I Z F ad (ly0 M g yi k) hg) k (by omega) (by decide) rfl dX1_lay_31 (fun H locs hW => ?_)
          rw [hstep] at hW
          refine lv_iinc (v := nI (k + 1)) (lv' := [(2, .int (nI (k + 1))), (0, .ref (ad g)), (1, .ref (ad yi))]) hx hb dX1_lay_32 hl (k := 0) rfl (nI_1 k) (by decide) rfl (fun ls hl => ?_)
          refine lv_goto (tgt := 2) hx hb dX1_lay_35 (by decide) ?_
          exact ih (k + 1) (by omega) ls H locs (lv_sub hl [0, 1, 2] rfl) hW
  exact loop 256 0 (by decide) ls _ _ (lv_sub hl [0, 1, 2] rfl) (by rw [ly0, lyR_0, mrow_id]; exact hW)
