abbrev rm_compare : Room := { frames := 9, cells := 2, slots := 12, locals := 300 }
set_option maxHeartbeats 4000000 in
set_option maxRecDepth 100000 in
/-- how two folds stand -/
theorem c_compare (l : Launch) (hst : l.stackTraces = false) (D : va_G) (I Z F : ClassId) (ad sa : Nat → Nat) (hI : cI ad) (M : Nat → Nat → Int32) (sz : Nat) (a1 b1 : Int32) : vx_Met l yX2_compare wsX2_compare rm_compare (va_Pc [.ref (ad 0), .int a1, .int b1] (cUX D I Z F ad sa sz M)) (va_Qi (fun (r : Int32) (u : Nat → Nat → Int32) => ∃ ka kb : Nat, fdOk M a1 ka ∧ fdOk M b1 kb ∧ u = M ∧ r = cmR (cmL (M (25 + 6 * ka + 1)) (M (25 + 6 * kb + 1)) 256)) (fun u t => cP D I Z F ad u t.heap) (cA ad sz)) (xQ D I Z F ad M sz (fun E => E = xIO ∧ ¬ ((∃ k, fdOk M a1 k) ∧ (∃ k, fdOk M b1 k)))) 2 12 (cA ad sz) := by
  refine cMetX_i (cc := cX2_compare) (maxL := 11) hst hI (by decide) rfl ⟨rfl, rfl, by decide, by decide⟩ RX2 rfl (Nat.le_of_ble_eq_true rfl) (lv := [(0, .ref (ad 0)), (1, .int a1), (2, .int b1)]) rfl ?_
  intro p e s m args below meth c Q A ls hsz C0 hX hW hl hret hthr hprp
  obtain ⟨hx, hb, hml, hts, hown, hlocks, hK, hN, hDa, hA, hargs⟩ := C0
  have hin2 : ∀ w ∈ u_ws RX2 TX2 6, w ∈ wsX2_compare := by decide +kernel
  have hin0 : ∀ w ∈ u_ws RX0 TX0 7, w ∈ wsX2_compare := by decide +kernel
  refine lv_aload_n hx hb dX2_compare_0 rfl (lv_at hl 0 rfl) ?_
  refine lv_iload_n hx hb dX2_compare_1 rfl (lv_at hl 1 rfl) ?_
  refine cx_callq (vx_runV (As := [.int a1]) (rest := []) ⟨hx, hb, hml, hown, hts⟩ (c_foldAt l hst D I Z F ad sa hI M s.heap.size a1) (cwV 1 hts gX2_compare_X2_foldAt rfl rfl rfl (by decide +kernel) ⟨Nat.le_of_ble_eq_true rfl, Nat.le_of_ble_eq_true rfl⟩) (cx_preV hK hN hX hA hDa hW 0 (by decide) (cE_x I Z F ad M) rfl) rfl rfl hl.1 rfl (lv_room (Nat.le_of_ble_eq_true rfl)) dX2_compare_2 ⟨Nat.le_of_ble_eq_true rfl, Nat.le_of_ble_eq_true rfl⟩) hA hDa hW (fun E ce q9 H locs hxp hW h1 h2 h3 => ?_) (fun r ka H locs hp hW => ?_)
  · exact hprp 2 ls _ H locs 1 6 E ce q9 (⟨hxp.1, fun h => hxp.2 h.1⟩) hW (by decide) (by decide) h1 h2 h3
  obtain ⟨hka, hr9⟩ := hp
  subst hr9
  have hka12 := hka.1
  show W p l e rm_compare s m args below meth c H locs 1 6 Q (F0 m 5 ls (.ref (ad (25 + 6 * ka)) :: []))
  refine lv_astore_n (lv' := [(3, .ref (ad (25 + 6 * ka))), (0, .ref (ad 0)), (1, .int a1), (2, .int b1)]) hx hb dX2_compare_5 rfl hl (by decide) rfl (fun ls hl => ?_)
  refine lv_aload_n hx hb dX2_compare_6 rfl (lv_at hl 1 rfl) ?_
  refine lv_iload_n hx hb dX2_compare_7 rfl (lv_at hl 3 rfl) ?_
  refine cx_callq (vx_runV (As := [.int b1]) (rest := []) ⟨hx, hb, hml, hown, hts⟩ (c_foldAt l hst D I Z F ad sa hI M H.size b1) (cwV 1 hts gX2_compare_X2_foldAt rfl rfl rfl (by decide +kernel) ⟨Nat.le_of_ble_eq_true rfl, Nat.le_of_ble_eq_true rfl⟩) (cx_preV hK hN hX hA hDa hW 0 (by decide) (cE_x I Z F ad M) rfl) rfl rfl hl.1 rfl (lv_room (Nat.le_of_ble_eq_true rfl)) dX2_compare_8 ⟨Nat.le_of_ble_eq_true rfl, Nat.le_of_ble_eq_true rfl⟩) hA hDa hW (fun E ce q9 H locs hxp hW h1 h2 h3 => ?_) (fun r kb H locs hp hW => ?_)
  · exact hprp 8 ls _ H locs 2 12 E ce q9 (⟨hxp.1, fun h => hxp.2 h.2⟩) hW (by decide) (by decide) h1 h2 h3
  obtain ⟨hkb, hr9⟩ := hp
  subst hr9
  have hkb12 := hkb.1
  show W p l e rm_compare s m args below meth c H locs 2 12 Q (F0 m 11 ls (.ref (ad (25 + 6 * kb)) :: []))
  refine lv_astore (lv' := [(4, .ref (ad (25 + 6 * kb))), (3, .ref (ad (25 + 6 * ka))), (0, .ref (ad 0)), (1, .int a1), (2, .int b1)]) hx hb dX2_compare_11 hl (by decide) rfl (fun ls hl => ?_)
  refine lv_iconst (v := 1) hx hb dX2_compare_13 (by decide) ?_
  refine lv_istore (lv' := [(5, .int 1), (4, .ref (ad (25 + 6 * kb))), (3, .ref (ad (25 + 6 * ka))), (0, .ref (ad 0)), (1, .int a1), (2, .int b1)]) hx hb dX2_compare_14 hl (by decide) rfl (fun ls hl => ?_)
  refine lv_iconst (v := 1) hx hb dX2_compare_16 (by decide) ?_
  refine lv_istore (lv' := [(6, .int 1), (5, .int 1), (4, .ref (ad (25 + 6 * kb))), (3, .ref (ad (25 + 6 * ka))), (0, .ref (ad 0)), (1, .int a1), (2, .int b1)]) hx hb dX2_compare_17 hl (by decide) rfl (fun ls hl => ?_)
  refine lv_iconst (v := 1) hx hb dX2_compare_19 (by decide) ?_
  refine lv_istore (lv' := [(7, .int 1), (6, .int 1), (5, .int 1), (4, .ref (ad (25 + 6 * kb))), (3, .ref (ad (25 + 6 * ka))), (0, .ref (ad 0)), (1, .int a1), (2, .int b1)]) hx hb dX2_compare_20 hl (by decide) rfl (fun ls hl => ?_)
  refine lv_iconst (v := 0) hx hb dX2_compare_22 (by decide) ?_
  refine lv_istore (lv' := [(8, .int 0), (7, .int 1), (6, .int 1), (5, .int 1), (4, .ref (ad (25 + 6 * kb))), (3, .ref (ad (25 + 6 * ka))), (0, .ref (ad 0)), (1, .int a1), (2, .int b1)]) hx hb dX2_compare_23 hl (by decide) rfl (fun ls hl => ?_)
  have loop : ∀ q j : Nat, j + q = 256 → ∀ (s1 s2 s3 : Int32), (cmL (M (25 + 6 * ka + 1)) (M (25 + 6 * kb + 1)) j) = (s1, s2, s3) → ∀ (ls : Array Slot), lv_has ls 11 [(8, .int (nI j)), (5, .int s1), (6, .int s2), (7, .int s3), (3, .ref (ad (25 + 6 * ka))), (4, .ref (ad (25 + 6 * kb)))] → W p l e rm_compare s m args below meth c H locs 2 12 Q (F0 m 25 ls []) := by
    intro q
    induction q with
    | zero =>
      intro j hj s1 s2 s3 hv ls hl
      obtain rfl : j = 256 := by omega
      refine lv_iload hx hb dX2_compare_25 (lv_at hl 0 rfl) ?_
      refine lv_sipush (v := 256) hx hb dX2_compare_27 (by decide) ?_
      refine lv_icmp_ge (tgt := 93) hx hb dX2_compare_30 (by decide) (fun c1 => ?_) (fun c1 => ?_)
      · skip
        refine lv_iload hx hb dX2_compare_93 (lv_at hl 1 rfl) ?_
        refine lv_if_eq (tgt := 109) hx hb dX2_compare_95 (by decide) (fun c2 => ?_) (fun c2 => ?_)
        · skip
          refine lv_iload hx hb dX2_compare_109 (lv_at hl 2 rfl) ?_
          refine lv_if_eq (tgt := 116) hx hb dX2_compare_111 (by decide) (fun c3 => ?_) (fun c3 => ?_)
          · skip
            refine lv_iload hx hb dX2_compare_116 (lv_at hl 3 rfl) ?_
            refine lv_if_eq (tgt := 125) hx hb dX2_compare_118 (by decide) (fun c4 => ?_) (fun c4 => ?_)
            · skip
              refine lv_iconst (v := 4) hx hb dX2_compare_125 (by decide) ?_
              exact hret 126 ls H locs 2 12 _ _ dX2_compare_126 (by decide) (by decide) ⟨ka, kb, hka, hkb, rfl, by rw [hv]; simp [cmR, c2, c3, c4]⟩ hW
            · skip
              refine lv_iconst (v := 3) hx hb dX2_compare_121 (by decide) ?_
              refine lv_goto (tgt := 126) hx hb dX2_compare_122 (by decide) ?_
              exact hret 126 ls H locs 2 12 _ _ dX2_compare_126 (by decide) (by decide) ⟨ka, kb, hka, hkb, rfl, by rw [hv]; simp [cmR, c2, c3, c4]⟩ hW
          · skip
            refine lv_iconst (v := 2) hx hb dX2_compare_114 (by decide) ?_
            exact hret 115 ls H locs 2 12 _ _ dX2_compare_115 (by decide) (by decide) ⟨ka, kb, hka, hkb, rfl, by rw [hv]; simp [cmR, c2, c3]⟩ hW
        · skip
          refine lv_iload hx hb dX2_compare_98 (lv_at hl 2 rfl) ?_
          refine lv_if_eq (tgt := 107) hx hb dX2_compare_100 (by decide) (fun c3 => ?_) (fun c3 => ?_)
          · skip
            refine lv_iconst (v := 1) hx hb dX2_compare_107 (by decide) ?_
            exact hret 108 ls H locs 2 12 _ _ dX2_compare_108 (by decide) (by decide) ⟨ka, kb, hka, hkb, rfl, by rw [hv]; simp [cmR, c2, c3]⟩ hW
          · skip
            refine lv_iconst (v := 0) hx hb dX2_compare_103 (by decide) ?_
            refine lv_goto (tgt := 108) hx hb dX2_compare_104 (by decide) ?_
            exact hret 108 ls H locs 2 12 _ _ dX2_compare_108 (by decide) (by decide) ⟨ka, kb, hka, hkb, rfl, by rw [hv]; simp [cmR, c2, c3]⟩ hW
      · exact absurd (nI_le (Nat.le_refl 256) (by decide)) c1
    | succ q ih =>
      intro j hj s1 s2 s3 hv ls hl
      refine lv_iload hx hb dX2_compare_25 (lv_at hl 0 rfl) ?_
      refine lv_sipush (v := 256) hx hb dX2_compare_27 (by decide) ?_
      refine lv_icmp_ge (tgt := 93) hx hb dX2_compare_30 (by decide) (fun c1 => ?_) (fun c1 => ?_)
      · exact absurd c1 (nI_ge (b := 256) (by omega) (by decide))
      · skip
        have hs : (cmL (M (25 + 6 * ka + 1)) (M (25 + 6 * kb + 1)) (j + 1)) = cmS (M (25 + 6 * ka + 1) j) (M (25 + 6 * kb + 1) j) (s1, s2, s3) := by rw [← hv]; rfl
        refine lv_aload_n hx hb dX2_compare_33 rfl (lv_at hl 4 rfl) ?_
        refine cr_getN (v := .ref (ad (25 + 6 * ka + 1))) (host := "SharedForks") hx hb hts hin0 hown hK hW (25 + 6 * ka) (by omega) (cE_d0 I Z F ad M ka) rfl 1 (by decide) rfl hN (by decide +kernel) rfl dX2_compare_34 ?_
        refine lv_iload hx hb dX2_compare_37 (lv_at hl 0 rfl) ?_
        refine cr_zald hx hb hK hW (25 + 6 * ka + 1) (by omega) (cE_d1 I Z F ad M ka) j (by omega) (by decide) rfl dX2_compare_39 ?_
        refine lv_istore (lv' := [(9, .int (M (25 + 6 * ka + 1) j)), (8, .int (nI j)), (5, .int s1), (6, .int s2), (7, .int s3), (3, .ref (ad (25 + 6 * ka))), (4, .ref (ad (25 + 6 * kb)))]) hx hb dX2_compare_40 hl (by decide) rfl (fun ls hl => ?_)
        refine lv_aload hx hb dX2_compare_42 (lv_at hl 6 rfl) ?_
        refine cr_getN (v := .ref (ad (25 + 6 * kb + 1))) (host := "SharedForks") hx hb hts hin0 hown hK hW (25 + 6 * kb) (by omega) (cE_d0 I Z F ad M kb) rfl 1 (by decide) rfl hN (by decide +kernel) rfl dX2_compare_44 ?_
        refine lv_iload hx hb dX2_compare_47 (lv_at hl 1 rfl) ?_
        refine cr_zald hx hb hK hW (25 + 6 * kb + 1) (by omega) (cE_d1 I Z F ad M kb) j (by omega) (by decide) rfl dX2_compare_49 ?_
        refine lv_istore (lv' := [(10, .int (M (25 + 6 * kb + 1) j)), (9, .int (M (25 + 6 * ka + 1) j)), (8, .int (nI j)), (5, .int s1), (6, .int s2), (7, .int s3), (3, .ref (ad (25 + 6 * ka))), (4, .ref (ad (25 + 6 * kb)))]) hx hb dX2_compare_50 hl (by decide) rfl (fun ls hl => ?_)
        refine lv_iload hx hb dX2_compare_52 (lv_at hl 1 rfl) ?_
        refine lv_if_eq (tgt := 68) hx hb dX2_compare_54 (by decide) (fun c2 => ?_) (fun c2 => ?_)
        · skip
          refine lv_iload hx hb dX2_compare_68 (lv_at hl 1 rfl) ?_
          refine lv_if_eq (tgt := 79) hx hb dX2_compare_70 (by decide) (fun c3 => ?_) (fun c3 => ?_)
          · skip
            refine lv_iload hx hb dX2_compare_79 (lv_at hl 0 rfl) ?_
            refine lv_if_eq (tgt := 87) hx hb dX2_compare_81 (by decide) (fun c4 => ?_) (fun c4 => ?_)
            · skip
              refine lv_iinc (v := nI (j + 1)) (lv' := [(8, .int (nI (j + 1))), (10, .int (M (25 + 6 * kb + 1) j)), (9, .int (M (25 + 6 * ka + 1) j)), (5, .int s1), (6, .int s2), (7, .int s3), (3, .ref (ad (25 + 6 * ka))), (4, .ref (ad (25 + 6 * kb)))]) hx hb dX2_compare_87 hl (k := 2) rfl (nI_1 j) (by decide) rfl (fun ls hl => ?_)
              refine lv_goto (tgt := 25) hx hb dX2_compare_90 (by decide) ?_
              exact ih (j + 1) (by omega) s1 s2 s3 (by rw [hs]; first | (simp [cmS, c2, c3, c4]; done) | exact absurd c2 c3 | exact absurd c4 c2) ls (lv_sub hl [0, 3, 4, 5, 6, 7] rfl)
            · skip
              refine lv_iconst (v := 0) hx hb dX2_compare_84 (by decide) ?_
              refine lv_istore (lv' := [(6, .int 0), (10, .int (M (25 + 6 * kb + 1) j)), (9, .int (M (25 + 6 * ka + 1) j)), (8, .int (nI j)), (5, .int s1), (7, .int s3), (3, .ref (ad (25 + 6 * ka))), (4, .ref (ad (25 + 6 * kb)))]) hx hb dX2_compare_85 hl (by decide) rfl (fun ls hl => ?_)
              refine lv_iinc (v := nI (j + 1)) (lv' := [(8, .int (nI (j + 1))), (6, .int 0), (10, .int (M (25 + 6 * kb + 1) j)), (9, .int (M (25 + 6 * ka + 1) j)), (5, .int s1), (7, .int s3), (3, .ref (ad (25 + 6 * ka))), (4, .ref (ad (25 + 6 * kb)))]) hx hb dX2_compare_87 hl (k := 3) rfl (nI_1 j) (by decide) rfl (fun ls hl => ?_)
              refine lv_goto (tgt := 25) hx hb dX2_compare_90 (by decide) ?_
              exact ih (j + 1) (by omega) s1 0 s3 (by rw [hs]; first | (simp [cmS, c2, c3, c4]; done) | exact absurd c2 c3 | exact absurd c4 c2) ls (lv_sub hl [0, 4, 1, 5, 6, 7] rfl)
          · skip
            refine lv_iconst (v := 0) hx hb dX2_compare_73 (by decide) ?_
            refine lv_istore (lv' := [(5, .int 0), (10, .int (M (25 + 6 * kb + 1) j)), (9, .int (M (25 + 6 * ka + 1) j)), (8, .int (nI j)), (6, .int s2), (7, .int s3), (3, .ref (ad (25 + 6 * ka))), (4, .ref (ad (25 + 6 * kb)))]) hx hb dX2_compare_74 hl (by decide) rfl (fun ls hl => ?_)
            refine lv_goto (tgt := 87) hx hb dX2_compare_76 (by decide) ?_
            refine lv_iinc (v := nI (j + 1)) (lv' := [(8, .int (nI (j + 1))), (5, .int 0), (10, .int (M (25 + 6 * kb + 1) j)), (9, .int (M (25 + 6 * ka + 1) j)), (6, .int s2), (7, .int s3), (3, .ref (ad (25 + 6 * ka))), (4, .ref (ad (25 + 6 * kb)))]) hx hb dX2_compare_87 hl (k := 3) rfl (nI_1 j) (by decide) rfl (fun ls hl => ?_)
            refine lv_goto (tgt := 25) hx hb dX2_compare_90 (by decide) ?_
            exact ih (j + 1) (by omega) 0 s2 s3 (by rw [hs]; first | (simp [cmS, c2, c3]; done) | exact absurd c2 c3 | exact absurd c4 c2) ls (lv_sub hl [0, 1, 4, 5, 6, 7] rfl)
        · skip
          refine lv_iload hx hb dX2_compare_57 (lv_at hl 0 rfl) ?_
          refine lv_if_eq (tgt := 68) hx hb dX2_compare_59 (by decide) (fun c3 => ?_) (fun c3 => ?_)
          · skip
            refine lv_iload hx hb dX2_compare_68 (lv_at hl 1 rfl) ?_
            refine lv_if_eq (tgt := 79) hx hb dX2_compare_70 (by decide) (fun c4 => ?_) (fun c4 => ?_)
            · skip
              refine lv_iload hx hb dX2_compare_79 (lv_at hl 0 rfl) ?_
              refine lv_if_eq (tgt := 87) hx hb dX2_compare_81 (by decide) (fun c5 => ?_) (fun c5 => ?_)
              · skip
                refine lv_iinc (v := nI (j + 1)) (lv' := [(8, .int (nI (j + 1))), (10, .int (M (25 + 6 * kb + 1) j)), (9, .int (M (25 + 6 * ka + 1) j)), (5, .int s1), (6, .int s2), (7, .int s3), (3, .ref (ad (25 + 6 * ka))), (4, .ref (ad (25 + 6 * kb)))]) hx hb dX2_compare_87 hl (k := 2) rfl (nI_1 j) (by decide) rfl (fun ls hl => ?_)
                refine lv_goto (tgt := 25) hx hb dX2_compare_90 (by decide) ?_
                exact ih (j + 1) (by omega) s1 s2 s3 (by rw [hs]; first | (simp [cmS, c2, c3, c4, c5]; done) | exact absurd c2 c3 | exact absurd c4 c2) ls (lv_sub hl [0, 3, 4, 5, 6, 7] rfl)
              · skip
                refine lv_iconst (v := 0) hx hb dX2_compare_84 (by decide) ?_
                refine lv_istore (lv' := [(6, .int 0), (10, .int (M (25 + 6 * kb + 1) j)), (9, .int (M (25 + 6 * ka + 1) j)), (8, .int (nI j)), (5, .int s1), (7, .int s3), (3, .ref (ad (25 + 6 * ka))), (4, .ref (ad (25 + 6 * kb)))]) hx hb dX2_compare_85 hl (by decide) rfl (fun ls hl => ?_)
                refine lv_iinc (v := nI (j + 1)) (lv' := [(8, .int (nI (j + 1))), (6, .int 0), (10, .int (M (25 + 6 * kb + 1) j)), (9, .int (M (25 + 6 * ka + 1) j)), (5, .int s1), (7, .int s3), (3, .ref (ad (25 + 6 * ka))), (4, .ref (ad (25 + 6 * kb)))]) hx hb dX2_compare_87 hl (k := 3) rfl (nI_1 j) (by decide) rfl (fun ls hl => ?_)
                refine lv_goto (tgt := 25) hx hb dX2_compare_90 (by decide) ?_
                exact ih (j + 1) (by omega) s1 0 s3 (by rw [hs]; first | (simp [cmS, c2, c3, c4, c5]; done) | exact absurd c2 c3 | exact absurd c4 c2) ls (lv_sub hl [0, 4, 1, 5, 6, 7] rfl)
            · skip
              refine lv_iconst (v := 0) hx hb dX2_compare_73 (by decide) ?_
              refine lv_istore (lv' := [(5, .int 0), (10, .int (M (25 + 6 * kb + 1) j)), (9, .int (M (25 + 6 * ka + 1) j)), (8, .int (nI j)), (6, .int s2), (7, .int s3), (3, .ref (ad (25 + 6 * ka))), (4, .ref (ad (25 + 6 * kb)))]) hx hb dX2_compare_74 hl (by decide) rfl (fun ls hl => ?_)
              refine lv_goto (tgt := 87) hx hb dX2_compare_76 (by decide) ?_
              refine lv_iinc (v := nI (j + 1)) (lv' := [(8, .int (nI (j + 1))), (5, .int 0), (10, .int (M (25 + 6 * kb + 1) j)), (9, .int (M (25 + 6 * ka + 1) j)), (6, .int s2), (7, .int s3), (3, .ref (ad (25 + 6 * ka))), (4, .ref (ad (25 + 6 * kb)))]) hx hb dX2_compare_87 hl (k := 3) rfl (nI_1 j) (by decide) rfl (fun ls hl => ?_)
              refine lv_goto (tgt := 25) hx hb dX2_compare_90 (by decide) ?_
              exact ih (j + 1) (by omega) 0 s2 s3 (by rw [hs]; first | (simp [cmS, c2, c3, c4]; done) | exact absurd c2 c3 | exact absurd c4 c2) ls (lv_sub hl [0, 1, 4, 5, 6, 7] rfl)
          · skip
            refine lv_iconst (v := 0) hx hb dX2_compare_62 (by decide) ?_
            refine lv_istore (lv' := [(7, .int 0), (10, .int (M (25 + 6 * kb + 1) j)), (9, .int (M (25 + 6 * ka + 1) j)), (8, .int (nI j)), (5, .int s1), (6, .int s2), (3, .ref (ad (25 + 6 * ka))), (4, .ref (ad (25 + 6 * kb)))]) hx hb dX2_compare_63 hl (by decide) rfl (fun ls hl => ?_)
            refine lv_goto (tgt := 87) hx hb dX2_compare_65 (by decide) ?_
            refine lv_iinc (v := nI (j + 1)) (lv' := [(8, .int (nI (j + 1))), (7, .int 0), (10, .int (M (25 + 6 * kb + 1) j)), (9, .int (M (25 + 6 * ka + 1) j)), (5, .int s1), (6, .int s2), (3, .ref (ad (25 + 6 * ka))), (4, .ref (ad (25 + 6 * kb)))]) hx hb dX2_compare_87 hl (k := 3) rfl (nI_1 j) (by decide) rfl (fun ls hl => ?_)
            refine lv_goto (tgt := 25) hx hb dX2_compare_90 (by decide) ?_
            exact ih (j + 1) (by omega) s1 s2 0 (by rw [hs]; first | (simp [cmS, c2, c3]; done) | exact absurd c2 c3 | exact absurd c4 c2) ls (lv_sub hl [0, 4, 5, 1, 6, 7] rfl)
  exact loop 256 0 (by decide) 1 1 1 rfl ls (lv_sub hl [0, 3, 2, 1, 5, 4] rfl)

abbrev rm_digestFold : Room := { frames := 4, cells := 0, slots := 0, locals := 400 }
set_option maxHeartbeats 4000000 in
set_option maxRecDepth 100000 in
/-- a fold's part of the digest -/
theorem c_digestFold (l : Launch) (D : va_G) (I Z F : ClassId) (ad : Nat → Nat) (hI : cI ad) (M : Nat → Nat → Int32) (sz : Nat) (f : Nat) (hf : f < 12) (n z : Nat) (hn6 : n ≤ 626) (hz7 : z ≤ 77) (hz : M (25 + 6 * f) 2 = nI z) (hrw : ∀ i : Nat, i < z → ∃ k : Nat, k < n ∧ M (25 + 6 * f + 2) i = nI k) (d0 : Int64) : Met l yX2_digestFold wsX2_digestFold rm_digestFold (va_Pc [.ref (ad 0), .long d0, .ref (ad (25 + 6 * f))] (cU D I Z F ad sz M)) (va_Ql (fun (r : Int64) (u : Nat → Nat → Int32) => u = M ∧ r = dgD M (25 + 6 * f) z d0) (fun u t => cP D I Z F ad u t.heap) (cA ad sz)) 0 0 (cA ad sz) := by
  refine cMet_l (cc := cX2_digestFold) (maxL := 8) hI (by decide) rfl ⟨rfl, rfl⟩ RX2 rfl (Nat.le_of_ble_eq_true rfl) (lv := [(0, .ref (ad 0)), (1, .long d0), (3, .ref (ad (25 + 6 * f)))]) rfl ?_
  intro p e s m args below meth c Q A ls hsz C0 hW hl hret
  obtain ⟨hx, hb, hml, hts, hown, hlocks, hK, hN, hDa, hA, hargs⟩ := C0
  have hin2 : ∀ w ∈ u_ws RX2 TX2 6, w ∈ wsX2_digestFold := by decide +kernel
  have hin0 : ∀ w ∈ u_ws RX0 TX0 7, w ∈ wsX2_digestFold := by decide +kernel
  have hin1 : ∀ w ∈ u_ws RX1 TX1 10, w ∈ wsX2_digestFold := by decide +kernel
  refine lv_lload_n hx hb dX2_digestFold_0 rfl (lv_at hl 1 rfl) ?_
  refine lv_lstore (lv' := [(4, .long d0), (0, .ref (ad 0)), (1, .long d0), (3, .ref (ad (25 + 6 * f)))]) hx hb dX2_digestFold_1 hl (by decide) rfl (fun ls hl => ?_)
  refine lv_iconst (v := 0) hx hb dX2_digestFold_3 (by decide) ?_
  refine lv_istore (lv' := [(6, .int 0), (4, .long d0), (0, .ref (ad 0)), (1, .long d0), (3, .ref (ad (25 + 6 * f)))]) hx hb dX2_digestFold_4 hl (by decide) rfl (fun ls hl => ?_)
  have outer : ∀ q i : Nat, i + q = z → ∀ (ls : Array Slot) (H : Heap) (locs : List Loc), lv_has ls 8 [(6, .int (nI i)), (4, .long (dgR M (25 + 6 * f) (dgA d0 (tdF M (25 + 6 * f) z) 8) i)), (0, .ref (ad 0)), (1, .long d0), (3, .ref (ad (25 + 6 * f)))] → cB9 D I Z F ad A s.heap M H locs → W p l e rm_digestFold s m args below meth c H locs 0 0 Q (F0 m 39 ls []) := by
    intro q
    induction q with
    | zero =>
      intro i hi ls H locs hl hW
      obtain rfl : i = z := by omega
      refine lv_iload hx hb dX2_digestFold_39 (lv_at hl 0 rfl) ?_
      refine lv_aload_n hx hb dX2_digestFold_41 rfl (lv_at hl 4 rfl) ?_
      refine cr_getN (v := .int (M (25 + 6 * f) 2)) (host := "SharedForks") hx hb hts hin0 hown hK hW (25 + 6 * f) (by omega) (cE_d0 I Z F ad M f) rfl 2 (by decide) rfl hN (by decide +kernel) rfl dX2_digestFold_42 ?_
      rw [hz]
      refine lv_icmp_ge (tgt := 88) hx hb dX2_digestFold_45 (by decide) (fun c1 => ?_) (fun c1 => ?_)
      · skip
        refine lv_lload hx hb dX2_digestFold_88 (lv_at hl 1 rfl) ?_
        exact hret 90 ls H locs _ _ dX2_digestFold_90 ⟨rfl, rfl⟩ hW
      · exact absurd (nI_le (Nat.le_refl _) (by omega)) c1
    | succ q ih =>
      intro i hi ls H locs hl hW
      refine lv_iload hx hb dX2_digestFold_39 (lv_at hl 0 rfl) ?_
      refine lv_aload_n hx hb dX2_digestFold_41 rfl (lv_at hl 4 rfl) ?_
      refine cr_getN (v := .int (M (25 + 6 * f) 2)) (host := "SharedForks") hx hb hts hin0 hown hK hW (25 + 6 * f) (by omega) (cE_d0 I Z F ad M f) rfl 2 (by decide) rfl hN (by decide +kernel) rfl dX2_digestFold_42 ?_
      rw [hz]
      refine lv_icmp_ge (tgt := 88) hx hb dX2_digestFold_45 (by decide) (fun c1 => ?_) (fun c1 => ?_)
      · exact absurd c1 (nI_ge (by omega) (by omega))
      · skip
        refine lv_iconst (v := 0) hx hb dX2_digestFold_48 (by decide) ?_
        refine lv_istore (lv' := [(7, .int 0), (6, .int (nI i)), (4, .long (dgR M (25 + 6 * f) (dgA d0 (tdF M (25 + 6 * f) z) 8) i)), (0, .ref (ad 0)), (1, .long d0), (3, .ref (ad (25 + 6 * f)))]) hx hb dX2_digestFold_49 hl (by decide) rfl (fun ls hl => ?_)
        have inner : ∀ q2 k : Nat, k + q2 = 5 → ∀ (ls : Array Slot) (H : Heap) (locs : List Loc), lv_has ls 8 [(7, .int (nI k)), (6, .int (nI i)), (4, .long (dgA (dgR M (25 + 6 * f) (dgA d0 (tdF M (25 + 6 * f) z) 8) i) (tfF M (25 + 6 * f) i) k)), (0, .ref (ad 0)), (1, .long d0), (3, .ref (ad (25 + 6 * f)))] → cB9 D I Z F ad A s.heap M H locs → W p l e rm_digestFold s m args below meth c H locs 0 0 Q (F0 m 51 ls []) := by
          intro q2
          induction q2 with
          | zero =>
            intro k hk ls H locs hl hW
            obtain rfl : k = 5 := by omega
            refine lv_iload hx hb dX2_digestFold_51 (lv_at hl 0 rfl) ?_
            refine lv_iconst (v := 5) hx hb dX2_digestFold_53 (by decide) ?_
            refine lv_icmp_ge (tgt := 82) hx hb dX2_digestFold_54 (by decide) (fun c1 => ?_) (fun c1 => ?_)
            · skip
              refine lv_iinc (v := nI (i + 1)) (lv' := [(6, .int (nI (i + 1))), (7, .int (nI 5)), (4, .long (dgA (dgR M (25 + 6 * f) (dgA d0 (tdF M (25 + 6 * f) z) 8) i) (tfF M (25 + 6 * f) i) 5)), (0, .ref (ad 0)), (1, .long d0), (3, .ref (ad (25 + 6 * f)))]) hx hb dX2_digestFold_82 hl (k := 1) rfl (nI_1 i) (by decide) rfl (fun ls hl => ?_)
              refine lv_goto (tgt := 39) hx hb dX2_digestFold_85 (by decide) ?_
              exact ih (i + 1) (by omega) ls H locs (lv_sub hl [0, 2, 3, 4, 5] rfl) hW
            · exact absurd (nI_le (Nat.le_refl 5) (by decide)) c1
          | succ q2 ih2 =>
            intro k hk ls H locs hl hW
            refine lv_iload hx hb dX2_digestFold_51 (lv_at hl 0 rfl) ?_
            refine lv_iconst (v := 5) hx hb dX2_digestFold_53 (by decide) ?_
            refine lv_icmp_ge (tgt := 82) hx hb dX2_digestFold_54 (by decide) (fun c1 => ?_) (fun c1 => ?_)
            · exact absurd c1 (nI_ge (b := 5) (by omega) (by decide))
            · skip
              refine lv_lload hx hb dX2_digestFold_57 (lv_at hl 2 rfl) ?_
              refine lv_ldc2 (v := 31) hx hb hown (hts (.constantLong RX2 126 (31)) (by decide +kernel)) dX2_digestFold_59 ?_
              refine lv_lmul hx hb dX2_digestFold_62 ?_
              refine lv_aload_n hx hb dX2_digestFold_63 rfl (lv_at hl 3 rfl) ?_
              refine lv_aload_n hx hb dX2_digestFold_64 rfl (lv_at hl 5 rfl) ?_
              refine lv_iload hx hb dX2_digestFold_65 (lv_at hl 1 rfl) ?_
              refine lv_iload hx hb dX2_digestFold_67 (lv_at hl 0 rfl) ?_
              refine cr_calli (va_runV (As := [.ref (ad (25 + 6 * f)), .int (nI i), .int (nI k)]) (rest := [.long ((dgA (dgR M (25 + 6 * f) (dgA d0 (tdF M (25 + 6 * f) z) 8) i) (tfF M (25 + 6 * f) i) k) * 31)]) ⟨hx, hb, hml, hown, hts⟩ (c_tellFork l D I Z F ad hI M H.size f hf n z hn6 hz7 hz hrw i (by omega) k (by omega)) (cwV 3 hts gX2_digestFold_X2_tellFork rfl rfl rfl (by decide +kernel) ⟨Nat.le_of_ble_eq_true rfl, Nat.le_of_ble_eq_true rfl⟩) (cr_preV hK hN hW 0 (by decide) (cE_x I Z F ad M) rfl) rfl rfl hl.1 rfl (lv_room (Nat.le_of_ble_eq_true rfl)) dX2_digestFold_69 ⟨Nat.le_of_ble_eq_true rfl, Nat.le_of_ble_eq_true rfl⟩) hA hDa hW (fun r u H locs hp hW => ?_)
              obtain ⟨hu, hv9⟩ := hp
              rw [hu] at hW
              rw [hv9]
              refine lv_i2l hx hb dX2_digestFold_72 rfl ?_
              refine lv_ladd hx hb dX2_digestFold_73 ?_
              rw [show (((dgA (dgR M (25 + 6 * f) (dgA d0 (tdF M (25 + 6 * f) z) 8) i) (tfF M (25 + 6 * f) i) k) * 31) + ((tfF M (25 + 6 * f) i k).toInt64)) = dgA (dgR M (25 + 6 * f) (dgA d0 (tdF M (25 + 6 * f) z) 8) i) (tfF M (25 + 6 * f) i) (k + 1) from rfl]
              refine lv_lstore (lv' := [(4, .long (dgA (dgR M (25 + 6 * f) (dgA d0 (tdF M (25 + 6 * f) z) 8) i) (tfF M (25 + 6 * f) i) (k + 1))), (7, .int (nI k)), (6, .int (nI i)), (0, .ref (ad 0)), (1, .long d0), (3, .ref (ad (25 + 6 * f)))]) hx hb dX2_digestFold_74 hl (by decide) rfl (fun ls hl => ?_)
              refine lv_iinc (v := nI (k + 1)) (lv' := [(7, .int (nI (k + 1))), (4, .long (dgA (dgR M (25 + 6 * f) (dgA d0 (tdF M (25 + 6 * f) z) 8) i) (tfF M (25 + 6 * f) i) (k + 1))), (6, .int (nI i)), (0, .ref (ad 0)), (1, .long d0), (3, .ref (ad (25 + 6 * f)))]) hx hb dX2_digestFold_76 hl (k := 1) rfl (nI_1 k) (by decide) rfl (fun ls hl => ?_)
              refine lv_goto (tgt := 51) hx hb dX2_digestFold_79 (by decide) ?_
              exact ih2 (k + 1) (by omega) ls H locs (lv_sub hl [0, 2, 1, 3, 4, 5] rfl) hW
        exact inner 5 0 (by decide) ls H locs (lv_sub hl [0, 1, 2, 3, 4, 5] rfl) hW
  have loop : ∀ q i : Nat, i + q = 8 → ∀ (ls : Array Slot) (H : Heap) (locs : List Loc), lv_has ls 8 [(6, .int (nI i)), (4, .long (dgA d0 (tdF M (25 + 6 * f) z) i)), (0, .ref (ad 0)), (1, .long d0), (3, .ref (ad (25 + 6 * f)))] → cB9 D I Z F ad A s.heap M H locs → W p l e rm_digestFold s m args below meth c H locs 0 0 Q (F0 m 6 ls []) := by
    intro q
    induction q with
    | zero =>
      intro i hi ls H locs hl hW
      obtain rfl : i = 8 := by omega
      refine lv_iload hx hb dX2_digestFold_6 (lv_at hl 0 rfl) ?_
      refine lv_bipush (v := 8) hx hb dX2_digestFold_8 (by decide) ?_
      refine lv_icmp_ge (tgt := 36) hx hb dX2_digestFold_10 (by decide) (fun c1 => ?_) (fun c1 => ?_)
      · skip
        refine lv_iconst (v := 0) hx hb dX2_digestFold_36 (by decide) ?_
        refine lv_istore (lv' := [(6, .int 0), (4, .long (dgA d0 (tdF M (25 + 6 * f) z) 8)), (0, .ref (ad 0)), (1, .long d0), (3, .ref (ad (25 + 6 * f)))]) hx hb dX2_digestFold_37 hl (by decide) rfl (fun ls hl => ?_)
        exact outer z 0 (by omega) ls H locs (lv_sub hl [0, 1, 2, 3, 4] rfl) hW
      · exact absurd (nI_le (Nat.le_refl 8) (by decide)) c1
    | succ q ih =>
      intro i hi ls H locs hl hW
      refine lv_iload hx hb dX2_digestFold_6 (lv_at hl 0 rfl) ?_
      refine lv_bipush (v := 8) hx hb dX2_digestFold_8 (by decide) ?_
      refine lv_icmp_ge (tgt := 36) hx hb dX2_digestFold_10 (by decide) (fun c1 => ?_) (fun c1 => ?_)
      · exact absurd c1 (nI_ge (b := 8) (by omega) (by decide))
      · skip
        refine lv_lload hx hb dX2_digestFold_13 (lv_at hl 1 rfl) ?_
        refine lv_ldc2 (v := 31) hx hb hown (hts (.constantLong RX2 126 (31)) (by decide +kernel)) dX2_digestFold_15 ?_
        refine lv_lmul hx hb dX2_digestFold_18 ?_
        refine lv_aload_n hx hb dX2_digestFold_19 rfl (lv_at hl 2 rfl) ?_
        refine lv_aload_n hx hb dX2_digestFold_20 rfl (lv_at hl 4 rfl) ?_
        refine lv_iload hx hb dX2_digestFold_21 (lv_at hl 0 rfl) ?_
        refine cr_calli (va_runV (As := [.ref (ad (25 + 6 * f)), .int (nI i)]) (rest := [.long ((dgA d0 (tdF M (25 + 6 * f) z) i) * 31)]) ⟨hx, hb, hml, hown, hts⟩ (c_tellFold l D I Z F ad hI M H.size f hf n z hn6 hz7 hz hrw i (by omega)) (cwV 2 hts gX2_digestFold_X2_tellFold rfl rfl rfl (by decide +kernel) ⟨Nat.le_of_ble_eq_true rfl, Nat.le_of_ble_eq_true rfl⟩) (cr_preV hK hN hW 0 (by decide) (cE_x I Z F ad M) rfl) rfl rfl hl.1 rfl (lv_room (Nat.le_of_ble_eq_true rfl)) dX2_digestFold_23 ⟨Nat.le_of_ble_eq_true rfl, Nat.le_of_ble_eq_true rfl⟩) hA hDa hW (fun r u H locs hp hW => ?_)
        obtain ⟨hu, hv9⟩ := hp
        rw [hu] at hW
        rw [hv9]
        refine lv_i2l hx hb dX2_digestFold_26 rfl ?_
        refine lv_ladd hx hb dX2_digestFold_27 ?_
        rw [show (((dgA d0 (tdF M (25 + 6 * f) z) i) * 31) + ((tdF M (25 + 6 * f) z i).toInt64)) = dgA d0 (tdF M (25 + 6 * f) z) (i + 1) from rfl]
        refine lv_lstore (lv' := [(4, .long (dgA d0 (tdF M (25 + 6 * f) z) (i + 1))), (6, .int (nI i)), (0, .ref (ad 0)), (1, .long d0), (3, .ref (ad (25 + 6 * f)))]) hx hb dX2_digestFold_28 hl (by decide) rfl (fun ls hl => ?_)
        refine lv_iinc (v := nI (i + 1)) (lv' := [(6, .int (nI (i + 1))), (4, .long (dgA d0 (tdF M (25 + 6 * f) z) (i + 1))), (0, .ref (ad 0)), (1, .long d0), (3, .ref (ad (25 + 6 * f)))]) hx hb dX2_digestFold_30 hl (k := 1) rfl (nI_1 i) (by decide) rfl (fun ls hl => ?_)
        refine lv_goto (tgt := 6) hx hb dX2_digestFold_33 (by decide) ?_
        exact ih (i + 1) (by omega) ls H locs (lv_sub hl [0, 1, 2, 3, 4] rfl) hW
  exact loop 8 0 (by decide) ls _ _ (lv_sub hl [0, 1, 2, 3, 4] rfl) hW

abbrev rm_digest : Room := { frames := 5, cells := 0, slots := 0, locals := 500 }
set_option maxHeartbeats 4000000 in
set_option maxRecDepth 100000 in
/-- the digest -/
theorem c_digest (l : Launch) (D : va_G) (I Z F : ClassId) (ad : Nat → Nat) (hI : cI ad) (M : Nat → Nat → Int32) (sz : Nat) (n : Nat) (hrs : rwsOk M n) : Met l yX2_digest wsX2_digest rm_digest (va_Pc [.ref (ad 0)] (cU D I Z F ad sz M)) (va_Ql (fun (r : Int64) (u : Nat → Nat → Int32) => u = M ∧ r = dgF M n) (fun u t => cP D I Z F ad u t.heap) (cA ad sz)) 0 0 (cA ad sz) := by
  refine cMet_l (cc := cX2_digest) (maxL := 5) hI (by decide) rfl ⟨rfl, rfl⟩ RX2 rfl (Nat.le_of_ble_eq_true rfl) (lv := [(0, .ref (ad 0))]) rfl ?_
  intro p e s m args below meth c Q A ls hsz C0 hW hl hret
  obtain ⟨hx, hb, hml, hts, hown, hlocks, hK, hN, hDa, hA, hargs⟩ := C0
  have hin2 : ∀ w ∈ u_ws RX2 TX2 6, w ∈ wsX2_digest := by decide +kernel
  have hin0 : ∀ w ∈ u_ws RX0 TX0 7, w ∈ wsX2_digest := by decide +kernel
  have hin1 : ∀ w ∈ u_ws RX1 TX1 10, w ∈ wsX2_digest := by decide +kernel
  refine lv_ldc2 (v := 1709) hx hb hown (hts (.constantLong RX2 124 (1709)) (by decide +kernel)) dX2_digest_0 ?_
  refine lv_lstore_n (lv' := [(1, .long 1709), (0, .ref (ad 0))]) hx hb dX2_digest_3 rfl hl (by decide) rfl (fun ls hl => ?_)
  refine lv_iconst (v := 0) hx hb dX2_digest_4 (by decide) ?_
  refine lv_istore_n (lv' := [(3, .int 0), (1, .long 1709), (0, .ref (ad 0))]) hx hb dX2_digest_5 rfl hl (by decide) rfl (fun ls hl => ?_)
  have l3 : ∀ q i : Nat, i + q = 12 → ∀ (ls : Array Slot) (H : Heap) (locs : List Loc), lv_has ls 5 [(3, .int (nI i)), (1, .long (dgL M (dgA (dgA 1709 (tcF M n) 5) (M 2) 8) i)), (0, .ref (ad 0))] → cB9 D I Z F ad A s.heap M H locs → W p l e rm_digest s m args below meth c H locs 0 0 Q (F0 m 60 ls []) := by
    intro q
    induction q with
    | zero =>
      intro i hi ls H locs hl hW
      obtain rfl : i = 12 := by omega
      refine lv_iload_n hx hb dX2_digest_60 rfl (lv_at hl 0 rfl) ?_
      refine lv_bipush (v := 12) hx hb dX2_digest_61 (by decide) ?_
      refine lv_icmp_ge (tgt := 110) hx hb dX2_digest_63 (by decide) (fun c1 => ?_) (fun c1 => ?_)
      · skip
        refine lv_lload_n hx hb dX2_digest_110 rfl (lv_at hl 1 rfl) ?_
        exact hret 111 ls H locs _ _ dX2_digest_111 ⟨rfl, rfl⟩ hW
      · exact absurd (nI_le (Nat.le_refl 12) (by decide)) c1
    | succ q ih =>
      intro i hi ls H locs hl hW
      refine lv_iload_n hx hb dX2_digest_60 rfl (lv_at hl 0 rfl) ?_
      refine lv_bipush (v := 12) hx hb dX2_digest_61 (by decide) ?_
      refine lv_icmp_ge (tgt := 110) hx hb dX2_digest_63 (by decide) (fun c1 => ?_) (fun c1 => ?_)
      · exact absurd c1 (nI_ge (b := 12) (by omega) (by decide))
      · skip
        refine lv_aload_n hx hb dX2_digest_66 rfl (lv_at hl 2 rfl) ?_
        refine cr_get (v := .ref (ad 1)) hx hb hts hin2 hown hK hW 0 (by decide) (cE_x I Z F ad M) rfl 0 (by decide) rfl (by decide +kernel) rfl dX2_digest_67 ?_
        refine lv_iload_n hx hb dX2_digest_70 rfl (lv_at hl 0 rfl) ?_
        refine cr_fald hx hb hK hW i (by omega) rfl dX2_digest_71 ?_
        refine lv_astore (lv' := [(4, .ref (ad (25 + 6 * i))), (3, .int (nI i)), (1, .long (dgL M (dgA (dgA 1709 (tcF M n) 5) (M 2) 8) i)), (0, .ref (ad 0))]) hx hb dX2_digest_72 hl (by decide) rfl (fun ls hl => ?_)
        refine lv_aload hx hb dX2_digest_74 (lv_at hl 0 rfl) ?_
        refine cr_getN (v := .int (M (25 + 6 * i) 0)) (host := "SharedForks") hx hb hts hin0 hown hK hW (25 + 6 * i) (by omega) (cE_d0 I Z F ad M i) rfl 0 (by decide) rfl hN (by decide +kernel) rfl dX2_digest_76 ?_
        refine lv_if_eq (tgt := 98) hx hb dX2_digest_79 (by decide) (fun c2 => ?_) (fun c2 => ?_)
        · skip
          refine lv_lload_n hx hb dX2_digest_98 rfl (lv_at hl 2 rfl) ?_
          refine lv_ldc2 (v := 31) hx hb hown (hts (.constantLong RX2 126 (31)) (by decide +kernel)) dX2_digest_99 ?_
          refine lv_lmul hx hb dX2_digest_102 ?_
          rw [show ((dgL M (dgA (dgA 1709 (tcF M n) 5) (M 2) 8) i) * 31) = (dgL M (dgA (dgA 1709 (tcF M n) 5) (M 2) 8) (i + 1)) from by rw [dgL, if_pos c2]]
          refine lv_lstore_n (lv' := [(1, .long (dgL M (dgA (dgA 1709 (tcF M n) 5) (M 2) 8) (i + 1))), (4, .ref (ad (25 + 6 * i))), (3, .int (nI i)), (0, .ref (ad 0))]) hx hb dX2_digest_103 rfl hl (by decide) rfl (fun ls hl => ?_)
          refine lv_iinc (v := nI (i + 1)) (lv' := [(3, .int (nI (i + 1))), (1, .long (dgL M (dgA (dgA 1709 (tcF M n) 5) (M 2) 8) (i + 1))), (4, .ref (ad (25 + 6 * i))), (0, .ref (ad 0))]) hx hb dX2_digest_104 hl (k := 2) rfl (nI_1 i) (by decide) rfl (fun ls hl => ?_)
          refine lv_goto (tgt := 60) hx hb dX2_digest_107 (by decide) ?_
          exact ih (i + 1) (by omega) ls H locs (lv_sub hl [0, 1, 3] rfl) hW
        · skip
          obtain ⟨z, hz7, hz, hrw⟩ := hrs.2.2 i (by omega) c2
          refine lv_aload_n hx hb dX2_digest_82 rfl (lv_at hl 3 rfl) ?_
          refine lv_lload_n hx hb dX2_digest_83 rfl (lv_at hl 2 rfl) ?_
          refine lv_ldc2 (v := 31) hx hb hown (hts (.constantLong RX2 126 (31)) (by decide +kernel)) dX2_digest_84 ?_
          refine lv_lmul hx hb dX2_digest_87 ?_
          refine lv_lconst (v := 1) hx hb dX2_digest_88 (by decide) ?_
          refine lv_ladd hx hb dX2_digest_89 ?_
          refine lv_aload hx hb dX2_digest_90 (lv_at hl 0 rfl) ?_
          refine cr_calll (va_runV (As := [.long (((dgL M (dgA (dgA 1709 (tcF M n) 5) (M 2) 8) i) * 31) + 1), .ref (ad (25 + 6 * i))]) (rest := []) ⟨hx, hb, hml, hown, hts⟩ (c_digestFold l D I Z F ad hI M H.size i (by omega) n z hrs.1 hz7 hz hrw (((dgL M (dgA (dgA 1709 (tcF M n) 5) (M 2) 8) i) * 31) + 1)) (cwV 2 hts gX2_digest_X2_digestFold rfl rfl rfl (by decide +kernel) ⟨Nat.le_of_ble_eq_true rfl, Nat.le_of_ble_eq_true rfl⟩) (cr_preV hK hN hW 0 (by decide) (cE_x I Z F ad M) rfl) rfl rfl hl.1 rfl (lv_room (Nat.le_of_ble_eq_true rfl)) dX2_digest_92 ⟨Nat.le_of_ble_eq_true rfl, Nat.le_of_ble_eq_true rfl⟩) hA hDa hW (fun r u H locs hp hW => ?_)
          obtain ⟨hu, hv9⟩ := hp
          rw [hu] at hW
          rw [hv9]
          refine lv_goto (tgt := 103) hx hb dX2_digest_95 (by decide) ?_
          rw [show (dgD M (25 + 6 * i) z (((dgL M (dgA (dgA 1709 (tcF M n) 5) (M 2) 8) i) * 31) + 1)) = (dgL M (dgA (dgA 1709 (tcF M n) 5) (M 2) 8) (i + 1)) from by rw [dgL, if_neg c2, hz, nI_clamp (by omega)]]
          refine lv_lstore_n (lv' := [(1, .long (dgL M (dgA (dgA 1709 (tcF M n) 5) (M 2) 8) (i + 1))), (4, .ref (ad (25 + 6 * i))), (3, .int (nI i)), (0, .ref (ad 0))]) hx hb dX2_digest_103 rfl hl (by decide) rfl (fun ls hl => ?_)
          refine lv_iinc (v := nI (i + 1)) (lv' := [(3, .int (nI (i + 1))), (1, .long (dgL M (dgA (dgA 1709 (tcF M n) 5) (M 2) 8) (i + 1))), (4, .ref (ad (25 + 6 * i))), (0, .ref (ad 0))]) hx hb dX2_digest_104 hl (k := 2) rfl (nI_1 i) (by decide) rfl (fun ls hl => ?_)
          refine lv_goto (tgt := 60) hx hb dX2_digest_107 (by decide) ?_
          exact ih (i + 1) (by omega) ls H locs (lv_sub hl [0, 1, 3] rfl) hW
  have l2 : ∀ q i : Nat, i + q = 8 → ∀ (ls : Array Slot) (H : Heap) (locs : List Loc), lv_has ls 5 [(3, .int (nI i)), (1, .long (dgA (dgA 1709 (tcF M n) 5) (M 2) i)), (0, .ref (ad 0))] → cB9 D I Z F ad A s.heap M H locs → W p l e rm_digest s m args below meth c H locs 0 0 Q (F0 m 32 ls []) := by
    intro q
    induction q with
    | zero =>
      intro i hi ls H locs hl hW
      obtain rfl : i = 8 := by omega
      refine lv_iload_n hx hb dX2_digest_32 rfl (lv_at hl 0 rfl) ?_
      refine lv_bipush (v := 8) hx hb dX2_digest_33 (by decide) ?_
      refine lv_icmp_ge (tgt := 58) hx hb dX2_digest_35 (by decide) (fun c1 => ?_) (fun c1 => ?_)
      · skip
        refine lv_iconst (v := 0) hx hb dX2_digest_58 (by decide) ?_
        refine lv_istore_n (lv' := [(3, .int 0), (1, .long (dgA (dgA 1709 (tcF M n) 5) (M 2) 8)), (0, .ref (ad 0))]) hx hb dX2_digest_59 rfl hl (by decide) rfl (fun ls hl => ?_)
        exact l3 12 0 (by decide) ls H locs (lv_sub hl [0, 1, 2] rfl) hW
      · exact absurd (nI_le (Nat.le_refl 8) (by decide)) c1
    | succ q ih =>
      intro i hi ls H locs hl hW
      refine lv_iload_n hx hb dX2_digest_32 rfl (lv_at hl 0 rfl) ?_
      refine lv_bipush (v := 8) hx hb dX2_digest_33 (by decide) ?_
      refine lv_icmp_ge (tgt := 58) hx hb dX2_digest_35 (by decide) (fun c1 => ?_) (fun c1 => ?_)
      · exact absurd c1 (nI_ge (b := 8) (by omega) (by decide))
      · skip
        refine lv_lload_n hx hb dX2_digest_38 rfl (lv_at hl 1 rfl) ?_
        refine lv_ldc2 (v := 31) hx hb hown (hts (.constantLong RX2 126 (31)) (by decide +kernel)) dX2_digest_39 ?_
        refine lv_lmul hx hb dX2_digest_42 ?_
        refine lv_aload_n hx hb dX2_digest_43 rfl (lv_at hl 2 rfl) ?_
        refine cr_get (v := .ref (ad 2)) hx hb hts hin2 hown hK hW 0 (by decide) (cE_x I Z F ad M) rfl 1 (by decide) rfl (by decide +kernel) rfl dX2_digest_44 ?_
        refine lv_iload_n hx hb dX2_digest_47 rfl (lv_at hl 0 rfl) ?_
        refine cr_iald hx hb hK hW 2 (by decide) (cE_q I Z F ad M) i (by omega) (by decide) rfl dX2_digest_48 ?_
        refine lv_i2l hx hb dX2_digest_49 rfl ?_
        refine lv_ladd hx hb dX2_digest_50 ?_
        rw [show (((dgA (dgA 1709 (tcF M n) 5) (M 2) i) * 31) + ((M 2 i).toInt64)) = (dgA (dgA 1709 (tcF M n) 5) (M 2) (i + 1)) from rfl]
        refine lv_lstore_n (lv' := [(1, .long (dgA (dgA 1709 (tcF M n) 5) (M 2) (i + 1))), (3, .int (nI i)), (0, .ref (ad 0))]) hx hb dX2_digest_51 rfl hl (by decide) rfl (fun ls hl => ?_)
        refine lv_iinc (v := nI (i + 1)) (lv' := [(3, .int (nI (i + 1))), (1, .long (dgA (dgA 1709 (tcF M n) 5) (M 2) (i + 1))), (0, .ref (ad 0))]) hx hb dX2_digest_52 hl (k := 1) rfl (nI_1 i) (by decide) rfl (fun ls hl => ?_)
        refine lv_goto (tgt := 32) hx hb dX2_digest_55 (by decide) ?_
        exact ih (i + 1) (by omega) ls H locs (lv_sub hl [0, 1, 2] rfl) hW
  have l1 : ∀ q i : Nat, i + q = 5 → ∀ (ls : Array Slot) (H : Heap) (locs : List Loc), lv_has ls 5 [(3, .int (nI i)), (1, .long (dgA 1709 (tcF M n) i)), (0, .ref (ad 0))] → cB9 D I Z F ad A s.heap M H locs → W p l e rm_digest s m args below meth c H locs 0 0 Q (F0 m 6 ls []) := by
    intro q
    induction q with
    | zero =>
      intro i hi ls H locs hl hW
      obtain rfl : i = 5 := by omega
      refine lv_iload_n hx hb dX2_digest_6 rfl (lv_at hl 0 rfl) ?_
      refine lv_iconst (v := 5) hx hb dX2_digest_7 (by decide) ?_
      refine lv_icmp_ge (tgt := 30) hx hb dX2_digest_8 (by decide) (fun c1 => ?_) (fun c1 => ?_)
      · skip
        refine lv_iconst (v := 0) hx hb dX2_digest_30 (by decide) ?_
        refine lv_istore_n (lv' := [(3, .int 0), (1, .long (dgA 1709 (tcF M n) 5)), (0, .ref (ad 0))]) hx hb dX2_digest_31 rfl hl (by decide) rfl (fun ls hl => ?_)
        exact l2 8 0 (by decide) ls H locs (lv_sub hl [0, 1, 2] rfl) hW
      · exact absurd (nI_le (Nat.le_refl 5) (by decide)) c1
    | succ q ih =>
      intro i hi ls H locs hl hW
      refine lv_iload_n hx hb dX2_digest_6 rfl (lv_at hl 0 rfl) ?_
      refine lv_iconst (v := 5) hx hb dX2_digest_7 (by decide) ?_
      refine lv_icmp_ge (tgt := 30) hx hb dX2_digest_8 (by decide) (fun c1 => ?_) (fun c1 => ?_)
      · exact absurd c1 (nI_ge (b := 5) (by omega) (by decide))
      · skip
        refine lv_lload_n hx hb dX2_digest_11 rfl (lv_at hl 1 rfl) ?_
        refine lv_ldc2 (v := 31) hx hb hown (hts (.constantLong RX2 126 (31)) (by decide +kernel)) dX2_digest_12 ?_
        refine lv_lmul hx hb dX2_digest_15 ?_
        refine lv_aload_n hx hb dX2_digest_16 rfl (lv_at hl 2 rfl) ?_
        refine lv_iload_n hx hb dX2_digest_17 rfl (lv_at hl 0 rfl) ?_
        refine cr_calli (va_runV (As := [.int (nI i)]) (rest := [.long ((dgA 1709 (tcF M n) i) * 31)]) ⟨hx, hb, hml, hown, hts⟩ (c_tellCount l D I Z F ad hI M H.size n hrs.1 hrs.2.1 i (by omega)) (cwV 1 hts gX2_digest_X2_tellCount rfl rfl rfl (by decide +kernel) ⟨Nat.le_of_ble_eq_true rfl, Nat.le_of_ble_eq_true rfl⟩) (cr_preV hK hN hW 0 (by decide) (cE_x I Z F ad M) rfl) rfl rfl hl.1 rfl (lv_room (Nat.le_of_ble_eq_true rfl)) dX2_digest_18 ⟨Nat.le_of_ble_eq_true rfl, Nat.le_of_ble_eq_true rfl⟩) hA hDa hW (fun r u H locs hp hW => ?_)
        obtain ⟨hu, hv9⟩ := hp
        rw [hu] at hW
        rw [hv9]
        refine lv_i2l hx hb dX2_digest_21 rfl ?_
        refine lv_ladd hx hb dX2_digest_22 ?_
        rw [show (((dgA 1709 (tcF M n) i) * 31) + ((tcF M n i).toInt64)) = (dgA 1709 (tcF M n) (i + 1)) from rfl]
        refine lv_lstore_n (lv' := [(1, .long (dgA 1709 (tcF M n) (i + 1))), (3, .int (nI i)), (0, .ref (ad 0))]) hx hb dX2_digest_23 rfl hl (by decide) rfl (fun ls hl => ?_)
        refine lv_iinc (v := nI (i + 1)) (lv' := [(3, .int (nI (i + 1))), (1, .long (dgA 1709 (tcF M n) (i + 1))), (0, .ref (ad 0))]) hx hb dX2_digest_24 hl (k := 1) rfl (nI_1 i) (by decide) rfl (fun ls hl => ?_)
        refine lv_goto (tgt := 6) hx hb dX2_digest_27 (by decide) ?_
        exact ih (i + 1) (by omega) ls H locs (lv_sub hl [0, 1, 2] rfl) hW
  exact l1 5 0 (by decide) ls _ _ (lv_sub hl [0, 1, 2] rfl) hW
