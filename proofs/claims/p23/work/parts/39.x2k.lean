abbrev rm_compare : Room := { frames := 9, cells := 2, slots := 12, locals := 300 }
set_option maxHeartbeats 4000000 in
set_option maxRecDepth 100000 in
/-- how two folds stand -/
theorem c_compare (l : Launch) (hst : l.stackTraces = false) (D : va_G) (I Z F : ClassId) (ad sa : Nat → Nat) (hI : cI ad) (M : Nat → Nat → Int32) (sz : Nat) (a1 b1 : Int32) : vx_Met l yX2_compare wsX2_compare rm_compare (va_Pc [.ref (ad 0), .int a1, .int b1] (cUX D I Z F ad sa sz M)) (va_Qi (fun (r : Int32) (u : Nat → Nat → Int32) => ∃ ka kb : Nat, fdOk M a1 ka ∧ fdOk M b1 kb ∧ u = M ∧ r = cmR (cmL (M (25 + 6 * ka + 1)) (M (25 + 6 * kb + 1)) 256)) (fun u t => cP D I Z F ad u t.heap) (cA ad sz)) (xQ D I Z F ad M sz (fun E => E = xIO ∧ ¬ ((∃ k, fdOk M a1 k) ∧ (∃ k, fdOk M b1 k)))) 2 12 (cA ad sz) := by
  refine cMetX_i (cc := cX2_compare) (maxL := 11) hst hI (by decide) rfl ⟨rfl, rfl, by decide, by decide⟩ RX2 rfl (Nat.le_of_ble_eq_true rfl) (lv := [(0, .ref (ad 0)), (1, .int a1), (2, .int b1)]) rfl ?_
  intro p e s m args below meth c Q A ls hsz C0 hX hW hl hret hthr hprp
  obtain ⟨hx, hb, hml, hts, hown, hlocks, hK, hN, hDa, hA, hargs⟩ := C0
  have hin2 : ∀ w ∈ u_ws RX2 TX2 6, w ∈ wsX2_compare := by decide +kernel
  have hin0 : ∀ w ∈ u_ws RX0 TX0 7, w ∈ wsX2_compare := by decide +kernel
  refine lv_aload_n hx hb dX2_compare_0 rfl (lv_at hl 0 rfl) ?_
  refine lv_iload_n hx hb dX2_compare_1 rfl (lv_at hl 1 rfl) ?_
  refine cx_callq (vx_runV (As := [.int a1]) (rest := []) ⟨hx, hb, hml, hown, hts⟩ (c_foldAt l hst D I Z F ad sa hI M s.heap.size a1) (cwV 1 hts gX2_compare_X2_foldAt rfl rfl rfl (by decide +kernel) ⟨Nat.le_of_ble_eq_true rfl, Nat.le_of_ble_eq_true rfl⟩) (cx_preV hK hN hX hA hDa hW 0 (by decide) (cE_x I Z F ad M) rfl) rfl rfl hl.1 rfl (lv_room (Nat.le_of_ble_eq_true rfl)) dX2_compare_2 ⟨Nat.le_of_ble_eq_true rfl, Nat.le_of_ble_eq_true rfl⟩) hA hDa hW (fun E ce q9 H locs hxp hW h1 h2 h3 => ?_) (fun r ka H locs hp hW => ?_)
  · exact hprp 2 ls _ H locs 1 6 E ce q9 (⟨hxp.1, fun h => hxp.2 h.1⟩) hW (by decide) (by decide) h1 h2 h3
  obtain ⟨hka, hr9⟩ := hp
  subst hr9
  have hka12 := hka.1
  show W p l e rm_compare s m args below meth c H locs 1 6 Q (F0 m 5 ls (.ref (ad (25 + 6 * ka)) :: []))
  refine lv_astore_n (lv' := [(3, .ref (ad (25 + 6 * ka))), (0, .ref (ad 0)), (1, .int a1), (2, .int b1)]) hx hb dX2_compare_5 rfl hl (by decide) rfl (fun ls hl => ?_)
  refine lv_aload_n hx hb dX2_compare_6 rfl (lv_at hl 1 rfl) ?_
  refine lv_iload_n hx hb dX2_compare_7 rfl (lv_at hl 3 rfl) ?_
  refine cx_callq (vx_runV (As := [.int b1]) (rest := []) ⟨hx, hb, hml, hown, hts⟩ (c_foldAt l hst D I Z F ad sa hI M H.size b1) (cwV 1 hts gX2_compare_X2_foldAt rfl rfl rfl (by decide +kernel) ⟨Nat.le_of_ble_eq_true rfl, Nat.le_of_ble_eq_true rfl⟩) (cx_preV hK hN hX hA hDa hW 0 (by decide) (cE_x I Z F ad M) rfl) rfl rfl hl.1 rfl (lv_room (Nat.le_of_ble_eq_true rfl)) dX2_compare_8 ⟨Nat.le_of_ble_eq_true rfl, Nat.le_of_ble_eq_true rfl⟩) hA hDa hW (fun E ce q9 H locs hxp hW h1 h2 h3 => ?_) (fun r kb H locs hp hW => ?_)
  · exact hprp 8 ls _ H locs 2 12 E ce q9 (⟨hxp.1, fun h => hxp.2 h.2⟩) hW (by decide) (by decide) h1 h2 h3
  obtain ⟨hkb, hr9⟩ := hp
  subst hr9
  have hkb12 := hkb.1
  show W p l e rm_compare s m args below meth c H locs 2 12 Q (F0 m 11 ls (.ref (ad (25 + 6 * kb)) :: []))
  refine lv_astore (lv' := [(4, .ref (ad (25 + 6 * kb))), (3, .ref (ad (25 + 6 * ka))), (0, .ref (ad 0)), (1, .int a1), (2, .int b1)]) hx hb dX2_compare_11 hl (by decide) rfl (fun ls hl => ?_)
  refine lv_iconst (v := 1) hx hb dX2_compare_13 (by decide) ?_
  refine lv_istore (lv' := [(5, .int 1), (4, .ref (ad (25 + 6 * kb))), (3, .ref (ad (25 + 6 * ka))), (0, .ref (ad 0)), (1, .int a1), (2, .int b1)]) hx hb dX2_compare_14 hl (by decide) rfl (fun ls hl => ?_)
  refine lv_iconst (v := 1) hx hb dX2_compare_16 (by decide) ?_
  refine lv_istore (lv' := [(6, .int 1), (5, .int 1), (4, .ref (ad (25 + 6 * kb))), (3, .ref (ad (25 + 6 * ka))), (0, .ref (ad 0)), (1, .int a1), (2, .int b1)]) hx hb dX2_compare_17 hl (by decide) rfl (fun ls hl => ?_)
  refine lv_iconst (v := 1) hx hb dX2_compare_19 (by decide) ?_
  refine lv_istore (lv' := [(7, .int 1), (6, .int 1), (5, .int 1), (4, .ref (ad (25 + 6 * kb))), (3, .ref (ad (25 + 6 * ka))), (0, .ref (ad 0)), (1, .int a1), (2, .int b1)]) hx hb dX2_compare_20 hl (by decide) rfl (fun ls hl => ?_)
  refine lv_iconst (v := 0) hx hb dX2_compare_22 (by decide) ?_
  refine lv_istore (lv' := [(8, .int 0), (7, .int 1), (6, .int 1), (5, .int 1), (4, .ref (ad (25 + 6 * kb))), (3, .ref (ad (25 + 6 * ka))), (0, .ref (ad 0)), (1, .int a1), (2, .int b1)]) hx hb dX2_compare_23 hl (by decide) rfl (fun ls hl => ?_)
  have loop : ∀ q j : Nat, j + q = 256 → ∀ (s1 s2 s3 : Int32), (cmL (M (25 + 6 * ka + 1)) (M (25 + 6 * kb + 1)) j) = (s1, s2, s3) → ∀ (ls : Array Slot), lv_has ls 11 [(8, .int (nI j)), (5, .int s1), (6, .int s2), (7, .int s3), (3, .ref (ad (25 + 6 * ka))), (4, .ref (ad (25 + 6 * kb)))] → W p l e rm_compare s m args below meth c H locs 2 12 Q (F0 m 25 ls []) := by
    intro q
    induction q with
    | zero =>
      intro j hj s1 s2 s3 hv ls hl
      obtain rfl : j = 256 := by omega
      refine lv_iload hx hb dX2_compare_25 (lv_at hl 0 rfl) ?_
      refine lv_sipush (v := 256) hx hb dX2_compare_27 (by decide) ?_
      refine lv_icmp_ge (tgt := 93) hx hb dX2_compare_30 (by decide) (fun c1 => ?_) (fun c1 => ?_)
      · skip
        refine lv_iload hx hb dX2_compare_93 (lv_at hl 1 rfl) ?_
        refine lv_if_eq (tgt := 109) hx hb dX2_compare_95 (by decide) (fun c2 => ?_) (fun c2 => ?_)
        · skip
          refine lv_iload hx hb dX2_compare_109 (lv_at hl 2 rfl) ?_
          refine lv_if_eq (tgt := 116) hx hb dX2_compare_111 (by decide) (fun c3 => ?_) (fun c3 => ?_)
          · skip
            refine lv_iload hx hb dX2_compare_116 (lv_at hl 3 rfl) ?_
            refine lv_if_eq (tgt := 125) hx hb dX2_compare_118 (by decide) (fun c4 => ?_) (fun c4 => ?_)
            · skip
              refine lv_iconst (v := 4) hx hb dX2_compare_125 (by decide) ?_
              exact hret 126 ls H locs 2 12 _ _ dX2_compare_126 (by decide) (by decide) ⟨ka, kb, hka, hkb, rfl, by rw [hv]; simp [cmR, c2, c3, c4]⟩ hW
            · skip
              refine lv_iconst (v := 3) hx hb dX2_compare_121 (by decide) ?_
              refine lv_goto (tgt := 126) hx hb dX2_compare_122 (by decide) ?_
              exact hret 126 ls H locs 2 12 _ _ dX2_compare_126 (by decide) (by decide) ⟨ka, kb, hka, hkb, rfl, by rw [hv]; simp [cmR, c2, c3, c4]⟩ hW
          · skip
            refine lv_iconst (v := 2) hx hb dX2_compare_114 (by decide) ?_
            exact hret 115 ls H locs 2 12 _ _ dX2_compare_115 (by decide) (by decide) ⟨ka, kb, hka, hkb, rfl, by rw [hv]; simp [cmR, c2, c3]⟩ hW
        · skip
          refine lv_iload hx hb dX2_compare_98 (lv_at hl 2 rfl) ?_
          refine lv_if_eq (tgt := 107) hx hb dX2_compare_100 (by decide) (fun c3 => ?_) (fun c3 => ?_)
          · skip
            refine lv_iconst (v := 1) hx hb dX2_compare_107 (by decide) ?_
            exact hret 108 ls H locs 2 12 _ _ dX2_compare_108 (by decide) (by decide) ⟨ka, kb, hka, hkb, rfl, by rw [hv]; simp [cmR, c2, c3]⟩ hW
          · skip
            refine lv_iconst (v := 0) hx hb dX2_compare_103 (by decide) ?_
            refine lv_goto (tgt := 108) hx hb dX2_compare_104 (by decide) ?_
            exact hret 108 ls H locs 2 12 _ _ dX2_compare_108 (by decide) (by decide) ⟨ka, kb, hka, hkb, rfl, by rw [hv]; simp [cmR, c2, c3]⟩ hW
      · exact absurd (nI_le (Nat.le_refl 256) (by decide)) c1
    | succ q ih =>
      intro j hj s1 s2 s3 hv ls hl
      refine lv_iload hx hb dX2_compare_25 (lv_at hl 0 rfl) ?_
      refine lv_sipush (v := 256) hx hb dX2_compare_27 (by decide) ?_
      refine lv_icmp_ge (tgt := 93) hx hb dX2_compare_30 (by decide) (fun c1 => ?_) (fun c1 => ?_)
      · exact absurd c1 (nI_ge (b := 256) (by omega) (by decide))
      · skip
        have hs : (cmL (M (25 + 6 * ka + 1)) (M (25 + 6 * kb + 1)) (j + 1)) = cmS (M (25 + 6 * ka + 1) j) (M (25 + 6 * kb + 1) j) (s1, s2, s3) := by rw [← hv]; rfl
        refine lv_aload_n hx hb dX2_compare_33 rfl (lv_at hl 4 rfl) ?_
        refine cr_getN (v := .ref (ad (25 + 6 * ka + 1))) (host := "SharedForks") hx hb hts hin0 hown hK hW (25 + 6 * ka) (by omega) (cE_d0 I Z F ad M ka) rfl 1 (by decide) rfl hN (by decide +kernel) rfl dX2_compare_34 ?_
        refine lv_iload hx hb dX2_compare_37 (lv_at hl 0 rfl) ?_
        refine cr_zald hx hb hK hW (25 + 6 * ka + 1) (by omega) (cE_d1 I Z F ad M ka) j (by omega) (by decide) rfl dX2_compare_39 ?_
        refine lv_istore (lv' := [(9, .int (M (25 + 6 * ka + 1) j)), (8, .int (nI j)), (5, .int s1), (6, .int s2), (7, .int s3), (3, .ref (ad (25 + 6 * ka))), (4, .ref (ad (25 + 6 * kb)))]) hx hb dX2_compare_40 hl (by decide) rfl (fun ls hl => ?_)
        refine lv_aload hx hb dX2_compare_42 (lv_at hl 6 rfl) ?_
        refine cr_getN (v := .ref (ad (25 + 6 * kb + 1))) (host := "SharedForks") hx hb hts hin0 hown hK hW (25 + 6 * kb) (by omega) (cE_d0 I Z F ad M kb) rfl 1 (by decide) rfl hN (by decide +kernel) rfl dX2_compare_44 ?_
        refine lv_iload hx hb dX2_compare_47 (lv_at hl 1 rfl) ?_
        refine cr_zald hx hb hK hW (25 + 6 * kb + 1) (by omega) (cE_d1 I Z F ad M kb) j (by omega) (by decide) rfl dX2_compare_49 ?_
        refine lv_istore (lv' := [(10, .int (M (25 + 6 * kb + 1) j)), (9, .int (M (25 + 6 * ka + 1) j)), (8, .int (nI j)), (5, .int s1), (6, .int s2), (7, .int s3), (3, .ref (ad (25 + 6 * ka))), (4, .ref (ad (25 + 6 * kb)))]) hx hb dX2_compare_50 hl (by decide) rfl (fun ls hl => ?_)
        refine lv_iload hx hb dX2_compare_52 (lv_at hl 1 rfl) ?_
        refine lv_if_eq (tgt := 68) hx hb dX2_compare_54 (by decide) (fun c2 => ?_) (fun c2 => ?_)
        · skip
          refine lv_iload hx hb dX2_compare_68 (lv_at hl 1 rfl) ?_
          refine lv_if_eq (tgt := 79) hx hb dX2_compare_70 (by decide) (fun c3 => ?_) (fun c3 => ?_)
          · skip
            refine lv_iload hx hb dX2_compare_79 (lv_at hl 0 rfl) ?_
            refine lv_if_eq (tgt := 87) hx hb dX2_compare_81 (by decide) (fun c4 => ?_) (fun c4 => ?_)
            · skip
              refine lv_iinc (v := nI (j + 1)) (lv' := [(8, .int (nI (j + 1))), (10, .int (M (25 + 6 * kb + 1) j)), (9, .int (M (25 + 6 * ka + 1) j)), (5, .int s1), (6, .int s2), (7, .int s3), (3, .ref (ad (25 + 6 * ka))), (4, .ref (ad (25 + 6 * kb)))]) hx hb dX2_compare_87 hl (k := 2) rfl (nI_1 j) (by decide) rfl (fun ls hl => ?_)
              refine lv_goto (tgt := 25) hx hb dX2_compare_90 (by decide) ?_
              exact ih (j + 1) (by omega) s1 s2 s3 (by rw [hs]; first | (simp [cmS, c2, c3, c4]; done) | exact absurd c2 c3 | exact absurd c4 c2) ls (lv_sub hl [0, 3, 4, 5, 6, 7] rfl)
            · skip
              refine lv_iconst (v := 0) hx hb dX2_compare_84 (by decide) ?_
              refine lv_istore (lv' := [(6, .int 0), (10, .int (M (25 + 6 * kb + 1) j)), (9, .int (M (25 + 6 * ka + 1) j)), (8, .int (nI j)), (5, .int s1), (7, .int s3), (3, .ref (ad (25 + 6 * ka))), (4, .ref (ad (25 + 6 * kb)))]) hx hb dX2_compare_85 hl (by decide) rfl (fun ls hl => ?_)
              refine lv_iinc (v := nI (j + 1)) (lv' := [(8, .int (nI (j + 1))), (6, .int 0), (10, .int (M (25 + 6 * kb + 1) j)), (9, .int (M (25 + 6 * ka + 1) j)), (5, .int s1), (7, .int s3), (3, .ref (ad (25 + 6 * ka))), (4, .ref (ad (25 + 6 * kb)))]) hx hb dX2_compare_87 hl (k := 3) rfl (nI_1 j) (by decide) rfl (fun ls hl => ?_)
              refine lv_goto (tgt := 25) hx hb dX2_compare_90 (by decide) ?_
              exact ih (j + 1) (by omega) s1 0 s3 (by rw [hs]; first | (simp [cmS, c2, c3, c4]; done) | exact absurd c2 c3 | exact absurd c4 c2) ls (lv_sub hl [0, 4, 1, 5, 6, 7] rfl)
          · skip
            refine lv_iconst (v := 0) hx hb dX2_compare_73 (by decide) ?_
            refine lv_istore (lv' := [(5, .int 0), (10, .int (M (25 + 6 * kb + 1) j)), (9, .int (M (25 + 6 * ka + 1) j)), (8, .int (nI j)), (6, .int s2), (7, .int s3), (3, .ref (ad (25 + 6 * ka))), (4, .ref (ad (25 + 6 * kb)))]) hx hb dX2_compare_74 hl (by decide) rfl (fun ls hl => ?_)
            refine lv_goto (tgt := 87) hx hb dX2_compare_76 (by decide) ?_
            refine lv_iinc (v := nI (j + 1)) (lv' := [(8, .int (nI (j + 1))), (5, .int 0), (10, .int (M (25 + 6 * kb + 1) j)), (9, .int (M (25 + 6 * ka + 1) j)), (6, .int s2), (7, .int s3), (3, .ref (ad (25 + 6 * ka))), (4, .ref (ad (25 + 6 * kb)))]) hx hb dX2_compare_87 hl (k := 3) rfl (nI_1 j) (by decide) rfl (fun ls hl => ?_)
            refine lv_goto (tgt := 25) hx hb dX2_compare_90 (by decide) ?_
            exact ih (j + 1) (by omega) 0 s2 s3 (by rw [hs]; first | (simp [cmS, c2, c3]; done) | exact absurd c2 c3 | exact absurd c4 c2) ls (lv_sub hl [0, 1, 4, 5, 6, 7] rfl)
        · skip
          refine lv_iload hx hb dX2_compare_57 (lv_at hl 0 rfl) ?_
          refine lv_if_eq (tgt := 68) hx hb dX2_compare_59 (by decide) (fun c3 => ?_) (fun c3 => ?_)
          · skip
            refine lv_iload hx hb dX2_compare_68 (lv_at hl 1 rfl) ?_
            refine lv_if_eq (tgt := 79) hx hb dX2_compare_70 (by decide) (fun c4 => ?_) (fun c4 => ?_)
            · skip
              refine lv_iload hx hb dX2_compare_79 (lv_at hl 0 rfl) ?_
              refine lv_if_eq (tgt := 87) hx hb dX2_compare_81 (by decide) (fun c5 => ?_) (fun c5 => ?_)
              · skip
                refine lv_iinc (v := nI (j + 1)) (lv' := [(8, .int (nI (j + 1))), (10, .int (M (25 + 6 * kb + 1) j)), (9, .int (M (25 + 6 * ka + 1) j)), (5, .int s1), (6, .int s2), (7, .int s3), (3, .ref (ad (25 + 6 * ka))), (4, .ref (ad (25 + 6 * kb)))]) hx hb dX2_compare_87 hl (k := 2) rfl (nI_1 j) (by decide) rfl (fun ls hl => ?_)
                refine lv_goto (tgt := 25) hx hb dX2_compare_90 (by decide) ?_
                exact ih (j + 1) (by omega) s1 s2 s3 (by rw [hs]; first | (simp [cmS, c2, c3, c4, c5]; done) | exact absurd c2 c3 | exact absurd c4 c2) ls (lv_sub hl [0, 3, 4, 5, 6, 7] rfl)
              · skip
                refine lv_iconst (v := 0) hx hb dX2_compare_84 (by decide) ?_
                refine lv_istore (lv' := [(6, .int 0), (10, .int (M (25 + 6 * kb + 1) j)), (9, .int (M (25 + 6 * ka + 1) j)), (8, .int (nI j)), (5, .int s1), (7, .int s3), (3, .ref (ad (25 + 6 * ka))), (4, .ref (ad (25 + 6 * kb)))]) hx hb dX2_compare_85 hl (by decide) rfl (fun ls hl => ?_)
                refine lv_iinc (v := nI (j + 1)) (lv' := [(8, .int (nI (j + 1))), (6, .int 0), (10, .int (M (25 + 6 * kb + 1) j)), (9, .int (M (25 + 6 * ka + 1) j)), (5, .int s1), (7, .int s3), (3, .ref (ad (25 + 6 * ka))), (4, .ref (ad (25 + 6 * kb)))]) hx hb dX2_compare_87 hl (k := 3) rfl (nI_1 j) (by decide) rfl (fun ls hl => ?_)
                refine lv_goto (tgt := 25) hx hb dX2_compare_90 (by decide) ?_
                exact ih (j + 1) (by omega) s1 0 s3 (by rw [hs]; first | (simp [cmS, c2, c3, c4, c5]; done) | exact absurd c2 c3 | exact absurd c4 c2) ls (lv_sub hl [0, 4, 1, 5, 6, 7] rfl)
            · skip
              refine lv_iconst (v := 0) hx hb dX2_compare_73 (by decide) ?_
              refine lv_istore (lv' := [(5, .int 0), (10, .int (M (25 + 6 * kb + 1) j)), (9, .int (M (25 + 6 * ka + 1) j)), (8, .int (nI j)), (6, .int s2), (7, .int s3), (3, .ref (ad (25 + 6 * ka))), (4, .ref (ad (25 + 6 * kb)))]) hx hb dX2_compare_74 hl (by decide) rfl (fun ls hl => ?_)
              refine lv_goto (tgt := 87) hx hb dX2_compare_76 (by decide) ?_
              refine lv_iinc (v := nI (j + 1)) (lv' := [(8, .int (nI (j + 1))), (5, .int 0), (10, .int (M (25 + 6 * kb + 1) j)), (9, .int (M (25 + 6 * ka + 1) j)), (6, .int s2), (7, .int s3), (3, .ref (ad (25 + 6 * ka))), (4, .ref (ad (25 + 6 * kb)))]) hx hb dX2_compare_87 hl (k := 3) rfl (nI_1 j) (by decide) rfl (fun ls hl => ?_)
              refine lv_goto (tgt := 25) hx hb dX2_compare_90 (by decide) ?_
              exact ih (j + 1) (by omega) 0 s2 s3 (by rw [hs]; first | (simp [cmS, c2, c3, c4]; done) | exact absurd c2 c3 | exact absurd c4 c2) ls (lv_sub hl [0, 1, 4, 5, 6, 7] rfl)
          · skip
            refine lv_iconst (v := 0) hx hb dX2_compare_62 (by decide) ?_
            refine lv_istore (lv' := [(7, .int 0), (10, .int (M (25 + 6 * kb + 1) j)), (9, .int (M (25 + 6 * ka + 1) j)), (8, .int (nI j)), (5, .int s1), (6, .int s2), (3, .ref (ad (25 + 6 * ka))), (4, .ref (ad (25 + 6 * kb)))]) hx hb dX2_compare_63 hl (by decide) rfl (fun ls hl => ?_)
            refine lv_goto (tgt := 87) hx hb dX2_compare_65 (by decide) ?_
            refine lv_iinc (v := nI (j + 1)) (lv' := [(8, .int (nI (j + 1))), (7, .int 0), (10, .int (M (25 + 6 * kb + 1) j)), (9, .int (M (25 + 6 * ka + 1) j)), (5, .int s1), (6, .int s2), (3, .ref (ad (25 + 6 * ka))), (4, .ref (ad (25 + 6 * kb)))]) hx hb dX2_compare_87 hl (k := 3) rfl (nI_1 j) (by decide) rfl (fun ls hl => ?_)
            refine lv_goto (tgt := 25) hx hb dX2_compare_90 (by decide) ?_
            exact ih (j + 1) (by omega) s1 s2 0 (by rw [hs]; first | (simp [cmS, c2, c3]; done) | exact absurd c2 c3 | exact absurd c4 c2) ls (lv_sub hl [0, 4, 5, 1, 6, 7] rfl)
  exact loop 256 0 (by decide) 1 1 1 rfl ls (lv_sub hl [0, 3, 2, 1, 5, 4] rfl)

