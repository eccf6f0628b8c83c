theorem f4_ne {M : Nat → Nat → Int32} {i j : Nat} {x : Int32} (h : 0 ≠ i) (hf : M 0 4 = 0) : mst M i j x 0 4 = 0 := by
  rw [mst_ne h]; exact hf
theorem pk_uLs9 : True := trivial
/-- a question's fork, the first one laid -/
def forkM (M : Nat → Nat → Int32) (q : Nat) : Nat → Nat → Int32 := mst (mst (mst (mst (mst M 5 0 (nI q)) 6 0 (-1)) 7 0 (-2)) 8 0 0) 0 4 1

abbrev rm_m_forkQ : Room := { frames := 2, cells := 0, slots := 0, locals := 300 }
set_option maxHeartbeats 4000000 in
set_option maxRecDepth 100000 in
theorem c_m_forkQ (l : Launch) (D : va_G) (I Z J : ClassId) (ad : Nat → Nat) (hI : mI ad) (M : Nat → Nat → Int32) (L : Nat → Nat → Int64) (sz : Nat) (q0 : Nat) (hq : q0 < 8) (hw : ∀ k : Nat, k < 4 → L 10 k = ywF q0 k) (ho : ∀ k : Nat, k < 8 → M 3 k = nI k) (hf : M 0 4 = 0) : Met l yX3_fork wsX3_fork rm_m_forkQ (va_Pc [.ref (ad 0), .int 0] (mU D I Z J ad sz M L)) (va_Qi (fun (r : Int32) (u : mU8) => u.1 = forkM M q0 ∧ r = 0) (fun (u : mU8) t => mP D I Z J ad u.1 u.2 t.heap) (mA ad sz)) 0 0 (mA ad sz) := by
  refine mMet_i (cc := cX3_fork) (maxL := 6) hI (by decide) rfl rfl (Nat.le_of_ble_eq_true rfl) (lv := [(0, .ref (ad 0)), (1, .int 0)]) rfl ?_
  intro p e s m args below meth c Q A ls hsz C0 hW hl hret
  obtain ⟨hx, hb, hml, hts, hown, hlocks, hK, hDa, hA, hargs⟩ := C0
  have hin3 : ∀ w ∈ u_ws RX3 TX3 15, w ∈ wsX3_fork := by decide +kernel
  refine lv_iconst (v := 4) hx hb dX3_fork_0 (by decide) ?_
  refine lv_iload_n hx hb dX3_fork_1 rfl (lv_at hl 1 rfl) ?_
  refine lv_imul hx hb dX3_fork_2 ?_
  rw [show (4 : Int32) * 0 = nI 0 from rfl]
  refine lv_istore_n (lv' := [(2, .int (nI 0)), (0, .ref (ad 0)), (1, .int 0)]) hx hb dX3_fork_3 rfl hl (by decide) rfl (fun ls hl => ?_)
  refine lv_aload_n hx hb dX3_fork_4 rfl (lv_at hl 1 rfl) ?_
  refine mr_get (v := .ref (ad 10)) hx hb hts hin3 hown hK hW rfl 11 (by decide) rfl (by decide +kernel) rfl dX3_fork_5 ?_
  refine lv_iload_n hx hb dX3_fork_8 rfl (lv_at hl 0 rfl) ?_
  refine lv_lconst (v := 0) hx hb dX3_fork_9 (by decide) ?_
  refine mr_calli (va_runS (As := [.ref (ad 10), .int (nI 0), .long 0]) (rest := []) ⟨hx, hb, hml, hown, hts⟩ (c_m_isAll l D I Z J ad hI M L s.heap.size 0 (by decide) 0) (va_cwS 3 hts gX3_fork_X3_isAll rfl rfl rfl (by decide +kernel) ⟨Nat.le_of_ble_eq_true rfl, Nat.le_of_ble_eq_true rfl⟩) (mr_preS hK hW) rfl rfl hl.1 rfl (lv_room (Nat.le_of_ble_eq_true rfl)) dX3_fork_10 ⟨Nat.le_of_ble_eq_true rfl, Nat.le_of_ble_eq_true rfl⟩) hA hDa hW (fun r u H locs hp hW => ?_)
  obtain ⟨hu, hv9⟩ := hp
  rw [show u.1 = M from by rw [hu], show u.2 = L from by rw [hu]] at hW
  have h9 : r = 0 := by rw [hv9]; rw [b2, if_neg (fun h => yw_0 q0 hq (by rw [← hw 3 (by decide)]; exact (congrArg (L 10) (Nat.zero_add 3)).symm.trans (h 3 (by decide))))]
  rw [h9]
  refine lv_if_eq (tgt := 18) hx hb dX3_fork_13 (by decide) (fun c1 => ?_) (fun c1 => ?_)
  · skip
    refine lv_aload_n hx hb dX3_fork_18 rfl (lv_at hl 1 rfl) ?_
    refine mr_get (v := .ref (ad 10)) hx hb hts hin3 hown hK hW rfl 11 (by decide) rfl (by decide +kernel) rfl dX3_fork_19 ?_
    refine lv_iload_n hx hb dX3_fork_22 rfl (lv_at hl 0 rfl) ?_
    refine lv_ldc2 (v := -1) hx hb hown (hts (.constantLong RX3 56 (-1)) (by decide +kernel)) dX3_fork_23 ?_
    refine mr_calli (va_runS (As := [.ref (ad 10), .int (nI 0), .long (-1)]) (rest := []) ⟨hx, hb, hml, hown, hts⟩ (c_m_isAll l D I Z J ad hI M L H.size 0 (by decide) (-1)) (va_cwS 3 hts gX3_fork_X3_isAll rfl rfl rfl (by decide +kernel) ⟨Nat.le_of_ble_eq_true rfl, Nat.le_of_ble_eq_true rfl⟩) (mr_preS hK hW) rfl rfl hl.1 rfl (lv_room (Nat.le_of_ble_eq_true rfl)) dX3_fork_26 ⟨Nat.le_of_ble_eq_true rfl, Nat.le_of_ble_eq_true rfl⟩) hA hDa hW (fun r u H locs hp hW => ?_)
    obtain ⟨hu, hv9⟩ := hp
    rw [show u.1 = M from by rw [hu], show u.2 = L from by rw [hu]] at hW
    have h9 : r = 0 := by rw [hv9]; rw [b2, if_neg (fun h => yw_1 q0 hq (by rw [← hw 0 (by decide)]; exact (congrArg (L 10) (Nat.zero_add 0)).symm.trans (h 0 (by decide))))]
    rw [h9]
    refine lv_if_eq (tgt := 35) hx hb dX3_fork_29 (by decide) (fun c2 => ?_) (fun c2 => ?_)
    · skip
      refine lv_iconst (v := 0) hx hb dX3_fork_35 (by decide) ?_
      refine lv_istore_n (lv' := [(3, .int 0), (2, .int (nI 0)), (0, .ref (ad 0)), (1, .int 0)]) hx hb dX3_fork_36 rfl hl (by decide) rfl (fun ls hl => ?_)
      refine lv_iload_n hx hb dX3_fork_37 rfl (lv_at hl 0 rfl) ?_
      refine lv_aload_n hx hb dX3_fork_38 rfl (lv_at hl 2 rfl) ?_
      refine mr_get (v := .int (M 0 4)) hx hb hts hin3 hown hK hW rfl 4 (by decide) rfl (by decide +kernel) rfl dX3_fork_39 ?_
      rw [hf]
      refine lv_icmp_ge (tgt := 71) hx hb dX3_fork_42 (by decide) (fun c3 => ?_) (fun c3 => ?_)
      · skip
        refine lv_iconst (v := 0) hx hb dX3_fork_71 (by decide) ?_
        refine lv_istore_n (lv' := [(3, .int (nI 0)), (2, .int (nI 0)), (0, .ref (ad 0)), (1, .int 0)]) hx hb dX3_fork_72 rfl hl (by decide) rfl (fun ls hl => ?_)
        have loop : ∀ q i : Nat, i + q = q0 → ∀ (ls : Array Slot) (H : Heap) (locs : List Loc), lv_has ls 6 [(3, .int (nI i)), (2, .int (nI 0)), (0, .ref (ad 0)), (1, .int 0)] → mB9 D I Z J ad A s.heap M L H locs → W p l e rm_m_forkQ s m args below meth c H locs 0 0 Q (F0 m 73 ls []) := by
          intro q
          induction q with
          | zero =>
            intro i hi ls H locs hl hW
            rw [show i = q0 by omega] at hl
            refine lv_aload_n hx hb dX3_fork_73 rfl (lv_at hl 2 rfl) ?_
            refine lv_aload_n hx hb dX3_fork_74 rfl (lv_at hl 2 rfl) ?_
            refine mr_get (v := .ref (ad 10)) hx hb hts hin3 hown hK hW rfl 11 (by decide) rfl (by decide +kernel) rfl dX3_fork_75 ?_
            refine lv_iload_n hx hb dX3_fork_78 rfl (lv_at hl 1 rfl) ?_
            refine lv_aload_n hx hb dX3_fork_79 rfl (lv_at hl 2 rfl) ?_
            refine mr_get (v := .ref (ad 3)) hx hb hts hin3 hown hK hW rfl 3 (by decide) rfl (by decide +kernel) rfl dX3_fork_80 ?_
            refine lv_iload_n hx hb dX3_fork_83 rfl (lv_at hl 0 rfl) ?_
            refine mr_iald hx hb hK hW 3 (by decide) rfl q0 (by omega) (by decide) rfl dX3_fork_84 ?_
            rw [ho q0 (by omega)]
            refine mr_calli (va_runV (As := [.ref (ad 10), .int (nI 0), .int (nI q0)]) (rest := []) ⟨hx, hb, hml, hown, hts⟩ (c_m_matters l D I Z J ad hI M L H.size 0 (by decide) q0 (by omega)) (cwV 3 hts gX3_fork_X3_matters rfl rfl rfl (by decide +kernel) ⟨Nat.le_of_ble_eq_true rfl, Nat.le_of_ble_eq_true rfl⟩) (mr_preV hK hW) rfl rfl hl.1 rfl (lv_room (Nat.le_of_ble_eq_true rfl)) dX3_fork_85 ⟨Nat.le_of_ble_eq_true rfl, Nat.le_of_ble_eq_true rfl⟩) hA hDa hW (fun r u H locs hp hW => ?_)
            obtain ⟨hu, hv9⟩ := hp
            rw [show u.1 = M from by rw [hu], show u.2 = L from by rw [hu]] at hW
            have h9 : r = 1 := by rw [hv9]; rw [b2, if_pos (fun h => yw_q q0 hq (fun k hk => by rw [← h k hk]; exact mtz_congr (fun k hk => (hw k hk).symm.trans (congrArg (L 10) (Nat.zero_add k)).symm) hq hk))]
            rw [h9]
            refine lv_if_ne (tgt := 97) hx hb dX3_fork_88 (by decide) (fun c4 => ?_) (fun c4 => ?_)
            · skip
              refine lv_aload_n hx hb dX3_fork_97 rfl (lv_at hl 2 rfl) ?_
              refine mr_get (v := .ref (ad 10)) hx hb hts hin3 hown hK hW rfl 11 (by decide) rfl (by decide +kernel) rfl dX3_fork_98 ?_
              refine lv_iload_n hx hb dX3_fork_101 rfl (lv_at hl 1 rfl) ?_
              refine lv_aload_n hx hb dX3_fork_102 rfl (lv_at hl 2 rfl) ?_
              refine mr_get (v := .ref (ad 10)) hx hb hts hin3 hown hK hW rfl 11 (by decide) rfl (by decide +kernel) rfl dX3_fork_103 ?_
              refine lv_iload_n hx hb dX3_fork_106 rfl (lv_at hl 1 rfl) ?_
              refine lv_iconst (v := 4) hx hb dX3_fork_107 (by decide) ?_
              refine lv_iadd hx hb dX3_fork_108 ?_
              rw [show nI 0 + 4 = nI 4 from rfl]
              refine lv_aload_n hx hb dX3_fork_109 rfl (lv_at hl 2 rfl) ?_
              refine mr_get (v := .ref (ad 3)) hx hb hts hin3 hown hK hW rfl 3 (by decide) rfl (by decide +kernel) rfl dX3_fork_110 ?_
              refine lv_iload_n hx hb dX3_fork_113 rfl (lv_at hl 0 rfl) ?_
              refine mr_iald hx hb hK hW 3 (by decide) rfl q0 (by omega) (by decide) rfl dX3_fork_114 ?_
              rw [ho q0 (by omega)]
              refine lv_iconst (v := 0) hx hb dX3_fork_115 (by decide) ?_
              refine mr_callv (va_runS (As := [.ref (ad 10), .int (nI 0), .ref (ad 10), .int (nI 4), .int (nI q0), .int 0]) (rest := []) ⟨hx, hb, hml, hown, hts⟩ (c_m_give l D I Z J ad hI M L H.size 0 4 (by decide) (by decide) q0 hq 0) (va_cwS 6 hts gX3_fork_X3_give rfl rfl rfl (by decide +kernel) ⟨Nat.le_of_ble_eq_true rfl, Nat.le_of_ble_eq_true rfl⟩) (mr_preS hK hW) rfl rfl hl.1 rfl (lv_room (Nat.le_of_ble_eq_true rfl)) dX3_fork_116 ⟨Nat.le_of_ble_eq_true rfl, Nat.le_of_ble_eq_true rfl⟩) hA hDa hW (fun u H locs hp hW => ?_)
              rw [show u.1 = M from by rw [hp], show u.2 = (gvL L 0 4 q0 0 4) from by rw [hp]] at hW
              have g1 : ∀ k : Nat, k < 4 → gvL L 0 4 q0 0 4 10 (4 + k) = 0 := fun k hk => by rw [(gvL_at (Or.inl (by decide)) hq 4 (by decide)).2 k hk, gv1_congr (fun k hk => (congrArg (L 10) (Nat.zero_add k)).trans (hw k hk)) hq hk]; exact yw_g0 q0 hq k hk
              have g0 : ∀ k : Nat, k < 4 → gvL L 0 4 q0 0 4 10 k = ywF q0 k := fun k hk => by rw [(gvL_at (Or.inl (by decide)) hq 4 (by decide)).1 10 k (by omega)]; exact hw k hk
              obtain ⟨L1, hL1⟩ : ∃ L1, L1 = gvL L 0 4 q0 0 4 := ⟨_, rfl⟩
              rw [← hL1] at hW g1 g0
              refine lv_aload_n hx hb dX3_fork_119 rfl (lv_at hl 2 rfl) ?_
              refine lv_iload_n hx hb dX3_fork_120 rfl (lv_at hl 3 rfl) ?_
              refine lv_iconst (v := 1) hx hb dX3_fork_121 (by decide) ?_
              refine lv_iadd hx hb dX3_fork_122 ?_
              rw [show (0 : Int32) + 1 = nI 1 from rfl]
              refine mr_calli (va_runV (As := [.int (nI 1)]) (rest := []) ⟨hx, hb, hml, hown, hts⟩ (c_m_forkL l D I Z J ad hI M L1 H.size 1 (by decide) g1) (cwV 1 hts gX3_fork_X3_fork rfl rfl rfl (by decide +kernel) ⟨Nat.le_of_ble_eq_true rfl, Nat.le_of_ble_eq_true rfl⟩) (mr_preV hK hW) rfl rfl hl.1 rfl (lv_room (Nat.le_of_ble_eq_true rfl)) dX3_fork_123 ⟨Nat.le_of_ble_eq_true rfl, Nat.le_of_ble_eq_true rfl⟩) hA hDa hW (fun r u H locs hp hW => ?_)
              obtain ⟨hu, hv9⟩ := hp
              rw [show u.1 = M from by rw [hu], show u.2 = L1 from by rw [hu]] at hW
              rw [hv9]
              refine lv_istore (lv' := [(4, .int (-1)), (3, .int (nI q0)), (2, .int (nI 0)), (0, .ref (ad 0)), (1, .int 0)]) hx hb dX3_fork_126 hl (by decide) rfl (fun ls hl => ?_)
              refine lv_aload_n hx hb dX3_fork_128 rfl (lv_at hl 3 rfl) ?_
              refine mr_get (v := .ref (ad 10)) hx hb hts hin3 hown hK hW rfl 11 (by decide) rfl (by decide +kernel) rfl dX3_fork_129 ?_
              refine lv_iload_n hx hb dX3_fork_132 rfl (lv_at hl 2 rfl) ?_
              refine lv_aload_n hx hb dX3_fork_133 rfl (lv_at hl 3 rfl) ?_
              refine mr_get (v := .ref (ad 10)) hx hb hts hin3 hown hK hW rfl 11 (by decide) rfl (by decide +kernel) rfl dX3_fork_134 ?_
              refine lv_iload_n hx hb dX3_fork_137 rfl (lv_at hl 2 rfl) ?_
              refine lv_iconst (v := 4) hx hb dX3_fork_138 (by decide) ?_
              refine lv_iadd hx hb dX3_fork_139 ?_
              rw [show nI 0 + 4 = nI 4 from rfl]
              refine lv_aload_n hx hb dX3_fork_140 rfl (lv_at hl 3 rfl) ?_
              refine mr_get (v := .ref (ad 3)) hx hb hts hin3 hown hK hW rfl 3 (by decide) rfl (by decide +kernel) rfl dX3_fork_141 ?_
              refine lv_iload_n hx hb dX3_fork_144 rfl (lv_at hl 1 rfl) ?_
              refine mr_iald hx hb hK hW 3 (by decide) rfl q0 (by omega) (by decide) rfl dX3_fork_145 ?_
              rw [ho q0 (by omega)]
              refine lv_iconst (v := 1) hx hb dX3_fork_146 (by decide) ?_
              refine mr_callv (va_runS (As := [.ref (ad 10), .int (nI 0), .ref (ad 10), .int (nI 4), .int (nI q0), .int 1]) (rest := []) ⟨hx, hb, hml, hown, hts⟩ (c_m_give l D I Z J ad hI M L1 H.size 0 4 (by decide) (by decide) q0 hq 1) (va_cwS 6 hts gX3_fork_X3_give rfl rfl rfl (by decide +kernel) ⟨Nat.le_of_ble_eq_true rfl, Nat.le_of_ble_eq_true rfl⟩) (mr_preS hK hW) rfl rfl hl.1 rfl (lv_room (Nat.le_of_ble_eq_true rfl)) dX3_fork_147 ⟨Nat.le_of_ble_eq_true rfl, Nat.le_of_ble_eq_true rfl⟩) hA hDa hW (fun u H locs hp hW => ?_)
              rw [show u.1 = M from by rw [hp], show u.2 = (gvL L1 0 4 q0 1 4) from by rw [hp]] at hW
              have g2 : ∀ k : Nat, k < 4 → gvL L1 0 4 q0 1 4 10 (4 + k) = -1 := fun k hk => by rw [(gvL_at (Or.inl (by decide)) hq 4 (by decide)).2 k hk, gv1_congr (fun k hk => (congrArg (L1 10) (Nat.zero_add k)).trans (g0 k hk)) hq hk]; exact yw_g1 q0 hq k hk
              obtain ⟨L2, hL2⟩ : ∃ L2, L2 = gvL L1 0 4 q0 1 4 := ⟨_, rfl⟩
              rw [← hL2] at hW g2
              refine lv_aload_n hx hb dX3_fork_150 rfl (lv_at hl 3 rfl) ?_
              refine lv_iload_n hx hb dX3_fork_151 rfl (lv_at hl 4 rfl) ?_
              refine lv_iconst (v := 1) hx hb dX3_fork_152 (by decide) ?_
              refine lv_iadd hx hb dX3_fork_153 ?_
              rw [show (0 : Int32) + 1 = nI 1 from rfl]
              refine mr_calli (va_runV (As := [.int (nI 1)]) (rest := []) ⟨hx, hb, hml, hown, hts⟩ (c_m_forkY l D I Z J ad hI M L2 H.size 1 (by decide) g2) (cwV 1 hts gX3_fork_X3_fork rfl rfl rfl (by decide +kernel) ⟨Nat.le_of_ble_eq_true rfl, Nat.le_of_ble_eq_true rfl⟩) (mr_preV hK hW) rfl rfl hl.1 rfl (lv_room (Nat.le_of_ble_eq_true rfl)) dX3_fork_154 ⟨Nat.le_of_ble_eq_true rfl, Nat.le_of_ble_eq_true rfl⟩) hA hDa hW (fun r u H locs hp hW => ?_)
              obtain ⟨hu, hv9⟩ := hp
              rw [show u.1 = M from by rw [hu], show u.2 = L2 from by rw [hu]] at hW
              rw [hv9]
              refine lv_istore (lv' := [(5, .int (-2)), (4, .int (-1)), (3, .int (nI q0)), (2, .int (nI 0)), (0, .ref (ad 0)), (1, .int 0)]) hx hb dX3_fork_157 hl (by decide) rfl (fun ls hl => ?_)
              refine lv_aload_n hx hb dX3_fork_159 rfl (lv_at hl 4 rfl) ?_
              refine mr_get (v := .ref (ad 10)) hx hb hts hin3 hown hK hW rfl 11 (by decide) rfl (by decide +kernel) rfl dX3_fork_160 ?_
              refine lv_iload_n hx hb dX3_fork_163 rfl (lv_at hl 3 rfl) ?_
              refine lv_aload_n hx hb dX3_fork_164 rfl (lv_at hl 4 rfl) ?_
              refine mr_get (v := .ref (ad 4)) hx hb hts hin3 hown hK hW rfl 5 (by decide) rfl (by decide +kernel) rfl dX3_fork_165 ?_
              refine lv_iconst (v := 4) hx hb dX3_fork_168 (by decide) ?_
              refine lv_aload_n hx hb dX3_fork_169 rfl (lv_at hl 4 rfl) ?_
              refine mr_get (v := .int (M 0 4)) hx hb hts hin3 hown hK hW rfl 4 (by decide) rfl (by decide +kernel) rfl dX3_fork_170 ?_
              refine lv_imul hx hb dX3_fork_173 ?_
              refine lv_iconst (v := 4) hx hb dX3_fork_174 (by decide) ?_
              refine mr_copyl hx hb (hml.trans hl.1.symm) hts hown (index := 85) (by decide +kernel) (by decide +kernel) (by decide +kernel) (by decide +kernel) hK hDa hW 10 4 (by decide) (by decide) (n0 := 40) (n1 := 3840) (fun _ _ => rfl) (fun _ _ => rfl) 0 0 4 rfl (by rw [hf]; rfl) rfl (by decide) (by decide) (by decide) (by decide) (by decide) (Nat.le_of_ble_eq_true rfl) (Nat.le_of_ble_eq_true rfl) dX3_fork_175 (fun H locs hW => ?_)
              refine lv_aload_n hx hb dX3_fork_178 rfl (lv_at hl 4 rfl) ?_
              refine mr_get (v := .ref (ad 5)) hx hb hts hin3 hown hK hW rfl 6 (by decide) rfl (by decide +kernel) rfl dX3_fork_179 ?_
              refine lv_aload_n hx hb dX3_fork_182 rfl (lv_at hl 4 rfl) ?_
              refine mr_get (v := .int (M 0 4)) hx hb hts hin3 hown hK hW rfl 4 (by decide) rfl (by decide +kernel) rfl dX3_fork_183 ?_
              refine lv_aload_n hx hb dX3_fork_186 rfl (lv_at hl 4 rfl) ?_
              refine mr_get (v := .ref (ad 3)) hx hb hts hin3 hown hK hW rfl 3 (by decide) rfl (by decide +kernel) rfl dX3_fork_187 ?_
              refine lv_iload_n hx hb dX3_fork_190 rfl (lv_at hl 2 rfl) ?_
              refine mr_iald hx hb hK hW 3 (by decide) rfl q0 (by omega) (by decide) rfl dX3_fork_191 ?_
              rw [ho q0 (by omega)]
              refine mr_iast hx hb hK hDa hW 5 (by decide) (fun _ _ => rfl) 0 (by decide) (by decide) ((hf).trans rfl) dX3_fork_192 (fun H locs hW => ?_)
              refine lv_aload_n hx hb dX3_fork_193 rfl (lv_at hl 4 rfl) ?_
              refine mr_get (v := .ref (ad 6)) hx hb hts hin3 hown hK hW rfl 7 (by decide) rfl (by decide +kernel) rfl dX3_fork_194 ?_
              refine lv_aload_n hx hb dX3_fork_197 rfl (lv_at hl 4 rfl) ?_
              refine mr_get (v := .int ((mst M 5 0 (nI q0)) 0 4)) hx hb hts hin3 hown hK hW rfl 4 (by decide) rfl (by decide +kernel) rfl dX3_fork_198 ?_
              refine lv_iload hx hb dX3_fork_201 (lv_at hl 1 rfl) ?_
              refine mr_iast hx hb hK hDa hW 6 (by decide) (fun _ _ => rfl) 0 (by decide) (by decide) ((f4_ne (by decide) (hf)).trans rfl) dX3_fork_203 (fun H locs hW => ?_)
              refine lv_aload_n hx hb dX3_fork_204 rfl (lv_at hl 4 rfl) ?_
              refine mr_get (v := .ref (ad 7)) hx hb hts hin3 hown hK hW rfl 8 (by decide) rfl (by decide +kernel) rfl dX3_fork_205 ?_
              refine lv_aload_n hx hb dX3_fork_208 rfl (lv_at hl 4 rfl) ?_
              refine mr_get (v := .int ((mst (mst M 5 0 (nI q0)) 6 0 (-1)) 0 4)) hx hb hts hin3 hown hK hW rfl 4 (by decide) rfl (by decide +kernel) rfl dX3_fork_209 ?_
              refine lv_iload hx hb dX3_fork_212 (lv_at hl 0 rfl) ?_
              refine mr_iast hx hb hK hDa hW 7 (by decide) (fun _ _ => rfl) 0 (by decide) (by decide) ((f4_ne (by decide) (f4_ne (by decide) (hf))).trans rfl) dX3_fork_214 (fun H locs hW => ?_)
              refine lv_aload_n hx hb dX3_fork_215 rfl (lv_at hl 4 rfl) ?_
              refine mr_get (v := .ref (ad 8)) hx hb hts hin3 hown hK hW rfl 9 (by decide) rfl (by decide +kernel) rfl dX3_fork_216 ?_
              refine lv_aload_n hx hb dX3_fork_219 rfl (lv_at hl 4 rfl) ?_
              refine mr_get (v := .int ((mst (mst (mst M 5 0 (nI q0)) 6 0 (-1)) 7 0 (-2)) 0 4)) hx hb hts hin3 hown hK hW rfl 4 (by decide) rfl (by decide +kernel) rfl dX3_fork_220 ?_
              refine lv_iconst (v := 0) hx hb dX3_fork_223 (by decide) ?_
              refine mr_iast hx hb hK hDa hW 8 (by decide) (fun _ _ => rfl) 0 (by decide) (by decide) ((f4_ne (by decide) (f4_ne (by decide) (f4_ne (by decide) (hf)))).trans rfl) dX3_fork_224 (fun H locs hW => ?_)
              refine lv_aload_n hx hb dX3_fork_225 rfl (lv_at hl 4 rfl) ?_
              refine lv_dup hx hb dX3_fork_226 rfl ?_
              refine mr_get (v := .int ((mst (mst (mst (mst M 5 0 (nI q0)) 6 0 (-1)) 7 0 (-2)) 8 0 0) 0 4)) hx hb hts hin3 hown hK hW rfl 4 (by decide) rfl (by decide +kernel) rfl dX3_fork_227 ?_
              refine lv_iconst (v := 1) hx hb dX3_fork_230 (by decide) ?_
              refine lv_iadd hx hb dX3_fork_231 ?_
              rw [show ((mst (mst (mst (mst M 5 0 (nI q0)) 6 0 (-1)) 7 0 (-2)) 8 0 0) 0 4) + 1 = 1 from by rw [f4_ne (by decide) (f4_ne (by decide) (f4_ne (by decide) (f4_ne (by decide) (hf))))]; rfl]
              refine mr_put hx hb hts hin3 hown hK hDa hW rfl 4 (by decide) rfl (by decide +kernel) (by decide +kernel) (Nat.le_of_ble_eq_true rfl) rfl dX3_fork_232 (fun H locs hW => ?_)
              refine lv_aload_n hx hb dX3_fork_235 rfl (lv_at hl 4 rfl) ?_
              refine mr_get (v := .int ((mst (mst (mst (mst (mst M 5 0 (nI q0)) 6 0 (-1)) 7 0 (-2)) 8 0 0) 0 4 1) 0 4)) hx hb hts hin3 hown hK hW rfl 4 (by decide) rfl (by decide +kernel) rfl dX3_fork_236 ?_
              refine lv_iconst (v := 1) hx hb dX3_fork_239 (by decide) ?_
              refine lv_isub hx hb dX3_fork_240 ?_
              exact hret 241 ls H locs _ ((mst (mst (mst (mst (mst M 5 0 (nI q0)) 6 0 (-1)) 7 0 (-2)) 8 0 0) 0 4 1), (lrow L2 4 (va_cpy (L2 10) (L2 4) 0 0 4))) dX3_fork_241 (⟨rfl, by rw [mst_same, pk_us]; rfl⟩) hW
            · exact absurd c4 (by decide)
          | succ q ih =>
            intro i hi ls H locs hl hW
            refine lv_aload_n hx hb dX3_fork_73 rfl (lv_at hl 2 rfl) ?_
            refine lv_aload_n hx hb dX3_fork_74 rfl (lv_at hl 2 rfl) ?_
            refine mr_get (v := .ref (ad 10)) hx hb hts hin3 hown hK hW rfl 11 (by decide) rfl (by decide +kernel) rfl dX3_fork_75 ?_
            refine lv_iload_n hx hb dX3_fork_78 rfl (lv_at hl 1 rfl) ?_
            refine lv_aload_n hx hb dX3_fork_79 rfl (lv_at hl 2 rfl) ?_
            refine mr_get (v := .ref (ad 3)) hx hb hts hin3 hown hK hW rfl 3 (by decide) rfl (by decide +kernel) rfl dX3_fork_80 ?_
            refine lv_iload_n hx hb dX3_fork_83 rfl (lv_at hl 0 rfl) ?_
            refine mr_iald hx hb hK hW 3 (by decide) rfl i (by omega) (by decide) rfl dX3_fork_84 ?_
            rw [ho i (by omega)]
            refine mr_calli (va_runV (As := [.ref (ad 10), .int (nI 0), .int (nI i)]) (rest := []) ⟨hx, hb, hml, hown, hts⟩ (c_m_matters l D I Z J ad hI M L H.size 0 (by decide) i (by omega)) (cwV 3 hts gX3_fork_X3_matters rfl rfl rfl (by decide +kernel) ⟨Nat.le_of_ble_eq_true rfl, Nat.le_of_ble_eq_true rfl⟩) (mr_preV hK hW) rfl rfl hl.1 rfl (lv_room (Nat.le_of_ble_eq_true rfl)) dX3_fork_85 ⟨Nat.le_of_ble_eq_true rfl, Nat.le_of_ble_eq_true rfl⟩) hA hDa hW (fun r u H locs hp hW => ?_)
            obtain ⟨hu, hv9⟩ := hp
            rw [show u.1 = M from by rw [hu], show u.2 = L from by rw [hu]] at hW
            have h9 : r = 0 := by rw [hv9]; rw [b2, if_neg (fun h => h (fun k hk => by rw [← yw_m q0 hq i (by omega) k hk]; exact mtz_congr (fun k hk => (congrArg (L 10) (Nat.zero_add k)).trans (hw k hk)) (by omega) hk))]
            rw [h9]
            refine lv_if_ne (tgt := 97) hx hb dX3_fork_88 (by decide) (fun c4 => ?_) (fun c4 => ?_)
            · exact absurd rfl c4
            · skip
              refine lv_iinc (v := nI (i + 1)) (lv' := [(3, .int (nI (i + 1))), (2, .int (nI 0)), (0, .ref (ad 0)), (1, .int 0)]) hx hb dX3_fork_91 hl (k := 0) rfl (nI_1 i) (by decide) rfl (fun ls hl => ?_)
              refine lv_goto (tgt := 73) hx hb dX3_fork_94 (by decide) ?_
              exact ih (i + 1) (by omega) ls H locs (lv_sub hl [0, 1, 2, 3] rfl) hW
        exact loop q0 0 (Nat.zero_add q0) ls H locs (lv_sub hl [0, 1, 2, 3] rfl) hW
      · exact absurd (by decide) c3
    · exact absurd rfl c2
  · exact absurd rfl c1
