theorem dgA_s (d : Int64) (T : Nat → Int32) (k : Nat) : dgA d T k * 31 + (T k).toInt64 = dgA d T (k + 1) := rfl

abbrev rm_m_digest : Room := { frames := 3, cells := 0, slots := 0, locals := 300 }
set_option maxHeartbeats 4000000 in
set_option maxRecDepth 100000 in
theorem c_m_digest (l : Launch) (D : va_G) (I Z J : ClassId) (ad : Nat → Nat) (hI : mI ad) (M : Nat → Nat → Int32) (L : Nat → Nat → Int64) (sz : Nat) (hz : ∀ j : Nat, j < 12 → M 1 j = 0) (hf : M 0 4 = 0) : Met l yX3_digest wsX3_digest rm_m_digest (va_Pc [.ref (ad 0)] (mU D I Z J ad sz M L)) (va_Ql (fun (r : Int64) (u : mU8) => r = dgA (dgA (dgA 1709 (fun _ => 0) 5) (M 3) 8) (fun _ => 0) 12) (fun (u : mU8) t => mP D I Z J ad u.1 u.2 t.heap) (mA ad sz)) 0 0 (mA ad sz) := by
  refine mMet_l (cc := cX3_digest) (maxL := 7) hI (by decide) rfl rfl (Nat.le_of_ble_eq_true rfl) (lv := [(0, .ref (ad 0))]) rfl ?_
  intro p e s m args below meth c Q A ls hsz C0 hW hl hret
  obtain ⟨hx, hb, hml, hts, hown, hlocks, hK, hDa, hA, hargs⟩ := C0
  have hin3 : ∀ w ∈ u_ws RX3 TX3 15, w ∈ wsX3_digest := by decide +kernel
  refine lv_aload_n hx hb dX3_digest_0 rfl (lv_at hl 0 rfl) ?_
  refine lv_iconst (v := 0) hx hb dX3_digest_1 (by decide) ?_
  refine mr_put hx hb hts hin3 hown hK hDa hW rfl 0 (by decide) rfl (by decide +kernel) (by decide +kernel) (Nat.le_of_ble_eq_true rfl) rfl dX3_digest_2 (fun H locs hW => ?_)
  refine lv_ldc2 (v := 1709) hx hb hown (hts (.constantLong RX3 175 (1709)) (by decide +kernel)) dX3_digest_5 ?_
  refine lv_lstore_n (lv' := [(1, .long 1709), (0, .ref (ad 0))]) hx hb dX3_digest_8 rfl hl (by decide) rfl (fun ls hl => ?_)
  refine lv_iconst (v := 0) hx hb dX3_digest_9 (by decide) ?_
  refine lv_istore_n (lv' := [(3, .int 0), (1, .long 1709), (0, .ref (ad 0))]) hx hb dX3_digest_10 rfl hl (by decide) rfl (fun ls hl => ?_)
  have l3 : ∀ q i : Nat, i + q = 12 → ∀ (ls : Array Slot) (H : Heap) (locs : List Loc), lv_has ls 7 [(3, .int (nI i)), (1, .long (dgA (dgA (dgA 1709 (fun _ => 0) 5) (M 3) 8) (fun _ => 0) i)), (0, .ref (ad 0))] → mB9 D I Z J ad A s.heap (mst M 0 0 0) L H locs → W p l e rm_m_digest s m args below meth c H locs 0 0 Q (F0 m 78 ls []) := by
    intro q
    induction q with
    | zero =>
      intro i hi ls H locs hl hW
      obtain rfl : i = 12 := by omega
      refine lv_iload_n hx hb dX3_digest_78 rfl (lv_at hl 0 rfl) ?_
      refine lv_bipush (v := 12) hx hb dX3_digest_79 (by decide) ?_
      refine lv_icmp_ge (tgt := 214) hx hb dX3_digest_81 (by decide) (fun c1 => ?_) (fun c1 => ?_)
      · skip
        refine lv_lload_n hx hb dX3_digest_214 rfl (lv_at hl 1 rfl) ?_
        exact hret 215 ls H locs _ ((mst M 0 0 0), L) dX3_digest_215 (rfl) hW
      · exact absurd (nI_le (Nat.le_refl 12) (by decide)) c1
    | succ q ih =>
      intro i hi ls H locs hl hW
      refine lv_iload_n hx hb dX3_digest_78 rfl (lv_at hl 0 rfl) ?_
      refine lv_bipush (v := 12) hx hb dX3_digest_79 (by decide) ?_
      refine lv_icmp_ge (tgt := 214) hx hb dX3_digest_81 (by decide) (fun c1 => ?_) (fun c1 => ?_)
      · exact absurd c1 (nI_ge (b := 12) (by omega) (by decide))
      · skip
        refine lv_lload_n hx hb dX3_digest_84 rfl (lv_at hl 1 rfl) ?_
        refine lv_ldc2 (v := 31) hx hb hown (hts (.constantLong RX3 177 (31)) (by decide +kernel)) dX3_digest_85 ?_
        refine lv_lmul hx hb dX3_digest_88 ?_
        refine lv_aload_n hx hb dX3_digest_89 rfl (lv_at hl 2 rfl) ?_
        refine mr_get (v := .ref (ad 1)) hx hb hts hin3 hown hK hW rfl 1 (by decide) rfl (by decide +kernel) rfl dX3_digest_90 ?_
        refine lv_iload_n hx hb dX3_digest_93 rfl (lv_at hl 0 rfl) ?_
        refine mr_zald hx hb hK hW 1 (by decide) rfl i (by omega) (by decide) rfl dX3_digest_94 ?_
        rw [show mst M 0 0 0 1 i = 0 from by rw [mst_ne (by decide)]; exact hz i (by omega)]
        refine lv_if_eq (tgt := 102) hx hb dX3_digest_95 (by decide) (fun c2 => ?_) (fun c2 => ?_)
        · skip
          refine lv_iconst (v := 0) hx hb dX3_digest_102 (by decide) ?_
          refine lv_i2l hx hb dX3_digest_103 rfl ?_
          refine lv_ladd hx hb dX3_digest_104 ?_
          rw [show (((dgA (dgA (dgA 1709 (fun _ => 0) 5) (M 3) 8) (fun _ => 0) i) * 31) + ((0 : Int32).toInt64)) = dgA (dgA (dgA 1709 (fun _ => 0) 5) (M 3) 8) (fun _ => 0) (i + 1) from dgA_s _ (fun _ => 0) _]
          refine lv_lstore_n (lv' := [(1, .long (dgA (dgA (dgA 1709 (fun _ => 0) 5) (M 3) 8) (fun _ => 0) (i + 1))), (3, .int (nI i)), (0, .ref (ad 0))]) hx hb dX3_digest_105 rfl hl (by decide) rfl (fun ls hl => ?_)
          refine lv_aload_n hx hb dX3_digest_106 rfl (lv_at hl 2 rfl) ?_
          refine mr_get (v := .ref (ad 1)) hx hb hts hin3 hown hK hW rfl 1 (by decide) rfl (by decide +kernel) rfl dX3_digest_107 ?_
          refine lv_iload_n hx hb dX3_digest_110 rfl (lv_at hl 1 rfl) ?_
          refine mr_zald hx hb hK hW 1 (by decide) rfl i (by omega) (by decide) rfl dX3_digest_111 ?_
          rw [show mst M 0 0 0 1 i = 0 from by rw [mst_ne (by decide)]; exact hz i (by omega)]
          refine lv_if_ne (tgt := 118) hx hb dX3_digest_112 (by decide) (fun c3 => ?_) (fun c3 => ?_)
          · exact absurd rfl c3
          · skip
            refine lv_goto (tgt := 208) hx hb dX3_digest_115 (by decide) ?_
            refine lv_iinc (v := nI (i + 1)) (lv' := [(3, .int (nI (i + 1))), (1, .long (dgA (dgA (dgA 1709 (fun _ => 0) 5) (M 3) 8) (fun _ => 0) (i + 1))), (0, .ref (ad 0))]) hx hb dX3_digest_208 hl (k := 1) rfl (nI_1 i) (by decide) rfl (fun ls hl => ?_)
            refine lv_goto (tgt := 78) hx hb dX3_digest_211 (by decide) ?_
            exact ih (i + 1) (by omega) ls H locs (lv_sub hl [0, 1, 2] rfl) hW
        · exact absurd rfl c2
  have l2 : ∀ q i : Nat, i + q = 8 → ∀ (ls : Array Slot) (H : Heap) (locs : List Loc), lv_has ls 7 [(5, .int (nI i)), (4, .int (nI 8)), (3, .ref (ad 3)), (1, .long (dgA (dgA 1709 (fun _ => 0) 5) (M 3) i)), (0, .ref (ad 0))] → mB9 D I Z J ad A s.heap (mst M 0 0 0) L H locs → W p l e rm_m_digest s m args below meth c H locs 0 0 Q (F0 m 47 ls []) := by
    intro q
    induction q with
    | zero =>
      intro i hi ls H locs hl hW
      obtain rfl : i = 8 := by omega
      refine lv_iload hx hb dX3_digest_47 (lv_at hl 0 rfl) ?_
      refine lv_iload hx hb dX3_digest_49 (lv_at hl 1 rfl) ?_
      refine lv_icmp_ge (tgt := 76) hx hb dX3_digest_51 (by decide) (fun c1 => ?_) (fun c1 => ?_)
      · skip
        refine lv_iconst (v := 0) hx hb dX3_digest_76 (by decide) ?_
        refine lv_istore_n (lv' := [(3, .int 0), (5, .int (nI 8)), (4, .int (nI 8)), (1, .long (dgA (dgA 1709 (fun _ => 0) 5) (M 3) 8)), (0, .ref (ad 0))]) hx hb dX3_digest_77 rfl hl (by decide) rfl (fun ls hl => ?_)
        exact l3 12 0 (by decide) ls H locs (lv_sub hl [0, 3, 4] rfl) hW
      · exact absurd (nI_le (Nat.le_refl 8) (by decide)) c1
    | succ q ih =>
      intro i hi ls H locs hl hW
      refine lv_iload hx hb dX3_digest_47 (lv_at hl 0 rfl) ?_
      refine lv_iload hx hb dX3_digest_49 (lv_at hl 1 rfl) ?_
      refine lv_icmp_ge (tgt := 76) hx hb dX3_digest_51 (by decide) (fun c1 => ?_) (fun c1 => ?_)
      · exact absurd c1 (nI_ge (b := 8) (by omega) (by decide))
      · skip
        refine lv_aload_n hx hb dX3_digest_54 rfl (lv_at hl 2 rfl) ?_
        refine lv_iload hx hb dX3_digest_55 (lv_at hl 0 rfl) ?_
        refine mr_iald hx hb hK hW 3 (by decide) rfl i (by omega) (by decide) rfl dX3_digest_57 ?_
        refine lv_istore (lv' := [(6, .int ((mst M 0 0 0) 3 i)), (5, .int (nI i)), (4, .int (nI 8)), (3, .ref (ad 3)), (1, .long (dgA (dgA 1709 (fun _ => 0) 5) (M 3) i)), (0, .ref (ad 0))]) hx hb dX3_digest_58 hl (by decide) rfl (fun ls hl => ?_)
        refine lv_lload_n hx hb dX3_digest_60 rfl (lv_at hl 4 rfl) ?_
        refine lv_ldc2 (v := 31) hx hb hown (hts (.constantLong RX3 177 (31)) (by decide +kernel)) dX3_digest_61 ?_
        refine lv_lmul hx hb dX3_digest_64 ?_
        refine lv_iload hx hb dX3_digest_65 (lv_at hl 0 rfl) ?_
        refine lv_i2l hx hb dX3_digest_67 rfl ?_
        refine lv_ladd hx hb dX3_digest_68 ?_
        rw [show (((dgA (dgA 1709 (fun _ => 0) 5) (M 3) i) * 31) + (((mst M 0 0 0) 3 i).toInt64)) = dgA (dgA 1709 (fun _ => 0) 5) (M 3) (i + 1) from dgA_s _ _ _]
        refine lv_lstore_n (lv' := [(1, .long (dgA (dgA 1709 (fun _ => 0) 5) (M 3) (i + 1))), (6, .int ((mst M 0 0 0) 3 i)), (5, .int (nI i)), (4, .int (nI 8)), (3, .ref (ad 3)), (0, .ref (ad 0))]) hx hb dX3_digest_69 rfl hl (by decide) rfl (fun ls hl => ?_)
        refine lv_iinc (v := nI (i + 1)) (lv' := [(5, .int (nI (i + 1))), (1, .long (dgA (dgA 1709 (fun _ => 0) 5) (M 3) (i + 1))), (6, .int ((mst M 0 0 0) 3 i)), (4, .int (nI 8)), (3, .ref (ad 3)), (0, .ref (ad 0))]) hx hb dX3_digest_70 hl (k := 2) rfl (nI_1 i) (by decide) rfl (fun ls hl => ?_)
        refine lv_goto (tgt := 47) hx hb dX3_digest_73 (by decide) ?_
        exact ih (i + 1) (by omega) ls H locs (lv_sub hl [0, 3, 4, 1, 5] rfl) hW
  have l1 : ∀ q i : Nat, i + q = 5 → ∀ (ls : Array Slot) (H : Heap) (locs : List Loc), lv_has ls 7 [(3, .int (nI i)), (1, .long (dgA 1709 (fun _ => 0) i)), (0, .ref (ad 0))] → mB9 D I Z J ad A s.heap (mst M 0 0 0) L H locs → W p l e rm_m_digest s m args below meth c H locs 0 0 Q (F0 m 11 ls []) := by
    intro q
    induction q with
    | zero =>
      intro i hi ls H locs hl hW
      obtain rfl : i = 5 := by omega
      refine lv_iload_n hx hb dX3_digest_11 rfl (lv_at hl 0 rfl) ?_
      refine lv_iconst (v := 5) hx hb dX3_digest_12 (by decide) ?_
      refine lv_icmp_ge (tgt := 35) hx hb dX3_digest_13 (by decide) (fun c1 => ?_) (fun c1 => ?_)
      · skip
        refine lv_aload_n hx hb dX3_digest_35 rfl (lv_at hl 2 rfl) ?_
        refine mr_get (v := .ref (ad 3)) hx hb hts hin3 hown hK hW rfl 3 (by decide) rfl (by decide +kernel) rfl dX3_digest_36 ?_
        refine lv_astore_n (lv' := [(3, .ref (ad 3)), (1, .long (dgA 1709 (fun _ => 0) 5)), (0, .ref (ad 0))]) hx hb dX3_digest_39 rfl hl (by decide) rfl (fun ls hl => ?_)
        refine lv_aload_n hx hb dX3_digest_40 rfl (lv_at hl 0 rfl) ?_
        refine va_alen (x := (8, .inl ((mst M 0 0 0) 3))) hx hb hK hW.1 3 0 (ty := .int) (by rw [mW, cWn_get ad _ (by decide)]; rfl) rfl rfl dX3_digest_41 ?_
        refine lv_istore (lv' := [(4, .int (nI 8)), (3, .ref (ad 3)), (1, .long (dgA 1709 (fun _ => 0) 5)), (0, .ref (ad 0))]) hx hb dX3_digest_42 hl (by decide) rfl (fun ls hl => ?_)
        refine lv_iconst (v := 0) hx hb dX3_digest_44 (by decide) ?_
        refine lv_istore (lv' := [(5, .int 0), (4, .int (nI 8)), (3, .ref (ad 3)), (1, .long (dgA 1709 (fun _ => 0) 5)), (0, .ref (ad 0))]) hx hb dX3_digest_45 hl (by decide) rfl (fun ls hl => ?_)
        exact l2 8 0 (by decide) ls H locs (lv_sub hl [0, 1, 2, 3, 4] rfl) hW
      · exact absurd (nI_le (Nat.le_refl 5) (by decide)) c1
    | succ q ih =>
      intro i hi ls H locs hl hW
      refine lv_iload_n hx hb dX3_digest_11 rfl (lv_at hl 0 rfl) ?_
      refine lv_iconst (v := 5) hx hb dX3_digest_12 (by decide) ?_
      refine lv_icmp_ge (tgt := 35) hx hb dX3_digest_13 (by decide) (fun c1 => ?_) (fun c1 => ?_)
      · exact absurd c1 (nI_ge (b := 5) (by omega) (by decide))
      · skip
        refine lv_lload_n hx hb dX3_digest_16 rfl (lv_at hl 1 rfl) ?_
        refine lv_ldc2 (v := 31) hx hb hown (hts (.constantLong RX3 177 (31)) (by decide +kernel)) dX3_digest_17 ?_
        refine lv_lmul hx hb dX3_digest_20 ?_
        refine lv_aload_n hx hb dX3_digest_21 rfl (lv_at hl 2 rfl) ?_
        refine lv_iload_n hx hb dX3_digest_22 rfl (lv_at hl 0 rfl) ?_
        refine mr_calli (va_runV (As := [.int (nI i)]) (rest := [.long ((dgA 1709 (fun _ => 0) i) * 31)]) ⟨hx, hb, hml, hown, hts⟩ (c_m_counted l D I Z J ad hI (mst M 0 0 0) L H.size (fun j hj => by rw [mst_ne (by decide)]; exact hz j hj) (by rw [mst_same, pk_un (by decide)]; exact hf) i (by omega)) (cwV 1 hts gX3_digest_X3_counted rfl rfl rfl (by decide +kernel) ⟨Nat.le_of_ble_eq_true rfl, Nat.le_of_ble_eq_true rfl⟩) (mr_preV hK hW) rfl rfl hl.1 rfl (lv_room (Nat.le_of_ble_eq_true rfl)) dX3_digest_23 ⟨Nat.le_of_ble_eq_true rfl, Nat.le_of_ble_eq_true rfl⟩) hA hDa hW (fun r u H locs hp hW => ?_)
        obtain ⟨hu, hv9⟩ := hp
        rw [show u.1 = (mst M 0 0 0) from by rw [hu], show u.2 = L from by rw [hu]] at hW
        rw [hv9]
        refine lv_i2l hx hb dX3_digest_26 rfl ?_
        refine lv_ladd hx hb dX3_digest_27 ?_
        rw [show (((dgA 1709 (fun _ => 0) i) * 31) + ((0 : Int32).toInt64)) = dgA 1709 (fun _ => 0) (i + 1) from dgA_s _ (fun _ => 0) _]
        refine lv_lstore_n (lv' := [(1, .long (dgA 1709 (fun _ => 0) (i + 1))), (3, .int (nI i)), (0, .ref (ad 0))]) hx hb dX3_digest_28 rfl hl (by decide) rfl (fun ls hl => ?_)
        refine lv_iinc (v := nI (i + 1)) (lv' := [(3, .int (nI (i + 1))), (1, .long (dgA 1709 (fun _ => 0) (i + 1))), (0, .ref (ad 0))]) hx hb dX3_digest_29 hl (k := 1) rfl (nI_1 i) (by decide) rfl (fun ls hl => ?_)
        refine lv_goto (tgt := 11) hx hb dX3_digest_32 (by decide) ?_
        exact ih (i + 1) (by omega) ls H locs (lv_sub hl [0, 1, 2] rfl) hW
  exact l1 5 0 (by decide) ls H locs (lv_sub hl [0, 1, 2] rfl) hW
