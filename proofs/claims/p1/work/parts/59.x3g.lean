/-- whether a question doesn't matter in one word of a row -/
def wxF (q w : Nat) : Nat := if q = 6 then w ^^^ 1 else w ^^^ 2
def mtz (X : Nat → Int64) (q w : Nat) : Bool := if nI q ≤ 5 then decide (((X w ^^^ ((X w).toUInt64 >>> ((1 <<< (nI q &&& 31)).toInt64.toUInt64 &&& Int64.toUInt64 63)).toInt64) &&& (ysF (nI q) (nI w) ^^^ (-1))) = 0) else decide (X w = X (wxF q w))
theorem wxF_e {q w : Nat} (hq : q < 8) (h5 : ¬ nI q ≤ 5) (hw : w < 4) : (nI w ^^^ (1 <<< ((nI q - 6) &&& 31))) = nI (wxF q w) ∧ wxF q w < 4 := by
  rcases (show q = 6 ∨ q = 7 by
    rcases (show q = 0 ∨ q = 1 ∨ q = 2 ∨ q = 3 ∨ q = 4 ∨ q = 5 ∨ q = 6 ∨ q = 7 by omega) with rfl | rfl | rfl | rfl | rfl | rfl | h | h
    · exact absurd (by decide) h5
    · exact absurd (by decide) h5
    · exact absurd (by decide) h5
    · exact absurd (by decide) h5
    · exact absurd (by decide) h5
    · exact absurd (by decide) h5
    · exact Or.inl h
    · exact Or.inr h) with rfl | rfl <;> rcases (show w = 0 ∨ w = 1 ∨ w = 2 ∨ w = 3 by omega) with rfl | rfl | rfl | rfl <;> decide
theorem mtz_l {X : Nat → Int64} {q w : Nat} (h5 : nI q ≤ 5) : mtz X q w = true ↔ ((X w ^^^ ((X w).toUInt64 >>> ((1 <<< (nI q &&& 31)).toInt64.toUInt64 &&& Int64.toUInt64 63)).toInt64) &&& (ysF (nI q) (nI w) ^^^ (-1))) = 0 := by
  rw [mtz, if_pos h5, decide_eq_true_eq]
theorem mtz_h {X : Nat → Int64} {q w : Nat} (h5 : ¬ nI q ≤ 5) : mtz X q w = true ↔ X w = X (wxF q w) := by
  rw [mtz, if_neg h5, decide_eq_true_eq]

abbrev rm_m_matters : Room := { frames := 1, cells := 0, slots := 0, locals := 100 }
set_option maxHeartbeats 4000000 in
set_option maxRecDepth 100000 in
theorem c_m_matters (l : Launch) (D : va_G) (I Z J : ClassId) (ad : Nat → Nat) (hI : mI ad) (M : Nat → Nat → Int32) (L : Nat → Nat → Int64) (sz : Nat) (f0 : Nat) (hf0 : f0 + 4 ≤ 40) (q0 : Nat) (hq0 : q0 < 8) : Met l yX3_matters wsX3_matters rm_m_matters (va_Pc [.ref (ad 0), .ref (ad 10), .int (nI f0), .int (nI q0)] (mU D I Z J ad sz M L)) (va_Qi (fun (r : Int32) (u : mU8) => u = (M, L) ∧ r = b2 (¬ ∀ k : Nat, k < 4 → mtz (fun k => L 10 (f0 + k)) q0 k = true)) (fun (u : mU8) t => mP D I Z J ad u.1 u.2 t.heap) (mA ad sz)) 0 0 (mA ad sz) := by
  refine mMet_z (cc := cX3_matters) (maxL := 6) hI (by decide) rfl rfl (Nat.le_of_ble_eq_true rfl) (lv := [(0, .ref (ad 0)), (1, .ref (ad 10)), (2, .int (nI f0)), (3, .int (nI q0))]) rfl ?_
  intro p e s m args below meth c Q A ls hsz C0 hW hl hret
  obtain ⟨hx, hb, hml, hts, hown, hlocks, hK, hDa, hA, hargs⟩ := C0
  refine lv_iconst (v := 1) hx hb dX3_matters_0 (by decide) ?_
  refine lv_iload_n hx hb dX3_matters_1 rfl (lv_at hl 3 rfl) ?_
  refine lv_ishl hx hb dX3_matters_2 ?_
  refine lv_istore (lv' := [(4, .int (1 <<< ((nI q0) &&& 31))), (0, .ref (ad 0)), (1, .ref (ad 10)), (2, .int (nI f0)), (3, .int (nI q0))]) hx hb dX3_matters_3 hl (by decide) rfl (fun ls hl => ?_)
  refine lv_iconst (v := 0) hx hb dX3_matters_5 (by decide) ?_
  refine lv_istore (lv' := [(5, .int 0), (4, .int (1 <<< ((nI q0) &&& 31))), (0, .ref (ad 0)), (1, .ref (ad 10)), (2, .int (nI f0)), (3, .int (nI q0))]) hx hb dX3_matters_6 hl (by decide) rfl (fun ls hl => ?_)
  have loop : ∀ q i : Nat, i + q = 4 → (∀ k : Nat, k < i → mtz (fun k => L 10 (f0 + k)) q0 k = true) → ∀ (ls : Array Slot) (H : Heap) (locs : List Loc), lv_has ls 6 [(5, .int (nI i)), (4, .int (1 <<< (nI q0 &&& 31))), (0, .ref (ad 0)), (1, .ref (ad 10)), (2, .int (nI f0)), (3, .int (nI q0))] → mB9 D I Z J ad A s.heap M L H locs → W p l e rm_m_matters s m args below meth c H locs 0 0 Q (F0 m 8 ls []) := by
    intro q
    induction q with
    | zero =>
      intro i hi hpp ls H locs hl hW
      obtain rfl : i = 4 := by omega
      refine lv_iload hx hb dX3_matters_8 (lv_at hl 0 rfl) ?_
      refine lv_iconst (v := 4) hx hb dX3_matters_10 (by decide) ?_
      refine lv_icmp_ge (tgt := 85) hx hb dX3_matters_11 (by decide) (fun c1 => ?_) (fun c1 => ?_)
      · skip
        refine lv_iconst (v := 0) hx hb dX3_matters_85 (by decide) ?_
        exact hret 86 ls H locs _ (M, L) dX3_matters_86 (⟨rfl, by rw [b2, if_neg (fun h => h hpp)]⟩) (Or.inl rfl) hW
      · exact absurd (nI_le (Nat.le_refl 4) (by decide)) c1
    | succ q ih =>
      intro i hi hpp ls H locs hl hW
      refine lv_iload hx hb dX3_matters_8 (lv_at hl 0 rfl) ?_
      refine lv_iconst (v := 4) hx hb dX3_matters_10 (by decide) ?_
      refine lv_icmp_ge (tgt := 85) hx hb dX3_matters_11 (by decide) (fun c1 => ?_) (fun c1 => ?_)
      · exact absurd c1 (nI_ge (b := 4) (by omega) (by decide))
      · skip
        refine lv_iload_n hx hb dX3_matters_14 rfl (lv_at hl 5 rfl) ?_
        refine lv_iconst (v := 5) hx hb dX3_matters_15 (by decide) ?_
        refine lv_icmp_le (tgt := 45) hx hb dX3_matters_16 (by decide) (fun c2 => ?_) (fun c2 => ?_)
        · skip
          refine lv_aload_n hx hb dX3_matters_45 rfl (lv_at hl 3 rfl) ?_
          refine lv_iload_n hx hb dX3_matters_46 rfl (lv_at hl 4 rfl) ?_
          refine lv_iload hx hb dX3_matters_47 (lv_at hl 0 rfl) ?_
          refine lv_iadd hx hb dX3_matters_49 ?_
          refine mr_jald hx hb hK hW 10 (by decide) rfl (f0 + i) (by omega) (by decide) (nI_add f0 i) dX3_matters_50 ?_
          refine lv_aload_n hx hb dX3_matters_51 rfl (lv_at hl 3 rfl) ?_
          refine lv_iload_n hx hb dX3_matters_52 rfl (lv_at hl 4 rfl) ?_
          refine lv_iload hx hb dX3_matters_53 (lv_at hl 0 rfl) ?_
          refine lv_iadd hx hb dX3_matters_55 ?_
          refine mr_jald hx hb hK hW 10 (by decide) rfl (f0 + i) (by omega) (by decide) (nI_add f0 i) dX3_matters_56 ?_
          refine lv_iload hx hb dX3_matters_57 (lv_at hl 1 rfl) ?_
          refine lv_lushr hx hb dX3_matters_59 rfl ?_
          refine lv_lxor hx hb dX3_matters_60 ?_
          refine lv_iload_n hx hb dX3_matters_61 rfl (lv_at hl 5 rfl) ?_
          refine lv_iload hx hb dX3_matters_62 (lv_at hl 0 rfl) ?_
          refine mr_calll (va_runS (As := [.int (nI q0), .int (nI i)]) (rest := [.long ((L 10 (f0 + i)) ^^^ (((L 10 (f0 + i)).toUInt64 >>> ((1 <<< (nI q0 &&& 31)).toInt64.toUInt64 &&& Int64.toUInt64 63)).toInt64))]) ⟨hx, hb, hml, hown, hts⟩ (c_m_yes l D I Z J ad hI M L H.size (nI q0) (nI i)) (va_cwS 2 hts gX3_matters_X3_yes rfl rfl rfl (by decide +kernel) ⟨Nat.le_of_ble_eq_true rfl, Nat.le_of_ble_eq_true rfl⟩) (mr_preS hK hW) rfl rfl hl.1 rfl (lv_room (Nat.le_of_ble_eq_true rfl)) dX3_matters_64 ⟨Nat.le_of_ble_eq_true rfl, Nat.le_of_ble_eq_true rfl⟩) hA hDa hW (fun r u H locs hp hW => ?_)
          obtain ⟨hu, hv9⟩ := hp
          rw [show u.1 = M from by rw [hu], show u.2 = L from by rw [hu]] at hW
          rw [hv9]
          refine lv_ldc2 (v := -1) hx hb hown (hts (.constantLong RX3 56 (-1)) (by decide +kernel)) dX3_matters_67 ?_
          refine lv_lxor hx hb dX3_matters_70 ?_
          refine lv_land hx hb dX3_matters_71 ?_
          refine lv_lconst (v := 0) hx hb dX3_matters_72 (by decide) ?_
          refine W.lcmp hx hb dX3_matters_73 ?_
          refine lv_if_eq (tgt := 79) hx hb dX3_matters_74 (by decide) (fun c3 => ?_) (fun c3 => ?_)
          · skip
            refine lv_iinc (v := nI (i + 1)) (lv' := [(5, .int (nI (i + 1))), (4, .int (1 <<< (nI q0 &&& 31))), (0, .ref (ad 0)), (1, .ref (ad 10)), (2, .int (nI f0)), (3, .int (nI q0))]) hx hb dX3_matters_79 hl (k := 0) rfl (nI_1 i) (by decide) rfl (fun ls hl => ?_)
            refine lv_goto (tgt := 8) hx hb dX3_matters_82 (by decide) ?_
            exact ih (i + 1) (by omega) (fun k hk => if h : k = i then by rw [h]; exact (mtz_l c2).mpr (lgc_0.mp c3) else hpp k (by omega)) ls H locs (lv_sub hl [0, 1, 2, 3, 4, 5] rfl) hW
          · skip
            refine lv_iconst (v := 1) hx hb dX3_matters_77 (by decide) ?_
            exact hret 78 ls H locs _ (M, L) dX3_matters_78 (⟨rfl, by rw [b2, if_pos (fun h => c3 (lgc_0.mpr ((mtz_l c2).mp (h i (by omega)))))]⟩) (Or.inr rfl) hW
        · skip
          refine lv_aload_n hx hb dX3_matters_19 rfl (lv_at hl 3 rfl) ?_
          refine lv_iload_n hx hb dX3_matters_20 rfl (lv_at hl 4 rfl) ?_
          refine lv_iload hx hb dX3_matters_21 (lv_at hl 0 rfl) ?_
          refine lv_iadd hx hb dX3_matters_23 ?_
          refine mr_jald hx hb hK hW 10 (by decide) rfl (f0 + i) (by omega) (by decide) (nI_add f0 i) dX3_matters_24 ?_
          refine lv_aload_n hx hb dX3_matters_25 rfl (lv_at hl 3 rfl) ?_
          refine lv_iload_n hx hb dX3_matters_26 rfl (lv_at hl 4 rfl) ?_
          refine lv_iload hx hb dX3_matters_27 (lv_at hl 0 rfl) ?_
          refine lv_iconst (v := 1) hx hb dX3_matters_29 (by decide) ?_
          refine lv_iload_n hx hb dX3_matters_30 rfl (lv_at hl 5 rfl) ?_
          refine lv_bipush (v := 6) hx hb dX3_matters_31 (by decide) ?_
          refine lv_isub hx hb dX3_matters_33 ?_
          refine lv_ishl hx hb dX3_matters_34 ?_
          refine lv_ixor hx hb dX3_matters_35 ?_
          refine lv_iadd hx hb dX3_matters_36 ?_
          refine mr_jald hx hb hK hW 10 (by decide) rfl (f0 + wxF q0 i) (by have := (wxF_e hq0 c2 (show i < 4 by omega)).2; omega) (by decide) (by rw [(wxF_e hq0 c2 (show i < 4 by omega)).1, nI_add]) dX3_matters_37 ?_
          refine W.lcmp hx hb dX3_matters_38 ?_
          refine lv_if_eq (tgt := 79) hx hb dX3_matters_39 (by decide) (fun c3 => ?_) (fun c3 => ?_)
          · skip
            refine lv_iinc (v := nI (i + 1)) (lv' := [(5, .int (nI (i + 1))), (4, .int (1 <<< (nI q0 &&& 31))), (0, .ref (ad 0)), (1, .ref (ad 10)), (2, .int (nI f0)), (3, .int (nI q0))]) hx hb dX3_matters_79 hl (k := 0) rfl (nI_1 i) (by decide) rfl (fun ls hl => ?_)
            refine lv_goto (tgt := 8) hx hb dX3_matters_82 (by decide) ?_
            exact ih (i + 1) (by omega) (fun k hk => if h : k = i then by rw [h]; exact (mtz_h c2).mpr (lgc_0.mp c3) else hpp k (by omega)) ls H locs (lv_sub hl [0, 1, 2, 3, 4, 5] rfl) hW
          · skip
            refine lv_goto (tgt := 77) hx hb dX3_matters_42 (by decide) ?_
            refine lv_iconst (v := 1) hx hb dX3_matters_77 (by decide) ?_
            exact hret 78 ls H locs _ (M, L) dX3_matters_78 (⟨rfl, by rw [b2, if_pos (fun h => c3 (lgc_0.mpr ((mtz_h c2).mp (h i (by omega)))))]⟩) (Or.inr rfl) hW
  exact loop 4 0 (by decide) (fun k hk => absurd hk (Nat.not_lt_zero k)) ls s.heap [] (lv_sub hl [0, 1, 2, 3, 4, 5] rfl) hW
