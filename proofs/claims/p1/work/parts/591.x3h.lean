/-- one word of a row, an answer to a question given -/
def gxF (q : Nat) (y : Int32) (w : Nat) : Nat := if y = 0 then (if q = 6 then w &&& 2 else w &&& 1) else (if q = 6 then w ||| 1 else w ||| 2)
def gv1 (X : Nat → Int64) (q : Nat) (y : Int32) (w : Nat) : Int64 := if nI q ≤ 5 then (if y = 0 then (X w &&& (ysF (nI q) (nI w) ^^^ (-1 : Int64))) ||| ((X w &&& (ysF (nI q) (nI w) ^^^ (-1 : Int64))) <<< ((1 <<< (nI q &&& 31)).toInt64 &&& 63)) else (X w &&& ysF (nI q) (nI w)) ||| ((X w &&& ysF (nI q) (nI w)).toUInt64 >>> ((1 <<< (nI q &&& 31)).toInt64.toUInt64 &&& Int64.toUInt64 63)).toInt64) else X (gxF q y w)
/-- the long rows, so many words given -/
def gvL (L : Nat → Nat → Int64) (f t q : Nat) (y : Int32) : Nat → Nat → Nat → Int64
  | 0 => L
  | i + 1 => lst (gvL L f t q y i) 10 (t + i) (gv1 (fun k => gvL L f t q y i 10 (f + k)) q y i)
theorem gxF_e {q w : Nat} (y : Int32) (hq : q < 8) (h5 : ¬ nI q ≤ 5) (hw : w < 4) : (if y = 0 then nI w &&& ((1 <<< ((nI q - 6) &&& 31)) ^^^ (-1)) else nI w ||| (1 <<< ((nI q - 6) &&& 31))) = nI (gxF q y w) ∧ gxF q y w < 4 := by
  rcases (show q = 6 ∨ q = 7 by
    rcases (show q = 0 ∨ q = 1 ∨ q = 2 ∨ q = 3 ∨ q = 4 ∨ q = 5 ∨ q = 6 ∨ q = 7 by omega) with rfl | rfl | rfl | rfl | rfl | rfl | h | h
    · exact absurd (by decide) h5
    · exact absurd (by decide) h5
    · exact absurd (by decide) h5
    · exact absurd (by decide) h5
    · exact absurd (by decide) h5
    · exact absurd (by decide) h5
    · exact Or.inl h
    · exact Or.inr h) with rfl | rfl <;> rcases (show w = 0 ∨ w = 1 ∨ w = 2 ∨ w = 3 by omega) with rfl | rfl | rfl | rfl <;> by_cases hy : y = 0 <;> simp only [gxF, hy, if_true, if_false] <;> decide

abbrev rm_m_give : Room := { frames := 1, cells := 0, slots := 0, locals := 100 }
set_option maxHeartbeats 4000000 in
set_option maxRecDepth 100000 in
theorem c_m_give (l : Launch) (D : va_G) (I Z J : ClassId) (ad : Nat → Nat) (hI : mI ad) (M : Nat → Nat → Int32) (L : Nat → Nat → Int64) (sz : Nat) (f0 t0 : Nat) (hf0 : f0 + 4 ≤ 40) (ht0 : t0 + 4 ≤ 40) (q0 : Nat) (hq0 : q0 < 8) (y0 : Int32) : Met l yX3_give wsX3_give rm_m_give (va_Pc [.ref (ad 10), .int (nI f0), .ref (ad 10), .int (nI t0), .int (nI q0), .int y0] (mU D I Z J ad sz M L)) (va_Qv (fun (u : mU8) => u = (M, gvL L f0 t0 q0 y0 4)) (fun (u : mU8) t => mP D I Z J ad u.1 u.2 t.heap) (mA ad sz)) 0 0 (mA ad sz) := by
  refine mMet_v (cc := cX3_give) (maxL := 12) hI (by decide) rfl rfl (Nat.le_of_ble_eq_true rfl) (lv := [(0, .ref (ad 10)), (1, .int (nI f0)), (2, .ref (ad 10)), (3, .int (nI t0)), (4, .int (nI q0)), (5, .int y0)]) rfl ?_
  intro p e s m args below meth c Q A ls hsz C0 hW hl hret
  obtain ⟨hx, hb, hml, hts, hown, hlocks, hK, hDa, hA, hargs⟩ := C0
  refine lv_iconst (v := 0) hx hb dX3_give_0 (by decide) ?_
  refine lv_istore (lv' := [(6, .int 0), (0, .ref (ad 10)), (1, .int (nI f0)), (2, .ref (ad 10)), (3, .int (nI t0)), (4, .int (nI q0)), (5, .int y0)]) hx hb dX3_give_1 hl (by decide) rfl (fun ls hl => ?_)
  have loop : ∀ q i : Nat, i + q = 4 → ∀ (ls : Array Slot) (H : Heap) (locs : List Loc), lv_has ls 12 [(6, .int (nI i)), (0, .ref (ad 10)), (1, .int (nI f0)), (2, .ref (ad 10)), (3, .int (nI t0)), (4, .int (nI q0)), (5, .int y0)] → mB9 D I Z J ad A s.heap M (gvL L f0 t0 q0 y0 i) H locs → W p l e rm_m_give s m args below meth c H locs 0 0 Q (F0 m 3 ls []) := by
    intro q
    induction q with
    | zero =>
      intro i hi ls H locs hl hW
      obtain rfl : i = 4 := by omega
      refine lv_iload hx hb dX3_give_3 (lv_at hl 0 rfl) ?_
      refine lv_iconst (v := 4) hx hb dX3_give_5 (by decide) ?_
      refine lv_icmp_ge (tgt := 140) hx hb dX3_give_6 (by decide) (fun c1 => ?_) (fun c1 => ?_)
      · skip
        exact hret 140 ls H locs (M, (gvL L f0 t0 q0 y0 4)) dX3_give_140 (rfl) hW
      · exact absurd (nI_le (Nat.le_refl 4) (by decide)) c1
    | succ q ih =>
      intro i hi ls H locs hl hW
      refine lv_iload hx hb dX3_give_3 (lv_at hl 0 rfl) ?_
      refine lv_iconst (v := 4) hx hb dX3_give_5 (by decide) ?_
      refine lv_icmp_ge (tgt := 140) hx hb dX3_give_6 (by decide) (fun c1 => ?_) (fun c1 => ?_)
      · exact absurd c1 (nI_ge (b := 4) (by omega) (by decide))
      · skip
        refine lv_iload hx hb dX3_give_9 (lv_at hl 5 rfl) ?_
        refine lv_iconst (v := 5) hx hb dX3_give_11 (by decide) ?_
        refine lv_icmp_le (tgt := 57) hx hb dX3_give_12 (by decide) (fun c2 => ?_) (fun c2 => ?_)
        · skip
          refine lv_iload hx hb dX3_give_57 (lv_at hl 5 rfl) ?_
          refine lv_iload hx hb dX3_give_59 (lv_at hl 0 rfl) ?_
          refine mr_calll (va_runS (As := [.int (nI q0), .int (nI i)]) (rest := []) ⟨hx, hb, hml, hown, hts⟩ (c_m_yes l D I Z J ad hI M (gvL L f0 t0 q0 y0 i) H.size (nI q0) (nI i)) (va_cwS 2 hts gX3_give_X3_yes rfl rfl rfl (by decide +kernel) ⟨Nat.le_of_ble_eq_true rfl, Nat.le_of_ble_eq_true rfl⟩) (mr_preS hK hW) rfl rfl hl.1 rfl (lv_room (Nat.le_of_ble_eq_true rfl)) dX3_give_61 ⟨Nat.le_of_ble_eq_true rfl, Nat.le_of_ble_eq_true rfl⟩) hA hDa hW (fun r u H locs hp hW => ?_)
          obtain ⟨hu, hv9⟩ := hp
          rw [show u.1 = M from by rw [hu], show u.2 = (gvL L f0 t0 q0 y0 i) from by rw [hu]] at hW
          rw [hv9]
          refine lv_lstore (lv' := [(7, .long (ysF (nI q0) (nI i))), (6, .int (nI i)), (0, .ref (ad 10)), (1, .int (nI f0)), (2, .ref (ad 10)), (3, .int (nI t0)), (4, .int (nI q0)), (5, .int y0)]) hx hb dX3_give_64 hl (by decide) rfl (fun ls hl => ?_)
          refine lv_iconst (v := 1) hx hb dX3_give_66 (by decide) ?_
          refine lv_iload hx hb dX3_give_67 (lv_at hl 6 rfl) ?_
          refine lv_ishl hx hb dX3_give_69 ?_
          refine lv_istore (lv' := [(9, .int (1 <<< ((nI q0) &&& 31))), (7, .long (ysF (nI q0) (nI i))), (6, .int (nI i)), (0, .ref (ad 10)), (1, .int (nI f0)), (2, .ref (ad 10)), (3, .int (nI t0)), (4, .int (nI q0)), (5, .int y0)]) hx hb dX3_give_70 hl (by decide) rfl (fun ls hl => ?_)
          refine lv_iload hx hb dX3_give_72 (lv_at hl 8 rfl) ?_
          refine lv_if_eq (tgt := 89) hx hb dX3_give_74 (by decide) (fun c3 => ?_) (fun c3 => ?_)
          · skip
            refine lv_aload_n hx hb dX3_give_89 rfl (lv_at hl 3 rfl) ?_
            refine lv_iload_n hx hb dX3_give_90 rfl (lv_at hl 4 rfl) ?_
            refine lv_iload hx hb dX3_give_91 (lv_at hl 2 rfl) ?_
            refine lv_iadd hx hb dX3_give_93 ?_
            refine mr_jald hx hb hK hW 10 (by decide) rfl (f0 + i) (by omega) (by decide) (nI_add f0 i) dX3_give_94 ?_
            refine lv_lload hx hb dX3_give_95 (lv_at hl 1 rfl) ?_
            refine lv_ldc2 (v := -1) hx hb hown (hts (.constantLong RX3 56 (-1)) (by decide +kernel)) dX3_give_97 ?_
            refine lv_lxor hx hb dX3_give_100 ?_
            refine lv_land hx hb dX3_give_101 ?_
            refine lv_lstore (lv' := [(10, .long (((gvL L f0 t0 q0 y0 i) 10 (f0 + i)) &&& ((ysF (nI q0) (nI i)) ^^^ (-1)))), (9, .int (1 <<< ((nI q0) &&& 31))), (7, .long (ysF (nI q0) (nI i))), (6, .int (nI i)), (0, .ref (ad 10)), (1, .int (nI f0)), (2, .ref (ad 10)), (3, .int (nI t0)), (4, .int (nI q0)), (5, .int y0)]) hx hb dX3_give_102 hl (by decide) rfl (fun ls hl => ?_)
            refine lv_aload_n hx hb dX3_give_104 rfl (lv_at hl 6 rfl) ?_
            refine lv_iload_n hx hb dX3_give_105 rfl (lv_at hl 7 rfl) ?_
            refine lv_iload hx hb dX3_give_106 (lv_at hl 3 rfl) ?_
            refine lv_iadd hx hb dX3_give_108 ?_
            refine lv_iload hx hb dX3_give_109 (lv_at hl 9 rfl) ?_
            refine lv_if_eq (tgt := 125) hx hb dX3_give_111 (by decide) (fun c4 => ?_) (fun c4 => ?_)
            · skip
              refine lv_lload hx hb dX3_give_125 (lv_at hl 0 rfl) ?_
              refine lv_lload hx hb dX3_give_127 (lv_at hl 0 rfl) ?_
              refine lv_iload hx hb dX3_give_129 (lv_at hl 1 rfl) ?_
              refine lv_lshl hx hb dX3_give_131 rfl ?_
              refine lv_lor hx hb dX3_give_132 ?_
              rw [show ((((gvL L f0 t0 q0 y0 i) 10 (f0 + i)) &&& ((ysF (nI q0) (nI i)) ^^^ (-1 : Int64))) ||| ((((gvL L f0 t0 q0 y0 i) 10 (f0 + i)) &&& ((ysF (nI q0) (nI i)) ^^^ (-1 : Int64))) <<< ((1 <<< ((nI q0) &&& 31)).toInt64 &&& 63))) = gv1 (fun k => (gvL L f0 t0 q0 y0 i) 10 (f0 + k)) q0 y0 i from by rw [gv1, if_pos c2, if_pos c3]]
              refine mr_jast hx hb hK hDa hW 10 (by decide) (fun _ _ => rfl) (t0 + i) (by omega) (by decide) (nI_add t0 i) dX3_give_133 (fun H locs hW => ?_)
              rw [show (lst (gvL L f0 t0 q0 y0 i) 10 (t0 + i) (gv1 (fun k => (gvL L f0 t0 q0 y0 i) 10 (f0 + k)) q0 y0 i)) = (gvL L f0 t0 q0 y0 (i + 1)) from rfl] at hW
              refine lv_iinc (v := nI (i + 1)) (lv' := [(6, .int (nI (i + 1))), (10, .long (((gvL L f0 t0 q0 y0 i) 10 (f0 + i)) &&& ((ysF (nI q0) (nI i)) ^^^ (-1)))), (9, .int (1 <<< ((nI q0) &&& 31))), (7, .long (ysF (nI q0) (nI i))), (0, .ref (ad 10)), (1, .int (nI f0)), (2, .ref (ad 10)), (3, .int (nI t0)), (4, .int (nI q0)), (5, .int y0)]) hx hb dX3_give_134 hl (k := 3) rfl (nI_1 i) (by decide) rfl (fun ls hl => ?_)
              refine lv_goto (tgt := 3) hx hb dX3_give_137 (by decide) ?_
              exact ih (i + 1) (by omega) ls H locs (lv_sub hl [0, 4, 5, 6, 7, 8, 9] rfl) hW
            · exact absurd c3 c4
          · skip
            refine lv_aload_n hx hb dX3_give_77 rfl (lv_at hl 3 rfl) ?_
            refine lv_iload_n hx hb dX3_give_78 rfl (lv_at hl 4 rfl) ?_
            refine lv_iload hx hb dX3_give_79 (lv_at hl 2 rfl) ?_
            refine lv_iadd hx hb dX3_give_81 ?_
            refine mr_jald hx hb hK hW 10 (by decide) rfl (f0 + i) (by omega) (by decide) (nI_add f0 i) dX3_give_82 ?_
            refine lv_lload hx hb dX3_give_83 (lv_at hl 1 rfl) ?_
            refine lv_land hx hb dX3_give_85 ?_
            refine lv_goto (tgt := 102) hx hb dX3_give_86 (by decide) ?_
            refine lv_lstore (lv' := [(10, .long (((gvL L f0 t0 q0 y0 i) 10 (f0 + i)) &&& (ysF (nI q0) (nI i)))), (9, .int (1 <<< ((nI q0) &&& 31))), (7, .long (ysF (nI q0) (nI i))), (6, .int (nI i)), (0, .ref (ad 10)), (1, .int (nI f0)), (2, .ref (ad 10)), (3, .int (nI t0)), (4, .int (nI q0)), (5, .int y0)]) hx hb dX3_give_102 hl (by decide) rfl (fun ls hl => ?_)
            refine lv_aload_n hx hb dX3_give_104 rfl (lv_at hl 6 rfl) ?_
            refine lv_iload_n hx hb dX3_give_105 rfl (lv_at hl 7 rfl) ?_
            refine lv_iload hx hb dX3_give_106 (lv_at hl 3 rfl) ?_
            refine lv_iadd hx hb dX3_give_108 ?_
            refine lv_iload hx hb dX3_give_109 (lv_at hl 9 rfl) ?_
            refine lv_if_eq (tgt := 125) hx hb dX3_give_111 (by decide) (fun c4 => ?_) (fun c4 => ?_)
            · exact absurd c4 c3
            · skip
              refine lv_lload hx hb dX3_give_114 (lv_at hl 0 rfl) ?_
              refine lv_lload hx hb dX3_give_116 (lv_at hl 0 rfl) ?_
              refine lv_iload hx hb dX3_give_118 (lv_at hl 1 rfl) ?_
              refine lv_lushr hx hb dX3_give_120 rfl ?_
              refine lv_lor hx hb dX3_give_121 ?_
              refine lv_goto (tgt := 133) hx hb dX3_give_122 (by decide) ?_
              rw [show ((((gvL L f0 t0 q0 y0 i) 10 (f0 + i)) &&& (ysF (nI q0) (nI i))) ||| (((((gvL L f0 t0 q0 y0 i) 10 (f0 + i)) &&& (ysF (nI q0) (nI i))).toUInt64 >>> ((1 <<< ((nI q0) &&& 31)).toInt64.toUInt64 &&& Int64.toUInt64 63)).toInt64)) = gv1 (fun k => (gvL L f0 t0 q0 y0 i) 10 (f0 + k)) q0 y0 i from by rw [gv1, if_pos c2, if_neg c3]]
              refine mr_jast hx hb hK hDa hW 10 (by decide) (fun _ _ => rfl) (t0 + i) (by omega) (by decide) (nI_add t0 i) dX3_give_133 (fun H locs hW => ?_)
              rw [show (lst (gvL L f0 t0 q0 y0 i) 10 (t0 + i) (gv1 (fun k => (gvL L f0 t0 q0 y0 i) 10 (f0 + k)) q0 y0 i)) = (gvL L f0 t0 q0 y0 (i + 1)) from rfl] at hW
              refine lv_iinc (v := nI (i + 1)) (lv' := [(6, .int (nI (i + 1))), (10, .long (((gvL L f0 t0 q0 y0 i) 10 (f0 + i)) &&& (ysF (nI q0) (nI i)))), (9, .int (1 <<< ((nI q0) &&& 31))), (7, .long (ysF (nI q0) (nI i))), (0, .ref (ad 10)), (1, .int (nI f0)), (2, .ref (ad 10)), (3, .int (nI t0)), (4, .int (nI q0)), (5, .int y0)]) hx hb dX3_give_134 hl (k := 3) rfl (nI_1 i) (by decide) rfl (fun ls hl => ?_)
              refine lv_goto (tgt := 3) hx hb dX3_give_137 (by decide) ?_
              exact ih (i + 1) (by omega) ls H locs (lv_sub hl [0, 4, 5, 6, 7, 8, 9] rfl) hW
        · skip
          refine lv_iconst (v := 1) hx hb dX3_give_15 (by decide) ?_
          refine lv_iload hx hb dX3_give_16 (lv_at hl 5 rfl) ?_
          refine lv_bipush (v := 6) hx hb dX3_give_18 (by decide) ?_
          refine lv_isub hx hb dX3_give_20 ?_
          refine lv_ishl hx hb dX3_give_21 ?_
          refine lv_istore (lv' := [(7, .int (1 <<< (((nI q0) - 6) &&& 31))), (6, .int (nI i)), (0, .ref (ad 10)), (1, .int (nI f0)), (2, .ref (ad 10)), (3, .int (nI t0)), (4, .int (nI q0)), (5, .int y0)]) hx hb dX3_give_22 hl (by decide) rfl (fun ls hl => ?_)
          refine lv_aload_n hx hb dX3_give_24 rfl (lv_at hl 4 rfl) ?_
          refine lv_iload_n hx hb dX3_give_25 rfl (lv_at hl 5 rfl) ?_
          refine lv_iload hx hb dX3_give_26 (lv_at hl 1 rfl) ?_
          refine lv_iadd hx hb dX3_give_28 ?_
          refine lv_aload_n hx hb dX3_give_29 rfl (lv_at hl 2 rfl) ?_
          refine lv_iload_n hx hb dX3_give_30 rfl (lv_at hl 3 rfl) ?_
          refine lv_iload hx hb dX3_give_31 (lv_at hl 7 rfl) ?_
          refine lv_if_eq (tgt := 44) hx hb dX3_give_33 (by decide) (fun c3 => ?_) (fun c3 => ?_)
          · skip
            refine lv_iload hx hb dX3_give_44 (lv_at hl 1 rfl) ?_
            refine lv_iload hx hb dX3_give_46 (lv_at hl 0 rfl) ?_
            refine lv_iconst (v := -1) hx hb dX3_give_48 (by decide) ?_
            refine lv_ixor hx hb dX3_give_49 ?_
            refine lv_iand hx hb dX3_give_50 ?_
            refine lv_iadd hx hb dX3_give_51 ?_
            refine mr_jald hx hb hK hW 10 (by decide) rfl (f0 + gxF q0 y0 i) (by have := (gxF_e y0 hq0 c2 (show i < 4 by omega)).2; omega) (by decide) (by have h9 := (gxF_e y0 hq0 c2 (show i < 4 by omega)).1; first | rw [if_pos c3] at h9; rw [h9, nI_add] | rw [if_neg c3] at h9; rw [h9, nI_add]) dX3_give_52 ?_
            rw [show ((gvL L f0 t0 q0 y0 i) 10 (f0 + gxF q0 y0 i)) = gv1 (fun k => (gvL L f0 t0 q0 y0 i) 10 (f0 + k)) q0 y0 i from by rw [gv1, if_neg c2]]
            refine mr_jast hx hb hK hDa hW 10 (by decide) (fun _ _ => rfl) (t0 + i) (by omega) (by decide) (nI_add t0 i) dX3_give_53 (fun H locs hW => ?_)
            rw [show (lst (gvL L f0 t0 q0 y0 i) 10 (t0 + i) (gv1 (fun k => (gvL L f0 t0 q0 y0 i) 10 (f0 + k)) q0 y0 i)) = (gvL L f0 t0 q0 y0 (i + 1)) from rfl] at hW
            refine lv_goto (tgt := 134) hx hb dX3_give_54 (by decide) ?_
            refine lv_iinc (v := nI (i + 1)) (lv' := [(6, .int (nI (i + 1))), (7, .int (1 <<< (((nI q0) - 6) &&& 31))), (0, .ref (ad 10)), (1, .int (nI f0)), (2, .ref (ad 10)), (3, .int (nI t0)), (4, .int (nI q0)), (5, .int y0)]) hx hb dX3_give_134 hl (k := 1) rfl (nI_1 i) (by decide) rfl (fun ls hl => ?_)
            refine lv_goto (tgt := 3) hx hb dX3_give_137 (by decide) ?_
            exact ih (i + 1) (by omega) ls H locs (lv_sub hl [0, 2, 3, 4, 5, 6, 7] rfl) hW
          · skip
            refine lv_iload hx hb dX3_give_36 (lv_at hl 1 rfl) ?_
            refine lv_iload hx hb dX3_give_38 (lv_at hl 0 rfl) ?_
            refine lv_ior hx hb dX3_give_40 ?_
            refine lv_goto (tgt := 51) hx hb dX3_give_41 (by decide) ?_
            refine lv_iadd hx hb dX3_give_51 ?_
            refine mr_jald hx hb hK hW 10 (by decide) rfl (f0 + gxF q0 y0 i) (by have := (gxF_e y0 hq0 c2 (show i < 4 by omega)).2; omega) (by decide) (by have h9 := (gxF_e y0 hq0 c2 (show i < 4 by omega)).1; first | rw [if_pos c3] at h9; rw [h9, nI_add] | rw [if_neg c3] at h9; rw [h9, nI_add]) dX3_give_52 ?_
            rw [show ((gvL L f0 t0 q0 y0 i) 10 (f0 + gxF q0 y0 i)) = gv1 (fun k => (gvL L f0 t0 q0 y0 i) 10 (f0 + k)) q0 y0 i from by rw [gv1, if_neg c2]]
            refine mr_jast hx hb hK hDa hW 10 (by decide) (fun _ _ => rfl) (t0 + i) (by omega) (by decide) (nI_add t0 i) dX3_give_53 (fun H locs hW => ?_)
            rw [show (lst (gvL L f0 t0 q0 y0 i) 10 (t0 + i) (gv1 (fun k => (gvL L f0 t0 q0 y0 i) 10 (f0 + k)) q0 y0 i)) = (gvL L f0 t0 q0 y0 (i + 1)) from rfl] at hW
            refine lv_goto (tgt := 134) hx hb dX3_give_54 (by decide) ?_
            refine lv_iinc (v := nI (i + 1)) (lv' := [(6, .int (nI (i + 1))), (7, .int (1 <<< (((nI q0) - 6) &&& 31))), (0, .ref (ad 10)), (1, .int (nI f0)), (2, .ref (ad 10)), (3, .int (nI t0)), (4, .int (nI q0)), (5, .int y0)]) hx hb dX3_give_134 hl (k := 1) rfl (nI_1 i) (by decide) rfl (fun ls hl => ?_)
            refine lv_goto (tgt := 3) hx hb dX3_give_137 (by decide) ?_
            exact ih (i + 1) (by omega) ls H locs (lv_sub hl [0, 2, 3, 4, 5, 6, 7] rfl) hW
  exact loop 4 0 (by decide) ls s.heap [] (lv_sub hl [0, 1, 2, 3, 4, 5, 6] rfl) hW
