/-- the bits of a question, in one word -/
def ybF (q : Int32) : Nat → Int64
  | 0 => 0
  | j + 1 => if ((nI j >>> (q &&& 31)) &&& 1) = 1 then ybF q j ||| (1 <<< ((nI j).toInt64 &&& 63)) else ybF q j
def ysF (q w : Int32) : Int64 := if q ≤ 5 then ybF q 64 else if ((w >>> ((q - 6) &&& 31)) &&& 1) = 1 then -1 else 0
theorem ybF_p {q : Int32} {j : Nat} (h : ((nI j >>> (q &&& 31)) &&& 1) = 1) : ybF q j ||| (1 <<< ((nI j).toInt64 &&& 63)) = ybF q (j + 1) := by rw [ybF, if_pos h]
theorem ybF_n {q : Int32} {j : Nat} (h : ¬ ((nI j >>> (q &&& 31)) &&& 1) = 1) : ybF q j = ybF q (j + 1) := by rw [ybF, if_neg h]

abbrev rm_m_yes : Room := { frames := 0, cells := 0, slots := 0, locals := 0 }
set_option maxHeartbeats 4000000 in
set_option maxRecDepth 100000 in
theorem c_m_yes (l : Launch) (D : va_G) (I Z J : ClassId) (ad : Nat → Nat) (hI : mI ad) (M : Nat → Nat → Int32) (L : Nat → Nat → Int64) (sz : Nat) (q0 w0 : Int32) : Met l yX3_yes wsX3_yes rm_m_yes (va_Pc [.int q0, .int w0] (mU D I Z J ad sz M L)) (va_Ql (fun (r : Int64) (u : mU8) => u = (M, L) ∧ r = ysF q0 w0) (fun (u : mU8) t => mP D I Z J ad u.1 u.2 t.heap) (mA ad sz)) 0 0 (mA ad sz) := by
  refine mMet_l (cc := cX3_yes) (maxL := 5) hI (by decide) rfl rfl (Nat.le_of_ble_eq_true rfl) (lv := [(0, .int q0), (1, .int w0)]) rfl ?_
  intro p e s m args below meth c Q A ls hsz C0 hW hl hret
  obtain ⟨hx, hb, hml, hts, hown, hlocks, hK, hDa, hA, hargs⟩ := C0
  refine lv_iload_n hx hb dX3_yes_0 rfl (lv_at hl 0 rfl) ?_
  refine lv_iconst (v := 5) hx hb dX3_yes_1 (by decide) ?_
  refine lv_icmp_le (tgt := 25) hx hb dX3_yes_2 (by decide) (fun c1 => ?_) (fun c1 => ?_)
  · skip
    refine lv_lconst (v := 0) hx hb dX3_yes_25 (by decide) ?_
    refine lv_lstore_n (lv' := [(2, .long 0), (0, .int q0), (1, .int w0)]) hx hb dX3_yes_26 rfl hl (by decide) rfl (fun ls hl => ?_)
    refine lv_iconst (v := 0) hx hb dX3_yes_27 (by decide) ?_
    refine lv_istore (lv' := [(4, .int 0), (2, .long 0), (0, .int q0), (1, .int w0)]) hx hb dX3_yes_28 hl (by decide) rfl (fun ls hl => ?_)
    have loop : ∀ q i : Nat, i + q = 64 → ∀ (ls : Array Slot), lv_has ls 5 [(4, .int (nI i)), (2, .long (ybF q0 i)), (0, .int q0)] → W p l e rm_m_yes s m args below meth c s.heap [] 0 0 Q (F0 m 30 ls []) := by
      intro q
      induction q with
      | zero =>
        intro i hi ls hl
        obtain rfl : i = 64 := by omega
        refine lv_iload hx hb dX3_yes_30 (lv_at hl 0 rfl) ?_
        refine lv_bipush (v := 64) hx hb dX3_yes_32 (by decide) ?_
        refine lv_icmp_ge (tgt := 60) hx hb dX3_yes_34 (by decide) (fun c2 => ?_) (fun c2 => ?_)
        · skip
          refine lv_lload_n hx hb dX3_yes_60 rfl (lv_at hl 1 rfl) ?_
          exact hret 61 ls _ _ _ (M, L) dX3_yes_61 (⟨rfl, (if_pos c1).symm⟩) hW
        · exact absurd (nI_le (Nat.le_refl 64) (by decide)) c2
      | succ q ih =>
        intro i hi ls hl
        refine lv_iload hx hb dX3_yes_30 (lv_at hl 0 rfl) ?_
        refine lv_bipush (v := 64) hx hb dX3_yes_32 (by decide) ?_
        refine lv_icmp_ge (tgt := 60) hx hb dX3_yes_34 (by decide) (fun c2 => ?_) (fun c2 => ?_)
        · exact absurd c2 (nI_ge (b := 64) (by omega) (by decide))
        · skip
          refine lv_iload hx hb dX3_yes_37 (lv_at hl 0 rfl) ?_
          refine lv_iload_n hx hb dX3_yes_39 rfl (lv_at hl 2 rfl) ?_
          refine lv_ishr hx hb dX3_yes_40 ?_
          refine lv_iconst (v := 1) hx hb dX3_yes_41 (by decide) ?_
          refine lv_iand hx hb dX3_yes_42 ?_
          refine lv_iconst (v := 1) hx hb dX3_yes_43 (by decide) ?_
          refine lv_icmp_ne (tgt := 54) hx hb dX3_yes_44 (by decide) (fun c3 => ?_) (fun c3 => ?_)
          · skip
            rw [ybF_n c3] at hl
            refine lv_iinc (v := nI (i + 1)) (lv' := [(4, .int (nI (i + 1))), (2, .long (ybF q0 (i + 1))), (0, .int q0)]) hx hb dX3_yes_54 hl (k := 0) rfl (nI_1 i) (by decide) rfl (fun ls hl => ?_)
            refine lv_goto (tgt := 30) hx hb dX3_yes_57 (by decide) ?_
            exact ih (i + 1) (by omega) ls (lv_sub hl [0, 1, 2] rfl)
          · skip
            refine lv_lload_n hx hb dX3_yes_47 rfl (lv_at hl 1 rfl) ?_
            refine lv_lconst (v := 1) hx hb dX3_yes_48 (by decide) ?_
            refine lv_iload hx hb dX3_yes_49 (lv_at hl 0 rfl) ?_
            refine lv_lshl hx hb dX3_yes_51 rfl ?_
            refine lv_lor hx hb dX3_yes_52 ?_
            rw [ybF_p (c3)]
            refine lv_lstore_n (lv' := [(2, .long (ybF q0 (i + 1))), (4, .int (nI i)), (0, .int q0)]) hx hb dX3_yes_53 rfl hl (by decide) rfl (fun ls hl => ?_)
            refine lv_iinc (v := nI (i + 1)) (lv' := [(4, .int (nI (i + 1))), (2, .long (ybF q0 (i + 1))), (0, .int q0)]) hx hb dX3_yes_54 hl (k := 1) rfl (nI_1 i) (by decide) rfl (fun ls hl => ?_)
            refine lv_goto (tgt := 30) hx hb dX3_yes_57 (by decide) ?_
            exact ih (i + 1) (by omega) ls (lv_sub hl [0, 1, 2] rfl)
    exact loop 64 0 (by decide) ls (lv_sub hl [0, 1, 2] rfl)
  · skip
    refine lv_iload_n hx hb dX3_yes_5 rfl (lv_at hl 1 rfl) ?_
    refine lv_iload_n hx hb dX3_yes_6 rfl (lv_at hl 0 rfl) ?_
    refine lv_bipush (v := 6) hx hb dX3_yes_7 (by decide) ?_
    refine lv_isub hx hb dX3_yes_9 ?_
    refine lv_ishr hx hb dX3_yes_10 ?_
    refine lv_iconst (v := 1) hx hb dX3_yes_11 (by decide) ?_
    refine lv_iand hx hb dX3_yes_12 ?_
    refine lv_iconst (v := 1) hx hb dX3_yes_13 (by decide) ?_
    refine lv_icmp_ne (tgt := 23) hx hb dX3_yes_14 (by decide) (fun c2 => ?_) (fun c2 => ?_)
    · skip
      refine lv_lconst (v := 0) hx hb dX3_yes_23 (by decide) ?_
      exact hret 24 ls _ _ _ (M, L) dX3_yes_24 (⟨rfl, by rw [ysF, if_neg c1, if_neg c2]⟩) hW
    · skip
      refine lv_ldc2 (v := -1) hx hb hown (hts (.constantLong RX3 56 (-1)) (by decide +kernel)) dX3_yes_17 ?_
      refine lv_goto (tgt := 24) hx hb dX3_yes_20 (by decide) ?_
      exact hret 24 ls _ _ _ (M, L) dX3_yes_24 (⟨rfl, by rw [ysF, if_neg c1, if_pos (c2)]⟩) hW
