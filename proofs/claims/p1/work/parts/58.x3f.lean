theorem lgc_0 {x y : Int64} : lg_cmp x y = 0 ↔ x = y := by
  unfold lg_cmp
  constructor
  · intro h
    split at h
    · exact absurd h (by decide)
    · split at h
      · assumption
      · exact absurd h (by decide)
  · intro h
    rw [h, if_neg (Int64.lt_irrefl), if_pos rfl]

abbrev rm_m_isAll : Room := { frames := 0, cells := 0, slots := 0, locals := 0 }
set_option maxHeartbeats 4000000 in
set_option maxRecDepth 100000 in
theorem c_m_isAll (l : Launch) (D : va_G) (I Z J : ClassId) (ad : Nat → Nat) (hI : mI ad) (M : Nat → Nat → Int32) (L : Nat → Nat → Int64) (sz : Nat) (f0 : Nat) (hf0 : f0 + 4 ≤ 40) (wd : Int64) : Met l yX3_isAll wsX3_isAll rm_m_isAll (va_Pc [.ref (ad 10), .int (nI f0), .long wd] (mU D I Z J ad sz M L)) (va_Qi (fun (r : Int32) (u : mU8) => u = (M, L) ∧ r = b2 (∀ k : Nat, k < 4 → L 10 (f0 + k) = wd)) (fun (u : mU8) t => mP D I Z J ad u.1 u.2 t.heap) (mA ad sz)) 0 0 (mA ad sz) := by
  refine mMet_z (cc := cX3_isAll) (maxL := 5) hI (by decide) rfl rfl (Nat.le_of_ble_eq_true rfl) (lv := [(0, .ref (ad 10)), (1, .int (nI f0)), (2, .long wd)]) rfl ?_
  intro p e s m args below meth c Q A ls hsz C0 hW hl hret
  obtain ⟨hx, hb, hml, hts, hown, hlocks, hK, hDa, hA, hargs⟩ := C0
  refine lv_iconst (v := 0) hx hb dX3_isAll_0 (by decide) ?_
  refine lv_istore (lv' := [(4, .int 0), (0, .ref (ad 10)), (1, .int (nI f0)), (2, .long wd)]) hx hb dX3_isAll_1 hl (by decide) rfl (fun ls hl => ?_)
  have loop : ∀ q i : Nat, i + q = 4 → (∀ k : Nat, k < i → L 10 (f0 + k) = wd) → ∀ (ls : Array Slot), lv_has ls 5 [(4, .int (nI i)), (0, .ref (ad 10)), (1, .int (nI f0)), (2, .long wd)] → W p l e rm_m_isAll s m args below meth c s.heap [] 0 0 Q (F0 m 3 ls []) := by
    intro q
    induction q with
    | zero =>
      intro i hi hp ls hl
      obtain rfl : i = 4 := by omega
      refine lv_iload hx hb dX3_isAll_3 (lv_at hl 0 rfl) ?_
      refine lv_iconst (v := 4) hx hb dX3_isAll_5 (by decide) ?_
      refine lv_icmp_ge (tgt := 28) hx hb dX3_isAll_6 (by decide) (fun c1 => ?_) (fun c1 => ?_)
      · skip
        refine lv_iconst (v := 1) hx hb dX3_isAll_28 (by decide) ?_
        exact hret 29 ls _ _ _ (M, L) dX3_isAll_29 (⟨rfl, by rw [b2, if_pos hp]⟩) (Or.inr rfl) hW
      · exact absurd (nI_le (Nat.le_refl 4) (by decide)) c1
    | succ q ih =>
      intro i hi hp ls hl
      refine lv_iload hx hb dX3_isAll_3 (lv_at hl 0 rfl) ?_
      refine lv_iconst (v := 4) hx hb dX3_isAll_5 (by decide) ?_
      refine lv_icmp_ge (tgt := 28) hx hb dX3_isAll_6 (by decide) (fun c1 => ?_) (fun c1 => ?_)
      · exact absurd c1 (nI_ge (b := 4) (by omega) (by decide))
      · skip
        refine lv_aload_n hx hb dX3_isAll_9 rfl (lv_at hl 1 rfl) ?_
        refine lv_iload_n hx hb dX3_isAll_10 rfl (lv_at hl 2 rfl) ?_
        refine lv_iload hx hb dX3_isAll_11 (lv_at hl 0 rfl) ?_
        refine lv_iadd hx hb dX3_isAll_13 ?_
        refine mr_jald hx hb hK hW 10 (by decide) rfl (f0 + i) (by omega) (by decide) (nI_add f0 i) dX3_isAll_14 ?_
        refine lv_lload_n hx hb dX3_isAll_15 rfl (lv_at hl 3 rfl) ?_
        refine W.lcmp hx hb dX3_isAll_16 ?_
        refine lv_if_eq (tgt := 22) hx hb dX3_isAll_17 (by decide) (fun c2 => ?_) (fun c2 => ?_)
        · skip
          refine lv_iinc (v := nI (i + 1)) (lv' := [(4, .int (nI (i + 1))), (0, .ref (ad 10)), (1, .int (nI f0)), (2, .long wd)]) hx hb dX3_isAll_22 hl (k := 0) rfl (nI_1 i) (by decide) rfl (fun ls hl => ?_)
          refine lv_goto (tgt := 3) hx hb dX3_isAll_25 (by decide) ?_
          exact ih (i + 1) (by omega) (fun k hk => if h : k = i then by rw [h]; exact lgc_0.mp c2 else hp k (by omega)) ls (lv_sub hl [0, 1, 2, 3] rfl)
        · skip
          refine lv_iconst (v := 0) hx hb dX3_isAll_20 (by decide) ?_
          exact hret 21 ls _ _ _ (M, L) dX3_isAll_21 (⟨rfl, by rw [b2, if_neg (fun h => c2 (lgc_0.mpr (h i (by omega))))]⟩) (Or.inl rfl) hW
  exact loop 4 0 (by decide) (fun k hk => absurd hk (Nat.not_lt_zero k)) ls (lv_sub hl [0, 1, 2, 3] rfl)
