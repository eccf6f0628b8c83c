theorem l_and (v : Int32) : ∃ a : Nat, a < 2 ^ 31 ∧ v &&& 2147483647 = nI a := by
  refine ⟨v.toBitVec.toNat % 2147483648, by omega, ?_⟩
  apply Int32.toBitVec_inj.mp
  apply BitVec.eq_of_toNat_eq
  rw [Int32.toBitVec_and, BitVec.toNat_and]
  show v.toBitVec.toNat &&& 2147483647 = (BitVec.ofNat 32 _).toNat
  rw [BitVec.toNat_ofNat, Nat.mod_eq_of_lt (a := v.toBitVec.toNat % 2147483648) (by omega)]
  exact Nat.and_two_pow_sub_one_eq_mod _ 31
theorem h_U_U {C : hC} {a : Nat} {e e' : va_E} : h_U (h_U C a e) a e' = h_U C a e' := by
  funext b
  by_cases h : b = a
  · rw [h, h_U_at, h_U_at]
  · rw [h_U_ne h, h_U_ne h, h_U_ne h]
theorem h_ne {C : hC} {a q : Nat} {e : va_E} (ha : C a = some e) (hq : C q = none) : a ≠ q := fun h => by rw [h, hq] at ha; cases ha
abbrev rm_l_below : Room := { frames := 0, cells := 0, slots := 0, locals := 4000 }
set_option maxHeartbeats 4000000 in
set_option maxRecDepth 100000 in
/-- a number below n -/
theorem c_l_below (l : Launch) (D : va_G) (cs : Nat → ClassId) (C : hC) (sz : Nat) (v : Int32) (n : Nat) (hn : 0 < n) (hn2 : n < 2 ^ 31) : Met l yL_below wsL_below rm_l_below (va_Pc [.int v, .int (nI n)] (hU D cs C sz)) (va_Qi (fun (r : Int32) (u : hC) => u = C ∧ ∃ k : Nat, k < n ∧ r = nI k) (fun u t => h_H D (h_A C sz) u t.heap) (h_A C sz)) 0 0 (h_A C sz) := by
  refine hMet_i (cc := cL_below) (maxL := 2) (by decide) rfl RL rfl (Nat.le_of_ble_eq_true rfl) (lv := [(0, .int v), (1, .int (nI n))]) rfl ?_
  intro p e s m args below meth c Q A ls hsz C0 hH hS hl hret
  obtain ⟨hx, hb, hml, hts, hown, hlocks, hK, hN, hA, hargs⟩ := C0
  refine lv_iload_n hx hb dL_below_0 rfl (lv_at hl 0 rfl) ?_
  refine lv_ldc (v := 2147483647) hx hb hown (hts (.constant RL 7 2147483647) (by decide +kernel)) dL_below_1 ?_
  refine lv_iand hx hb dL_below_3 ?_
  obtain ⟨a, ha, ea⟩ := l_and v
  rw [ea]
  refine lv_iload_n hx hb dL_below_4 rfl (lv_at hl 1 rfl) ?_
  refine lv_irem hx hb dL_below_5 (nI_ne0 hn hn2) ?_
  rw [pk_rem ha hn hn2]
  exact hret 6 ls _ _ 0 0 _ C dL_below_6 (by first | decide | omega) (by first | decide | omega) (⟨rfl, a % n, Nat.mod_lt _ hn, rfl⟩) hH hS

abbrev rm_l_says : Room := { frames := 0, cells := 0, slots := 0, locals := 4000 }
set_option maxHeartbeats 4000000 in
set_option maxRecDepth 100000 in
/-- what four longs say to an answer -/
theorem c_l_says (l : Launch) (D : va_G) (cs : Nat → ClassId) (C : hC) (sz : Nat) (a : Nat) (F : Nat → Int64) (f : Nat → Bool) (ha : C a = some (.inl (cs 1, 4, .inr (.inl F)))) (hf : j_S F f) (k : Nat) (hk : k < 256) : Met l yL_says wsL_says rm_l_says (va_Pc [.ref a, .int (nI k)] (hU D cs C sz)) (va_Qi (fun (r : Int32) (u : hC) => u = C ∧ r = b2 (f k = true)) (fun u t => h_H D (h_A C sz) u t.heap) (h_A C sz)) 0 0 (h_A C sz) := by
  refine hMet_z (cc := cL_says) (maxL := 2) (by decide) rfl RL rfl (Nat.le_of_ble_eq_true rfl) (lv := [(0, .ref a), (1, .int (nI k))]) rfl ?_
  intro p e s m args below meth c Q A ls hsz C0 hH hS hl hret
  obtain ⟨hx, hb, hml, hts, hown, hlocks, hK, hN, hA, hargs⟩ := C0
  refine lv_aload_n hx hb dL_says_0 rfl (lv_at hl 0 rfl) ?_
  refine lv_iload_n hx hb dL_says_1 rfl (lv_at hl 1 rfl) ?_
  refine lv_bipush (v := 6) hx hb dL_says_2 (by decide) ?_
  refine lv_ishr hx hb dL_says_4 ?_
  refine h_lald hx hb hK.1 hH ha 1 rfl (k / 64) (by omega) (by decide) (j_sh2 k hk) dL_says_5 ?_
  refine lv_iload_n hx hb dL_says_6 rfl (lv_at hl 1 rfl) ?_
  refine lv_bipush (v := 63) hx hb dL_says_7 (by decide) ?_
  refine lv_iand hx hb dL_says_9 ?_
  rw [j_sh1 k hk]
  refine lv_lushr hx hb dL_says_10 rfl ?_
  refine lv_lconst (v := 1) hx hb dL_says_11 (by decide) ?_
  refine lv_land hx hb dL_says_12 ?_
  refine lv_lconst (v := 1) hx hb dL_says_13 (by decide) ?_
  refine W.lcmp hx hb dL_says_14 ?_
  refine lv_if_ne (tgt := 22) hx hb dL_says_15 (by decide) (fun c1 => ?_) (fun c1 => ?_)
  · skip
    refine lv_iconst (v := 0) hx hb dL_says_22 (by decide) ?_
    have hv : f k = false := by
      rw [hf.2 k hk]
      rcases hj : j_b (F (k / 64)) (k % 64) with _ | _
      · rfl
      · exact absurd (lgc_0.mpr ((j_says (Nat.mod_lt _ (by decide))).mpr hj)) c1
    exact hret 23 ls _ _ 0 0 0 C dL_says_23 (by first | decide | omega) (by first | decide | omega) (⟨⟨rfl, by rw [hv]; rfl⟩, Or.inl rfl⟩) hH hS
  · skip
    refine lv_iconst (v := 1) hx hb dL_says_18 (by decide) ?_
    refine lv_goto (tgt := 23) hx hb dL_says_19 (by decide) ?_
    have hv : f k = true := by
      rw [hf.2 k hk]
      exact (j_says (Nat.mod_lt _ (by decide))).mp (lgc_0.mp c1)
    exact hret 23 ls _ _ 0 0 1 C dL_says_23 (by first | decide | omega) (by first | decide | omega) (⟨⟨rfl, by rw [hv]; rfl⟩, Or.inr rfl⟩) hH hS

abbrev rm_l_set : Room := { frames := 0, cells := 0, slots := 0, locals := 4000 }
set_option maxHeartbeats 4000000 in
set_option maxRecDepth 100000 in
/-- an answer more to which four longs say yes -/
theorem c_l_set (l : Launch) (D : va_G) (cs : Nat → ClassId) (C : hC) (sz : Nat) (a : Nat) (F : Nat → Int64) (ha : C a = some (.inl (cs 1, 4, .inr (.inl F)))) (k : Nat) (hk : k < 256) : Met l yL_set wsL_set rm_l_set (va_Pc [.ref a, .int (nI k)] (hU D cs C sz)) (va_Qv (fun (u : hC) => u = h_U C a (.inl (cs 1, 4, .inr (.inl (vp_updL F (k / 64) (F (k / 64) ||| ((1 : Int64) <<< ((nI (k % 64)).toInt64 &&& 63)))))))) (fun u t => h_H D (h_A C sz) u t.heap) (h_A C sz)) 0 0 (h_A C sz) := by
  refine hMet_v (cc := cL_set) (maxL := 2) (by decide) rfl RL rfl (Nat.le_of_ble_eq_true rfl) (lv := [(0, .ref a), (1, .int (nI k))]) rfl ?_
  intro p e s m args below meth c Q A ls hsz C0 hnm hH hS hl hret
  obtain ⟨hx, hb, hml, hts, hown, hlocks, hK, hN, hA, hargs⟩ := C0
  refine lv_aload_n hx hb dL_set_0 rfl (lv_at hl 0 rfl) ?_
  refine lv_iload_n hx hb dL_set_1 rfl (lv_at hl 1 rfl) ?_
  refine lv_bipush (v := 6) hx hb dL_set_2 (by decide) ?_
  refine lv_ishr hx hb dL_set_4 ?_
  refine lv_dup2_11 hx hb dL_set_5 rfl rfl ?_
  refine h_lald hx hb hK.1 hH ha 1 rfl (k / 64) (by omega) (by decide) (j_sh2 k hk) dL_set_6 ?_
  refine lv_lconst (v := 1) hx hb dL_set_7 (by decide) ?_
  refine lv_iload_n hx hb dL_set_8 rfl (lv_at hl 1 rfl) ?_
  refine lv_bipush (v := 63) hx hb dL_set_9 (by decide) ?_
  refine lv_iand hx hb dL_set_11 ?_
  rw [j_sh1 k hk]
  refine lv_lshl hx hb dL_set_12 rfl ?_
  refine lv_lor hx hb dL_set_13 ?_
  refine h_last hx hb hK.1 hH hS ha 1 rfl (k / 64) (by omega) (by decide) (j_sh2 k hk) dL_set_14 (fun H locs hH hS => ?_)
  exact hret 15 ls _ _ 0 0 _ dL_set_15 (by first | decide | omega) (by first | decide | omega) (rfl) hH hS

abbrev rm_l_alike : Room := { frames := 0, cells := 0, slots := 0, locals := 4000 }
set_option maxHeartbeats 4000000 in
set_option maxRecDepth 100000 in
/-- whether two say the same -/
theorem c_l_alike (l : Launch) (D : va_G) (cs : Nat → ClassId) (C : hC) (sz : Nat) (a b : Nat) (F G : Nat → Int64) (f g : Nat → Bool) (ha : C a = some (.inl (cs 1, 4, .inr (.inl F)))) (hb9 : C b = some (.inl (cs 1, 4, .inr (.inl G)))) (hf : j_S F f) (hg : j_S G g) : Met l yL_alike wsL_alike rm_l_alike (va_Pc [.ref a, .ref b] (hU D cs C sz)) (va_Qi (fun (r : Int32) (u : hC) => u = C ∧ ((r = 1 ∧ f = g) ∨ (r = 0 ∧ f ≠ g))) (fun u t => h_H D (h_A C sz) u t.heap) (h_A C sz)) 0 0 (h_A C sz) := by
  refine hMet_z (cc := cL_alike) (maxL := 2) (by decide) rfl RL rfl (Nat.le_of_ble_eq_true rfl) (lv := [(0, .ref a), (1, .ref b)]) rfl ?_
  intro p e s m args below meth c Q A ls hsz C0 hH hS hl hret
  obtain ⟨hx, hb, hml, hts, hown, hlocks, hK, hN, hA, hargs⟩ := C0
  refine lv_aload_n hx hb dL_alike_0 rfl (lv_at hl 0 rfl) ?_
  refine lv_iconst (v := 0) hx hb dL_alike_1 (by decide) ?_
  refine h_lald hx hb hK.1 hH ha 1 rfl 0 (by decide) (by decide) rfl dL_alike_2 ?_
  refine lv_aload_n hx hb dL_alike_3 rfl (lv_at hl 1 rfl) ?_
  refine lv_iconst (v := 0) hx hb dL_alike_4 (by decide) ?_
  refine h_lald hx hb hK.1 hH hb9 1 rfl 0 (by decide) (by decide) rfl dL_alike_5 ?_
  refine W.lcmp hx hb dL_alike_6 ?_
  refine lv_if_ne (tgt := 44) hx hb dL_alike_7 (by decide) (fun c1 => ?_) (fun c1 => ?_)
  · skip
    refine lv_iconst (v := 0) hx hb dL_alike_44 (by decide) ?_
    exact hret 45 ls _ _ 0 0 0 C dL_alike_45 (by first | decide | omega) (by first | decide | omega) (⟨⟨rfl, Or.inr ⟨rfl, fun e => c1 (lgc_0.mpr ((j_alike hf hg).mpr e).1)⟩⟩, Or.inl rfl⟩) hH hS
  · skip
    refine lv_aload_n hx hb dL_alike_10 rfl (lv_at hl 0 rfl) ?_
    refine lv_iconst (v := 1) hx hb dL_alike_11 (by decide) ?_
    refine h_lald hx hb hK.1 hH ha 1 rfl 1 (by decide) (by decide) rfl dL_alike_12 ?_
    refine lv_aload_n hx hb dL_alike_13 rfl (lv_at hl 1 rfl) ?_
    refine lv_iconst (v := 1) hx hb dL_alike_14 (by decide) ?_
    refine h_lald hx hb hK.1 hH hb9 1 rfl 1 (by decide) (by decide) rfl dL_alike_15 ?_
    refine W.lcmp hx hb dL_alike_16 ?_
    refine lv_if_ne (tgt := 44) hx hb dL_alike_17 (by decide) (fun c2 => ?_) (fun c2 => ?_)
    · skip
      refine lv_iconst (v := 0) hx hb dL_alike_44 (by decide) ?_
      exact hret 45 ls _ _ 0 0 0 C dL_alike_45 (by first | decide | omega) (by first | decide | omega) (⟨⟨rfl, Or.inr ⟨rfl, fun e => c2 (lgc_0.mpr ((j_alike hf hg).mpr e).2.1)⟩⟩, Or.inl rfl⟩) hH hS
    · skip
      refine lv_aload_n hx hb dL_alike_20 rfl (lv_at hl 0 rfl) ?_
      refine lv_iconst (v := 2) hx hb dL_alike_21 (by decide) ?_
      refine h_lald hx hb hK.1 hH ha 1 rfl 2 (by decide) (by decide) rfl dL_alike_22 ?_
      refine lv_aload_n hx hb dL_alike_23 rfl (lv_at hl 1 rfl) ?_
      refine lv_iconst (v := 2) hx hb dL_alike_24 (by decide) ?_
      refine h_lald hx hb hK.1 hH hb9 1 rfl 2 (by decide) (by decide) rfl dL_alike_25 ?_
      refine W.lcmp hx hb dL_alike_26 ?_
      refine lv_if_ne (tgt := 44) hx hb dL_alike_27 (by decide) (fun c3 => ?_) (fun c3 => ?_)
      · skip
        refine lv_iconst (v := 0) hx hb dL_alike_44 (by decide) ?_
        exact hret 45 ls _ _ 0 0 0 C dL_alike_45 (by first | decide | omega) (by first | decide | omega) (⟨⟨rfl, Or.inr ⟨rfl, fun e => c3 (lgc_0.mpr ((j_alike hf hg).mpr e).2.2.1)⟩⟩, Or.inl rfl⟩) hH hS
      · skip
        refine lv_aload_n hx hb dL_alike_30 rfl (lv_at hl 0 rfl) ?_
        refine lv_iconst (v := 3) hx hb dL_alike_31 (by decide) ?_
        refine h_lald hx hb hK.1 hH ha 1 rfl 3 (by decide) (by decide) rfl dL_alike_32 ?_
        refine lv_aload_n hx hb dL_alike_33 rfl (lv_at hl 1 rfl) ?_
        refine lv_iconst (v := 3) hx hb dL_alike_34 (by decide) ?_
        refine h_lald hx hb hK.1 hH hb9 1 rfl 3 (by decide) (by decide) rfl dL_alike_35 ?_
        refine W.lcmp hx hb dL_alike_36 ?_
        refine lv_if_ne (tgt := 44) hx hb dL_alike_37 (by decide) (fun c4 => ?_) (fun c4 => ?_)
        · skip
          refine lv_iconst (v := 0) hx hb dL_alike_44 (by decide) ?_
          exact hret 45 ls _ _ 0 0 0 C dL_alike_45 (by first | decide | omega) (by first | decide | omega) (⟨⟨rfl, Or.inr ⟨rfl, fun e => c4 (lgc_0.mpr ((j_alike hf hg).mpr e).2.2.2)⟩⟩, Or.inl rfl⟩) hH hS
        · skip
          refine lv_iconst (v := 1) hx hb dL_alike_40 (by decide) ?_
          refine lv_goto (tgt := 45) hx hb dL_alike_41 (by decide) ?_
          exact hret 45 ls _ _ 0 0 1 C dL_alike_45 (by first | decide | omega) (by first | decide | omega) (⟨⟨rfl, Or.inl ⟨rfl, (j_alike hf hg).mp ⟨lgc_0.mp c1, lgc_0.mp c2, lgc_0.mp c3, lgc_0.mp c4⟩⟩⟩, Or.inr rfl⟩) hH hS

abbrev rm_l_leafOf : Room := { frames := 0, cells := 0, slots := 0, locals := 4000 }
set_option maxHeartbeats 4000000 in
set_option maxRecDepth 100000 in
/-- whether it is a leaf -/
theorem c_l_leafOf (l : Launch) (D : va_G) (cs : Nat → ClassId) (C : hC) (sz : Nat) (a : Nat) (F : Nat → Int64) (f : Nat → Bool) (ha : C a = some (.inl (cs 1, 4, .inr (.inl F)))) (hf : j_S F f) : Met l yL_leafOf wsL_leafOf rm_l_leafOf (va_Pc [.ref a] (hU D cs C sz)) (va_Qi (fun (r : Int32) (u : hC) => u = C ∧ ((f = b_0 ∧ r = -1) ∨ (f = b_1 ∧ r = -2) ∨ (¬ r_l f ∧ r = 0))) (fun u t => h_H D (h_A C sz) u t.heap) (h_A C sz)) 0 0 (h_A C sz) := by
  refine hMet_i (cc := cL_leafOf) (maxL := 1) (by decide) rfl RL rfl (Nat.le_of_ble_eq_true rfl) (lv := [(0, .ref a)]) rfl ?_
  intro p e s m args below meth c Q A ls hsz C0 hH hS hl hret
  obtain ⟨hx, hb, hml, hts, hown, hlocks, hK, hN, hA, hargs⟩ := C0
  have rest9 : f ≠ b_0 → ∀ (ls : Array Slot), lv_has ls 1 [(0, .ref a)] → W p l e rm_l_leafOf s m args below meth c s.heap [] 0 0 Q (F0 m 34 ls []) := by
    intro h0 ls hl
    refine lv_aload_n hx hb dL_leafOf_34 rfl (lv_at hl 0 rfl) ?_
    refine lv_iconst (v := 0) hx hb dL_leafOf_35 (by decide) ?_
    refine h_lald hx hb hK.1 hH ha 1 rfl 0 (by decide) (by decide) rfl dL_leafOf_36 ?_
    refine lv_ldc2 (v := -1) hx hb hown (hts (.constantLong RL 19 (-1)) (by decide +kernel)) dL_leafOf_37 ?_
    refine W.lcmp hx hb dL_leafOf_40 ?_
    refine lv_if_ne (tgt := 79) hx hb dL_leafOf_41 (by decide) (fun c1 => ?_) (fun c1 => ?_)
    · skip
      refine lv_iconst (v := 0) hx hb dL_leafOf_79 (by decide) ?_
      exact hret 80 ls _ _ 0 0 0 C dL_leafOf_80 (by first | decide | omega) (by first | decide | omega) (⟨rfl, Or.inr (Or.inr ⟨fun h => h.elim h0 (fun e => c1 (lgc_0.mpr ((j_alike hf j_S1).mpr e).1)), rfl⟩)⟩) hH hS
    · skip
      refine lv_aload_n hx hb dL_leafOf_44 rfl (lv_at hl 0 rfl) ?_
      refine lv_iconst (v := 1) hx hb dL_leafOf_45 (by decide) ?_
      refine h_lald hx hb hK.1 hH ha 1 rfl 1 (by decide) (by decide) rfl dL_leafOf_46 ?_
      refine lv_ldc2 (v := -1) hx hb hown (hts (.constantLong RL 19 (-1)) (by decide +kernel)) dL_leafOf_47 ?_
      refine W.lcmp hx hb dL_leafOf_50 ?_
      refine lv_if_ne (tgt := 79) hx hb dL_leafOf_51 (by decide) (fun c2 => ?_) (fun c2 => ?_)
      · skip
        refine lv_iconst (v := 0) hx hb dL_leafOf_79 (by decide) ?_
        exact hret 80 ls _ _ 0 0 0 C dL_leafOf_80 (by first | decide | omega) (by first | decide | omega) (⟨rfl, Or.inr (Or.inr ⟨fun h => h.elim h0 (fun e => c2 (lgc_0.mpr ((j_alike hf j_S1).mpr e).2.1)), rfl⟩)⟩) hH hS
      · skip
        refine lv_aload_n hx hb dL_leafOf_54 rfl (lv_at hl 0 rfl) ?_
        refine lv_iconst (v := 2) hx hb dL_leafOf_55 (by decide) ?_
        refine h_lald hx hb hK.1 hH ha 1 rfl 2 (by decide) (by decide) rfl dL_leafOf_56 ?_
        refine lv_ldc2 (v := -1) hx hb hown (hts (.constantLong RL 19 (-1)) (by decide +kernel)) dL_leafOf_57 ?_
        refine W.lcmp hx hb dL_leafOf_60 ?_
        refine lv_if_ne (tgt := 79) hx hb dL_leafOf_61 (by decide) (fun c3 => ?_) (fun c3 => ?_)
        · skip
          refine lv_iconst (v := 0) hx hb dL_leafOf_79 (by decide) ?_
          exact hret 80 ls _ _ 0 0 0 C dL_leafOf_80 (by first | decide | omega) (by first | decide | omega) (⟨rfl, Or.inr (Or.inr ⟨fun h => h.elim h0 (fun e => c3 (lgc_0.mpr ((j_alike hf j_S1).mpr e).2.2.1)), rfl⟩)⟩) hH hS
        · skip
          refine lv_aload_n hx hb dL_leafOf_64 rfl (lv_at hl 0 rfl) ?_
          refine lv_iconst (v := 3) hx hb dL_leafOf_65 (by decide) ?_
          refine h_lald hx hb hK.1 hH ha 1 rfl 3 (by decide) (by decide) rfl dL_leafOf_66 ?_
          refine lv_ldc2 (v := -1) hx hb hown (hts (.constantLong RL 19 (-1)) (by decide +kernel)) dL_leafOf_67 ?_
          refine W.lcmp hx hb dL_leafOf_70 ?_
          refine lv_if_ne (tgt := 79) hx hb dL_leafOf_71 (by decide) (fun c4 => ?_) (fun c4 => ?_)
          · skip
            refine lv_iconst (v := 0) hx hb dL_leafOf_79 (by decide) ?_
            exact hret 80 ls _ _ 0 0 0 C dL_leafOf_80 (by first | decide | omega) (by first | decide | omega) (⟨rfl, Or.inr (Or.inr ⟨fun h => h.elim h0 (fun e => c4 (lgc_0.mpr ((j_alike hf j_S1).mpr e).2.2.2)), rfl⟩)⟩) hH hS
          · skip
            refine lv_bipush (v := -2) hx hb dL_leafOf_74 (by decide) ?_
            refine lv_goto (tgt := 80) hx hb dL_leafOf_76 (by decide) ?_
            exact hret 80 ls _ _ 0 0 (-2) C dL_leafOf_80 (by first | decide | omega) (by first | decide | omega) (⟨rfl, Or.inr (Or.inl ⟨(j_alike hf j_S1).mp ⟨lgc_0.mp c1, lgc_0.mp c2, lgc_0.mp c3, lgc_0.mp c4⟩, rfl⟩)⟩) hH hS
  refine lv_aload_n hx hb dL_leafOf_0 rfl (lv_at hl 0 rfl) ?_
  refine lv_iconst (v := 0) hx hb dL_leafOf_1 (by decide) ?_
  refine h_lald hx hb hK.1 hH ha 1 rfl 0 (by decide) (by decide) rfl dL_leafOf_2 ?_
  refine lv_lconst (v := 0) hx hb dL_leafOf_3 (by decide) ?_
  refine W.lcmp hx hb dL_leafOf_4 ?_
  refine lv_if_ne (tgt := 34) hx hb dL_leafOf_5 (by decide) (fun c1 => ?_) (fun c1 => ?_)
  · exact rest9 (fun e => c1 (lgc_0.mpr ((j_alike hf j_S0).mpr e).1)) ls hl
  · skip
    refine lv_aload_n hx hb dL_leafOf_8 rfl (lv_at hl 0 rfl) ?_
    refine lv_iconst (v := 1) hx hb dL_leafOf_9 (by decide) ?_
    refine h_lald hx hb hK.1 hH ha 1 rfl 1 (by decide) (by decide) rfl dL_leafOf_10 ?_
    refine lv_lconst (v := 0) hx hb dL_leafOf_11 (by decide) ?_
    refine W.lcmp hx hb dL_leafOf_12 ?_
    refine lv_if_ne (tgt := 34) hx hb dL_leafOf_13 (by decide) (fun c2 => ?_) (fun c2 => ?_)
    · exact rest9 (fun e => c2 (lgc_0.mpr ((j_alike hf j_S0).mpr e).2.1)) ls hl
    · skip
      refine lv_aload_n hx hb dL_leafOf_16 rfl (lv_at hl 0 rfl) ?_
      refine lv_iconst (v := 2) hx hb dL_leafOf_17 (by decide) ?_
      refine h_lald hx hb hK.1 hH ha 1 rfl 2 (by decide) (by decide) rfl dL_leafOf_18 ?_
      refine lv_lconst (v := 0) hx hb dL_leafOf_19 (by decide) ?_
      refine W.lcmp hx hb dL_leafOf_20 ?_
      refine lv_if_ne (tgt := 34) hx hb dL_leafOf_21 (by decide) (fun c3 => ?_) (fun c3 => ?_)
      · exact rest9 (fun e => c3 (lgc_0.mpr ((j_alike hf j_S0).mpr e).2.2.1)) ls hl
      · skip
        refine lv_aload_n hx hb dL_leafOf_24 rfl (lv_at hl 0 rfl) ?_
        refine lv_iconst (v := 3) hx hb dL_leafOf_25 (by decide) ?_
        refine h_lald hx hb hK.1 hH ha 1 rfl 3 (by decide) (by decide) rfl dL_leafOf_26 ?_
        refine lv_lconst (v := 0) hx hb dL_leafOf_27 (by decide) ?_
        refine W.lcmp hx hb dL_leafOf_28 ?_
        refine lv_if_ne (tgt := 34) hx hb dL_leafOf_29 (by decide) (fun c4 => ?_) (fun c4 => ?_)
        · exact rest9 (fun e => c4 (lgc_0.mpr ((j_alike hf j_S0).mpr e).2.2.2)) ls hl
        · skip
          refine lv_iconst (v := -1) hx hb dL_leafOf_32 (by decide) ?_
          exact hret 33 ls _ _ 0 0 (-1) C dL_leafOf_33 (by first | decide | omega) (by first | decide | omega) (⟨rfl, Or.inl ⟨(j_alike hf j_S0).mp ⟨lgc_0.mp c1, lgc_0.mp c2, lgc_0.mp c3, lgc_0.mp c4⟩, rfl⟩⟩) hH hS
