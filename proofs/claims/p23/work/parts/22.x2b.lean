def exF (M : Nat → Nat → Int32) (i p0 : Nat) : Nat → Nat → Int32 := mst (mst M i p0 (M i (p0 + 1))) i (p0 + 1) (M i p0)
abbrev rm_exchange : Room := { frames := 0, cells := 0, slots := 0, locals := 0 }
set_option maxHeartbeats 4000000 in
set_option maxRecDepth 100000 in
/-- two neighbours of a row of eight change places -/
theorem c_exchange (l : Launch) (D : va_G) (I Z F : ClassId) (ad : Nat → Nat) (hI : cI ad) (M : Nat → Nat → Int32) (sz : Nat) (i : Nat) (hi : i < 97) (he : cE I Z F ad M i = .inl (I, 8, .inl (M i))) (p0 : Nat) (hp0 : p0 < 7) : Met l yX2_exchange wsX2_exchange rm_exchange (va_Pc [.ref (ad i), .int (nI p0)] (cU D I Z F ad sz M)) (va_Qv (fun (u : Nat → Nat → Int32) => u = exF M i p0) (fun u t => cP D I Z F ad u t.heap) (cA ad sz)) 0 0 (cA ad sz) := by
  refine cMet_v (cc := cX2_exchange) (maxL := 3) hI (by decide) rfl ⟨rfl, rfl⟩ RX2 rfl (Nat.le_of_ble_eq_true rfl) (lv := [(0, .ref (ad i)), (1, .int (nI p0))]) rfl ?_
  intro p e s m args below meth c Q A ls hsz C0 hW hl hret
  obtain ⟨hx, hb, hml, hts, hown, hlocks, hK, hN, hDa, hA, hargs⟩ := C0
  refine lv_aload_n hx hb dX2_exchange_0 rfl (lv_at hl 0 rfl) ?_
  refine lv_iload_n hx hb dX2_exchange_1 rfl (lv_at hl 1 rfl) ?_
  refine cr_iald hx hb hK hW i (hi) (cE_arr he _) p0 (by omega) (by decide) rfl dX2_exchange_2 ?_
  refine lv_istore_n (lv' := [(2, .int (M i p0)), (0, .ref (ad i)), (1, .int (nI p0))]) hx hb dX2_exchange_3 rfl hl (by decide) rfl (fun ls hl => ?_)
  refine lv_aload_n hx hb dX2_exchange_4 rfl (lv_at hl 1 rfl) ?_
  refine lv_iload_n hx hb dX2_exchange_5 rfl (lv_at hl 2 rfl) ?_
  refine lv_aload_n hx hb dX2_exchange_6 rfl (lv_at hl 1 rfl) ?_
  refine lv_iload_n hx hb dX2_exchange_7 rfl (lv_at hl 2 rfl) ?_
  refine lv_iconst (v := 1) hx hb dX2_exchange_8 (by decide) ?_
  refine lv_iadd hx hb dX2_exchange_9 ?_
  rw [nI_1]
  refine cr_iald hx hb hK hW i (hi) (cE_arr he _) (p0 + 1) (by omega) (by decide) rfl dX2_exchange_10 ?_
  refine cr_iast hx hb hK hDa hW i (hi) (cE_arr he _) p0 (by omega) (by decide) rfl dX2_exchange_11 (fun H locs hW => ?_)
  refine lv_aload_n hx hb dX2_exchange_12 rfl (lv_at hl 1 rfl) ?_
  refine lv_iload_n hx hb dX2_exchange_13 rfl (lv_at hl 2 rfl) ?_
  refine lv_iconst (v := 1) hx hb dX2_exchange_14 (by decide) ?_
  refine lv_iadd hx hb dX2_exchange_15 ?_
  rw [nI_1]
  refine lv_iload_n hx hb dX2_exchange_16 rfl (lv_at hl 0 rfl) ?_
  refine cr_iast hx hb hK hDa hW i (hi) (cE_arr he _) (p0 + 1) (by omega) (by decide) rfl dX2_exchange_17 (fun H locs hW => ?_)
  exact hret 18 ls H locs _ dX2_exchange_18 rfl hW

def isF (a q : Int32) : Int32 := b2 ((a >>> (q &&& 31)) &&& 1 = 1)
abbrev rm_isYes : Room := { frames := 0, cells := 0, slots := 0, locals := 0 }
set_option maxHeartbeats 4000000 in
set_option maxRecDepth 100000 in
/-- the answer to a question -/
theorem c_isYes (l : Launch) (D : va_G) (I Z F : ClassId) (ad : Nat → Nat) (hI : cI ad) (M : Nat → Nat → Int32) (sz : Nat) (a q : Int32) : Met l yX2_isYes wsX2_isYes rm_isYes (va_Pc [.int a, .int q] (cU D I Z F ad sz M)) (va_Qi (fun (r : Int32) (u : Nat → Nat → Int32) => u = M ∧ r = isF a q) (fun u t => cP D I Z F ad u t.heap) (cA ad sz)) 0 0 (cA ad sz) := by
  refine cMet_z (cc := cX2_isYes) (maxL := 2) hI (by decide) rfl ⟨rfl, rfl⟩ RX2 rfl (Nat.le_of_ble_eq_true rfl) (lv := [(0, .int a), (1, .int q)]) rfl ?_
  intro p e s m args below meth c Q A ls hsz C0 hW hl hret
  obtain ⟨hx, hb, hml, hts, hown, hlocks, hK, hN, hDa, hA, hargs⟩ := C0
  refine lv_iload_n hx hb dX2_isYes_0 rfl (lv_at hl 0 rfl) ?_
  refine lv_iload_n hx hb dX2_isYes_1 rfl (lv_at hl 1 rfl) ?_
  refine lv_ishr hx hb dX2_isYes_2 ?_
  refine lv_iconst (v := 1) hx hb dX2_isYes_3 (by decide) ?_
  refine lv_iand hx hb dX2_isYes_4 ?_
  refine lv_iconst (v := 1) hx hb dX2_isYes_5 (by decide) ?_
  refine lv_icmp_ne (tgt := 13) hx hb dX2_isYes_6 (by decide) (fun c1 => ?_) (fun c1 => ?_)
  · skip
    refine lv_iconst (v := 0) hx hb dX2_isYes_13 (by decide) ?_
    exact hret 14 ls _ _ _ _ dX2_isYes_14 ⟨rfl, by rw [isF, b2, if_neg c1]⟩ (Or.inl rfl) hW
  · skip
    refine lv_iconst (v := 1) hx hb dX2_isYes_9 (by decide) ?_
    refine lv_goto (tgt := 14) hx hb dX2_isYes_10 (by decide) ?_
    exact hret 14 ls _ _ _ _ dX2_isYes_14 ⟨rfl, by rw [isF, b2, if_pos c1]⟩ (Or.inr rfl) hW

def waF (a q y : Int32) : Int32 := if y = 0 then a &&& ((1 <<< (q &&& 31)) ^^^ (-1)) else a ||| (1 <<< (q &&& 31))
abbrev rm_withAnswer : Room := { frames := 0, cells := 0, slots := 0, locals := 0 }
set_option maxHeartbeats 4000000 in
set_option maxRecDepth 100000 in
/-- answers with one of them given -/
theorem c_withAnswer (l : Launch) (D : va_G) (I Z F : ClassId) (ad : Nat → Nat) (hI : cI ad) (M : Nat → Nat → Int32) (sz : Nat) (a q y : Int32) : Met l yX2_withAnswer wsX2_withAnswer rm_withAnswer (va_Pc [.int a, .int q, .int y] (cU D I Z F ad sz M)) (va_Qi (fun (r : Int32) (u : Nat → Nat → Int32) => u = M ∧ r = waF a q y) (fun u t => cP D I Z F ad u t.heap) (cA ad sz)) 0 0 (cA ad sz) := by
  refine cMet_i (cc := cX2_withAnswer) (maxL := 4) hI (by decide) rfl ⟨rfl, rfl⟩ RX2 rfl (Nat.le_of_ble_eq_true rfl) (lv := [(0, .int a), (1, .int q), (2, .int y)]) rfl ?_
  intro p e s m args below meth c Q A ls hsz C0 hW hl hret
  obtain ⟨hx, hb, hml, hts, hown, hlocks, hK, hN, hDa, hA, hargs⟩ := C0
  refine lv_iconst (v := 1) hx hb dX2_withAnswer_0 (by decide) ?_
  refine lv_iload_n hx hb dX2_withAnswer_1 rfl (lv_at hl 1 rfl) ?_
  refine lv_ishl hx hb dX2_withAnswer_2 ?_
  refine lv_istore_n (lv' := [(3, .int (1 <<< (q &&& 31))), (0, .int a), (1, .int q), (2, .int y)]) hx hb dX2_withAnswer_3 rfl hl (by decide) rfl (fun ls hl => ?_)
  refine lv_iload_n hx hb dX2_withAnswer_4 rfl (lv_at hl 3 rfl) ?_
  refine lv_if_eq (tgt := 14) hx hb dX2_withAnswer_5 (by decide) (fun c1 => ?_) (fun c1 => ?_)
  · skip
    refine lv_iload_n hx hb dX2_withAnswer_14 rfl (lv_at hl 1 rfl) ?_
    refine lv_iload_n hx hb dX2_withAnswer_15 rfl (lv_at hl 0 rfl) ?_
    refine lv_iconst (v := -1) hx hb dX2_withAnswer_16 (by decide) ?_
    refine lv_ixor hx hb dX2_withAnswer_17 ?_
    refine lv_iand hx hb dX2_withAnswer_18 ?_
    exact hret 19 ls _ _ _ _ dX2_withAnswer_19 ⟨rfl, by rw [waF, if_pos c1]⟩ hW
  · skip
    refine lv_iload_n hx hb dX2_withAnswer_8 rfl (lv_at hl 1 rfl) ?_
    refine lv_iload_n hx hb dX2_withAnswer_9 rfl (lv_at hl 0 rfl) ?_
    refine lv_ior hx hb dX2_withAnswer_10 ?_
    refine lv_goto (tgt := 19) hx hb dX2_withAnswer_11 (by decide) ?_
    exact hret 19 ls _ _ _ _ dX2_withAnswer_19 ⟨rfl, by rw [waF, if_neg c1]⟩ hW

/-- two truths joined -/
def jnF (a b : Int32) (wh : Nat) : Int32 := match wh with
  | 0 => b2 (¬ a = 0 ∧ ¬ b = 0)
  | 1 => b2 (¬ a = 0 ∨ ¬ b = 0)
  | 2 => b2 (¬ a = b)
  | 3 => b2 (a = 0 ∨ b = 0)
  | 4 => b2 (a = 0 ∧ b = 0)
  | _ => b2 (a = b)
abbrev rm_joined : Room := { frames := 0, cells := 0, slots := 0, locals := 0 }
set_option maxHeartbeats 4000000 in
set_option maxRecDepth 100000 in
/-- two answers joined -/
theorem c_joined (l : Launch) (D : va_G) (I Z F : ClassId) (ad : Nat → Nat) (hI : cI ad) (M : Nat → Nat → Int32) (sz : Nat) (a b : Int32) (wh : Nat) (hwh : wh < 6) : Met l yX2_joined wsX2_joined rm_joined (va_Pc [.int a, .int b, .int (nI wh)] (cU D I Z F ad sz M)) (va_Qi (fun (r : Int32) (u : Nat → Nat → Int32) => u = M ∧ r = jnF a b wh) (fun u t => cP D I Z F ad u t.heap) (cA ad sz)) 0 0 (cA ad sz) := by
  refine cMet_z (cc := cX2_joined) (maxL := 3) hI (by decide) rfl ⟨rfl, rfl⟩ RX2 rfl (Nat.le_of_ble_eq_true rfl) (lv := [(0, .int a), (1, .int b), (2, .int (nI wh))]) rfl ?_
  intro p e s m args below meth c Q A ls hsz C0 hW hl hret
  obtain ⟨hx, hb, hml, hts, hown, hlocks, hK, hN, hDa, hA, hargs⟩ := C0
  rcases (show wh = 0 ∨ wh = 1 ∨ wh = 2 ∨ wh = 3 ∨ wh = 4 ∨ wh = 5 by omega) with rfl | rfl | rfl | rfl | rfl | rfl
  · skip
    refine lv_iload_n hx hb dX2_joined_0 rfl (lv_at hl 2 rfl) ?_
    refine lv_tableIn (off := 35) (tgt := 36) hx hb dX2_joined_1 (by decide) (by decide) rfl (by decide) ?_
    refine lv_iload_n hx hb dX2_joined_36 rfl (lv_at hl 0 rfl) ?_
    refine lv_if_eq (tgt := 48) hx hb dX2_joined_37 (by decide) (fun c1 => ?_) (fun c1 => ?_)
    · skip
      refine lv_iconst (v := 0) hx hb dX2_joined_48 (by decide) ?_
      exact hret 49 ls _ _ _ _ dX2_joined_49 ⟨rfl, by simp [jnF, b2, c1]⟩ (Or.inl rfl) hW
    · skip
      refine lv_iload_n hx hb dX2_joined_40 rfl (lv_at hl 1 rfl) ?_
      refine lv_if_eq (tgt := 48) hx hb dX2_joined_41 (by decide) (fun c2 => ?_) (fun c2 => ?_)
      · skip
        refine lv_iconst (v := 0) hx hb dX2_joined_48 (by decide) ?_
        exact hret 49 ls _ _ _ _ dX2_joined_49 ⟨rfl, by simp [jnF, b2, c1, c2]⟩ (Or.inl rfl) hW
      · skip
        refine lv_iconst (v := 1) hx hb dX2_joined_44 (by decide) ?_
        refine lv_goto (tgt := 49) hx hb dX2_joined_45 (by decide) ?_
        exact hret 49 ls _ _ _ _ dX2_joined_49 ⟨rfl, by simp [jnF, b2, c1, c2]⟩ (Or.inr rfl) hW
  · skip
    refine lv_iload_n hx hb dX2_joined_0 rfl (lv_at hl 2 rfl) ?_
    refine lv_tableIn (off := 49) (tgt := 50) hx hb dX2_joined_1 (by decide) (by decide) rfl (by decide) ?_
    refine lv_iload_n hx hb dX2_joined_50 rfl (lv_at hl 0 rfl) ?_
    refine lv_if_ne (tgt := 58) hx hb dX2_joined_51 (by decide) (fun c1 => ?_) (fun c1 => ?_)
    · skip
      refine lv_iconst (v := 1) hx hb dX2_joined_58 (by decide) ?_
      refine lv_goto (tgt := 63) hx hb dX2_joined_59 (by decide) ?_
      exact hret 63 ls _ _ _ _ dX2_joined_63 ⟨rfl, by simp [jnF, b2, c1]⟩ (Or.inr rfl) hW
    · skip
      refine lv_iload_n hx hb dX2_joined_54 rfl (lv_at hl 1 rfl) ?_
      refine lv_if_eq (tgt := 62) hx hb dX2_joined_55 (by decide) (fun c2 => ?_) (fun c2 => ?_)
      · skip
        refine lv_iconst (v := 0) hx hb dX2_joined_62 (by decide) ?_
        exact hret 63 ls _ _ _ _ dX2_joined_63 ⟨rfl, by simp [jnF, b2, c1, c2]⟩ (Or.inl rfl) hW
      · skip
        refine lv_iconst (v := 1) hx hb dX2_joined_58 (by decide) ?_
        refine lv_goto (tgt := 63) hx hb dX2_joined_59 (by decide) ?_
        exact hret 63 ls _ _ _ _ dX2_joined_63 ⟨rfl, by simp [jnF, b2, c1, c2]⟩ (Or.inr rfl) hW
  · skip
    refine lv_iload_n hx hb dX2_joined_0 rfl (lv_at hl 2 rfl) ?_
    refine lv_tableIn (off := 63) (tgt := 64) hx hb dX2_joined_1 (by decide) (by decide) rfl (by decide) ?_
    refine lv_iload_n hx hb dX2_joined_64 rfl (lv_at hl 0 rfl) ?_
    refine lv_iload_n hx hb dX2_joined_65 rfl (lv_at hl 1 rfl) ?_
    refine lv_icmp_eq (tgt := 73) hx hb dX2_joined_66 (by decide) (fun c1 => ?_) (fun c1 => ?_)
    · skip
      refine lv_iconst (v := 0) hx hb dX2_joined_73 (by decide) ?_
      exact hret 74 ls _ _ _ _ dX2_joined_74 ⟨rfl, by simp [jnF, b2, c1]⟩ (Or.inl rfl) hW
    · skip
      refine lv_iconst (v := 1) hx hb dX2_joined_69 (by decide) ?_
      refine lv_goto (tgt := 74) hx hb dX2_joined_70 (by decide) ?_
      exact hret 74 ls _ _ _ _ dX2_joined_74 ⟨rfl, by simp [jnF, b2, c1]⟩ (Or.inr rfl) hW
  · skip
    refine lv_iload_n hx hb dX2_joined_0 rfl (lv_at hl 2 rfl) ?_
    refine lv_tableIn (off := 74) (tgt := 75) hx hb dX2_joined_1 (by decide) (by decide) rfl (by decide) ?_
    refine lv_iload_n hx hb dX2_joined_75 rfl (lv_at hl 0 rfl) ?_
    refine lv_if_eq (tgt := 83) hx hb dX2_joined_76 (by decide) (fun c1 => ?_) (fun c1 => ?_)
    · skip
      refine lv_iconst (v := 1) hx hb dX2_joined_83 (by decide) ?_
      refine lv_goto (tgt := 88) hx hb dX2_joined_84 (by decide) ?_
      exact hret 88 ls _ _ _ _ dX2_joined_88 ⟨rfl, by simp [jnF, b2, c1]⟩ (Or.inr rfl) hW
    · skip
      refine lv_iload_n hx hb dX2_joined_79 rfl (lv_at hl 1 rfl) ?_
      refine lv_if_ne (tgt := 87) hx hb dX2_joined_80 (by decide) (fun c2 => ?_) (fun c2 => ?_)
      · skip
        refine lv_iconst (v := 0) hx hb dX2_joined_87 (by decide) ?_
        exact hret 88 ls _ _ _ _ dX2_joined_88 ⟨rfl, by simp [jnF, b2, c1, c2]⟩ (Or.inl rfl) hW
      · skip
        refine lv_iconst (v := 1) hx hb dX2_joined_83 (by decide) ?_
        refine lv_goto (tgt := 88) hx hb dX2_joined_84 (by decide) ?_
        exact hret 88 ls _ _ _ _ dX2_joined_88 ⟨rfl, by simp [jnF, b2, c1, c2]⟩ (Or.inr rfl) hW
  · skip
    refine lv_iload_n hx hb dX2_joined_0 rfl (lv_at hl 2 rfl) ?_
    refine lv_tableIn (off := 88) (tgt := 89) hx hb dX2_joined_1 (by decide) (by decide) rfl (by decide) ?_
    refine lv_iload_n hx hb dX2_joined_89 rfl (lv_at hl 0 rfl) ?_
    refine lv_if_ne (tgt := 101) hx hb dX2_joined_90 (by decide) (fun c1 => ?_) (fun c1 => ?_)
    · skip
      refine lv_iconst (v := 0) hx hb dX2_joined_101 (by decide) ?_
      exact hret 102 ls _ _ _ _ dX2_joined_102 ⟨rfl, by simp [jnF, b2, c1]⟩ (Or.inl rfl) hW
    · skip
      refine lv_iload_n hx hb dX2_joined_93 rfl (lv_at hl 1 rfl) ?_
      refine lv_if_ne (tgt := 101) hx hb dX2_joined_94 (by decide) (fun c2 => ?_) (fun c2 => ?_)
      · skip
        refine lv_iconst (v := 0) hx hb dX2_joined_101 (by decide) ?_
        exact hret 102 ls _ _ _ _ dX2_joined_102 ⟨rfl, by simp [jnF, b2, c1, c2]⟩ (Or.inl rfl) hW
      · skip
        refine lv_iconst (v := 1) hx hb dX2_joined_97 (by decide) ?_
        refine lv_goto (tgt := 102) hx hb dX2_joined_98 (by decide) ?_
        exact hret 102 ls _ _ _ _ dX2_joined_102 ⟨rfl, by simp [jnF, b2, c1, c2]⟩ (Or.inr rfl) hW
  · skip
    refine lv_iload_n hx hb dX2_joined_0 rfl (lv_at hl 2 rfl) ?_
    refine lv_tableOut (tgt := 103) hx hb dX2_joined_1 (Or.inr (by decide)) (by decide) ?_
    refine lv_iload_n hx hb dX2_joined_103 rfl (lv_at hl 0 rfl) ?_
    refine lv_iload_n hx hb dX2_joined_104 rfl (lv_at hl 1 rfl) ?_
    refine lv_icmp_ne (tgt := 112) hx hb dX2_joined_105 (by decide) (fun c1 => ?_) (fun c1 => ?_)
    · skip
      refine lv_iconst (v := 0) hx hb dX2_joined_112 (by decide) ?_
      exact hret 113 ls _ _ _ _ dX2_joined_113 ⟨rfl, by simp [jnF, b2, c1]⟩ (Or.inl rfl) hW
    · skip
      refine lv_iconst (v := 1) hx hb dX2_joined_108 (by decide) ?_
      refine lv_goto (tgt := 113) hx hb dX2_joined_109 (by decide) ?_
      exact hret 113 ls _ _ _ _ dX2_joined_113 ⟨rfl, by simp [jnF, b2, c1]⟩ (Or.inr rfl) hW
