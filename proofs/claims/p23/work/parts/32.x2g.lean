abbrev rm_checkBelow : Room := { frames := 8, cells := 1, slots := 6, locals := 100 }
set_option maxHeartbeats 4000000 in
set_option maxRecDepth 100000 in
/-- a number is looked at -/
theorem c_checkBelow (l : Launch) (hst : l.stackTraces = false) (D : va_G) (I Z F : ClassId) (ad sa : Nat → Nat) (hI : cI ad) (M : Nat → Nat → Int32) (sz : Nat) (x bd : Int32) : vx_Met l yX2_checkBelow wsX2_checkBelow rm_checkBelow (va_Pc [.int x, .int bd] (cUX D I Z F ad sa sz M)) (va_Qv (fun (u : Nat → Nat → Int32) => u = M ∧ ¬ x < 0 ∧ x < bd) (fun u t => cP D I Z F ad u t.heap) (cA ad sz)) (xQ D I Z F ad M sz (fun E => E = xIO ∧ (x < 0 ∨ bd ≤ x))) 1 6 (cA ad sz) := by
  refine cMetX_v (cc := cX2_checkBelow) (maxL := 2) hst hI (by decide) rfl ⟨rfl, rfl, by decide, by decide⟩ RX2 rfl (Nat.le_of_ble_eq_true rfl) (lv := [(0, .int x), (1, .int bd)]) rfl ?_
  intro p e s m args below meth c Q A ls hsz C0 hX hW hl hret hthr hprp
  obtain ⟨hx, hb, hml, hts, hown, hlocks, hK, hN, hDa, hA, hargs⟩ := C0
  refine lv_iload_n hx hb dX2_checkBelow_0 rfl (lv_at hl 0 rfl) ?_
  refine lv_if_lt (tgt := 9) hx hb dX2_checkBelow_1 (by decide) (fun c1 => ?_) (fun c1 => ?_)
  · skip
    exact hthr 9 ls _ _ 0 0 "java/lang/IndexOutOfBoundsException" _ 132 134 136 _ (⟨rfl, Or.inl c1⟩) hW hl.1 (by decide) (by decide) (by decide +kernel) (by decide +kernel) (by decide +kernel) hX.2.1 (by decide +kernel) (by decide +kernel) (by decide +kernel) dX2_checkBelow_9 dX2_checkBelow_12 dX2_checkBelow_13 dX2_checkBelow_15 dX2_checkBelow_18
  · skip
    refine lv_iload_n hx hb dX2_checkBelow_4 rfl (lv_at hl 0 rfl) ?_
    refine lv_iload_n hx hb dX2_checkBelow_5 rfl (lv_at hl 1 rfl) ?_
    refine lv_icmp_lt (tgt := 19) hx hb dX2_checkBelow_6 (by decide) (fun c2 => ?_) (fun c2 => ?_)
    · skip
      exact hret 19 ls _ _ 0 0 _ dX2_checkBelow_19 (by decide) (by decide) ⟨rfl, c1, c2⟩ hW
    · skip
      exact hthr 9 ls _ _ 0 0 "java/lang/IndexOutOfBoundsException" _ 132 134 136 _ (⟨rfl, Or.inr (Int32.not_lt.mp c2)⟩) hW hl.1 (by decide) (by decide) (by decide +kernel) (by decide +kernel) (by decide +kernel) hX.2.1 (by decide +kernel) (by decide +kernel) (by decide +kernel) dX2_checkBelow_9 dX2_checkBelow_12 dX2_checkBelow_13 dX2_checkBelow_15 dX2_checkBelow_18

/-- there is a fold with the number x: it is k -/
def fdOk (M : Nat → Nat → Int32) (x : Int32) (k : Nat) : Prop := k < 12 ∧ x = nI k ∧ ¬ M (25 + 6 * k) 0 = 0
theorem fdOk_no {M : Nat → Nat → Int32} {x : Int32} (h : x < 0 ∨ 12 ≤ x) : ¬ ∃ k, fdOk M x k := by
  rintro ⟨k, hk, rfl, -⟩
  rcases h with h | h
  · exact nI_pos (by omega) h
  · exact nI_ge (a := k) (b := 12) hk (by decide) h
theorem fdOk_un {M : Nat → Nat → Int32} {x : Int32} {k j : Nat} (h : fdOk M x k) (h2 : fdOk M x j) : k = j := (nI_eq (by have := h.1; omega) (by have := h2.1; omega)).mp (h.2.1.symm.trans h2.2.1)
theorem x12 {x : Int32} (h0 : ¬ x < 0) (h1 : ¬ 12 ≤ x) : ∃ k : Nat, k < 12 ∧ x = nI k := part_of (n := 12) (by decide) h0 h1
abbrev rm_foldAt : Room := { frames := 8, cells := 1, slots := 6, locals := 100 }
set_option maxHeartbeats 4000000 in
set_option maxRecDepth 100000 in
/-- a fold by its number -/
theorem c_foldAt (l : Launch) (hst : l.stackTraces = false) (D : va_G) (I Z F : ClassId) (ad sa : Nat → Nat) (hI : cI ad) (M : Nat → Nat → Int32) (sz : Nat) (x : Int32) : vx_Met l yX2_foldAt wsX2_foldAt rm_foldAt (va_Pc [.ref (ad 0), .int x] (cUX D I Z F ad sa sz M)) (va_Qq (fun (r : Option Nat) (k : Nat) => fdOk M x k ∧ r = some (ad (25 + 6 * k))) (fun (_ : Nat) t => cP D I Z F ad M t.heap) (cA ad sz)) (xQ D I Z F ad M sz (fun E => E = xIO ∧ ¬ ∃ k, fdOk M x k)) 1 6 (cA ad sz) := by
  refine cMetX_q (cc := cX2_foldAt) (maxL := 2) hst hI (by decide) rfl ⟨rfl, rfl, by decide, by decide⟩ RX2 rfl (Nat.le_of_ble_eq_true rfl) (lv := [(0, .ref (ad 0)), (1, .int x)]) rfl ?_
  intro p e s m args below meth c Q A ls hsz C0 hX hW hl hret hthr hprp
  obtain ⟨hx, hb, hml, hts, hown, hlocks, hK, hN, hDa, hA, hargs⟩ := C0
  have hin2 : ∀ w ∈ u_ws RX2 TX2 6, w ∈ wsX2_foldAt := by decide +kernel
  have hin0 : ∀ w ∈ u_ws RX0 TX0 7, w ∈ wsX2_foldAt := by decide +kernel
  refine lv_iload_n hx hb dX2_foldAt_0 rfl (lv_at hl 1 rfl) ?_
  refine lv_if_lt (tgt := 22) hx hb dX2_foldAt_1 (by decide) (fun c1 => ?_) (fun c1 => ?_)
  · skip
    exact hthr 22 ls _ _ 0 0 "java/lang/IndexOutOfBoundsException" _ 132 137 136 _ (⟨rfl, fdOk_no (Or.inl c1)⟩) hW hl.1 (by decide) (by decide) (by decide +kernel) (by decide +kernel) (by decide +kernel) hX.2.2.1 (by decide +kernel) (by decide +kernel) (by decide +kernel) dX2_foldAt_22 dX2_foldAt_25 dX2_foldAt_26 dX2_foldAt_28 dX2_foldAt_31
  · skip
    refine lv_iload_n hx hb dX2_foldAt_4 rfl (lv_at hl 1 rfl) ?_
    refine lv_bipush (v := 12) hx hb dX2_foldAt_5 (by decide) ?_
    refine lv_icmp_ge (tgt := 22) hx hb dX2_foldAt_7 (by decide) (fun c2 => ?_) (fun c2 => ?_)
    · skip
      exact hthr 22 ls _ _ 0 0 "java/lang/IndexOutOfBoundsException" _ 132 137 136 _ (⟨rfl, fdOk_no (Or.inr c2)⟩) hW hl.1 (by decide) (by decide) (by decide +kernel) (by decide +kernel) (by decide +kernel) hX.2.2.1 (by decide +kernel) (by decide +kernel) (by decide +kernel) dX2_foldAt_22 dX2_foldAt_25 dX2_foldAt_26 dX2_foldAt_28 dX2_foldAt_31
    · skip
      obtain ⟨k, hk, rfl⟩ := x12 c1 c2
      refine lv_aload_n hx hb dX2_foldAt_10 rfl (lv_at hl 0 rfl) ?_
      refine cr_get (v := .ref (ad 1)) hx hb hts hin2 hown hK hW 0 (by decide) (cE_x I Z F ad M) rfl 0 (by decide) rfl (by decide +kernel) rfl dX2_foldAt_11 ?_
      refine lv_iload_n hx hb dX2_foldAt_14 rfl (lv_at hl 1 rfl) ?_
      refine cr_fald hx hb hK hW k hk rfl dX2_foldAt_15 ?_
      refine cr_getN (v := .int (M (25 + 6 * k) 0)) (host := "SharedForks") hx hb hts hin0 hown hK hW (25 + 6 * k) (by omega) (cE_d0 I Z F ad M k) rfl 0 (by decide) rfl hN (by decide +kernel) rfl dX2_foldAt_16 ?_
      refine lv_if_ne (tgt := 32) hx hb dX2_foldAt_19 (by decide) (fun c3 => ?_) (fun c3 => ?_)
      · skip
        refine lv_aload_n hx hb dX2_foldAt_32 rfl (lv_at hl 0 rfl) ?_
        refine cr_get (v := .ref (ad 1)) hx hb hts hin2 hown hK hW 0 (by decide) (cE_x I Z F ad M) rfl 0 (by decide) rfl (by decide +kernel) rfl dX2_foldAt_33 ?_
        refine lv_iload_n hx hb dX2_foldAt_36 rfl (lv_at hl 1 rfl) ?_
        refine cr_fald hx hb hK hW k hk rfl dX2_foldAt_37 ?_
        exact hret 38 ls _ _ 0 0 _ k dX2_foldAt_38 (by decide) (by decide) ⟨⟨hk, rfl, c3⟩, rfl⟩ hW
      · skip
        exact hthr 22 ls _ _ 0 0 "java/lang/IndexOutOfBoundsException" _ 132 137 136 _ (⟨rfl, fun ⟨j, hj, e, h⟩ => by have := (nI_eq (a := k) (b := j) (by omega) (by omega)).mp e; subst this; exact h c3⟩) hW hl.1 (by decide) (by decide) (by decide +kernel) (by decide +kernel) (by decide +kernel) hX.2.2.1 (by decide +kernel) (by decide +kernel) (by decide +kernel) dX2_foldAt_22 dX2_foldAt_25 dX2_foldAt_26 dX2_foldAt_28 dX2_foldAt_31

/-- the smallest number that is free -/
def frOk (M : Nat → Nat → Int32) (f : Nat) : Prop := f < 12 ∧ M (25 + 6 * f) 0 = 0 ∧ ∀ g : Nat, g < f → ¬ M (25 + 6 * g) 0 = 0
def frNo (M : Nat → Nat → Int32) : Prop := ∀ g : Nat, g < 12 → ¬ M (25 + 6 * g) 0 = 0
abbrev rm_freeNumber : Room := { frames := 8, cells := 1, slots := 6, locals := 100 }
set_option maxHeartbeats 4000000 in
set_option maxRecDepth 100000 in
/-- the smallest number that is free -/
theorem c_freeNumber (l : Launch) (hst : l.stackTraces = false) (D : va_G) (I Z F : ClassId) (ad sa : Nat → Nat) (hI : cI ad) (M : Nat → Nat → Int32) (sz : Nat)  : vx_Met l yX2_freeNumber wsX2_freeNumber rm_freeNumber (va_Pc [.ref (ad 0)] (cUX D I Z F ad sa sz M)) (va_Qi (fun (r : Int32) (u : Nat → Nat → Int32) => u = M ∧ ∃ f : Nat, frOk M f ∧ r = nI f) (fun u t => cP D I Z F ad u t.heap) (cA ad sz)) (xQ D I Z F ad M sz (fun E => E = xIS ∧ frNo M)) 1 6 (cA ad sz) := by
  refine cMetX_i (cc := cX2_freeNumber) (maxL := 2) hst hI (by decide) rfl ⟨rfl, rfl, by decide, by decide⟩ RX2 rfl (Nat.le_of_ble_eq_true rfl) (lv := [(0, .ref (ad 0))]) rfl ?_
  intro p e s m args below meth c Q A ls hsz C0 hX hW hl hret hthr hprp
  obtain ⟨hx, hb, hml, hts, hown, hlocks, hK, hN, hDa, hA, hargs⟩ := C0
  have hin2 : ∀ w ∈ u_ws RX2 TX2 6, w ∈ wsX2_freeNumber := by decide +kernel
  have hin0 : ∀ w ∈ u_ws RX0 TX0 7, w ∈ wsX2_freeNumber := by decide +kernel
  refine lv_iconst (v := 0) hx hb dX2_freeNumber_0 (by decide) ?_
  refine lv_istore_n (lv' := [(1, .int 0), (0, .ref (ad 0))]) hx hb dX2_freeNumber_1 rfl hl (by decide) rfl (fun ls hl => ?_)
  have loop : ∀ q i : Nat, i + q = 12 → (∀ g : Nat, g < i → ¬ M (25 + 6 * g) 0 = 0) → ∀ (ls : Array Slot), lv_has ls 2 [(1, .int (nI i)), (0, .ref (ad 0))] → W p l e rm_freeNumber s m args below meth c s.heap [] 0 0 Q (F0 m 2 ls []) := by
    intro q
    induction q with
    | zero =>
      intro i hi hg ls hl
      obtain rfl : i = 12 := by omega
      refine lv_iload_n hx hb dX2_freeNumber_2 rfl (lv_at hl 0 rfl) ?_
      refine lv_bipush (v := 12) hx hb dX2_freeNumber_3 (by decide) ?_
      refine lv_icmp_ge (tgt := 28) hx hb dX2_freeNumber_5 (by decide) (fun c1 => ?_) (fun c1 => ?_)
      · skip
        exact hthr 28 ls _ _ 0 0 "java/lang/IllegalStateException" _ 139 141 143 _ (⟨rfl, hg⟩) hW hl.1 (by decide) (by decide) (by decide +kernel) (by decide +kernel) (by decide +kernel) hX.2.2.2.1 (by decide +kernel) (by decide +kernel) (by decide +kernel) dX2_freeNumber_28 dX2_freeNumber_31 dX2_freeNumber_32 dX2_freeNumber_34 dX2_freeNumber_37
      · exact absurd (nI_le (Nat.le_refl 12) (by decide)) c1
    | succ q ih =>
      intro i hi hg ls hl
      refine lv_iload_n hx hb dX2_freeNumber_2 rfl (lv_at hl 0 rfl) ?_
      refine lv_bipush (v := 12) hx hb dX2_freeNumber_3 (by decide) ?_
      refine lv_icmp_ge (tgt := 28) hx hb dX2_freeNumber_5 (by decide) (fun c1 => ?_) (fun c1 => ?_)
      · exact absurd c1 (nI_ge (b := 12) (by omega) (by decide))
      · skip
        refine lv_aload_n hx hb dX2_freeNumber_8 rfl (lv_at hl 1 rfl) ?_
        refine cr_get (v := .ref (ad 1)) hx hb hts hin2 hown hK hW 0 (by decide) (cE_x I Z F ad M) rfl 0 (by decide) rfl (by decide +kernel) rfl dX2_freeNumber_9 ?_
        refine lv_iload_n hx hb dX2_freeNumber_12 rfl (lv_at hl 0 rfl) ?_
        refine cr_fald hx hb hK hW i (by omega) rfl dX2_freeNumber_13 ?_
        refine cr_getN (v := .int (M (25 + 6 * i) 0)) (host := "SharedForks") hx hb hts hin0 hown hK hW (25 + 6 * i) (by omega) (cE_d0 I Z F ad M i) rfl 0 (by decide) rfl hN (by decide +kernel) rfl dX2_freeNumber_14 ?_
        refine lv_if_ne (tgt := 22) hx hb dX2_freeNumber_17 (by decide) (fun c2 => ?_) (fun c2 => ?_)
        · skip
          refine lv_iinc (v := nI (i + 1)) (lv' := [(1, .int (nI (i + 1))), (0, .ref (ad 0))]) hx hb dX2_freeNumber_22 hl (k := 0) rfl (nI_1 i) (by decide) rfl (fun ls hl => ?_)
          refine lv_goto (tgt := 2) hx hb dX2_freeNumber_25 (by decide) ?_
          exact ih (i + 1) (by omega) (fun g hg1 => by rcases Nat.lt_succ_iff_lt_or_eq.mp hg1 with h | rfl; exact hg g h; exact c2) ls (lv_sub hl [0, 1] rfl)
        · skip
          refine lv_iload_n hx hb dX2_freeNumber_20 rfl (lv_at hl 0 rfl) ?_
          exact hret 21 ls _ _ 0 0 _ _ dX2_freeNumber_21 (by decide) (by decide) ⟨rfl, i, ⟨by omega, c2, hg⟩, rfl⟩ hW
  exact loop 12 0 (by decide) (fun g h => absurd h (Nat.not_lt_zero _)) ls (lv_sub hl [0, 1] rfl)
