/-- a row of forks among the law's cells: its size, what its forks say -/
def h_R (cs : Nat → ClassId) (C : hC) (r sa ia : Nat) (S I : Nat → Option Nat) (l : List (Nat → Bool)) : Prop := C r = some (.inr (3, [.int (nI l.length), .ref sa, .ref ia])) ∧ C sa = some (.inl (cs 2, 80, .inr (.inr (.inr (.inr S))))) ∧ C ia = some (.inl (cs 3, 80, .inr (.inr (.inr (.inr I))))) ∧ l.length ≤ 80 ∧ ∀ (i : Nat) (g : Nat → Bool), l[i]? = some g → ∃ (a : Nat) (F : Nat → Int64), S i = some a ∧ C a = some (.inl (cs 1, 4, .inr (.inl F))) ∧ j_S F g
theorem h_nJ : (FieldType.array .long).toString = "[J" := by decide +kernel
theorem h_nI : (FieldType.array .int).toString = "[I" := by decide +kernel
abbrev rm_h_rowInit : Room := { frames := 1, cells := 2, slots := 160, locals := 4000 }
set_option maxHeartbeats 4000000 in
set_option maxRecDepth 100000 in
/-- a new row -/
theorem c_h_rowInit (l : Launch) (D : va_G) (cs : Nat → ClassId) (C : hC) (sz : Nat) (o : Nat) (ho : C o = some (.inr (3, [.int 0, .null, .null]))) : Met l yX3_init wsX3_init rm_h_rowInit (va_Pc [.ref o] (hU D cs C sz)) (va_Qv (fun (u : hC) => ∃ sa ia : Nat, C sa = none ∧ C ia = none ∧ sa ≠ ia ∧ u o = some (.inr (3, [.int 0, .ref sa, .ref ia])) ∧ u sa = some (.inl (cs 2, 80, .inr (.inr (.inr (.inr (fun _ => none)))))) ∧ u ia = some (.inl (cs 3, 80, .inr (.inr (.inr (.inr (fun _ => none)))))) ∧ ∀ b : Nat, b ≠ o → b ≠ sa → b ≠ ia → u b = C b) (fun u t => h_H D (h_A C sz) u t.heap) (h_A C sz)) 2 160 (h_A C sz) := by
  refine hMet_v (cc := cX3_init) (maxL := 1) (by decide) rfl RX3 rfl (Nat.le_of_ble_eq_true rfl) (lv := [(0, .ref o)]) rfl ?_
  intro p e s m args below meth c Q A ls hsz C0 hnm hH hS hl hret
  obtain ⟨hx, hb, hml, hts, hown, hlocks, hK, hN, hA, hargs⟩ := C0
  have hinw : ∀ w ∈ u_ws RX3 TX3 3, w ∈ wsX3_init := by decide +kernel
  refine lv_aload_n hx hb dX3_init_0 rfl (lv_at hl 0 rfl) ?_
  refine W.objInit hx hb hown (hts (.methodLink RX3 1 objectInit) (by decide +kernel)) (hts (.instanceMethod objectInit) (by decide +kernel)) (hts (.code objectInit ⟨#[0xb1]⟩ 1 none) (by decide +kernel)) rfl (by rw [hml]; exact hl.1) rfl dX3_init_1 (Nat.le_of_ble_eq_true rfl) (Nat.le_of_ble_eq_true rfl) ?_
  refine W.eq (g2 := F0 m 4 ls []) rfl ?_
  refine lv_aload_n hx hb dX3_init_4 rfl (lv_at hl 0 rfl) ?_
  refine lv_bipush (v := 80) hx hb dX3_init_5 (by decide) ?_
  refine h_newA (t := .long) (N' := 80) hx hb h_nJ hown (hts (.classLink RX3 7 "[J") (by decide +kernel)) (h_AO.use hN.2.1) hH hS hA hK.2.1 (by decide) (by decide) (by decide) (Nat.le_of_ble_eq_true rfl) (Nat.le_of_ble_eq_true rfl) dX3_init_7 (fun sa H hq0 hH hS => ?_)
  have n0 : o ≠ sa := h_ne ho hq0
  have f0 := (h_U_ne (C := C) (e := .inl (cs 2, 80, .inr (.inr (.inr (.inr (fun _ => none)))))) n0).trans ho
  refine h_putF (ty := .array (.array .long)) (n0 := "said") (d0 := "[[J") hx hb hts hinw tyX3 tyX3_ok nmX3 hown hK.1 hH hS f0 rfl 1 (by decide) rfl (hnm.trans rfl) (by decide +kernel) (by decide +kernel) rfl rfl (Nat.le_of_ble_eq_true rfl) dX3_init_10 (fun H locs hH hS => ?_)
  have f1 := h_U_at (C := h_U C sa (.inl (cs 2, 80, .inr (.inr (.inr (.inr (fun _ => none))))))) (a := o) (e := .inr (3, [.int 0, .ref sa, .null]))
  refine lv_aload_n hx hb dX3_init_13 rfl (lv_at hl 0 rfl) ?_
  refine lv_bipush (v := 80) hx hb dX3_init_14 (by decide) ?_
  refine h_newA (t := .int) (N' := 80) hx hb h_nI hown (hts (.classLink RX3 15 "[I") (by decide +kernel)) (h_AO.use hN.2.2.1) hH hS hA hK.2.2 (by decide) (by decide) (by decide) (Nat.le_of_ble_eq_true rfl) (Nat.le_of_ble_eq_true rfl) dX3_init_16 (fun ia H hq1 hH hS => ?_)
  have n1 : o ≠ ia := h_ne f1 hq1
  have f2 := (h_U_ne (e := .inl (cs 3, 80, .inr (.inr (.inr (.inr (fun _ => none)))))) n1).trans f1
  refine h_putF (ty := .array (.array .int)) (n0 := "its") (d0 := "[[I") hx hb hts hinw tyX3 tyX3_ok nmX3 hown hK.1 hH hS f2 rfl 2 (by decide) rfl (hnm.trans rfl) (by decide +kernel) (by decide +kernel) rfl rfl (Nat.le_of_ble_eq_true rfl) dX3_init_19 (fun H locs hH hS => ?_)
  have n2 : sa ≠ ia := fun h => by
    rw [← h, h_U_ne (Ne.symm n0), h_U_at] at hq1
    cases hq1
  have hia : C ia = none := by rw [h_U_ne (Ne.symm n1), h_U_ne (Ne.symm n2)] at hq1; exact hq1
  exact hret 22 ls _ _ (0 + 1 + 1) (0 + 80 + 80) _ dX3_init_22 (by first | decide | omega) (by first | decide | omega) (⟨sa, ia, hq0, hia, n2, h_U_at, by rw [h_U_ne (Ne.symm n0), h_U_ne n2, h_U_ne (Ne.symm n0), h_U_at], by rw [h_U_ne (Ne.symm n1), h_U_at], fun b b1 b2 b3 => by rw [h_U_ne b1, h_U_ne b3, h_U_ne b1, h_U_ne b2]⟩) hH hS

abbrev rm_h_has : Room := { frames := 1, cells := 0, slots := 0, locals := 4100 }
set_option maxHeartbeats 4000000 in
set_option maxRecDepth 100000 in
/-- whether a row has a fork that says this -/
theorem c_h_has (l : Launch) (D : va_G) (cs : Nat → ClassId) (C : hC) (sz : Nat) (r0 sa ia : Nat) (S I : Nat → Option Nat) (lr : List (Nat → Bool)) (hr : h_R cs C r0 sa ia S I lr) (b : Nat) (G : Nat → Int64) (g : Nat → Bool) (hb9 : C b = some (.inl (cs 1, 4, .inr (.inl G)))) (hg : j_S G g) : Met l yX4_has wsX4_has rm_h_has (va_Pc [.ref r0, .ref b] (hU D cs C sz)) (va_Qi (fun (r : Int32) (u : hC) => u = C ∧ ((r = 1 ∧ g ∈ lr) ∨ (r = 0 ∧ g ∉ lr))) (fun u t => h_H D (h_A C sz) u t.heap) (h_A C sz)) 0 0 (h_A C sz) := by
  refine hMet_z (cc := cX4_has) (maxL := 3) (by decide) rfl RX4 rfl (Nat.le_of_ble_eq_true rfl) (lv := [(0, .ref r0), (1, .ref b)]) rfl ?_
  intro p e s m args below meth c Q A ls hsz C0 hH hS hl hret
  obtain ⟨hx, hb, hml, hts, hown, hlocks, hK, hN, hA, hargs⟩ := C0
  have hin3 : ∀ w ∈ u_ws RX3 TX3 3, w ∈ wsX4_has := by decide +kernel
  obtain ⟨hr0, hsa, hia, h80, hsaid⟩ := hr
  refine lv_iconst (v := 0) hx hb dX4_has_0 (by decide) ?_
  refine lv_istore_n (lv' := [(2, .int 0), (0, .ref r0), (1, .ref b)]) hx hb dX4_has_1 rfl hl (by decide) rfl (fun ls hl => ?_)
  have loop : ∀ q9 k : Nat, k + q9 = lr.length → (∀ i : Nat, i < k → lr[i]? ≠ some g) → ∀ (ls : Array Slot) (H : Heap) (locs : List Loc), lv_has ls 3 [(2, .int (nI k)), (0, .ref r0), (1, .ref b)] → h_H D A C H → va_S A s.heap H locs → W p l e rm_h_has s m args below meth c H locs 0 0 Q (F0 m 2 ls []) := by
    intro q9
    induction q9 with
    | zero =>
      intro k hk hno ls H locs hl hH hS
      refine lv_iload_n hx hb dX4_has_2 rfl (lv_at hl 0 rfl) ?_
      refine lv_aload_n hx hb dX4_has_3 rfl (lv_at hl 1 rfl) ?_
      refine h_get (v := .int (nI lr.length)) (C0 := RX3) (T := TX3) (N := 3) hx hb hts hin3 hown hK.1 hH hr0 rfl 0 (by decide) rfl (by decide +kernel) rfl dX4_has_4 ?_
      refine lv_icmp_ge (tgt := 31) hx hb dX4_has_7 (by decide) (fun c1 => ?_) (fun c1 => ?_)
      · skip
        refine lv_iconst (v := 0) hx hb dX4_has_31 (by decide) ?_
        have hnm9 : g ∉ lr := fun h => by
          obtain ⟨i, hi, e⟩ := List.getElem_of_mem h
          exact hno i (by omega) (by rw [List.getElem?_eq_getElem hi, e])
        exact hret 32 ls _ _ 0 0 0 C dX4_has_32 (by first | decide | omega) (by first | decide | omega) (⟨⟨rfl, Or.inr ⟨rfl, hnm9⟩⟩, Or.inl rfl⟩) hH hS
      · exact absurd (nI_le (show lr.length ≤ k by omega) (by omega)) c1
    | succ q9 ih =>
      intro k hk hno ls H locs hl hH hS
      refine lv_iload_n hx hb dX4_has_2 rfl (lv_at hl 0 rfl) ?_
      refine lv_aload_n hx hb dX4_has_3 rfl (lv_at hl 1 rfl) ?_
      refine h_get (v := .int (nI lr.length)) (C0 := RX3) (T := TX3) (N := 3) hx hb hts hin3 hown hK.1 hH hr0 rfl 0 (by decide) rfl (by decide +kernel) rfl dX4_has_4 ?_
      refine lv_icmp_ge (tgt := 31) hx hb dX4_has_7 (by decide) (fun c1 => ?_) (fun c1 => ?_)
      · exact absurd c1 (nI_ge (b := lr.length) (by omega) (by omega))
      · skip
        obtain ⟨x, hx9⟩ : ∃ x, lr[k]? = some x := ⟨lr[k]'(by omega), List.getElem?_eq_getElem (by omega)⟩
        obtain ⟨a, F, hSk, ha, hF⟩ := hsaid k x hx9
        refine lv_aload_n hx hb dX4_has_10 rfl (lv_at hl 1 rfl) ?_
        refine h_get (v := .ref sa) (C0 := RX3) (T := TX3) (N := 3) hx hb hts hin3 hown hK.1 hH hr0 rfl 1 (by decide) rfl (by decide +kernel) rfl dX4_has_11 ?_
        refine lv_iload_n hx hb dX4_has_14 rfl (lv_at hl 0 rfl) ?_
        refine h_aald hx hb hH hK.2.1.1 rfl hsa k (by omega) (by decide) rfl dX4_has_15 ?_
        rw [hSk]
        refine lv_aload_n hx hb dX4_has_16 rfl (lv_at hl 2 rfl) ?_
        refine h_calli (va_runSN (As := [.ref a, .ref b]) (rest := []) (own := RX4) (host := "SharedForksLaw") ⟨hx, hb, hml, hown, hts⟩ (c_l_alike l D cs C H.size a b F G x g ha hb9 hF hg) ⟨va_cnB 2 hts gX4_has_L_alike_n42 rfl rfl rfl (hN.1 (.methodLinkNest RX4 42 yL_alike "SharedForksLaw") (by decide +kernel)) (hts (.initialized yL_alike.cls) (by decide +kernel)) (by decide +kernel) ⟨Nat.le_of_ble_eq_true rfl, Nat.le_of_ble_eq_true rfl⟩, hts (.static yL_alike) (by decide +kernel), trivial⟩ (h_preS hK hN hH) rfl rfl hl.1 rfl (lv_room (Nat.le_of_ble_eq_true rfl)) dX4_has_17 ⟨by first | exact Nat.le_of_ble_eq_true rfl | omega, by first | exact Nat.le_of_ble_eq_true rfl | omega⟩) hH hS hA (fun r u H locs hp hH hS => ?_)
        obtain ⟨hu, hr⟩ := hp
        rw [hu] at hH
        rcases hr with ⟨hr, he⟩ | ⟨hr, he⟩
        · skip
          rw [hr]
          refine lv_if_eq (tgt := 25) hx hb dX4_has_20 (by decide) (fun c2 => ?_) (fun c2 => ?_)
          · exact absurd c2 (by decide)
          · skip
            refine lv_iconst (v := 1) hx hb dX4_has_23 (by decide) ?_
            exact hret 24 ls _ _ 0 0 1 C dX4_has_24 (by first | decide | omega) (by first | decide | omega) (⟨⟨rfl, Or.inl ⟨rfl, by rw [← he]; exact List.mem_of_getElem? hx9⟩⟩, Or.inr rfl⟩) hH hS
        · skip
          rw [hr]
          refine lv_if_eq (tgt := 25) hx hb dX4_has_20 (by decide) (fun c2 => ?_) (fun c2 => ?_)
          · skip
            refine lv_iinc (v := nI (k + 1)) (lv' := [(2, .int (nI (k + 1))), (0, .ref r0), (1, .ref b)]) hx hb dX4_has_25 hl (k := 0) rfl (nI_1 k) (by decide) rfl (fun ls hl => ?_)
            refine lv_goto (tgt := 2) hx hb dX4_has_28 (by decide) ?_
            exact ih (k + 1) (by omega) (fun i hi => by
              rcases Nat.lt_or_ge i k with h | h
              · exact hno i h
              · rw [show i = k by omega, hx9]; exact fun h => he (Option.some.inj h)) ls H locs (lv_sub hl [0, 1, 2] rfl) hH hS
          · exact absurd rfl c2
  exact loop lr.length 0 (by omega) (fun i h => absurd h (Nat.not_lt_zero _)) ls s.heap [] (lv_sub hl [0, 1, 2] rfl) hH hS

abbrev rm_h_free : Room := { frames := 0, cells := 0, slots := 0, locals := 4000 }
set_option maxHeartbeats 4000000 in
set_option maxRecDepth 100000 in
/-- the first free place -/
theorem c_h_free (l : Launch) (D : va_G) (cs : Nat → ClassId) (C : hC) (sz : Nat) (si fa oa : Nat) (rv : Value) (Fd : Nat → Option Nat) (hsi : C si = some (.inr (4, [.ref fa, .ref oa, rv]))) (hfa : C fa = some (.inl (cs 2, 12, .inr (.inr (.inr (.inr Fd)))))) : Met l yX4_free wsX4_free rm_h_free (va_Pc [.ref si] (hU D cs C sz)) (va_Qi (fun (r : Int32) (u : hC) => u = C ∧ ∃ k : Nat, k ≤ 12 ∧ r = nI k ∧ (∀ j : Nat, j < k → Fd j ≠ none) ∧ (k < 12 → Fd k = none)) (fun u t => h_H D (h_A C sz) u t.heap) (h_A C sz)) 0 0 (h_A C sz) := by
  refine hMet_i (cc := cX4_free) (maxL := 2) (by decide) rfl RX4 rfl (Nat.le_of_ble_eq_true rfl) (lv := [(0, .ref si)]) rfl ?_
  intro p e s m args below meth c Q A ls hsz C0 hH hS hl hret
  obtain ⟨hx, hb, hml, hts, hown, hlocks, hK, hN, hA, hargs⟩ := C0
  have hin4 : ∀ w ∈ u_ws RX4 TX4 3, w ∈ wsX4_free := by decide +kernel
  refine lv_iconst (v := 0) hx hb dX4_free_0 (by decide) ?_
  refine lv_istore_n (lv' := [(1, .int 0), (0, .ref si)]) hx hb dX4_free_1 rfl hl (by decide) rfl (fun ls hl => ?_)
  have loop : ∀ q9 k : Nat, k + q9 = 12 → (∀ i : Nat, i < k → Fd i ≠ none) → ∀ ls : Array Slot, lv_has ls 2 [(1, .int (nI k)), (0, .ref si)] → W p l e rm_h_free s m args below meth c s.heap [] 0 0 Q (F0 m 2 ls []) := by
    intro q9
    induction q9 with
    | zero =>
      intro k hk hno ls hl
      obtain rfl : k = 12 := by omega
      refine lv_iload_n hx hb dX4_free_2 rfl (lv_at hl 0 rfl) ?_
      refine lv_bipush (v := 12) hx hb dX4_free_3 (by decide) ?_
      refine lv_icmp_ge (tgt := 23) hx hb dX4_free_5 (by decide) (fun c1 => ?_) (fun c1 => ?_)
      · skip
        refine lv_iload_n hx hb dX4_free_23 rfl (lv_at hl 0 rfl) ?_
        exact hret 24 ls _ _ 0 0 _ C dX4_free_24 (by first | decide | omega) (by first | decide | omega) (⟨rfl, 12, by decide, rfl, hno, fun h => absurd h (by decide)⟩) hH hS
      · exact absurd (nI_le (Nat.le_refl 12) (by omega)) c1
    | succ q9 ih =>
      intro k hk hno ls hl
      refine lv_iload_n hx hb dX4_free_2 rfl (lv_at hl 0 rfl) ?_
      refine lv_bipush (v := 12) hx hb dX4_free_3 (by decide) ?_
      refine lv_icmp_ge (tgt := 23) hx hb dX4_free_5 (by decide) (fun c1 => ?_) (fun c1 => ?_)
      · exact absurd c1 (nI_ge (b := 12) (by omega) (by omega))
      · skip
        refine lv_aload_n hx hb dX4_free_8 rfl (lv_at hl 1 rfl) ?_
        refine h_get (v := .ref fa) (C0 := RX4) (T := TX4) (N := 3) hx hb hts hin4 hown hK.1 hH hsi rfl 0 (by decide) rfl (by decide +kernel) rfl dX4_free_9 ?_
        refine lv_iload_n hx hb dX4_free_12 rfl (lv_at hl 0 rfl) ?_
        refine h_aald hx hb hH hK.2.1.1 rfl hfa k (by omega) (by decide) rfl dX4_free_13 ?_
        cases hF : Fd k with
        | none =>
          refine lv_ifnullN (tgt := 23) hx hb dX4_free_14 (by decide) ?_
          refine lv_iload_n hx hb dX4_free_23 rfl (lv_at hl 0 rfl) ?_
          exact hret 24 ls _ _ 0 0 _ C dX4_free_24 (by first | decide | omega) (by first | decide | omega) (⟨rfl, k, by omega, rfl, hno, fun _ => hF⟩) hH hS
        | some a =>
          refine lv_ifnull hx hb dX4_free_14 ?_
          refine lv_iinc (v := nI (k + 1)) (lv' := [(1, .int (nI (k + 1))), (0, .ref si)]) hx hb dX4_free_17 hl (k := 0) rfl (nI_1 k) (by decide) rfl (fun ls hl => ?_)
          refine lv_goto (tgt := 2) hx hb dX4_free_20 (by decide) ?_
          exact ih (k + 1) (by omega) (fun i hi => by
            rcases Nat.lt_or_ge i k with h | h
            · exact hno i h
            · rw [show i = k by omega, hF]; exact fun h => by cases h) ls (lv_sub hl [0, 1] rfl)
  exact loop 12 0 rfl (fun i h => absurd h (Nat.not_lt_zero _)) ls (lv_sub hl [0, 1] rfl)

abbrev rm_h_many : Room := { frames := 0, cells := 0, slots := 0, locals := 4000 }
set_option maxHeartbeats 4000000 in
set_option maxRecDepth 100000 in
/-- how many folds -/
theorem c_h_many (l : Launch) (D : va_G) (cs : Nat → ClassId) (C : hC) (sz : Nat) (si fa oa : Nat) (rv : Value) (Fd : Nat → Option Nat) (hsi : C si = some (.inr (4, [.ref fa, .ref oa, rv]))) (hfa : C fa = some (.inl (cs 2, 12, .inr (.inr (.inr (.inr Fd)))))) : Met l yX4_many wsX4_many rm_h_many (va_Pc [.ref si] (hU D cs C sz)) (va_Qi (fun (r : Int32) (u : hC) => u = C ∧ r = sI (fun j => b2 ((Fd j).isSome = true)) 12) (fun u t => h_H D (h_A C sz) u t.heap) (h_A C sz)) 0 0 (h_A C sz) := by
  refine hMet_i (cc := cX4_many) (maxL := 6) (by decide) rfl RX4 rfl (Nat.le_of_ble_eq_true rfl) (lv := [(0, .ref si)]) rfl ?_
  intro p e s m args below meth c Q A ls hsz C0 hH hS hl hret
  obtain ⟨hx, hb, hml, hts, hown, hlocks, hK, hN, hA, hargs⟩ := C0
  have hin4 : ∀ w ∈ u_ws RX4 TX4 3, w ∈ wsX4_many := by decide +kernel
  refine lv_iconst (v := 0) hx hb dX4_many_0 (by decide) ?_
  refine lv_istore_n (lv' := [(1, .int 0), (0, .ref si)]) hx hb dX4_many_1 rfl hl (by decide) rfl (fun ls hl => ?_)
  refine lv_aload_n hx hb dX4_many_2 rfl (lv_at hl 1 rfl) ?_
  refine h_get (v := .ref fa) (C0 := RX4) (T := TX4) (N := 3) hx hb hts hin4 hown hK.1 hH hsi rfl 0 (by decide) rfl (by decide +kernel) rfl dX4_many_3 ?_
  refine lv_astore_n (lv' := [(2, .ref fa), (1, .int 0), (0, .ref si)]) hx hb dX4_many_6 rfl hl (by decide) rfl (fun ls hl => ?_)
  refine lv_aload_n hx hb dX4_many_7 rfl (lv_at hl 0 rfl) ?_
  refine h_alenA hx hb hH hK.2.1.1 hfa dX4_many_8 ?_
  refine lv_istore_n (lv' := [(3, .int (nI 12)), (2, .ref fa), (1, .int 0), (0, .ref si)]) hx hb dX4_many_9 rfl hl (by decide) rfl (fun ls hl => ?_)
  refine lv_iconst (v := 0) hx hb dX4_many_10 (by decide) ?_
  refine lv_istore (lv' := [(4, .int 0), (3, .int (nI 12)), (2, .ref fa), (1, .int 0), (0, .ref si)]) hx hb dX4_many_11 hl (by decide) rfl (fun ls hl => ?_)
  have loop : ∀ q9 k : Nat, k + q9 = 12 → ∀ ls : Array Slot, lv_has ls 6 [(4, .int (nI k)), (1, .int (sI (fun j => b2 ((Fd j).isSome = true)) k)), (2, .ref fa), (3, .int (nI 12))] → W p l e rm_h_many s m args below meth c s.heap [] 0 0 Q (F0 m 13 ls []) := by
    intro q9
    induction q9 with
    | zero =>
      intro k hk ls hl
      obtain rfl : k = 12 := by omega
      refine lv_iload hx hb dX4_many_13 (lv_at hl 0 rfl) ?_
      refine lv_iload_n hx hb dX4_many_15 rfl (lv_at hl 3 rfl) ?_
      refine lv_icmp_ge (tgt := 44) hx hb dX4_many_16 (by decide) (fun c1 => ?_) (fun c1 => ?_)
      · skip
        refine lv_iload_n hx hb dX4_many_44 rfl (lv_at hl 1 rfl) ?_
        exact hret 45 ls _ _ 0 0 _ C dX4_many_45 (by first | decide | omega) (by first | decide | omega) (⟨rfl, rfl⟩) hH hS
      · exact absurd (nI_le (Nat.le_refl 12) (by omega)) c1
    | succ q9 ih =>
      intro k hk ls hl
      refine lv_iload hx hb dX4_many_13 (lv_at hl 0 rfl) ?_
      refine lv_iload_n hx hb dX4_many_15 rfl (lv_at hl 3 rfl) ?_
      refine lv_icmp_ge (tgt := 44) hx hb dX4_many_16 (by decide) (fun c1 => ?_) (fun c1 => ?_)
      · exact absurd c1 (nI_ge (b := 12) (by omega) (by omega))
      · skip
        refine lv_aload_n hx hb dX4_many_19 rfl (lv_at hl 2 rfl) ?_
        refine lv_iload hx hb dX4_many_20 (lv_at hl 0 rfl) ?_
        refine h_aald hx hb hH hK.2.1.1 rfl hfa k (by omega) (by decide) rfl dX4_many_22 ?_
        cases hF : Fd k with
        | none =>
          refine lv_astoreN (lv' := [(5, .null), (4, .int (nI k)), (1, .int (sI (fun j => b2 ((Fd j).isSome = true)) k)), (2, .ref fa), (3, .int (nI 12))]) hx hb dX4_many_23 hl (by decide) rfl (fun ls hl => ?_)
          refine lv_iload_n hx hb dX4_many_25 rfl (lv_at hl 2 rfl) ?_
          refine lv_aloadN hx hb dX4_many_26 (lv_at hl 0 rfl) ?_
          refine lv_ifnonnullN hx hb dX4_many_28 ?_
          refine lv_iconst (v := 0) hx hb dX4_many_31 (by decide) ?_
          refine lv_goto (tgt := 36) hx hb dX4_many_32 (by decide) ?_
          refine lv_iadd hx hb dX4_many_36 ?_
          rw [show sI (fun j => b2 ((Fd j).isSome = true)) k + 0 = sI (fun j => b2 ((Fd j).isSome = true)) (k + 1) from sI_s (by rw [hF]; rfl)]
          refine lv_istore_n (lv' := [(1, .int (sI (fun j => b2 ((Fd j).isSome = true)) (k + 1))), (5, .null), (4, .int (nI k)), (2, .ref fa), (3, .int (nI 12))]) hx hb dX4_many_37 rfl hl (by decide) rfl (fun ls hl => ?_)
          refine lv_iinc (v := nI (k + 1)) (lv' := [(4, .int (nI (k + 1))), (1, .int (sI (fun j => b2 ((Fd j).isSome = true)) (k + 1))), (5, .null), (2, .ref fa), (3, .int (nI 12))]) hx hb dX4_many_38 hl (k := 2) rfl (nI_1 k) (by decide) rfl (fun ls hl => ?_)
          refine lv_goto (tgt := 13) hx hb dX4_many_41 (by decide) ?_
          exact ih (k + 1) (by omega) ls (lv_sub hl [0, 1, 3, 4] rfl)
        | some a =>
          refine lv_astore (lv' := [(5, .ref a), (4, .int (nI k)), (1, .int (sI (fun j => b2 ((Fd j).isSome = true)) k)), (2, .ref fa), (3, .int (nI 12))]) hx hb dX4_many_23 hl (by decide) rfl (fun ls hl => ?_)
          refine lv_iload_n hx hb dX4_many_25 rfl (lv_at hl 2 rfl) ?_
          refine lv_aload hx hb dX4_many_26 (lv_at hl 0 rfl) ?_
          refine lv_ifnonnull (tgt := 35) hx hb dX4_many_28 (by decide) ?_
          refine lv_iconst (v := 1) hx hb dX4_many_35 (by decide) ?_
          refine lv_iadd hx hb dX4_many_36 ?_
          rw [show sI (fun j => b2 ((Fd j).isSome = true)) k + 1 = sI (fun j => b2 ((Fd j).isSome = true)) (k + 1) from sI_s (by rw [hF]; rfl)]
          refine lv_istore_n (lv' := [(1, .int (sI (fun j => b2 ((Fd j).isSome = true)) (k + 1))), (5, .ref a), (4, .int (nI k)), (2, .ref fa), (3, .int (nI 12))]) hx hb dX4_many_37 rfl hl (by decide) rfl (fun ls hl => ?_)
          refine lv_iinc (v := nI (k + 1)) (lv' := [(4, .int (nI (k + 1))), (1, .int (sI (fun j => b2 ((Fd j).isSome = true)) (k + 1))), (5, .ref a), (2, .ref fa), (3, .int (nI 12))]) hx hb dX4_many_38 hl (k := 2) rfl (nI_1 k) (by decide) rfl (fun ls hl => ?_)
          refine lv_goto (tgt := 13) hx hb dX4_many_41 (by decide) ?_
          exact ih (k + 1) (by omega) ls (lv_sub hl [0, 1, 3, 4] rfl)
  exact loop 12 0 rfl ls (lv_sub hl [0, 3, 2, 1] rfl)
