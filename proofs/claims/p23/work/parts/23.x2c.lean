def cyT (M : Nat → Nat → Int32) (b : Nat) : Nat → Int32 := fun j => if M (b + 1) j = 0 then 0 else 1
abbrev rm_countYes : Room := { frames := 0, cells := 0, slots := 0, locals := 0 }
set_option maxHeartbeats 4000000 in
set_option maxRecDepth 100000 in
/-- to how many answers a fold says yes -/
theorem c_countYes (l : Launch) (D : va_G) (I Z F : ClassId) (ad : Nat → Nat) (hI : cI ad) (M : Nat → Nat → Int32) (sz : Nat) (f : Nat) (hf : f < 12) : Met l yX2_countYes wsX2_countYes rm_countYes (va_Pc [.ref (ad (25 + 6 * f))] (cU D I Z F ad sz M)) (va_Qi (fun (r : Int32) (u : Nat → Nat → Int32) => u = M ∧ r = sI (cyT M (25 + 6 * f)) 256) (fun u t => cP D I Z F ad u t.heap) (cA ad sz)) 0 0 (cA ad sz) := by
  refine cMet_i (cc := cX2_countYes) (maxL := 3) hI (by decide) rfl ⟨rfl, rfl⟩ RX2 rfl (Nat.le_of_ble_eq_true rfl) (lv := [(0, .ref (ad (25 + 6 * f)))]) rfl ?_
  intro p e s m args below meth c Q A ls hsz C0 hW hl hret
  obtain ⟨hx, hb, hml, hts, hown, hlocks, hK, hN, hDa, hA, hargs⟩ := C0
  have hin0 : ∀ w ∈ u_ws RX0 TX0 7, w ∈ wsX2_countYes := by decide +kernel
  refine lv_iconst (v := 0) hx hb dX2_countYes_0 (by decide) ?_
  refine lv_istore_n (lv' := [(1, .int 0), (0, .ref (ad (25 + 6 * f)))]) hx hb dX2_countYes_1 rfl hl (by decide) rfl (fun ls hl => ?_)
  refine lv_iconst (v := 0) hx hb dX2_countYes_2 (by decide) ?_
  refine lv_istore_n (lv' := [(2, .int 0), (1, .int 0), (0, .ref (ad (25 + 6 * f)))]) hx hb dX2_countYes_3 rfl hl (by decide) rfl (fun ls hl => ?_)
  have loop : ∀ q i : Nat, i + q = 256 → ∀ (ls : Array Slot), lv_has ls 3 [(2, .int (nI i)), (1, .int (sI (cyT M (25 + 6 * f)) i)), (0, .ref (ad (25 + 6 * f)))] → W p l e rm_countYes s m args below meth c s.heap [] 0 0 Q (F0 m 4 ls []) := by
    intro q
    induction q with
    | zero =>
      intro i hi ls hl
      obtain rfl : i = 256 := by omega
      refine lv_iload_n hx hb dX2_countYes_4 rfl (lv_at hl 0 rfl) ?_
      refine lv_sipush (v := 256) hx hb dX2_countYes_5 (by decide) ?_
      refine lv_icmp_ge (tgt := 34) hx hb dX2_countYes_8 (by decide) (fun c1 => ?_) (fun c1 => ?_)
      · skip
        refine lv_iload_n hx hb dX2_countYes_34 rfl (lv_at hl 1 rfl) ?_
        exact hret 35 ls _ _ _ _ dX2_countYes_35 ⟨rfl, rfl⟩ hW
      · exact absurd (nI_le (Nat.le_refl 256) (by omega)) c1
    | succ q ih =>
      intro i hi ls hl
      refine lv_iload_n hx hb dX2_countYes_4 rfl (lv_at hl 0 rfl) ?_
      refine lv_sipush (v := 256) hx hb dX2_countYes_5 (by decide) ?_
      refine lv_icmp_ge (tgt := 34) hx hb dX2_countYes_8 (by decide) (fun c1 => ?_) (fun c1 => ?_)
      · exact absurd c1 (nI_ge (b := 256) (by omega) (by omega))
      · skip
        refine lv_iload_n hx hb dX2_countYes_11 rfl (lv_at hl 1 rfl) ?_
        refine lv_aload_n hx hb dX2_countYes_12 rfl (lv_at hl 2 rfl) ?_
        refine cr_getN (v := .ref (ad (25 + 6 * f + 1))) (host := "SharedForks") hx hb hts hin0 hown hK hW (25 + 6 * f) (by omega) (cE_d0 I Z F ad M f) rfl 1 (by decide) rfl hN (by decide +kernel) rfl dX2_countYes_13 ?_
        refine lv_iload_n hx hb dX2_countYes_16 rfl (lv_at hl 0 rfl) ?_
        refine cr_zald hx hb hK hW (25 + 6 * f + 1) (by omega) (cE_d1 I Z F ad M f) i (by omega) (by decide) rfl dX2_countYes_17 ?_
        refine lv_if_eq (tgt := 25) hx hb dX2_countYes_18 (by decide) (fun c2 => ?_) (fun c2 => ?_)
        · skip
          refine lv_iconst (v := 0) hx hb dX2_countYes_25 (by decide) ?_
          refine lv_iadd hx hb dX2_countYes_26 ?_
          rw [show ((sI (cyT M (25 + 6 * f)) i) + 0) = sI (cyT M (25 + 6 * f)) (i + 1) from sI_s (by rw [cyT, if_pos c2])]
          refine lv_istore_n (lv' := [(1, .int (sI (cyT M (25 + 6 * f)) (i + 1))), (2, .int (nI i)), (0, .ref (ad (25 + 6 * f)))]) hx hb dX2_countYes_27 rfl hl (by decide) rfl (fun ls hl => ?_)
          refine lv_iinc (v := nI (i + 1)) (lv' := [(2, .int (nI (i + 1))), (1, .int (sI (cyT M (25 + 6 * f)) (i + 1))), (0, .ref (ad (25 + 6 * f)))]) hx hb dX2_countYes_28 hl (k := 1) rfl (nI_1 i) (by decide) rfl (fun ls hl => ?_)
          refine lv_goto (tgt := 4) hx hb dX2_countYes_31 (by decide) ?_
          exact ih (i + 1) (by omega) ls (lv_sub hl [0, 1, 2] rfl)
        · skip
          refine lv_iconst (v := 1) hx hb dX2_countYes_21 (by decide) ?_
          refine lv_goto (tgt := 26) hx hb dX2_countYes_22 (by decide) ?_
          refine lv_iadd hx hb dX2_countYes_26 ?_
          rw [show ((sI (cyT M (25 + 6 * f)) i) + 1) = sI (cyT M (25 + 6 * f)) (i + 1) from sI_s (by rw [cyT, if_neg c2])]
          refine lv_istore_n (lv' := [(1, .int (sI (cyT M (25 + 6 * f)) (i + 1))), (2, .int (nI i)), (0, .ref (ad (25 + 6 * f)))]) hx hb dX2_countYes_27 rfl hl (by decide) rfl (fun ls hl => ?_)
          refine lv_iinc (v := nI (i + 1)) (lv' := [(2, .int (nI (i + 1))), (1, .int (sI (cyT M (25 + 6 * f)) (i + 1))), (0, .ref (ad (25 + 6 * f)))]) hx hb dX2_countYes_28 hl (k := 1) rfl (nI_1 i) (by decide) rfl (fun ls hl => ?_)
          refine lv_goto (tgt := 4) hx hb dX2_countYes_31 (by decide) ?_
          exact ih (i + 1) (by omega) ls (lv_sub hl [0, 1, 2] rfl)
  exact loop 256 0 (by omega) ls (lv_sub hl [0, 1, 2] rfl)

def ckT (M : Nat → Nat → Int32) : Nat → Int32 := fun f => if M (25 + 6 * f) 0 = 0 then 0 else 1
abbrev rm_countKept : Room := { frames := 0, cells := 0, slots := 0, locals := 0 }
set_option maxHeartbeats 4000000 in
set_option maxRecDepth 100000 in
/-- how many folds there are -/
theorem c_countKept (l : Launch) (D : va_G) (I Z F : ClassId) (ad : Nat → Nat) (hI : cI ad) (M : Nat → Nat → Int32) (sz : Nat)  : Met l yX2_countKept wsX2_countKept rm_countKept (va_Pc [.ref (ad 0)] (cU D I Z F ad sz M)) (va_Qi (fun (r : Int32) (u : Nat → Nat → Int32) => u = M ∧ r = sI (ckT M) 12) (fun u t => cP D I Z F ad u t.heap) (cA ad sz)) 0 0 (cA ad sz) := by
  refine cMet_i (cc := cX2_countKept) (maxL := 3) hI (by decide) rfl ⟨rfl, rfl⟩ RX2 rfl (Nat.le_of_ble_eq_true rfl) (lv := [(0, .ref (ad 0))]) rfl ?_
  intro p e s m args below meth c Q A ls hsz C0 hW hl hret
  obtain ⟨hx, hb, hml, hts, hown, hlocks, hK, hN, hDa, hA, hargs⟩ := C0
  have hin0 : ∀ w ∈ u_ws RX0 TX0 7, w ∈ wsX2_countKept := by decide +kernel
  have hin2 : ∀ w ∈ u_ws RX2 TX2 6, w ∈ wsX2_countKept := by decide +kernel
  refine lv_iconst (v := 0) hx hb dX2_countKept_0 (by decide) ?_
  refine lv_istore_n (lv' := [(1, .int 0), (0, .ref (ad 0))]) hx hb dX2_countKept_1 rfl hl (by decide) rfl (fun ls hl => ?_)
  refine lv_iconst (v := 0) hx hb dX2_countKept_2 (by decide) ?_
  refine lv_istore_n (lv' := [(2, .int 0), (1, .int 0), (0, .ref (ad 0))]) hx hb dX2_countKept_3 rfl hl (by decide) rfl (fun ls hl => ?_)
  have loop : ∀ q i : Nat, i + q = 12 → ∀ (ls : Array Slot), lv_has ls 3 [(2, .int (nI i)), (1, .int (sI (ckT M) i)), (0, .ref (ad 0))] → W p l e rm_countKept s m args below meth c s.heap [] 0 0 Q (F0 m 4 ls []) := by
    intro q
    induction q with
    | zero =>
      intro i hi ls hl
      obtain rfl : i = 12 := by omega
      refine lv_iload_n hx hb dX2_countKept_4 rfl (lv_at hl 0 rfl) ?_
      refine lv_bipush (v := 12) hx hb dX2_countKept_5 (by decide) ?_
      refine lv_icmp_ge (tgt := 36) hx hb dX2_countKept_7 (by decide) (fun c1 => ?_) (fun c1 => ?_)
      · skip
        refine lv_iload_n hx hb dX2_countKept_36 rfl (lv_at hl 1 rfl) ?_
        exact hret 37 ls _ _ _ _ dX2_countKept_37 ⟨rfl, rfl⟩ hW
      · exact absurd (nI_le (Nat.le_refl 12) (by omega)) c1
    | succ q ih =>
      intro i hi ls hl
      refine lv_iload_n hx hb dX2_countKept_4 rfl (lv_at hl 0 rfl) ?_
      refine lv_bipush (v := 12) hx hb dX2_countKept_5 (by decide) ?_
      refine lv_icmp_ge (tgt := 36) hx hb dX2_countKept_7 (by decide) (fun c1 => ?_) (fun c1 => ?_)
      · exact absurd c1 (nI_ge (b := 12) (by omega) (by omega))
      · skip
        refine lv_iload_n hx hb dX2_countKept_10 rfl (lv_at hl 1 rfl) ?_
        refine lv_aload_n hx hb dX2_countKept_11 rfl (lv_at hl 2 rfl) ?_
        refine cr_get (v := .ref (ad 1)) hx hb hts hin2 hown hK hW 0 (by decide) (cE_x I Z F ad M) rfl 0 (by decide) rfl (by decide +kernel) rfl dX2_countKept_12 ?_
        refine lv_iload_n hx hb dX2_countKept_15 rfl (lv_at hl 0 rfl) ?_
        refine cr_fald hx hb hK hW i (by omega) rfl dX2_countKept_16 ?_
        refine cr_getN (v := .int (M (25 + 6 * i) 0)) (host := "SharedForks") hx hb hts hin0 hown hK hW (25 + 6 * i) (by omega) (cE_d0 I Z F ad M i) rfl 0 (by decide) rfl hN (by decide +kernel) rfl dX2_countKept_17 ?_
        refine lv_if_eq (tgt := 27) hx hb dX2_countKept_20 (by decide) (fun c2 => ?_) (fun c2 => ?_)
        · skip
          refine lv_iconst (v := 0) hx hb dX2_countKept_27 (by decide) ?_
          refine lv_iadd hx hb dX2_countKept_28 ?_
          rw [show ((sI (ckT M) i) + 0) = sI (ckT M) (i + 1) from sI_s (by rw [ckT, if_pos c2])]
          refine lv_istore_n (lv' := [(1, .int (sI (ckT M) (i + 1))), (2, .int (nI i)), (0, .ref (ad 0))]) hx hb dX2_countKept_29 rfl hl (by decide) rfl (fun ls hl => ?_)
          refine lv_iinc (v := nI (i + 1)) (lv' := [(2, .int (nI (i + 1))), (1, .int (sI (ckT M) (i + 1))), (0, .ref (ad 0))]) hx hb dX2_countKept_30 hl (k := 1) rfl (nI_1 i) (by decide) rfl (fun ls hl => ?_)
          refine lv_goto (tgt := 4) hx hb dX2_countKept_33 (by decide) ?_
          exact ih (i + 1) (by omega) ls (lv_sub hl [0, 1, 2] rfl)
        · skip
          refine lv_iconst (v := 1) hx hb dX2_countKept_23 (by decide) ?_
          refine lv_goto (tgt := 28) hx hb dX2_countKept_24 (by decide) ?_
          refine lv_iadd hx hb dX2_countKept_28 ?_
          rw [show ((sI (ckT M) i) + 1) = sI (ckT M) (i + 1) from sI_s (by rw [ckT, if_neg c2])]
          refine lv_istore_n (lv' := [(1, .int (sI (ckT M) (i + 1))), (2, .int (nI i)), (0, .ref (ad 0))]) hx hb dX2_countKept_29 rfl hl (by decide) rfl (fun ls hl => ?_)
          refine lv_iinc (v := nI (i + 1)) (lv' := [(2, .int (nI (i + 1))), (1, .int (sI (ckT M) (i + 1))), (0, .ref (ad 0))]) hx hb dX2_countKept_30 hl (k := 1) rfl (nI_1 i) (by decide) rfl (fun ls hl => ?_)
          refine lv_goto (tgt := 4) hx hb dX2_countKept_33 (by decide) ?_
          exact ih (i + 1) (by omega) ls (lv_sub hl [0, 1, 2] rfl)
  exact loop 12 0 (by omega) ls (lv_sub hl [0, 1, 2] rfl)

def afT (M : Nat → Nat → Int32) : Nat → Int32 := fun f => if M (25 + 6 * f) 0 = 0 then 0 else M (25 + 6 * f) 2
abbrev rm_addForks : Room := { frames := 0, cells := 0, slots := 0, locals := 0 }
set_option maxHeartbeats 4000000 in
set_option maxRecDepth 100000 in
/-- the folds' forks, added -/
theorem c_addForks (l : Launch) (D : va_G) (I Z F : ClassId) (ad : Nat → Nat) (hI : cI ad) (M : Nat → Nat → Int32) (sz : Nat)  : Met l yX2_addForks wsX2_addForks rm_addForks (va_Pc [.ref (ad 0)] (cU D I Z F ad sz M)) (va_Qi (fun (r : Int32) (u : Nat → Nat → Int32) => u = M ∧ r = sI (afT M) 12) (fun u t => cP D I Z F ad u t.heap) (cA ad sz)) 0 0 (cA ad sz) := by
  refine cMet_i (cc := cX2_addForks) (maxL := 3) hI (by decide) rfl ⟨rfl, rfl⟩ RX2 rfl (Nat.le_of_ble_eq_true rfl) (lv := [(0, .ref (ad 0))]) rfl ?_
  intro p e s m args below meth c Q A ls hsz C0 hW hl hret
  obtain ⟨hx, hb, hml, hts, hown, hlocks, hK, hN, hDa, hA, hargs⟩ := C0
  have hin0 : ∀ w ∈ u_ws RX0 TX0 7, w ∈ wsX2_addForks := by decide +kernel
  have hin2 : ∀ w ∈ u_ws RX2 TX2 6, w ∈ wsX2_addForks := by decide +kernel
  refine lv_iconst (v := 0) hx hb dX2_addForks_0 (by decide) ?_
  refine lv_istore_n (lv' := [(1, .int 0), (0, .ref (ad 0))]) hx hb dX2_addForks_1 rfl hl (by decide) rfl (fun ls hl => ?_)
  refine lv_iconst (v := 0) hx hb dX2_addForks_2 (by decide) ?_
  refine lv_istore_n (lv' := [(2, .int 0), (1, .int 0), (0, .ref (ad 0))]) hx hb dX2_addForks_3 rfl hl (by decide) rfl (fun ls hl => ?_)
  have loop : ∀ q i : Nat, i + q = 12 → ∀ (ls : Array Slot), lv_has ls 3 [(2, .int (nI i)), (1, .int (sI (afT M) i)), (0, .ref (ad 0))] → W p l e rm_addForks s m args below meth c s.heap [] 0 0 Q (F0 m 4 ls []) := by
    intro q
    induction q with
    | zero =>
      intro i hi ls hl
      obtain rfl : i = 12 := by omega
      refine lv_iload_n hx hb dX2_addForks_4 rfl (lv_at hl 0 rfl) ?_
      refine lv_bipush (v := 12) hx hb dX2_addForks_5 (by decide) ?_
      refine lv_icmp_ge (tgt := 44) hx hb dX2_addForks_7 (by decide) (fun c1 => ?_) (fun c1 => ?_)
      · skip
        refine lv_iload_n hx hb dX2_addForks_44 rfl (lv_at hl 1 rfl) ?_
        exact hret 45 ls _ _ _ _ dX2_addForks_45 ⟨rfl, rfl⟩ hW
      · exact absurd (nI_le (Nat.le_refl 12) (by omega)) c1
    | succ q ih =>
      intro i hi ls hl
      refine lv_iload_n hx hb dX2_addForks_4 rfl (lv_at hl 0 rfl) ?_
      refine lv_bipush (v := 12) hx hb dX2_addForks_5 (by decide) ?_
      refine lv_icmp_ge (tgt := 44) hx hb dX2_addForks_7 (by decide) (fun c1 => ?_) (fun c1 => ?_)
      · exact absurd c1 (nI_ge (b := 12) (by omega) (by omega))
      · skip
        refine lv_iload_n hx hb dX2_addForks_10 rfl (lv_at hl 1 rfl) ?_
        refine lv_aload_n hx hb dX2_addForks_11 rfl (lv_at hl 2 rfl) ?_
        refine cr_get (v := .ref (ad 1)) hx hb hts hin2 hown hK hW 0 (by decide) (cE_x I Z F ad M) rfl 0 (by decide) rfl (by decide +kernel) rfl dX2_addForks_12 ?_
        refine lv_iload_n hx hb dX2_addForks_15 rfl (lv_at hl 0 rfl) ?_
        refine cr_fald hx hb hK hW i (by omega) rfl dX2_addForks_16 ?_
        refine cr_getN (v := .int (M (25 + 6 * i) 0)) (host := "SharedForks") hx hb hts hin0 hown hK hW (25 + 6 * i) (by omega) (cE_d0 I Z F ad M i) rfl 0 (by decide) rfl hN (by decide +kernel) rfl dX2_addForks_17 ?_
        refine lv_if_eq (tgt := 35) hx hb dX2_addForks_20 (by decide) (fun c2 => ?_) (fun c2 => ?_)
        · skip
          refine lv_iconst (v := 0) hx hb dX2_addForks_35 (by decide) ?_
          refine lv_iadd hx hb dX2_addForks_36 ?_
          rw [show ((sI (afT M) i) + 0) = sI (afT M) (i + 1) from sI_s (by rw [afT, if_pos c2])]
          refine lv_istore_n (lv' := [(1, .int (sI (afT M) (i + 1))), (2, .int (nI i)), (0, .ref (ad 0))]) hx hb dX2_addForks_37 rfl hl (by decide) rfl (fun ls hl => ?_)
          refine lv_iinc (v := nI (i + 1)) (lv' := [(2, .int (nI (i + 1))), (1, .int (sI (afT M) (i + 1))), (0, .ref (ad 0))]) hx hb dX2_addForks_38 hl (k := 1) rfl (nI_1 i) (by decide) rfl (fun ls hl => ?_)
          refine lv_goto (tgt := 4) hx hb dX2_addForks_41 (by decide) ?_
          exact ih (i + 1) (by omega) ls (lv_sub hl [0, 1, 2] rfl)
        · skip
          refine lv_aload_n hx hb dX2_addForks_23 rfl (lv_at hl 2 rfl) ?_
          refine cr_get (v := .ref (ad 1)) hx hb hts hin2 hown hK hW 0 (by decide) (cE_x I Z F ad M) rfl 0 (by decide) rfl (by decide +kernel) rfl dX2_addForks_24 ?_
          refine lv_iload_n hx hb dX2_addForks_27 rfl (lv_at hl 0 rfl) ?_
          refine cr_fald hx hb hK hW i (by omega) rfl dX2_addForks_28 ?_
          refine cr_getN (v := .int (M (25 + 6 * i) 2)) (host := "SharedForks") hx hb hts hin0 hown hK hW (25 + 6 * i) (by omega) (cE_d0 I Z F ad M i) rfl 2 (by decide) rfl hN (by decide +kernel) rfl dX2_addForks_29 ?_
          refine lv_goto (tgt := 36) hx hb dX2_addForks_32 (by decide) ?_
          refine lv_iadd hx hb dX2_addForks_36 ?_
          rw [show ((sI (afT M) i) + (M (25 + 6 * i) 2)) = sI (afT M) (i + 1) from sI_s (by rw [afT, if_neg c2])]
          refine lv_istore_n (lv' := [(1, .int (sI (afT M) (i + 1))), (2, .int (nI i)), (0, .ref (ad 0))]) hx hb dX2_addForks_37 rfl hl (by decide) rfl (fun ls hl => ?_)
          refine lv_iinc (v := nI (i + 1)) (lv' := [(2, .int (nI (i + 1))), (1, .int (sI (afT M) (i + 1))), (0, .ref (ad 0))]) hx hb dX2_addForks_38 hl (k := 1) rfl (nI_1 i) (by decide) rfl (fun ls hl => ?_)
          refine lv_goto (tgt := 4) hx hb dX2_addForks_41 (by decide) ?_
          exact ih (i + 1) (by omega) ls (lv_sub hl [0, 1, 2] rfl)
  exact loop 12 0 (by omega) ls (lv_sub hl [0, 1, 2] rfl)

def cfT (M : Nat → Nat → Int32) : Nat → Int32 := fun k => if M (3 + 1) k = M 2 0 then 1 else 0
abbrev rm_countForksAtFirstPlace : Room := { frames := 0, cells := 0, slots := 0, locals := 0 }
set_option maxHeartbeats 4000000 in
set_option maxRecDepth 100000 in
/-- the forks with the first question -/
theorem c_countForksAtFirstPlace (l : Launch) (D : va_G) (I Z F : ClassId) (ad : Nat → Nat) (hI : cI ad) (M : Nat → Nat → Int32) (sz : Nat) (n : Nat) (hn6 : n ≤ 626) (h0 : M 3 0 = nI n) : Met l yX2_countForksAtFirstPlace wsX2_countForksAtFirstPlace rm_countForksAtFirstPlace (va_Pc [.ref (ad 0)] (cU D I Z F ad sz M)) (va_Qi (fun (r : Int32) (u : Nat → Nat → Int32) => u = M ∧ r = sI (cfT M) n) (fun u t => cP D I Z F ad u t.heap) (cA ad sz)) 0 0 (cA ad sz) := by
  refine cMet_i (cc := cX2_countForksAtFirstPlace) (maxL := 3) hI (by decide) rfl ⟨rfl, rfl⟩ RX2 rfl (Nat.le_of_ble_eq_true rfl) (lv := [(0, .ref (ad 0))]) rfl ?_
  intro p e s m args below meth c Q A ls hsz C0 hW hl hret
  obtain ⟨hx, hb, hml, hts, hown, hlocks, hK, hN, hDa, hA, hargs⟩ := C0
  have hin1 : ∀ w ∈ u_ws RX1 TX1 10, w ∈ wsX2_countForksAtFirstPlace := by decide +kernel
  have hin2 : ∀ w ∈ u_ws RX2 TX2 6, w ∈ wsX2_countForksAtFirstPlace := by decide +kernel
  refine lv_iconst (v := 0) hx hb dX2_countForksAtFirstPlace_0 (by decide) ?_
  refine lv_istore_n (lv' := [(1, .int 0), (0, .ref (ad 0))]) hx hb dX2_countForksAtFirstPlace_1 rfl hl (by decide) rfl (fun ls hl => ?_)
  refine lv_iconst (v := 0) hx hb dX2_countForksAtFirstPlace_2 (by decide) ?_
  refine lv_istore_n (lv' := [(2, .int 0), (1, .int 0), (0, .ref (ad 0))]) hx hb dX2_countForksAtFirstPlace_3 rfl hl (by decide) rfl (fun ls hl => ?_)
  have loop : ∀ q i : Nat, i + q = n → ∀ (ls : Array Slot), lv_has ls 3 [(2, .int (nI i)), (1, .int (sI (cfT M) i)), (0, .ref (ad 0))] → W p l e rm_countForksAtFirstPlace s m args below meth c s.heap [] 0 0 Q (F0 m 4 ls []) := by
    intro q
    induction q with
    | zero =>
      intro i hi ls hl
      obtain rfl : i = n := by omega
      refine lv_iload_n hx hb dX2_countForksAtFirstPlace_4 rfl (lv_at hl 0 rfl) ?_
      refine lv_aload_n hx hb dX2_countForksAtFirstPlace_5 rfl (lv_at hl 2 rfl) ?_
      refine cr_get (v := .ref (ad 3)) hx hb hts hin2 hown hK hW 0 (by decide) (cE_x I Z F ad M) rfl 2 (by decide) rfl (by decide +kernel) rfl dX2_countForksAtFirstPlace_6 ?_
      refine cr_getN (v := .int (M 3 0)) (host := "SharedForks") hx hb hts hin1 hown hK hW 3 (by decide) (cE_f0 I Z F ad M (Or.inl rfl)) rfl 0 (by decide) rfl hN (by decide +kernel) rfl dX2_countForksAtFirstPlace_9 ?_
      rw [h0]
      refine lv_icmp_ge (tgt := 47) hx hb dX2_countForksAtFirstPlace_12 (by decide) (fun c1 => ?_) (fun c1 => ?_)
      · skip
        refine lv_iload_n hx hb dX2_countForksAtFirstPlace_47 rfl (lv_at hl 1 rfl) ?_
        exact hret 48 ls _ _ _ _ dX2_countForksAtFirstPlace_48 ⟨rfl, rfl⟩ hW
      · exact absurd (nI_le (Nat.le_refl i) (by omega)) c1
    | succ q ih =>
      intro i hi ls hl
      refine lv_iload_n hx hb dX2_countForksAtFirstPlace_4 rfl (lv_at hl 0 rfl) ?_
      refine lv_aload_n hx hb dX2_countForksAtFirstPlace_5 rfl (lv_at hl 2 rfl) ?_
      refine cr_get (v := .ref (ad 3)) hx hb hts hin2 hown hK hW 0 (by decide) (cE_x I Z F ad M) rfl 2 (by decide) rfl (by decide +kernel) rfl dX2_countForksAtFirstPlace_6 ?_
      refine cr_getN (v := .int (M 3 0)) (host := "SharedForks") hx hb hts hin1 hown hK hW 3 (by decide) (cE_f0 I Z F ad M (Or.inl rfl)) rfl 0 (by decide) rfl hN (by decide +kernel) rfl dX2_countForksAtFirstPlace_9 ?_
      rw [h0]
      refine lv_icmp_ge (tgt := 47) hx hb dX2_countForksAtFirstPlace_12 (by decide) (fun c1 => ?_) (fun c1 => ?_)
      · exact absurd c1 (nI_ge (b := n) (by omega) (by omega))
      · skip
        refine lv_iload_n hx hb dX2_countForksAtFirstPlace_15 rfl (lv_at hl 1 rfl) ?_
        refine lv_aload_n hx hb dX2_countForksAtFirstPlace_16 rfl (lv_at hl 2 rfl) ?_
        refine cr_get (v := .ref (ad 3)) hx hb hts hin2 hown hK hW 0 (by decide) (cE_x I Z F ad M) rfl 2 (by decide) rfl (by decide +kernel) rfl dX2_countForksAtFirstPlace_17 ?_
        refine cr_getN (v := .ref (ad (3 + 1))) (host := "SharedForks") hx hb hts hin1 hown hK hW 3 (by decide) (cE_f0 I Z F ad M (Or.inl rfl)) rfl 1 (by decide) rfl hN (by decide +kernel) rfl dX2_countForksAtFirstPlace_20 ?_
        refine lv_iload_n hx hb dX2_countForksAtFirstPlace_23 rfl (lv_at hl 0 rfl) ?_
        refine cr_iald hx hb hK hW (3 + 1) (by decide) (cE_f1 I Z F ad M (Or.inl rfl)) i (by omega) (by decide) rfl dX2_countForksAtFirstPlace_24 ?_
        refine lv_aload_n hx hb dX2_countForksAtFirstPlace_25 rfl (lv_at hl 2 rfl) ?_
        refine cr_get (v := .ref (ad 2)) hx hb hts hin2 hown hK hW 0 (by decide) (cE_x I Z F ad M) rfl 1 (by decide) rfl (by decide +kernel) rfl dX2_countForksAtFirstPlace_26 ?_
        refine lv_iconst (v := 0) hx hb dX2_countForksAtFirstPlace_29 (by decide) ?_
        refine cr_iald hx hb hK hW 2 (by decide) (cE_q I Z F ad M) 0 (by decide) (by decide) rfl dX2_countForksAtFirstPlace_30 ?_
        refine lv_icmp_ne (tgt := 38) hx hb dX2_countForksAtFirstPlace_31 (by decide) (fun c2 => ?_) (fun c2 => ?_)
        · skip
          refine lv_iconst (v := 0) hx hb dX2_countForksAtFirstPlace_38 (by decide) ?_
          refine lv_iadd hx hb dX2_countForksAtFirstPlace_39 ?_
          rw [show ((sI (cfT M) i) + 0) = sI (cfT M) (i + 1) from sI_s (by rw [cfT, if_neg c2])]
          refine lv_istore_n (lv' := [(1, .int (sI (cfT M) (i + 1))), (2, .int (nI i)), (0, .ref (ad 0))]) hx hb dX2_countForksAtFirstPlace_40 rfl hl (by decide) rfl (fun ls hl => ?_)
          refine lv_iinc (v := nI (i + 1)) (lv' := [(2, .int (nI (i + 1))), (1, .int (sI (cfT M) (i + 1))), (0, .ref (ad 0))]) hx hb dX2_countForksAtFirstPlace_41 hl (k := 1) rfl (nI_1 i) (by decide) rfl (fun ls hl => ?_)
          refine lv_goto (tgt := 4) hx hb dX2_countForksAtFirstPlace_44 (by decide) ?_
          exact ih (i + 1) (by omega) ls (lv_sub hl [0, 1, 2] rfl)
        · skip
          refine lv_iconst (v := 1) hx hb dX2_countForksAtFirstPlace_34 (by decide) ?_
          refine lv_goto (tgt := 39) hx hb dX2_countForksAtFirstPlace_35 (by decide) ?_
          refine lv_iadd hx hb dX2_countForksAtFirstPlace_39 ?_
          rw [show ((sI (cfT M) i) + 1) = sI (cfT M) (i + 1) from sI_s (by rw [cfT, if_pos c2])]
          refine lv_istore_n (lv' := [(1, .int (sI (cfT M) (i + 1))), (2, .int (nI i)), (0, .ref (ad 0))]) hx hb dX2_countForksAtFirstPlace_40 rfl hl (by decide) rfl (fun ls hl => ?_)
          refine lv_iinc (v := nI (i + 1)) (lv' := [(2, .int (nI (i + 1))), (1, .int (sI (cfT M) (i + 1))), (0, .ref (ad 0))]) hx hb dX2_countForksAtFirstPlace_41 hl (k := 1) rfl (nI_1 i) (by decide) rfl (fun ls hl => ?_)
          refine lv_goto (tgt := 4) hx hb dX2_countForksAtFirstPlace_44 (by decide) ?_
          exact ih (i + 1) (by omega) ls (lv_sub hl [0, 1, 2] rfl)
  exact loop n 0 (by omega) ls (lv_sub hl [0, 1, 2] rfl)

def clT (M : Nat → Nat → Int32) : Nat → Int32 := fun f => if ¬ M (25 + 6 * f) 0 = 0 ∧ M (25 + 6 * f) 2 = 0 then 1 else 0
abbrev rm_countLeaves : Room := { frames := 0, cells := 0, slots := 0, locals := 0 }
set_option maxHeartbeats 4000000 in
set_option maxRecDepth 100000 in
/-- the folds that are leaves -/
theorem c_countLeaves (l : Launch) (D : va_G) (I Z F : ClassId) (ad : Nat → Nat) (hI : cI ad) (M : Nat → Nat → Int32) (sz : Nat)  : Met l yX2_countLeaves wsX2_countLeaves rm_countLeaves (va_Pc [.ref (ad 0)] (cU D I Z F ad sz M)) (va_Qi (fun (r : Int32) (u : Nat → Nat → Int32) => u = M ∧ r = sI (clT M) 12) (fun u t => cP D I Z F ad u t.heap) (cA ad sz)) 0 0 (cA ad sz) := by
  refine cMet_i (cc := cX2_countLeaves) (maxL := 3) hI (by decide) rfl ⟨rfl, rfl⟩ RX2 rfl (Nat.le_of_ble_eq_true rfl) (lv := [(0, .ref (ad 0))]) rfl ?_
  intro p e s m args below meth c Q A ls hsz C0 hW hl hret
  obtain ⟨hx, hb, hml, hts, hown, hlocks, hK, hN, hDa, hA, hargs⟩ := C0
  have hin0 : ∀ w ∈ u_ws RX0 TX0 7, w ∈ wsX2_countLeaves := by decide +kernel
  have hin2 : ∀ w ∈ u_ws RX2 TX2 6, w ∈ wsX2_countLeaves := by decide +kernel
  refine lv_iconst (v := 0) hx hb dX2_countLeaves_0 (by decide) ?_
  refine lv_istore_n (lv' := [(1, .int 0), (0, .ref (ad 0))]) hx hb dX2_countLeaves_1 rfl hl (by decide) rfl (fun ls hl => ?_)
  refine lv_iconst (v := 0) hx hb dX2_countLeaves_2 (by decide) ?_
  refine lv_istore_n (lv' := [(2, .int 0), (1, .int 0), (0, .ref (ad 0))]) hx hb dX2_countLeaves_3 rfl hl (by decide) rfl (fun ls hl => ?_)
  have loop : ∀ q i : Nat, i + q = 12 → ∀ (ls : Array Slot), lv_has ls 3 [(2, .int (nI i)), (1, .int (sI (clT M) i)), (0, .ref (ad 0))] → W p l e rm_countLeaves s m args below meth c s.heap [] 0 0 Q (F0 m 4 ls []) := by
    intro q
    induction q with
    | zero =>
      intro i hi ls hl
      obtain rfl : i = 12 := by omega
      refine lv_iload_n hx hb dX2_countLeaves_4 rfl (lv_at hl 0 rfl) ?_
      refine lv_bipush (v := 12) hx hb dX2_countLeaves_5 (by decide) ?_
      refine lv_icmp_ge (tgt := 48) hx hb dX2_countLeaves_7 (by decide) (fun c1 => ?_) (fun c1 => ?_)
      · skip
        refine lv_iload_n hx hb dX2_countLeaves_48 rfl (lv_at hl 1 rfl) ?_
        exact hret 49 ls _ _ _ _ dX2_countLeaves_49 ⟨rfl, rfl⟩ hW
      · exact absurd (nI_le (Nat.le_refl 12) (by omega)) c1
    | succ q ih =>
      intro i hi ls hl
      refine lv_iload_n hx hb dX2_countLeaves_4 rfl (lv_at hl 0 rfl) ?_
      refine lv_bipush (v := 12) hx hb dX2_countLeaves_5 (by decide) ?_
      refine lv_icmp_ge (tgt := 48) hx hb dX2_countLeaves_7 (by decide) (fun c1 => ?_) (fun c1 => ?_)
      · exact absurd c1 (nI_ge (b := 12) (by omega) (by omega))
      · skip
        refine lv_iload_n hx hb dX2_countLeaves_10 rfl (lv_at hl 1 rfl) ?_
        refine lv_aload_n hx hb dX2_countLeaves_11 rfl (lv_at hl 2 rfl) ?_
        refine cr_get (v := .ref (ad 1)) hx hb hts hin2 hown hK hW 0 (by decide) (cE_x I Z F ad M) rfl 0 (by decide) rfl (by decide +kernel) rfl dX2_countLeaves_12 ?_
        refine lv_iload_n hx hb dX2_countLeaves_15 rfl (lv_at hl 0 rfl) ?_
        refine cr_fald hx hb hK hW i (by omega) rfl dX2_countLeaves_16 ?_
        refine cr_getN (v := .int (M (25 + 6 * i) 0)) (host := "SharedForks") hx hb hts hin0 hown hK hW (25 + 6 * i) (by omega) (cE_d0 I Z F ad M i) rfl 0 (by decide) rfl hN (by decide +kernel) rfl dX2_countLeaves_17 ?_
        refine lv_if_eq (tgt := 39) hx hb dX2_countLeaves_20 (by decide) (fun c2 => ?_) (fun c2 => ?_)
        · skip
          refine lv_iconst (v := 0) hx hb dX2_countLeaves_39 (by decide) ?_
          refine lv_iadd hx hb dX2_countLeaves_40 ?_
          rw [show ((sI (clT M) i) + 0) = sI (clT M) (i + 1) from sI_s (by rw [clT, if_neg (fun h => h.1 c2)])]
          refine lv_istore_n (lv' := [(1, .int (sI (clT M) (i + 1))), (2, .int (nI i)), (0, .ref (ad 0))]) hx hb dX2_countLeaves_41 rfl hl (by decide) rfl (fun ls hl => ?_)
          refine lv_iinc (v := nI (i + 1)) (lv' := [(2, .int (nI (i + 1))), (1, .int (sI (clT M) (i + 1))), (0, .ref (ad 0))]) hx hb dX2_countLeaves_42 hl (k := 1) rfl (nI_1 i) (by decide) rfl (fun ls hl => ?_)
          refine lv_goto (tgt := 4) hx hb dX2_countLeaves_45 (by decide) ?_
          exact ih (i + 1) (by omega) ls (lv_sub hl [0, 1, 2] rfl)
        · skip
          refine lv_aload_n hx hb dX2_countLeaves_23 rfl (lv_at hl 2 rfl) ?_
          refine cr_get (v := .ref (ad 1)) hx hb hts hin2 hown hK hW 0 (by decide) (cE_x I Z F ad M) rfl 0 (by decide) rfl (by decide +kernel) rfl dX2_countLeaves_24 ?_
          refine lv_iload_n hx hb dX2_countLeaves_27 rfl (lv_at hl 0 rfl) ?_
          refine cr_fald hx hb hK hW i (by omega) rfl dX2_countLeaves_28 ?_
          refine cr_getN (v := .int (M (25 + 6 * i) 2)) (host := "SharedForks") hx hb hts hin0 hown hK hW (25 + 6 * i) (by omega) (cE_d0 I Z F ad M i) rfl 2 (by decide) rfl hN (by decide +kernel) rfl dX2_countLeaves_29 ?_
          refine lv_if_ne (tgt := 39) hx hb dX2_countLeaves_32 (by decide) (fun c3 => ?_) (fun c3 => ?_)
          · skip
            refine lv_iconst (v := 0) hx hb dX2_countLeaves_39 (by decide) ?_
            refine lv_iadd hx hb dX2_countLeaves_40 ?_
            rw [show ((sI (clT M) i) + 0) = sI (clT M) (i + 1) from sI_s (by rw [clT, if_neg (fun h => c3 h.2)])]
            refine lv_istore_n (lv' := [(1, .int (sI (clT M) (i + 1))), (2, .int (nI i)), (0, .ref (ad 0))]) hx hb dX2_countLeaves_41 rfl hl (by decide) rfl (fun ls hl => ?_)
            refine lv_iinc (v := nI (i + 1)) (lv' := [(2, .int (nI (i + 1))), (1, .int (sI (clT M) (i + 1))), (0, .ref (ad 0))]) hx hb dX2_countLeaves_42 hl (k := 1) rfl (nI_1 i) (by decide) rfl (fun ls hl => ?_)
            refine lv_goto (tgt := 4) hx hb dX2_countLeaves_45 (by decide) ?_
            exact ih (i + 1) (by omega) ls (lv_sub hl [0, 1, 2] rfl)
          · skip
            refine lv_iconst (v := 1) hx hb dX2_countLeaves_35 (by decide) ?_
            refine lv_goto (tgt := 40) hx hb dX2_countLeaves_36 (by decide) ?_
            refine lv_iadd hx hb dX2_countLeaves_40 ?_
            rw [show ((sI (clT M) i) + 1) = sI (clT M) (i + 1) from sI_s (by rw [clT, if_pos ⟨c2, c3⟩])]
            refine lv_istore_n (lv' := [(1, .int (sI (clT M) (i + 1))), (2, .int (nI i)), (0, .ref (ad 0))]) hx hb dX2_countLeaves_41 rfl hl (by decide) rfl (fun ls hl => ?_)
            refine lv_iinc (v := nI (i + 1)) (lv' := [(2, .int (nI (i + 1))), (1, .int (sI (clT M) (i + 1))), (0, .ref (ad 0))]) hx hb dX2_countLeaves_42 hl (k := 1) rfl (nI_1 i) (by decide) rfl (fun ls hl => ?_)
            refine lv_goto (tgt := 4) hx hb dX2_countLeaves_45 (by decide) ?_
            exact ih (i + 1) (by omega) ls (lv_sub hl [0, 1, 2] rfl)
  exact loop 12 0 (by omega) ls (lv_sub hl [0, 1, 2] rfl)

def coT (M : Nat → Nat → Int32) (b : Nat) : Nat → Int32 := fun i => if M (3 + 4) (M (b + 2) i).toNatClampNeg = 1 then 1 else 0
abbrev rm_countOwnForks : Room := { frames := 0, cells := 0, slots := 0, locals := 0 }
set_option maxHeartbeats 4000000 in
set_option maxRecDepth 100000 in
/-- the forks that only this fold has -/
theorem c_countOwnForks (l : Launch) (D : va_G) (I Z F : ClassId) (ad : Nat → Nat) (hI : cI ad) (M : Nat → Nat → Int32) (sz : Nat) (f : Nat) (hf : f < 12) (n z : Nat) (hn6 : n ≤ 626) (hz7 : z ≤ 77) (hz : M (25 + 6 * f) 2 = nI z) (hrw : ∀ i : Nat, i < z → ∃ k : Nat, k < n ∧ M (25 + 6 * f + 2) i = nI k) : Met l yX2_countOwnForks wsX2_countOwnForks rm_countOwnForks (va_Pc [.ref (ad 0), .ref (ad (25 + 6 * f))] (cU D I Z F ad sz M)) (va_Qi (fun (r : Int32) (u : Nat → Nat → Int32) => u = M ∧ r = sI (coT M (25 + 6 * f)) z) (fun u t => cP D I Z F ad u t.heap) (cA ad sz)) 0 0 (cA ad sz) := by
  refine cMet_i (cc := cX2_countOwnForks) (maxL := 4) hI (by decide) rfl ⟨rfl, rfl⟩ RX2 rfl (Nat.le_of_ble_eq_true rfl) (lv := [(0, .ref (ad 0)), (1, .ref (ad (25 + 6 * f)))]) rfl ?_
  intro p e s m args below meth c Q A ls hsz C0 hW hl hret
  obtain ⟨hx, hb, hml, hts, hown, hlocks, hK, hN, hDa, hA, hargs⟩ := C0
  have hin2 : ∀ w ∈ u_ws RX2 TX2 6, w ∈ wsX2_countOwnForks := by decide +kernel
  have hin0 : ∀ w ∈ u_ws RX0 TX0 7, w ∈ wsX2_countOwnForks := by decide +kernel
  have hin1 : ∀ w ∈ u_ws RX1 TX1 10, w ∈ wsX2_countOwnForks := by decide +kernel
  refine lv_iconst (v := 0) hx hb dX2_countOwnForks_0 (by decide) ?_
  refine lv_istore_n (lv' := [(2, .int 0), (0, .ref (ad 0)), (1, .ref (ad (25 + 6 * f)))]) hx hb dX2_countOwnForks_1 rfl hl (by decide) rfl (fun ls hl => ?_)
  refine lv_iconst (v := 0) hx hb dX2_countOwnForks_2 (by decide) ?_
  refine lv_istore_n (lv' := [(3, .int 0), (2, .int 0), (0, .ref (ad 0)), (1, .ref (ad (25 + 6 * f)))]) hx hb dX2_countOwnForks_3 rfl hl (by decide) rfl (fun ls hl => ?_)
  have loop : ∀ q i : Nat, i + q = z → ∀ (ls : Array Slot), lv_has ls 4 [(3, .int (nI i)), (2, .int (sI (coT M (25 + 6 * f)) i)), (0, .ref (ad 0)), (1, .ref (ad (25 + 6 * f)))] → W p l e rm_countOwnForks s m args below meth c s.heap [] 0 0 Q (F0 m 4 ls []) := by
    intro q
    induction q with
    | zero =>
      intro i hi ls hl
      obtain rfl : i = z := by omega
      refine lv_iload_n hx hb dX2_countOwnForks_4 rfl (lv_at hl 0 rfl) ?_
      refine lv_aload_n hx hb dX2_countOwnForks_5 rfl (lv_at hl 3 rfl) ?_
      refine cr_getN (v := .int (M (25 + 6 * f) 2)) (host := "SharedForks") hx hb hts hin0 hown hK hW (25 + 6 * f) (by omega) (cE_d0 I Z F ad M f) rfl 2 (by decide) rfl hN (by decide +kernel) rfl dX2_countOwnForks_6 ?_
      rw [hz]
      refine lv_icmp_ge (tgt := 44) hx hb dX2_countOwnForks_9 (by decide) (fun c1 => ?_) (fun c1 => ?_)
      · skip
        refine lv_iload_n hx hb dX2_countOwnForks_44 rfl (lv_at hl 1 rfl) ?_
        exact hret 45 ls _ _ _ _ dX2_countOwnForks_45 ⟨rfl, rfl⟩ hW
      · exact absurd (nI_le (Nat.le_refl i) (by omega)) c1
    | succ q ih =>
      intro i hi ls hl
      refine lv_iload_n hx hb dX2_countOwnForks_4 rfl (lv_at hl 0 rfl) ?_
      refine lv_aload_n hx hb dX2_countOwnForks_5 rfl (lv_at hl 3 rfl) ?_
      refine cr_getN (v := .int (M (25 + 6 * f) 2)) (host := "SharedForks") hx hb hts hin0 hown hK hW (25 + 6 * f) (by omega) (cE_d0 I Z F ad M f) rfl 2 (by decide) rfl hN (by decide +kernel) rfl dX2_countOwnForks_6 ?_
      rw [hz]
      refine lv_icmp_ge (tgt := 44) hx hb dX2_countOwnForks_9 (by decide) (fun c1 => ?_) (fun c1 => ?_)
      · exact absurd c1 (nI_ge (b := z) (by omega) (by omega))
      · skip
        obtain ⟨k, hk, ek⟩ := hrw i (by omega)
        refine lv_iload_n hx hb dX2_countOwnForks_12 rfl (lv_at hl 1 rfl) ?_
        refine lv_aload_n hx hb dX2_countOwnForks_13 rfl (lv_at hl 2 rfl) ?_
        refine cr_get (v := .ref (ad 3)) hx hb hts hin2 hown hK hW 0 (by decide) (cE_x I Z F ad M) rfl 2 (by decide) rfl (by decide +kernel) rfl dX2_countOwnForks_14 ?_
        refine cr_getN (v := .ref (ad (3 + 4))) (host := "SharedForks") hx hb hts hin1 hown hK hW 3 (by decide) (cE_f0 I Z F ad M (Or.inl rfl)) rfl 4 (by decide) rfl hN (by decide +kernel) rfl dX2_countOwnForks_17 ?_
        refine lv_aload_n hx hb dX2_countOwnForks_20 rfl (lv_at hl 3 rfl) ?_
        refine cr_getN (v := .ref (ad (25 + 6 * f + 2))) (host := "SharedForks") hx hb hts hin0 hown hK hW (25 + 6 * f) (by omega) (cE_d0 I Z F ad M f) rfl 3 (by decide) rfl hN (by decide +kernel) rfl dX2_countOwnForks_21 ?_
        refine lv_iload_n hx hb dX2_countOwnForks_24 rfl (lv_at hl 0 rfl) ?_
        refine cr_iald hx hb hK hW (25 + 6 * f + 2) (by omega) (cE_d2 I Z F ad M f) i (by omega) (by decide) rfl dX2_countOwnForks_25 ?_
        refine cr_iald hx hb hK hW (3 + 4) (by decide) (cE_f4 I Z F ad M (Or.inl rfl)) k (by omega) (by decide) ek dX2_countOwnForks_26 ?_
        refine lv_iconst (v := 1) hx hb dX2_countOwnForks_27 (by decide) ?_
        refine lv_icmp_ne (tgt := 35) hx hb dX2_countOwnForks_28 (by decide) (fun c2 => ?_) (fun c2 => ?_)
        · skip
          refine lv_iconst (v := 0) hx hb dX2_countOwnForks_35 (by decide) ?_
          refine lv_iadd hx hb dX2_countOwnForks_36 ?_
          rw [show ((sI (coT M (25 + 6 * f)) i) + 0) = sI (coT M (25 + 6 * f)) (i + 1) from sI_s (by rw [coT, ek, nI_clamp (by omega), if_neg c2])]
          refine lv_istore_n (lv' := [(2, .int (sI (coT M (25 + 6 * f)) (i + 1))), (3, .int (nI i)), (0, .ref (ad 0)), (1, .ref (ad (25 + 6 * f)))]) hx hb dX2_countOwnForks_37 rfl hl (by decide) rfl (fun ls hl => ?_)
          refine lv_iinc (v := nI (i + 1)) (lv' := [(3, .int (nI (i + 1))), (2, .int (sI (coT M (25 + 6 * f)) (i + 1))), (0, .ref (ad 0)), (1, .ref (ad (25 + 6 * f)))]) hx hb dX2_countOwnForks_38 hl (k := 1) rfl (nI_1 i) (by decide) rfl (fun ls hl => ?_)
          refine lv_goto (tgt := 4) hx hb dX2_countOwnForks_41 (by decide) ?_
          exact ih (i + 1) (by omega) ls (lv_sub hl [0, 1, 2, 3] rfl)
        · skip
          refine lv_iconst (v := 1) hx hb dX2_countOwnForks_31 (by decide) ?_
          refine lv_goto (tgt := 36) hx hb dX2_countOwnForks_32 (by decide) ?_
          refine lv_iadd hx hb dX2_countOwnForks_36 ?_
          rw [show ((sI (coT M (25 + 6 * f)) i) + 1) = sI (coT M (25 + 6 * f)) (i + 1) from sI_s (by rw [coT, ek, nI_clamp (by omega), if_pos c2])]
          refine lv_istore_n (lv' := [(2, .int (sI (coT M (25 + 6 * f)) (i + 1))), (3, .int (nI i)), (0, .ref (ad 0)), (1, .ref (ad (25 + 6 * f)))]) hx hb dX2_countOwnForks_37 rfl hl (by decide) rfl (fun ls hl => ?_)
          refine lv_iinc (v := nI (i + 1)) (lv' := [(3, .int (nI (i + 1))), (2, .int (sI (coT M (25 + 6 * f)) (i + 1))), (0, .ref (ad 0)), (1, .ref (ad (25 + 6 * f)))]) hx hb dX2_countOwnForks_38 hl (k := 1) rfl (nI_1 i) (by decide) rfl (fun ls hl => ?_)
          refine lv_goto (tgt := 4) hx hb dX2_countOwnForks_41 (by decide) ?_
          exact ih (i + 1) (by omega) ls (lv_sub hl [0, 1, 2, 3] rfl)
  exact loop z 0 (by omega) ls (lv_sub hl [0, 1, 2, 3] rfl)

def qmL (M : Nat → Nat → Int32) (b : Nat) : Nat → Int32
  | 0 => 0
  | i + 1 => qmL M b i ||| (1 <<< (M (3 + 1) (M (b + 2) i).toNatClampNeg &&& 31))
abbrev rm_questionsThatMatter : Room := { frames := 0, cells := 0, slots := 0, locals := 0 }
set_option maxHeartbeats 4000000 in
set_option maxRecDepth 100000 in
/-- the questions of a fold's forks, as bits -/
theorem c_questionsThatMatter (l : Launch) (D : va_G) (I Z F : ClassId) (ad : Nat → Nat) (hI : cI ad) (M : Nat → Nat → Int32) (sz : Nat) (f : Nat) (hf : f < 12) (n z : Nat) (hn6 : n ≤ 626) (hz7 : z ≤ 77) (hz : M (25 + 6 * f) 2 = nI z) (hrw : ∀ i : Nat, i < z → ∃ k : Nat, k < n ∧ M (25 + 6 * f + 2) i = nI k) : Met l yX2_questionsThatMatter wsX2_questionsThatMatter rm_questionsThatMatter (va_Pc [.ref (ad 0), .ref (ad (25 + 6 * f))] (cU D I Z F ad sz M)) (va_Qi (fun (r : Int32) (u : Nat → Nat → Int32) => u = M ∧ r = qmL M (25 + 6 * f) z) (fun u t => cP D I Z F ad u t.heap) (cA ad sz)) 0 0 (cA ad sz) := by
  refine cMet_i (cc := cX2_questionsThatMatter) (maxL := 4) hI (by decide) rfl ⟨rfl, rfl⟩ RX2 rfl (Nat.le_of_ble_eq_true rfl) (lv := [(0, .ref (ad 0)), (1, .ref (ad (25 + 6 * f)))]) rfl ?_
  intro p e s m args below meth c Q A ls hsz C0 hW hl hret
  obtain ⟨hx, hb, hml, hts, hown, hlocks, hK, hN, hDa, hA, hargs⟩ := C0
  have hin2 : ∀ w ∈ u_ws RX2 TX2 6, w ∈ wsX2_questionsThatMatter := by decide +kernel
  have hin0 : ∀ w ∈ u_ws RX0 TX0 7, w ∈ wsX2_questionsThatMatter := by decide +kernel
  have hin1 : ∀ w ∈ u_ws RX1 TX1 10, w ∈ wsX2_questionsThatMatter := by decide +kernel
  refine lv_iconst (v := 0) hx hb dX2_questionsThatMatter_0 (by decide) ?_
  refine lv_istore_n (lv' := [(2, .int 0), (0, .ref (ad 0)), (1, .ref (ad (25 + 6 * f)))]) hx hb dX2_questionsThatMatter_1 rfl hl (by decide) rfl (fun ls hl => ?_)
  refine lv_iconst (v := 0) hx hb dX2_questionsThatMatter_2 (by decide) ?_
  refine lv_istore_n (lv' := [(3, .int 0), (2, .int 0), (0, .ref (ad 0)), (1, .ref (ad (25 + 6 * f)))]) hx hb dX2_questionsThatMatter_3 rfl hl (by decide) rfl (fun ls hl => ?_)
  have loop : ∀ q i : Nat, i + q = z → ∀ (ls : Array Slot), lv_has ls 4 [(3, .int (nI i)), (2, .int (qmL M (25 + 6 * f) i)), (0, .ref (ad 0)), (1, .ref (ad (25 + 6 * f)))] → W p l e rm_questionsThatMatter s m args below meth c s.heap [] 0 0 Q (F0 m 4 ls []) := by
    intro q
    induction q with
    | zero =>
      intro i hi ls hl
      obtain rfl : i = z := by omega
      refine lv_iload_n hx hb dX2_questionsThatMatter_4 rfl (lv_at hl 0 rfl) ?_
      refine lv_aload_n hx hb dX2_questionsThatMatter_5 rfl (lv_at hl 3 rfl) ?_
      refine cr_getN (v := .int (M (25 + 6 * f) 2)) (host := "SharedForks") hx hb hts hin0 hown hK hW (25 + 6 * f) (by omega) (cE_d0 I Z F ad M f) rfl 2 (by decide) rfl hN (by decide +kernel) rfl dX2_questionsThatMatter_6 ?_
      rw [hz]
      refine lv_icmp_ge (tgt := 37) hx hb dX2_questionsThatMatter_9 (by decide) (fun c1 => ?_) (fun c1 => ?_)
      · skip
        refine lv_iload_n hx hb dX2_questionsThatMatter_37 rfl (lv_at hl 1 rfl) ?_
        exact hret 38 ls _ _ _ _ dX2_questionsThatMatter_38 ⟨rfl, rfl⟩ hW
      · exact absurd (nI_le (by omega) (by omega)) c1
    | succ q ih =>
      intro i hi ls hl
      refine lv_iload_n hx hb dX2_questionsThatMatter_4 rfl (lv_at hl 0 rfl) ?_
      refine lv_aload_n hx hb dX2_questionsThatMatter_5 rfl (lv_at hl 3 rfl) ?_
      refine cr_getN (v := .int (M (25 + 6 * f) 2)) (host := "SharedForks") hx hb hts hin0 hown hK hW (25 + 6 * f) (by omega) (cE_d0 I Z F ad M f) rfl 2 (by decide) rfl hN (by decide +kernel) rfl dX2_questionsThatMatter_6 ?_
      rw [hz]
      refine lv_icmp_ge (tgt := 37) hx hb dX2_questionsThatMatter_9 (by decide) (fun c1 => ?_) (fun c1 => ?_)
      · exact absurd c1 (nI_ge (by omega) (by omega))
      · skip
        obtain ⟨k, hk, ek⟩ := hrw i (by omega)
        refine lv_iload_n hx hb dX2_questionsThatMatter_12 rfl (lv_at hl 1 rfl) ?_
        refine lv_iconst (v := 1) hx hb dX2_questionsThatMatter_13 (by decide) ?_
        refine lv_aload_n hx hb dX2_questionsThatMatter_14 rfl (lv_at hl 2 rfl) ?_
        refine cr_get (v := .ref (ad 3)) hx hb hts hin2 hown hK hW 0 (by decide) (cE_x I Z F ad M) rfl 2 (by decide) rfl (by decide +kernel) rfl dX2_questionsThatMatter_15 ?_
        refine cr_getN (v := .ref (ad (3 + 1))) (host := "SharedForks") hx hb hts hin1 hown hK hW 3 (by decide) (cE_f0 I Z F ad M (Or.inl rfl)) rfl 1 (by decide) rfl hN (by decide +kernel) rfl dX2_questionsThatMatter_18 ?_
        refine lv_aload_n hx hb dX2_questionsThatMatter_21 rfl (lv_at hl 3 rfl) ?_
        refine cr_getN (v := .ref (ad (25 + 6 * f + 2))) (host := "SharedForks") hx hb hts hin0 hown hK hW (25 + 6 * f) (by omega) (cE_d0 I Z F ad M f) rfl 3 (by decide) rfl hN (by decide +kernel) rfl dX2_questionsThatMatter_22 ?_
        refine lv_iload_n hx hb dX2_questionsThatMatter_25 rfl (lv_at hl 0 rfl) ?_
        refine cr_iald hx hb hK hW (25 + 6 * f + 2) (by omega) (cE_d2 I Z F ad M f) i (by omega) (by decide) rfl dX2_questionsThatMatter_26 ?_
        refine cr_iald hx hb hK hW (3 + 1) (by decide) (cE_f1 I Z F ad M (Or.inl rfl)) k (by omega) (by decide) ek dX2_questionsThatMatter_27 ?_
        refine lv_ishl hx hb dX2_questionsThatMatter_28 ?_
        refine lv_ior hx hb dX2_questionsThatMatter_29 ?_
        rw [show ((qmL M (25 + 6 * f) i) ||| (1 <<< ((M (3 + 1) k) &&& 31))) = qmL M (25 + 6 * f) (i + 1) from by rw [qmL, ek, nI_clamp (by omega)]]
        refine lv_istore_n (lv' := [(2, .int (qmL M (25 + 6 * f) (i + 1))), (3, .int (nI i)), (0, .ref (ad 0)), (1, .ref (ad (25 + 6 * f)))]) hx hb dX2_questionsThatMatter_30 rfl hl (by decide) rfl (fun ls hl => ?_)
        refine lv_iinc (v := nI (i + 1)) (lv' := [(3, .int (nI (i + 1))), (2, .int (qmL M (25 + 6 * f) (i + 1))), (0, .ref (ad 0)), (1, .ref (ad (25 + 6 * f)))]) hx hb dX2_questionsThatMatter_31 hl (k := 1) rfl (nI_1 i) (by decide) rfl (fun ls hl => ?_)
        refine lv_goto (tgt := 4) hx hb dX2_questionsThatMatter_34 (by decide) ?_
        exact ih (i + 1) (by omega) ls (lv_sub hl [0, 1, 2, 3] rfl)
  exact loop z 0 (by omega) ls (lv_sub hl [0, 1, 2, 3] rfl)
