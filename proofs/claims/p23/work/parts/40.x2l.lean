def akF (M : Nat → Nat → Int32) (b : Nat) : UInt64 := FP.ddiv (FP.i2d (sI (caT M b) 256)) 4643211215818981376
def meF (M : Nat → Nat → Int32) : UInt64 := if sI (ckT M) 12 = 0 then FP.dconst0 else FP.ddiv (FP.i2d (sI (afT M) 12)) (FP.i2d (sI (ckT M) 12))
theorem akF_n (M : Nat → Nat → Int32) (b : Nat) : vf_n64 (FP.ddiv (FP.i2d (sI (caT M b) 256)) 4643211215818981376) := by
  obtain ⟨t, h1, h2⟩ := sI_in (F := caT M b) (m := 8) 256 (fun k _ => caF_in M b (nI k))
  rw [h2]; exact fp_256 (by omega)
theorem meF_n {M : Nat → Nat → Int32} {n : Nat} (hrs : rwsOk M n) (h : ¬ sI (ckT M) 12 = 0) : vf_n64 (FP.ddiv (FP.i2d (sI (afT M) 12)) (FP.i2d (sI (ckT M) 12))) := by
  obtain ⟨t, h1, h2⟩ := sI_in (F := ckT M) (m := 1) 12 (fun k _ => by
    unfold ckT
    split
    · exact ⟨0, by omega, rfl⟩
    · exact ⟨1, by omega, rfl⟩)
  obtain ⟨a, h3, h4⟩ := sI_in (F := afT M) (m := 77) 12 (fun k hk => by
    unfold afT
    split
    · exact ⟨0, by omega, rfl⟩
    · rename_i h; obtain ⟨z, hz7, hz, -⟩ := hrs.2.2 k hk h; exact ⟨z, hz7, hz⟩)
  rw [h2] at h
  rw [h2, h4]
  cases t with
  | zero => exact absurd rfl h
  | succ t => exact fp_mean (by omega) (by omega)
abbrev rm_asked : Room := { frames := 9, cells := 1, slots := 6, locals := 400 }
set_option maxHeartbeats 4000000 in
set_option maxRecDepth 100000 in
/-- how many questions are asked in the mean -/
theorem c_asked (l : Launch) (hst : l.stackTraces = false) (D : va_G) (I Z F : ClassId) (ad sa : Nat → Nat) (hI : cI ad) (M : Nat → Nat → Int32) (sz : Nat) (n : Nat) (hrs : rwsOk M n) (a1 : Int32) : vx_Met l yX2_asked wsX2_asked rm_asked (va_Pc [.ref (ad 0), .int a1] (cUX D I Z F ad sa sz M)) (va_Qd (fun (r : UInt64) (u : Nat → Nat → Int32) => ∃ k : Nat, fdOk M a1 k ∧ u = M ∧ r = akF M (25 + 6 * k)) (fun u t => cP D I Z F ad u t.heap) (cA ad sz)) (xQ D I Z F ad M sz (fun E => E = xIO ∧ ¬ ∃ k, fdOk M a1 k)) 1 6 (cA ad sz) := by
  refine cMetX_d (cc := cX2_asked) (maxL := 5) hst hI (by decide) rfl ⟨rfl, rfl, by decide, by decide⟩ RX2 rfl (Nat.le_of_ble_eq_true rfl) (lv := [(0, .ref (ad 0)), (1, .int a1)]) rfl ?_
  intro p e s m args below meth c Q A ls hsz C0 hX hW hl hret hthr hprp
  obtain ⟨hx, hb, hml, hts, hown, hlocks, hK, hN, hDa, hA, hargs⟩ := C0
  have hin2 : ∀ w ∈ u_ws RX2 TX2 6, w ∈ wsX2_asked := by decide +kernel
  have hin0 : ∀ w ∈ u_ws RX0 TX0 7, w ∈ wsX2_asked := by decide +kernel
  have hin1 : ∀ w ∈ u_ws RX1 TX1 10, w ∈ wsX2_asked := by decide +kernel
  refine lv_aload_n hx hb dX2_asked_0 rfl (lv_at hl 0 rfl) ?_
  refine lv_iload_n hx hb dX2_asked_1 rfl (lv_at hl 1 rfl) ?_
  refine cx_callq (vx_runV (As := [.int a1]) (rest := []) ⟨hx, hb, hml, hown, hts⟩ (c_foldAt l hst D I Z F ad sa hI M s.heap.size a1) (cwV 1 hts gX2_asked_X2_foldAt rfl rfl rfl (by decide +kernel) ⟨Nat.le_of_ble_eq_true rfl, Nat.le_of_ble_eq_true rfl⟩) (cx_preV hK hN hX hA hDa hW 0 (by decide) (cE_x I Z F ad M) rfl) rfl rfl hl.1 rfl (lv_room (Nat.le_of_ble_eq_true rfl)) dX2_asked_2 ⟨Nat.le_of_ble_eq_true rfl, Nat.le_of_ble_eq_true rfl⟩) hA hDa hW (fun E ce q9 H locs hxp hW h1 h2 h3 => ?_) (fun r k H locs hp hW => ?_)
  · exact hprp 2 ls _ H locs 1 6 E ce q9 (hxp) hW (by decide) (by decide) h1 h2 h3
  obtain ⟨hk, hr9⟩ := hp
  subst hr9
  have hk12 := hk.1
  show W p l e rm_asked s m args below meth c H locs 1 6 Q (F0 m 5 ls (.ref (ad (25 + 6 * k)) :: []))
  refine lv_astore_n (lv' := [(2, .ref (ad (25 + 6 * k))), (0, .ref (ad 0)), (1, .int a1)]) hx hb dX2_asked_5 rfl hl (by decide) rfl (fun ls hl => ?_)
  refine lv_iconst (v := 0) hx hb dX2_asked_6 (by decide) ?_
  refine lv_istore_n (lv' := [(3, .int 0), (2, .ref (ad (25 + 6 * k))), (0, .ref (ad 0)), (1, .int a1)]) hx hb dX2_asked_7 rfl hl (by decide) rfl (fun ls hl => ?_)
  refine lv_iconst (v := 0) hx hb dX2_asked_8 (by decide) ?_
  refine lv_istore (lv' := [(4, .int 0), (3, .int 0), (2, .ref (ad (25 + 6 * k))), (0, .ref (ad 0)), (1, .int a1)]) hx hb dX2_asked_9 hl (by decide) rfl (fun ls hl => ?_)
  obtain ⟨z, hz7, hz, hrw⟩ := hrs.2.2 k hk12 hk.2.2
  have loop : ∀ q i : Nat, i + q = 256 → ∀ (ls : Array Slot) (H : Heap) (locs : List Loc), lv_has ls 5 [(4, .int (nI i)), (3, .int (sI (caT M (25 + 6 * k)) i)), (0, .ref (ad 0)), (2, .ref (ad (25 + 6 * k)))] → cB9 D I Z F ad A s.heap M H locs → W p l e rm_asked s m args below meth c H locs 1 6 Q (F0 m 11 ls []) := by
    intro q
    induction q with
    | zero =>
      intro i hi ls H locs hl hW
      obtain rfl : i = 256 := by omega
      refine lv_iload hx hb dX2_asked_11 (lv_at hl 0 rfl) ?_
      refine lv_sipush (v := 256) hx hb dX2_asked_13 (by decide) ?_
      refine lv_icmp_ge (tgt := 35) hx hb dX2_asked_16 (by decide) (fun c1 => ?_) (fun c1 => ?_)
      · skip
        refine lv_iload_n hx hb dX2_asked_35 rfl (lv_at hl 1 rfl) ?_
        refine lv_i2d hx hb dX2_asked_36 ?_
        refine lv_ldc2d (v := 4643211215818981376) hx hb hown (hts (.constantDouble RX2 105 (4643211215818981376)) (by decide +kernel)) dX2_asked_37 ?_
        refine lv_ddiv hx hb dX2_asked_40 (akF_n M (25 + 6 * k)) ?_
        exact hret 41 ls H locs 1 6 _ _ dX2_asked_41 (by decide) (by decide) (⟨k, hk, rfl, rfl⟩) hW
      · exact absurd (nI_le (Nat.le_refl 256) (by decide)) c1
    | succ q ih =>
      intro i hi ls H locs hl hW
      refine lv_iload hx hb dX2_asked_11 (lv_at hl 0 rfl) ?_
      refine lv_sipush (v := 256) hx hb dX2_asked_13 (by decide) ?_
      refine lv_icmp_ge (tgt := 35) hx hb dX2_asked_16 (by decide) (fun c1 => ?_) (fun c1 => ?_)
      · exact absurd c1 (nI_ge (b := 256) (by omega) (by decide))
      · skip
        refine lv_iload_n hx hb dX2_asked_19 rfl (lv_at hl 1 rfl) ?_
        refine lv_aload_n hx hb dX2_asked_20 rfl (lv_at hl 2 rfl) ?_
        refine lv_aload_n hx hb dX2_asked_21 rfl (lv_at hl 3 rfl) ?_
        refine lv_iload hx hb dX2_asked_22 (lv_at hl 0 rfl) ?_
        refine cr_calli (va_runV (As := [.ref (ad (25 + 6 * k)), .int (nI i)]) (rest := [.int (sI (caT M (25 + 6 * k)) i)]) ⟨hx, hb, hml, hown, hts⟩ (c_countAsked l D I Z F ad hI M H.size k hk12 n z hrs.1 hz7 hz hrw (nI i)) (cwV 2 hts gX2_asked_X2_countAsked rfl rfl rfl (by decide +kernel) ⟨Nat.le_of_ble_eq_true rfl, Nat.le_of_ble_eq_true rfl⟩) (cr_preV hK hN hW 0 (by decide) (cE_x I Z F ad M) rfl) rfl rfl hl.1 rfl (lv_room (Nat.le_of_ble_eq_true rfl)) dX2_asked_24 ⟨Nat.le_of_ble_eq_true rfl, Nat.le_of_ble_eq_true rfl⟩) hA hDa hW (fun r u H locs hp hW => ?_)
        obtain ⟨hu, hv9⟩ := hp
        rw [hu] at hW
        rw [hv9]
        refine lv_iadd hx hb dX2_asked_27 ?_
        rw [show ((sI (caT M (25 + 6 * k)) i) + (caF M (25 + 6 * k) (nI i))) = sI (caT M (25 + 6 * k)) (i + 1) from rfl]
        refine lv_istore_n (lv' := [(3, .int (sI (caT M (25 + 6 * k)) (i + 1))), (4, .int (nI i)), (0, .ref (ad 0)), (2, .ref (ad (25 + 6 * k)))]) hx hb dX2_asked_28 rfl hl (by decide) rfl (fun ls hl => ?_)
        refine lv_iinc (v := nI (i + 1)) (lv' := [(4, .int (nI (i + 1))), (3, .int (sI (caT M (25 + 6 * k)) (i + 1))), (0, .ref (ad 0)), (2, .ref (ad (25 + 6 * k)))]) hx hb dX2_asked_29 hl (k := 1) rfl (nI_1 i) (by decide) rfl (fun ls hl => ?_)
        refine lv_goto (tgt := 11) hx hb dX2_asked_32 (by decide) ?_
        exact ih (i + 1) (by omega) ls H locs (lv_sub hl [0, 1, 2, 3] rfl) hW
  exact loop 256 0 (by decide) ls H locs (lv_sub hl [0, 1, 3, 2] rfl) hW

abbrev rm_mean : Room := { frames := 5, cells := 0, slots := 0, locals := 500 }
set_option maxHeartbeats 4000000 in
set_option maxRecDepth 100000 in
/-- the mean of forks -/
theorem c_mean (l : Launch) (D : va_G) (I Z F : ClassId) (ad : Nat → Nat) (hI : cI ad) (M : Nat → Nat → Int32) (sz : Nat) (n : Nat) (hrs : rwsOk M n) : Met l yX2_mean wsX2_mean rm_mean (va_Pc [.ref (ad 0)] (cU D I Z F ad sz M)) (va_Qd (fun (r : UInt64) (u : Nat → Nat → Int32) => u = M ∧ r = meF M) (fun u t => cP D I Z F ad u t.heap) (cA ad sz)) 0 0 (cA ad sz) := by
  refine cMet_d (cc := cX2_mean) (maxL := 2) hI (by decide) rfl ⟨rfl, rfl⟩ RX2 rfl (Nat.le_of_ble_eq_true rfl) (lv := [(0, .ref (ad 0))]) rfl ?_
  intro p e s m args below meth c Q A ls hsz C0 hW hl hret
  obtain ⟨hx, hb, hml, hts, hown, hlocks, hK, hN, hDa, hA, hargs⟩ := C0
  refine lv_aload_n hx hb dX2_mean_0 rfl (lv_at hl 0 rfl) ?_
  refine cr_calli (va_runV (As := []) (rest := []) ⟨hx, hb, hml, hown, hts⟩ (c_countKept l D I Z F ad hI M s.heap.size) (cwV 0 hts gX2_mean_X2_countKept rfl rfl rfl (by decide +kernel) ⟨Nat.le_of_ble_eq_true rfl, Nat.le_of_ble_eq_true rfl⟩) (cr_preV hK hN hW 0 (by decide) (cE_x I Z F ad M) rfl) rfl rfl hl.1 rfl (lv_room (Nat.le_of_ble_eq_true rfl)) dX2_mean_1 ⟨Nat.le_of_ble_eq_true rfl, Nat.le_of_ble_eq_true rfl⟩) hA hDa hW (fun r u H locs hp hW => ?_)
  obtain ⟨hu, hv9⟩ := hp
  rw [hu] at hW
  rw [hv9]
  refine lv_istore_n (lv' := [(1, .int (sI (ckT M) 12)), (0, .ref (ad 0))]) hx hb dX2_mean_4 rfl hl (by decide) rfl (fun ls hl => ?_)
  refine lv_iload_n hx hb dX2_mean_5 rfl (lv_at hl 0 rfl) ?_
  refine lv_if_ne (tgt := 13) hx hb dX2_mean_6 (by decide) (fun c1 => ?_) (fun c1 => ?_)
  · skip
    refine lv_aload_n hx hb dX2_mean_13 rfl (lv_at hl 1 rfl) ?_
    refine cr_calli (va_runV (As := []) (rest := []) ⟨hx, hb, hml, hown, hts⟩ (c_addForks l D I Z F ad hI M H.size) (cwV 0 hts gX2_mean_X2_addForks rfl rfl rfl (by decide +kernel) ⟨Nat.le_of_ble_eq_true rfl, Nat.le_of_ble_eq_true rfl⟩) (cr_preV hK hN hW 0 (by decide) (cE_x I Z F ad M) rfl) rfl rfl hl.1 rfl (lv_room (Nat.le_of_ble_eq_true rfl)) dX2_mean_14 ⟨Nat.le_of_ble_eq_true rfl, Nat.le_of_ble_eq_true rfl⟩) hA hDa hW (fun r u H locs hp hW => ?_)
    obtain ⟨hu, hv9⟩ := hp
    rw [hu] at hW
    rw [hv9]
    refine lv_i2d hx hb dX2_mean_17 ?_
    refine lv_iload_n hx hb dX2_mean_18 rfl (lv_at hl 0 rfl) ?_
    refine lv_i2d hx hb dX2_mean_19 ?_
    refine lv_ddiv hx hb dX2_mean_20 (meF_n hrs c1) ?_
    exact hret 21 ls H locs _ _ dX2_mean_21 ⟨rfl, by rw [meF, if_neg c1]⟩ hW
  · skip
    refine lv_dconst0 hx hb dX2_mean_9 ?_
    refine lv_goto (tgt := 21) hx hb dX2_mean_10 (by decide) ?_
    exact hret 21 ls H locs _ _ dX2_mean_21 ⟨rfl, by rw [meF, if_pos c1]⟩ hW
