/-- the class's cells alone -/
noncomputable def kC0 (I Z F : ClassId) (ad : Nat → Nat) (M : Nat → Nat → Int32) : hC := fun b => cIf (∃ i : Nat, i < 97 ∧ b = ad i) (some (cE I Z F ad M (Classical.epsilon (fun i => i < 97 ∧ b = ad i)))) none
theorem kC0_at {I Z F : ClassId} {ad : Nat → Nat} {M : Nat → Nat → Int32} (hI : cI ad) : kM I Z F ad M (kC0 I Z F ad M) := fun i hi => by
  have h : ∃ j : Nat, j < 97 ∧ ad i = ad j := ⟨i, hi, rfl⟩
  have h2 := Classical.epsilon_spec h
  unfold kC0
  rw [cIf_pos h, ← hI i _ hi h2.1 h2.2]
theorem kC0_H {D : va_G} {A : Nat → Prop} {I Z F : ClassId} {ad : Nat → Nat} {M : Nat → Nat → Int32} {H : Heap} (hD : cD ad A) (hP : cP D I Z F ad M H) : h_H D A (kC0 I Z F ad M) H := by
  refine ⟨_, hP, hD.d _, fun b x => ?_⟩
  constructor
  · intro h
    rcases k_in ad b with ⟨i, hi, rfl⟩ | h9
    · rw [kC0_at hD.1 i hi] at h
      cases h
      exact List.mem_of_getElem? (cW_get ad _ hi)
    · unfold kC0 at h
      rw [cIf_neg (fun ⟨i, hi, e⟩ => h9 i hi e)] at h
      cases h
  · intro h
    obtain ⟨k, hk⟩ := List.getElem?_of_mem h
    obtain ⟨h1, h2⟩ := cW_of hk
    cases h2
    exact kC0_at hD.1 k h1
set_option maxHeartbeats 8000000 in
set_option maxRecDepth 100000 in
/-- from the entry -/
theorem whole_start {p : Program} {e : Env} {s : State} {m : MethodId} {below : List Frame} {meth : Method} {c : Code} (l : Launch) (hflags : l.flags = flags0) {b L : Nat} {xs : Nat → Int32} (hL : L ≤ 260) (C0 : lw_At p s m meth c b L xs) : W p l e room_1 s m #[Value.ref b] below meth c s.heap [] 0 0 (lw_Z below #[Value.ref b] s) (entryFrame m ([Value.ref b] : List Value).toArray 16) := by
  have hst : l.stackTraces = false := by unfold Launch.stackTraces; rw [hflags]; decide +kernel
  obtain ⟨sa, hX⟩ := law_xE C0
  obtain ⟨hx, hb, hr, hml, hown, hts0, hXs0, hbl, hlocks, hgv⟩ := id C0
  have hNc : cN s := cN.of hts0
  have hN : h_N s := law_hN hts0
  have hts : ∀ w ∈ wsL_law, w.before #[Value.ref b] s = true := fun w h => hts0 w (wsL_law_in w h)
  have hown : s.vm.findClass RL = some m.cls := hown
  have hAO : va_AO "SharedForks$Fold" s := va_AO.of (hts0 (.arrayOver (.object "SharedForks$Fold")) (by decide +kernel))
  have hA : ∀ q : Nat, s.heap.size ≤ q → lS9 s q := fun _ h => h
  have hbA : ¬ lS9 s b := Nat.not_le.mpr hbl
  have hXs : sX b L xs s := hXs0
  obtain ⟨c0, iS0, hKn0⟩ := u_known (C := RX0) (T := TX0) (N := 7) (n := 7) hts inlX0 (hts (.instantiable RX0 7) (by decide +kernel))
  obtain ⟨c1, iS1, hKn1⟩ := u_known (C := RX1) (T := TX1) (N := 10) (n := 10) hts inlX1 (hts (.instantiable RX1 10) (by decide +kernel))
  obtain ⟨c2, iS2, hKn2⟩ := u_known (C := RX2) (T := TX2) (N := 6) (n := 6) hts inlX2 (hts (.instantiable RX2 6) (by decide +kernel))
  obtain ⟨c3, iS3, hKn3⟩ := u_known (C := RX3) (T := TX3) (N := 3) (n := 3) hts inlX3 (hts (.instantiable RX3 3) (by decide +kernel))
  obtain ⟨c4, iS4, hKn4⟩ := u_known (C := RX4) (T := TX4) (N := 3) (n := 3) hts inlX4 (hts (.instantiable RX4 3) (by decide +kernel))
  obtain ⟨D, hKc9⟩ : ∃ D : va_G, ∀ (k : Nat) (q : vw_C), vwCl[k]? = some q → u_Kn s q.1 q.2.1 q.2.2 (D.1 k) (D.2 k) := by
    refine ⟨(fun k => match k with | 0 => c0 | 1 => c1 | 2 => c2 | 3 => c3 | _ => c4, fun k => match k with | 0 => iS0 | 1 => iS1 | 2 => iS2 | 3 => iS3 | _ => iS4), ?_⟩
    intro k q hq
    match k, hq with
    | 0, hq => cases hq; exact hKn0
    | 1, hq => cases hq; exact hKn1
    | 2, hq => cases hq; exact hKn2
    | 3, hq => cases hq; exact hKn3
    | 4, hq => cases hq; exact hKn4
    | k + 5, hq => simp [vwCl] at hq
  have hS : va_S (lS9 s) s.heap s.heap [] := va_S.rf
  have hK9 : va_K D vwCl [] s := ⟨hKc9, fun k q h => by simp at h⟩
  have hP : va_P D vwCl [] s.heap := fun k q h => by simp at h
  have hD : va_D (lS9 s) [] := ⟨fun i j p q h => by simp at h, fun k q h => by simp at h⟩
  have hl := lv_entry ([.ref b]) (n := 16) (Nat.le_of_ble_eq_true rfl)
  rw [lg_entry_eq]
  generalize (lg_sl ([.ref b]) ++ List.replicate (16 - (lg_sl ([.ref b])).length) Slot.unset).toArray = ls at hl ⊢
  have hl : lv_has ls 16 [(0, .ref b)] := hl
  refine va_new (ci := 2) (fs := [.null, .null, .null, .null, .null, .null]) (C := RX2) (T := TX2) (N := 6) hx hb hts inlX2 tyX2 tyX2_ok hown (hts (.classLink RL 54 RX2) (by decide +kernel)) (hts (.instantiable RX2 6) (by decide +kernel)) (hts (.initialized RX2) (by decide +kernel)) hK9 hP hD hS hA rfl (by decide) (Nat.le_of_ble_eq_true rfl) (Nat.le_of_ble_eq_true rfl) dL_law_0 (fun h0 H hP hD hS => ?_)
  have hP : va_P D vwCl [(h0, .inr (2, [.null, .null, .null, .null, .null, .null]))] H := hP
  have hD : va_D (lS9 s) [(h0, .inr (2, [.null, .null, .null, .null, .null, .null]))] := hD
  refine lv_dup hx hb dL_law_3 rfl ?_
  have hFc := va_free (wc := [(h0, .inr (2, [.null, .null, .null, .null, .null, .null]))]) hD hS hA [0] rfl
  refine va_callv (va_runI (As := []) (rest := [.ref h0]) ⟨hx, hb, hml, hown, hts⟩ (c_X2_init l D h0 H.size) (cwI 0 hts gL_law_X2_init rfl rfl rfl (hts (.initialized RX2) (by decide +kernel)) (hts (.methodLink RL 110 yX2_init) (by decide +kernel)) (hts (.instanceMethod yX2_init) (by decide +kernel)) rfl (by decide +kernel) ⟨Nat.le_of_ble_eq_true rfl, Nat.le_of_ble_eq_true rfl⟩) ⟨fun a U g mk q => by obtain ⟨q0, q1, q2, q3, q4, q5, q6⟩ := q; exact ⟨q0, q1, q2, va_K.moved (u := U) (U := U.calling g mk a) (Vm.Alike.refl U.vm) q3, q4, cN.same (u := U) (U := U.calling g mk a) rfl q5, va_AO.moved (u := U) (U := U.calling g mk a) (Vm.Alike.refl U.vm) q6⟩, fun U hU hW => ⟨rfl, by rw [hU], by rw [hU]; exact hP, va_K.moved hW.alike hK9, hD.weaken (fun _ _ _ _ => trivial), hNc.warm hW, va_AO.moved hW.alike hAO⟩⟩ rfl rfl hl.1 rfl (lv_room (Nat.le_of_ble_eq_true rfl)) dL_law_4 ⟨Nat.le_of_ble_eq_true rfl, Nat.le_of_ble_eq_true rfl⟩) hS (fun q _ h => hFc q h) hFc (fun u t H1 locs ht hvm hw hB hz1 hk1 hS => ?_)
  obtain ⟨I, Z, F, ad⟩ := u
  obtain ⟨hc, hKt, hI, had0, h97⟩ := hB
  dsimp only at hc hKt hI had0 h97
  rw [ht] at hc
  have hKc : va_K D vwCl (cT I Z F) s := va_K.moved hvm.symm hKt
  obtain ⟨cs, hK⟩ := law_hK hts0 hKc
  have hcD : cD ad (lS9 s) := ⟨hI, fun i hi => hFc _ (h97 i hi)⟩
  have hH : h_H D (lS9 s) (kC0 I Z F ad (M0k 8)) H1 := kC0_H hcD hc
  have hM0 : kM I Z F ad (M0k 8) (kC0 I Z F ad (M0k 8)) := kC0_at hI
  rw [← had0]
  refine lv_astore_n (lv' := [(1, .ref (ad 0)), (0, .ref b)]) hx hb dL_law_7 rfl hl (by decide) rfl (fun ls hl => ?_)
  refine lv_aload_n hx hb dL_law_8 rfl (lv_at hl 0 rfl) ?_
  refine lv_aload_n hx hb dL_law_9 rfl (lv_at hl 1 rfl) ?_
  refine h_calla (va_runS (As := [.ref (ad 0), .ref b]) (rest := []) ⟨hx, hb, hml, hown, hts⟩ (c_l_build l hst D cs I Z F ad sa hI (kC0 I Z F ad (M0k 8)) H1.size b L xs (h_off hH hbA) (Nat.lt_of_lt_of_le hbl hS.1) hL (M0k 8) hM0 M0_S0 M0_k M0_N) (va_cwS 2 hts gL_law_L_build rfl rfl rfl (by decide +kernel) ⟨Nat.le_of_ble_eq_true rfl, Nat.le_of_ble_eq_true rfl⟩) (g_preS hK hN hH (fun U g mk a h => ⟨kX.same U g mk a h.1, sX.same U g mk a h.2⟩) (fun U hU hW => ⟨kX_mk hKc hNc hX hA hH hS U hU hW, sX_mk hXs hbl hbA hS U hU hW⟩)) rfl rfl hl.1 rfl (lv_room (Nat.le_of_ble_eq_true rfl)) dL_law_10 ⟨by exact Nat.le_of_ble_eq_true rfl, by exact Nat.le_of_ble_eq_true rfl⟩) hH hS hA (fun si C2 H locs hp hH hS => ?_)
  obtain ⟨fd, oa, M, o, Fd, O, hk, h2⟩ := hp
  refine lv_astore_n (lv' := [(2, .ref si), (1, .ref (ad 0)), (0, .ref b)]) hx hb dL_law_13 rfl hl (by decide) rfl (fun ls hl => ?_)
  refine lv_aload_n hx hb dL_law_14 rfl (lv_at hl 0 rfl) ?_
  refine lv_ifnonnull (tgt := 20) hx hb dL_law_15 (by decide) ?_
  refine lv_iconst (v := 0) hx hb dL_law_20 (by decide) ?_
  refine lv_istore_n (lv' := [(3, .int 0), (2, .ref si), (1, .ref (ad 0)), (0, .ref b)]) hx hb dL_law_21 rfl hl (by decide) rfl (fun ls hl => ?_)
  refine W.widen (k := 212500 + 0 * 13000) (n := 908200 + 0 * 61400) (by exact Nat.le_of_ble_eq_true rfl) (by exact Nat.le_of_ble_eq_true rfl) ?_
  exact law_turns l hst hL C0 hI hK hKc hN hNc hX 6 0 rfl C2 M o Fd O ls H locs hk h2 (lv_sub hl [0, 1, 2, 3] rfl) hH hS
