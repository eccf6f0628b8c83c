set_option maxHeartbeats 40000000 in
set_option maxRecDepth 100000 in
/-- six times -/
theorem law_turns {p : Program} {e : Env} {s : State} {m : MethodId} {below : List Frame} {meth : Method} {c : Code} (l : Launch) (hst : l.stackTraces = false) {b L : Nat} {xs : Nat → Int32} (hL : L ≤ 260) (C0 : lw_At p s m meth c b L xs) {D : va_G} {cs : Nat → ClassId} {I Z F : ClassId} {ad sa : Nat → Nat} (hI : cI ad) (hK : h_K D cs s) (hKc : va_K D vwCl (cT I Z F) s) (hN : h_N s) (hNc : cN s) (hX : xE sa (lS9 s) s s.heap) {si fd oa : Nat} : ∀ r9 t : Nat, t + r9 = 6 → ∀ (C : hC) (M : Nat → Nat → Int32) (o : Nat → Nat) (Fd : Nat → Option Nat) (O : Nat → Int32) (ls : Array Slot) (H : Heap) (locs : List Loc), k_I cs I Z F ad si fd oa C M o Fd O → 2 ≤ k_N M → lv_has ls 16 [(3, .int (nI t)), (2, .ref si), (1, .ref (ad 0)), (0, .ref b)] → h_H D (lS9 s) C H → va_S (lS9 s) s.heap H locs → W p l e room_1 s m #[Value.ref b] below meth c H locs (212500 + t * 13000) (908200 + t * 61400) (lw_Z below #[Value.ref b] s) (F0 m 22 ls []) := by
  obtain ⟨hx, hb, hr9, hml, hown, hts0, hXs0, hbl, hlocks, hgv⟩ := id C0
  have hts : ∀ w ∈ wsL_law, w.before #[Value.ref b] s = true := fun w h => hts0 w (wsL_law_in w h)
  have hown : s.vm.findClass RL = some m.cls := hown
  have hA : ∀ q : Nat, s.heap.size ≤ q → lS9 s q := fun _ h => h
  have hbA : ¬ lS9 s b := Nat.not_le.mpr hbl
  have hXs : sX b L xs s := hXs0
  have hin4 : ∀ w ∈ u_ws RX4 TX4 3, w ∈ wsL_law := by decide +kernel
  have hd0 := Drawn.sameBut.refl s.drawn lw_cs
  intro r9
  induction r9 with
  | zero =>
    intro t ht C M o Fd O ls H locs hk h2 hl hH hS
    obtain rfl : t = 6 := by omega
    refine lv_iload_n hx hb dL_law_22 rfl (lv_at hl 0 rfl) ?_
    refine lv_bipush (v := 6) hx hb dL_law_23 (by decide) ?_
    refine lv_icmp_ge (tgt := 809) hx hb dL_law_25 (by decide) (fun c1 => ?_) (fun c1 => ?_)
    · skip
      refine lv_aload_n hx hb dL_law_809 rfl (lv_at hl 1 rfl) ?_
      refine lv_aload_n hx hb dL_law_810 rfl (lv_at hl 2 rfl) ?_
      refine lv_iconst (v := 0) hx hb dL_law_811 (by decide) ?_
      refine h_calli (va_runV (As := [.ref (ad 0), .int 0]) (rest := []) ⟨hx, hb, hml, hown, hts⟩ (c_h_isSame l hst D cs I Z F ad sa hI C H.size si fd oa M o Fd O hk h2) (cwV 2 hts gL_law_X4_isSame rfl rfl rfl (by decide +kernel) ⟨Nat.le_of_ble_eq_true rfl, Nat.le_of_ble_eq_true rfl⟩) (g_preV hK hN hH hk.2.1 rfl (fun U g mk a h => kX.same U g mk a h) (kX_mk hKc hNc hX hA hH hS)) rfl rfl hl.1 rfl (lv_room (Nat.le_of_ble_eq_true rfl)) dL_law_812 ⟨show 212500 + 6 * 13000 + 23300 ≤ 600130 by decide, show 908200 + 6 * 61400 + 122800 ≤ 7301080 by decide⟩) hH hS hA (fun r8 u9 H locs hp hH hS => ?_)
      rw [hp]
      refine va_forget (fun q hq => hS.2.2 q hq) ?_
      refine W.widen (k := 600130) (n := 7301080) (by exact Nat.le_of_ble_eq_true rfl) (by exact Nat.le_of_ble_eq_true rfl) ?_
      exact W.base (lw_ret hd0 hx hb hr9 hlocks dL_law_815)
    · exact absurd (nI_le (Nat.le_refl 6) (by decide)) c1
  | succ r9 ih =>
    intro t ht C M o Fd O ls H locs hk h2 hl hH hS
    have ht6 : t < 6 := by omega
    refine lv_iload_n hx hb dL_law_22 rfl (lv_at hl 0 rfl) ?_
    refine lv_bipush (v := 6) hx hb dL_law_23 (by decide) ?_
    refine lv_icmp_ge (tgt := 809) hx hb dL_law_25 (by decide) (fun c1 => ?_) (fun c1 => ?_)
    · exact absurd c1 (nI_ge (b := 6) (by omega) (by decide))
    · skip
      refine lv_aload_n hx hb dL_law_28 rfl (lv_at hl 3 rfl) ?_
      refine lv_iload_n hx hb dL_law_29 rfl (lv_at hl 0 rfl) ?_
      refine h_calli (va_runS (As := [.ref b, .int (nI t)]) (rest := []) ⟨hx, hb, hml, hown, hts⟩ (c_l_cell l D cs _ H.size b L xs (h_off hH hbA) (Nat.lt_of_lt_of_le hbl hS.1) hL t (by omega)) (va_cwS 2 hts gL_law_L_cell rfl rfl rfl (by decide +kernel) ⟨Nat.le_of_ble_eq_true rfl, Nat.le_of_ble_eq_true rfl⟩) (g_preS hK hN hH (fun U g mk a h => sX.same U g mk a h) (sX_mk hXs hbl hbA hS)) rfl rfl hl.1 rfl (lv_room (Nat.le_of_ble_eq_true rfl)) dL_law_30 ⟨show 212500 + t * 13000 + 0 ≤ 600130 by omega, show 908200 + t * 61400 + 0 ≤ 7301080 by omega⟩) hH hS hA (fun r8 u9 H locs hp hH hS => ?_)
      rw [hp] at hH
      refine lv_sipush (v := 431) hx hb dL_law_33 (by decide) ?_
      refine lv_iload_n hx hb dL_law_36 rfl (lv_at hl 0 rfl) ?_
      refine lv_imul hx hb dL_law_37 ?_
      refine lv_iadd hx hb dL_law_38 ?_
      refine lv_topi fun x4 _ => ?_
      refine lv_istore (lv' := [(4, .int x4), (3, .int (nI t)), (2, .ref si), (1, .ref (ad 0)), (0, .ref b)]) hx hb dL_law_39 hl (by decide) rfl (fun ls hl => ?_)
      refine lv_aload_n hx hb dL_law_41 rfl (lv_at hl 3 rfl) ?_
      refine lv_aload_n hx hb dL_law_42 rfl (lv_at hl 2 rfl) ?_
      refine lv_iload hx hb dL_law_43 (lv_at hl 0 rfl) ?_
      refine h_calli (va_runS (As := [.ref (ad 0), .ref si, .int x4]) (rest := []) ⟨hx, hb, hml, hown, hts⟩ (c_l_act l hst D cs I Z F ad sa hI C H.size si fd oa M o Fd O hk h2 x4) (va_cwS 3 hts gL_law_L_act rfl rfl rfl (by decide +kernel) ⟨Nat.le_of_ble_eq_true rfl, Nat.le_of_ble_eq_true rfl⟩) (g_preS hK hN hH (fun U g mk a h => kX.same U g mk a h) (kX_mk hKc hNc hX hA hH hS)) rfl rfl hl.1 rfl (lv_room (Nat.le_of_ble_eq_true rfl)) dL_law_45 ⟨show 212500 + t * 13000 + 0 + 9230 ≤ 600130 by omega, show 908200 + t * 61400 + 0 + 38760 ≤ 7301080 by omega⟩) hH hS hA (fun r7 C2 H locs hp hH hS => ?_)
      obtain ⟨hr7, M2, o2, Fd2, O2, hk2, h22⟩ := hp
      rw [hr7]
      refine lv_if_ne (tgt := 53) hx hb dL_law_48 (by decide) (fun c2 => ?_) (fun c2 => ?_)
      · skip
        obtain ⟨n9, en9, hn0, hrs⟩ := hk2.2.2.2.2.2.2.2.rws
        refine W.widen (k := 212500 + t * 13000 + 9230) (n := 908200 + t * 61400 + 38760) (by omega) (by omega) ?_
        refine law_folds l hst hL C0 hI hK hKc hN hNc hX hk2 h22 ht6 en9 hn0 hrs (fun f0 mo ls H locs hf0 ha0 hmo hl hH hS => ?_) (x4 := x4) (lv_sub hl [0, 1, 2, 3, 4] rfl) hH hS
        exact law_rest l hst hL C0 hI hK hKc hN hNc hX ht6 (fun C M o Fd O ls H locs hk h2 hl hH hS => ih (t + 1) (by omega) C M o Fd O ls H locs hk h2 hl hH hS) hk2 h22 en9 hn0 hrs hf0 ha0 hmo hl hH hS
      · exact absurd c2 (by decide)
