theorem h_U_self {C : hC} {a : Nat} {e : va_E} (h : C a = some e) : h_U C a e = C := by
  funext b
  by_cases c : b = a
  · rw [c, h_U_at, h]
  · rw [h_U_ne c]
theorem h_off {D : va_G} {A : Nat → Prop} {C : hC} {H : Heap} (hH : h_H D A C H) {b : Nat} (hb : ¬ A b) : C b = none := by
  cases hc : C b with
  | none => rfl
  | some x => exact absurd (hH.lt hc).2 hb
abbrev rm_l_build : Room := { frames := 42, cells := 212400, slots := 891600, locals := 7200 }
set_option maxHeartbeats 40000000 in
set_option maxRecDepth 100000 in
/-- folds that cells choose -/
theorem c_l_build (l : Launch) (hst : l.stackTraces = false) (D : va_G) (cs : Nat → ClassId) (I Z F : ClassId) (ad sa : Nat → Nat) (hI : cI ad) (C : hC) (sz : Nat) (b L : Nat) (xs : Nat → Int32) (hbC : C b = none) (hbl : b < sz) (hL : L ≤ 260) (M : Nat → Nat → Int32) (hM0 : kM I Z F ad M C) (hS0 : k_S0 M (fun p => p)) (hk0 : ∀ k : Nat, ¬ a_k M k) (hN0 : k_N M = 0) : Met l yL_build wsL_build rm_l_build (va_Pc [.ref (ad 0), .ref b] (gU D cs C sz (fun U => kX D I Z F sa C sz U ∧ sX b L xs U))) (va_Qr (fun _ : hC => True) (fun u a t => (fun (r : Nat) (u : hC) => ∃ (fd oa : Nat) (M' : Nat → Nat → Int32) (o' : Nat → Nat) (Fd' : Nat → Option Nat) (O' : Nat → Int32), k_I cs I Z F ad r fd oa u M' o' Fd' O' ∧ 2 ≤ k_N M') a u ∧ h_H D (h_A C sz) u t.heap) (h_A C sz)) 212400 891600 (h_A C sz) := by
  refine gMet_a (cc := cL_build) (maxL := 6) (by decide) rfl RL rfl (Or.inl ⟨_, rfl⟩) (Nat.le_of_ble_eq_true rfl) (lv := [(0, .ref (ad 0)), (1, .ref b)]) rfl ?_
  intro p e s m args below meth c Q A ls hsz hA9 hX9 C0 hH hS hl hret
  obtain ⟨hx, hb, hml, hts, hown, hlocks, hK, hN, hA, hargs⟩ := C0
  obtain ⟨⟨hKc, hNc, hX⟩, hXs⟩ := hX9
  rw [← hA9] at hX
  have hin4 : ∀ w ∈ u_ws RX4 TX4 3, w ∈ wsL_build := by decide +kernel
  have hbl : b < s.heap.size := by rw [hsz]; exact hbl
  have hbA : ¬ A b := by rw [hA9]; rintro (h | h); exact h hbC; omega
  refine h_new (ci := 4) (fs := [.null, .null, .null]) (C0 := RX4) (T := TX4) (N := 3) hx hb hts hin4 tyX4 tyX4_ok hown (hts (.classLink RL 37 RX4) (by decide +kernel)) (hts (.instantiable RX4 3) (by decide +kernel)) (hts (.initialized RX4) (by decide +kernel)) hK.1 hH hS hA rfl (by decide) (Nat.le_of_ble_eq_true rfl) (Nat.le_of_ble_eq_true rfl) dL_build_0 (fun q H hq hH hS => ?_)
  refine lv_dup hx hb dL_build_3 rfl ?_
  refine h_callv (va_runIN (As := []) (rest := [.ref q]) (own := RL) (host := "SharedForksLaw") ⟨hx, hb, hml, hown, hts⟩ (c_h_simInit l D cs _ H.size q h_U_at) ⟨va_cnB 0 hts gL_build_X4_init_n101 rfl rfl rfl (hN.1 (.methodLinkNest RL 101 yX4_init "SharedForksLaw") (by decide +kernel)) (hts (.initialized yX4_init.cls) (by decide +kernel)) (by decide +kernel) ⟨Nat.le_of_ble_eq_true rfl, Nat.le_of_ble_eq_true rfl⟩, rfl, hts (.instanceMethod yX4_init) (by decide +kernel)⟩ (h_preS hK hN hH) rfl rfl hl.1 rfl (lv_room (Nat.le_of_ble_eq_true rfl)) dL_build_4 ⟨by first | exact Nat.le_of_ble_eq_true rfl | omega, by first | exact Nat.le_of_ble_eq_true rfl | omega⟩) hH hS hA (fun u0 H locs hp hH hS => ?_)
  obtain ⟨fd, oa, O, hfd0, hoa0, hfo, u0q, u0f, u0o, hO0, k0⟩ := hp
  have k1 : ∀ b9 : Nat, C b9 ≠ none → u0 b9 = C b9 := fun b9 hb9 => by
    rw [k0 b9 (fun h => hb9 (by rw [h]; exact hq)) (fun h => hb9 (by rw [h]; exact h_U_off hfd0)) (fun h => hb9 (by rw [h]; exact h_U_off hoa0)), h_U_keep hq hb9]
  have hB0 : k_B cs I Z F ad q fd oa u0 M (fun p => p) (fun _ => none) O := ⟨fun i hi => (k1 (ad i) (by rw [hM0 i hi]; simp)).trans (hM0 i hi), u0q, u0f, u0o, ⟨hM0.off hq, hM0.off (h_U_off hfd0), hM0.off (h_U_off hoa0)⟩, hO0, fun k _ => ⟨fun _ => rfl, fun ha => absurd ha (hk0 k)⟩, hS0⟩
  refine lv_astore_n (lv' := [(2, .ref q), (0, .ref (ad 0)), (1, .ref b)]) hx hb dL_build_7 rfl hl (by decide) rfl (fun ls hl => ?_)
  refine lv_iconst (v := 0) hx hb dL_build_8 (by decide) ?_
  refine lv_istore_n (lv' := [(3, .int 0), (2, .ref q), (0, .ref (ad 0)), (1, .ref b)]) hx hb dL_build_9 rfl hl (by decide) rfl (fun ls hl => ?_)
  have main9 : ∀ (CC : hC) (M1 : Nat → Nat → Int32) (o1 : Nat → Nat) (Fd1 : Nat → Option Nat) (O1 : Nat → Int32), k_I cs I Z F ad q fd oa CC M1 o1 Fd1 O1 → 2 ≤ k_N M1 → ∀ (x3 : Int32) (ls : Array Slot) (H : Heap) (locs : List Loc), lv_has ls 6 [(3, .int x3), (2, .ref q), (0, .ref (ad 0)), (1, .ref b)] → h_H D A CC H → va_S A s.heap H locs → W p l e rm_l_build s m args below meth c H locs 20 60 Q (F0 m 97 ls []) := by
    intro CC M1 o1 Fd1 O1 hI1 h21 x3 ls H locs hl hH hS
    refine lv_bipush (v := 6) hx hb dL_build_97 (by decide) ?_
    refine lv_aload_n hx hb dL_build_99 rfl (lv_at hl 3 rfl) ?_
    refine lv_iconst (v := 0) hx hb dL_build_100 (by decide) ?_
    refine h_calli (va_runS (As := [.ref b, .int (nI 0)]) (rest := [.int 6]) ⟨hx, hb, hml, hown, hts⟩ (c_l_cell l D cs _ H.size b L xs (h_off hH hbA) (Nat.lt_of_lt_of_le hbl hS.1) hL (0) (by decide)) (va_cwS 2 hts gL_build_L_cell rfl rfl rfl (by decide +kernel) ⟨Nat.le_of_ble_eq_true rfl, Nat.le_of_ble_eq_true rfl⟩) (g_preS hK hN hH (fun U g mk a h => sX.same U g mk a h) (sX_mk hXs hbl hbA hS)) rfl rfl hl.1 rfl (lv_room (Nat.le_of_ble_eq_true rfl)) dL_build_101 ⟨by exact Nat.le_of_ble_eq_true rfl, by exact Nat.le_of_ble_eq_true rfl⟩) hH hS hA (fun r9 u9 H locs hp hH hS => ?_)
    rw [hp] at hH
    refine lv_bipush (v := 18) hx hb dL_build_104 (by decide) ?_
    refine h_calli (va_runS (As := [.int r9, .int (nI 18)]) (rest := [.int 6]) ⟨hx, hb, hml, hown, hts⟩ (c_l_below l D cs _ H.size _ 18 (by decide) (by decide)) (va_cwS 2 hts gL_build_L_below rfl rfl rfl (by decide +kernel) ⟨Nat.le_of_ble_eq_true rfl, Nat.le_of_ble_eq_true rfl⟩) (h_preS hK hN hH) rfl rfl hl.1 rfl (lv_room (Nat.le_of_ble_eq_true rfl)) dL_build_106 ⟨by exact Nat.le_of_ble_eq_true rfl, by exact Nat.le_of_ble_eq_true rfl⟩) hH hS hA (fun r8 u9 H locs hp hH hS => ?_)
    obtain ⟨hu, n9, hn9, hr8⟩ := hp
    rw [hu] at hH
    rw [hr8]
    refine lv_iadd hx hb dL_build_109 ?_
    rw [show (6 : Int32) + nI n9 = nI (6 + n9) from nI_add 6 n9]
    refine lv_istore_n (lv' := [(3, .int (nI (6 + n9))), (2, .ref q), (0, .ref (ad 0)), (1, .ref b)]) hx hb dL_build_110 rfl hl (by decide) rfl (fun ls hl => ?_)
    refine lv_iconst (v := 0) hx hb dL_build_111 (by decide) ?_
    refine lv_istore (lv' := [(4, .int 0), (3, .int (nI (6 + n9))), (2, .ref q), (0, .ref (ad 0)), (1, .ref b)]) hx hb dL_build_112 hl (by decide) rfl (fun ls hl => ?_)
    have loop : ∀ r9 i : Nat, i + r9 = 6 + n9 → ∀ (CC : hC) (M1 : Nat → Nat → Int32) (o1 : Nat → Nat) (Fd1 : Nat → Option Nat) (O1 : Nat → Int32), k_I cs I Z F ad q fd oa CC M1 o1 Fd1 O1 → 2 ≤ k_N M1 → ∀ (ls : Array Slot) (H : Heap) (locs : List Loc), lv_has ls 6 [(4, .int (nI i)), (3, .int (nI (6 + n9))), (2, .ref q), (0, .ref (ad 0)), (1, .ref b)] → h_H D A CC H → va_S A s.heap H locs → W p l e rm_l_build s m args below meth c H locs (20 + i * 9230) (60 + i * 38760) Q (F0 m 114 ls []) := by
      intro r9
      induction r9 with
      | zero =>
        intro i hi CC M1 o1 Fd1 O1 hI1 h21 ls H locs hl hH hS
        obtain rfl : i = 6 + n9 := by omega
        refine lv_iload hx hb dL_build_114 (lv_at hl 0 rfl) ?_
        refine lv_iload_n hx hb dL_build_116 rfl (lv_at hl 1 rfl) ?_
        refine lv_icmp_ge (tgt := 160) hx hb dL_build_117 (by decide) (fun c1 => ?_) (fun c1 => ?_)
        · skip
          refine lv_aload_n hx hb dL_build_160 rfl (lv_at hl 2 rfl) ?_
          exact hret 161 ls _ _ _ _ q CC dL_build_161 (show 20 + (6 + n9) * 9230 ≤ 212400 by omega) (show 60 + (6 + n9) * 38760 ≤ 891600 by omega) ⟨fd, oa, M1, o1, Fd1, O1, hI1, h21⟩ hH hS
        · exact absurd (nI_le (Nat.le_refl _) (by omega)) c1
      | succ r9 ih =>
        intro i hi CC M1 o1 Fd1 O1 hI1 h21 ls H locs hl hH hS
        refine lv_iload hx hb dL_build_114 (lv_at hl 0 rfl) ?_
        refine lv_iload_n hx hb dL_build_116 rfl (lv_at hl 1 rfl) ?_
        refine lv_icmp_ge (tgt := 160) hx hb dL_build_117 (by decide) (fun c1 => ?_) (fun c1 => ?_)
        · exact absurd c1 (nI_ge (b := 6 + n9) (by omega) (by omega))
        · skip
          refine lv_aload_n hx hb dL_build_120 rfl (lv_at hl 3 rfl) ?_
          refine lv_aload_n hx hb dL_build_121 rfl (lv_at hl 2 rfl) ?_
          refine lv_aload_n hx hb dL_build_122 rfl (lv_at hl 4 rfl) ?_
          refine lv_iload hx hb dL_build_123 (lv_at hl 0 rfl) ?_
          refine lv_bipush (v := 16) hx hb dL_build_125 (by decide) ?_
          refine lv_irem hx hb dL_build_127 (by decide) ?_
          rw [show (16 : Int32) = nI 16 from rfl, pk_rem (by omega) (by decide) (by decide)]
          refine h_calli (va_runS (As := [.ref b, .int (nI (i % 16))]) (rest := [.ref q, .ref (ad 0)]) ⟨hx, hb, hml, hown, hts⟩ (c_l_cell l D cs _ H.size b L xs (h_off hH hbA) (Nat.lt_of_lt_of_le hbl hS.1) hL (i % 16) (by omega)) (va_cwS 2 hts gL_build_L_cell rfl rfl rfl (by decide +kernel) ⟨Nat.le_of_ble_eq_true rfl, Nat.le_of_ble_eq_true rfl⟩) (g_preS hK hN hH (fun U g mk a h => sX.same U g mk a h) (sX_mk hXs hbl hbA hS)) rfl rfl hl.1 rfl (lv_room (Nat.le_of_ble_eq_true rfl)) dL_build_128 ⟨show 20 + i * 9230 + 0 ≤ 212400 by omega, show 60 + i * 38760 + 0 ≤ 891600 by omega⟩) hH hS hA (fun r9 u9 H locs hp hH hS => ?_)
          rw [hp] at hH
          refine lv_iload hx hb dL_build_131 (lv_at hl 0 rfl) ?_
          refine lv_bipush (v := 16) hx hb dL_build_133 (by decide) ?_
          refine lv_idiv hx hb dL_build_135 (by decide) ?_
          refine lv_iconst (v := 3) hx hb dL_build_136 (by decide) ?_
          refine lv_imul hx hb dL_build_137 ?_
          refine lv_ishr hx hb dL_build_138 ?_
          refine lv_sipush (v := 431) hx hb dL_build_139 (by decide) ?_
          refine lv_iload hx hb dL_build_142 (lv_at hl 0 rfl) ?_
          refine lv_imul hx hb dL_build_144 ?_
          refine lv_iadd hx hb dL_build_145 ?_
          refine h_calli (va_runS (As := [.ref (ad 0), .ref q, .int ((r9 >>> (((nI i / 16) * 3) &&& 31)) + (431 * (nI i)))]) (rest := []) ⟨hx, hb, hml, hown, hts⟩ (c_l_act l hst D cs I Z F ad sa hI CC H.size q fd oa M1 o1 Fd1 O1 hI1 h21 _) (va_cwS 3 hts gL_build_L_act rfl rfl rfl (by decide +kernel) ⟨Nat.le_of_ble_eq_true rfl, Nat.le_of_ble_eq_true rfl⟩) (g_preS hK hN hH (fun U g mk a h => kX.same U g mk a h) (kX_mk hKc hNc hX hA hH hS)) rfl rfl hl.1 rfl (lv_room (Nat.le_of_ble_eq_true rfl)) dL_build_146 ⟨show 20 + i * 9230 + 0 + 9230 ≤ 212400 by omega, show 60 + i * 38760 + 0 + 38760 ≤ 891600 by omega⟩) hH hS hA (fun r7 u9 H locs hp hH hS => ?_)
          obtain ⟨hr7, M2, o2, Fd2, O2, hI2, h22⟩ := hp
          rw [hr7]
          refine lv_if_ne (tgt := 154) hx hb dL_build_149 (by decide) (fun c2 => ?_) (fun c2 => ?_)
          · skip
            refine lv_iinc (v := nI (i + 1)) (lv' := [(4, .int (nI (i + 1))), (3, .int (nI (6 + n9))), (2, .ref q), (0, .ref (ad 0)), (1, .ref b)]) hx hb dL_build_154 hl (k := 0) rfl (nI_1 i) (by decide) rfl (fun ls hl => ?_)
            refine lv_goto (tgt := 114) hx hb dL_build_157 (by decide) ?_
            refine W.widen (k := 20 + (i + 1) * 9230) (n := 60 + (i + 1) * 38760) (by omega) (by omega) ?_
            exact ih (i + 1) (by omega) u9 M2 o2 Fd2 O2 hI2 h22 ls H locs (lv_sub hl [0, 1, 2, 3, 4] rfl) hH hS
          · exact absurd c2 (by decide)
    exact loop (6 + n9) 0 (by omega) CC M1 o1 Fd1 O1 hI1 h21 ls H locs (lv_sub hl [0, 1, 2, 3, 4] rfl) hH hS
  have first : ∀ r9 f : Nat, f + r9 = 2 → ∀ (CC : hC) (M1 : Nat → Nat → Int32) (o1 : Nat → Nat) (Fd1 : Nat → Option Nat) (O1 : Nat → Int32), k_B cs I Z F ad q fd oa CC M1 o1 Fd1 O1 → (0 < f → k_I cs I Z F ad q fd oa CC M1 o1 Fd1 O1) → k_N M1 = f → (∀ k : Nat, a_k M1 k ↔ k < f) → ∀ (ls : Array Slot) (H : Heap) (locs : List Loc), lv_has ls 6 [(3, .int (nI f)), (2, .ref q), (0, .ref (ad 0)), (1, .ref b)] → h_H D A CC H → va_S A s.heap H locs → W p l e rm_l_build s m args below meth c H locs (3 + f * 3) (23 + f * 16) Q (F0 m 10 ls []) := by
    intro r9
    induction r9 with
    | zero =>
      intro f hf CC M1 o1 Fd1 O1 hB1 hI1 hn1 ha1 ls H locs hl hH hS
      obtain rfl : f = 2 := by omega
      refine lv_iload_n hx hb dL_build_10 rfl (lv_at hl 0 rfl) ?_
      refine lv_iconst (v := 2) hx hb dL_build_11 (by decide) ?_
      refine lv_icmp_ge (tgt := 97) hx hb dL_build_12 (by decide) (fun c1 => ?_) (fun c1 => ?_)
      · skip
        refine W.widen (k := 20) (n := 60) (by decide) (by decide) ?_
        exact main9 CC M1 o1 Fd1 O1 (hI1 (by decide)) (by omega) _ ls H locs (lv_sub hl [0, 1, 2, 3] rfl) hH hS
      · exact absurd (nI_le (Nat.le_refl 2) (by decide)) c1
    | succ r9 ih =>
      intro f hf CC M1 o1 Fd1 O1 hB1 hI1 hn1 ha1 ls H locs hl hH hS
      have hf2 : f < 2 := by omega
      have hfr : frOk M1 f := ⟨by omega, Classical.not_not.mp (fun h9 => Nat.lt_irrefl f ((ha1 f).mp h9)), fun g hg => (ha1 g).mpr hg⟩
      refine lv_iload_n hx hb dL_build_10 rfl (lv_at hl 0 rfl) ?_
      refine lv_iconst (v := 2) hx hb dL_build_11 (by decide) ?_
      refine lv_icmp_ge (tgt := 97) hx hb dL_build_12 (by decide) (fun c1 => ?_) (fun c1 => ?_)
      · exact absurd c1 (nI_ge (b := 2) (by omega) (by decide))
      · skip
        refine lv_aload_n hx hb dL_build_15 rfl (lv_at hl 3 rfl) ?_
        refine lv_iload_n hx hb dL_build_16 rfl (lv_at hl 0 rfl) ?_
        refine h_calli (va_runS (As := [.ref b, .int (nI f)]) (rest := []) ⟨hx, hb, hml, hown, hts⟩ (c_l_cell l D cs _ H.size b L xs (h_off hH hbA) (Nat.lt_of_lt_of_le hbl hS.1) hL (f) (by omega)) (va_cwS 2 hts gL_build_L_cell rfl rfl rfl (by decide +kernel) ⟨Nat.le_of_ble_eq_true rfl, Nat.le_of_ble_eq_true rfl⟩) (g_preS hK hN hH (fun U g mk a h => sX.same U g mk a h) (sX_mk hXs hbl hbA hS)) rfl rfl hl.1 rfl (lv_room (Nat.le_of_ble_eq_true rfl)) dL_build_17 ⟨show 3 + f * 3 + 0 ≤ 212400 by omega, show 23 + f * 16 + 0 ≤ 891600 by omega⟩) hH hS hA (fun r9 u9 H locs hp hH hS => ?_)
        rw [hp] at hH
        refine lv_iconst (v := 5) hx hb dL_build_20 (by decide) ?_
        refine lv_iload_n hx hb dL_build_21 rfl (lv_at hl 0 rfl) ?_
        refine lv_imul hx hb dL_build_22 ?_
        refine lv_ishr hx hb dL_build_23 ?_
        refine lv_bipush (v := 8) hx hb dL_build_24 (by decide) ?_
        refine h_calli (va_runS (As := [.int (r9 >>> ((5 * (nI f)) &&& 31)), .int (nI 8)]) (rest := []) ⟨hx, hb, hml, hown, hts⟩ (c_l_below l D cs _ H.size _ 8 (by decide) (by decide)) (va_cwS 2 hts gL_build_L_below rfl rfl rfl (by decide +kernel) ⟨Nat.le_of_ble_eq_true rfl, Nat.le_of_ble_eq_true rfl⟩) (h_preS hK hN hH) rfl rfl hl.1 rfl (lv_room (Nat.le_of_ble_eq_true rfl)) dL_build_26 ⟨show 3 + f * 3 + 0 + 0 ≤ 212400 by omega, show 23 + f * 16 + 0 + 0 ≤ 891600 by omega⟩) hH hS hA (fun r8 u9 H locs hp hH hS => ?_)
        obtain ⟨hu, q9, hq9, hr8⟩ := hp
        rw [hu] at hH
        rw [hr8]
        obtain ⟨hM1, hsi1, hfd1, hoa1, ⟨oo1, oo2, oo3⟩, hO1, hF1, hS1⟩ := id hB1
        refine lv_istore (lv' := [(4, .int (nI q9)), (3, .int (nI f)), (2, .ref q), (0, .ref (ad 0)), (1, .ref b)]) hx hb dL_build_29 hl (by decide) rfl (fun ls hl => ?_)
        refine lv_aload_n hx hb dL_build_31 rfl (lv_at hl 2 rfl) ?_
        refine h_get (v := .ref fd) (C0 := RX4) (T := TX4) (N := 3) hx hb hts hin4 hown hK.1 hH hsi1 rfl 0 (by decide) rfl (by decide +kernel) rfl dL_build_32 ?_
        refine lv_iload_n hx hb dL_build_35 rfl (lv_at hl 1 rfl) ?_
        refine lv_iconst (v := 4) hx hb dL_build_36 (by decide) ?_
        refine h_newa (atype := .long) (ty := .long) (a0 := (4, .inr (.inl (fun _ => 0)))) (cA := cs 1) hx hb (hts (.arrayClass .long) (by decide +kernel)) rfl (fun _ h => by cases h) hK.1 hH hS hA 1 rfl (N' := 4) (fun _ => rfl) (by decide) (by decide) (by decide) (show 3 + f * 3 + 0 + 0 + 1 ≤ 212400 by omega) (show 23 + f * 16 + 0 + 0 + 4 ≤ 891600 by omega) dL_build_37 (fun q0 H hq0 hH hS => ?_)
        have n0f : q0 ≠ fd := fun h9 => by rw [h9, hfd1] at hq0; cases hq0
        have n0q : q0 ≠ q := fun h9 => by rw [h9, hsi1] at hq0; cases hq0
        have nqf : q ≠ fd := fun h9 => by rw [h9, hfd1] at hsi1; simp at hsi1
        have hq0o : k_o ad q0 := hM1.off hq0
        refine h_aast hx hb hH hS ((h_U_ne (Ne.symm n0f)).trans hfd1) (h_okA hH hK.2.1 h_U_at) f (by omega) (by decide) rfl dL_build_39 (fun H locs hH hS => ?_)
        have hH : h_H D A (h_U (h_U (h_U CC q0 (.inl (cs 1, 4, .inr (.inl (fun _ => 0))))) fd (.inl (cs 2, 12, .inr (.inr (.inr (.inr (va_up Fd1 f (some q0)))))))) q0 (.inl (cs 1, 4, .inr (.inl (fun _ => 0))))) H := by rw [h_U_self ((h_U_ne n0f).trans h_U_at)]; exact hH
        have gq : ∀ G : Nat → Int64, (h_U (h_U (h_U CC q0 (.inl (cs 1, 4, .inr (.inl (fun _ => 0))))) fd (.inl (cs 2, 12, .inr (.inr (.inr (.inr (va_up Fd1 f (some q0)))))))) q0 (.inl (cs 1, 4, .inr (.inl G)))) q = some (.inr (4, [.ref fd, .ref oa, .null])) := fun G => (h_U_ne (Ne.symm n0q)).trans ((h_U_ne nqf).trans ((h_U_ne (Ne.symm n0q)).trans hsi1))
        have gf : ∀ G : Nat → Int64, (h_U (h_U (h_U CC q0 (.inl (cs 1, 4, .inr (.inl (fun _ => 0))))) fd (.inl (cs 2, 12, .inr (.inr (.inr (.inr (va_up Fd1 f (some q0)))))))) q0 (.inl (cs 1, 4, .inr (.inl G)))) fd = some (.inl (cs 2, 12, .inr (.inr (.inr (.inr (va_up Fd1 f (some q0))))))) := fun G => (h_U_ne (Ne.symm n0f)).trans h_U_at
        have gx : ∀ (G : Nat → Int64) (b9 : Nat), CC b9 ≠ none → b9 ≠ fd → (h_U (h_U (h_U CC q0 (.inl (cs 1, 4, .inr (.inl (fun _ => 0))))) fd (.inl (cs 2, 12, .inr (.inr (.inr (.inr (va_up Fd1 f (some q0)))))))) q0 (.inl (cs 1, 4, .inr (.inl G)))) b9 = CC b9 := fun G b9 h8 h9 => by rw [h_U_ne (fun h7 => h8 (by rw [h7]; exact hq0)), h_U_ne h9, h_U_ne (fun h7 => h8 (by rw [h7]; exact hq0))]
        refine lv_iconst (v := 0) hx hb dL_build_40 (by decide) ?_
        refine lv_istore (lv' := [(5, .int 0), (4, .int (nI q9)), (3, .int (nI f)), (2, .ref q), (0, .ref (ad 0)), (1, .ref b)]) hx hb dL_build_41 hl (by decide) rfl (fun ls hl => ?_)
        have loop : ∀ r8 i : Nat, i + r8 = 256 → ∀ (G : Nat → Int64) (ls : Array Slot) (H : Heap) (locs : List Loc), lv_has ls 6 [(5, .int (nI i)), (4, .int (nI q9)), (3, .int (nI f)), (2, .ref q), (0, .ref (ad 0)), (1, .ref b)] → h_H D A (h_U (h_U (h_U CC q0 (.inl (cs 1, 4, .inr (.inl (fun _ => 0))))) fd (.inl (cs 2, 12, .inr (.inr (.inr (.inr (va_up Fd1 f (some q0)))))))) q0 (.inl (cs 1, 4, .inr (.inl G)))) H → va_S A s.heap H locs → j_S G (b_t (y_f (fun j => isF (nI j) (nI q9))) i) → W p l e rm_l_build s m args below meth c H locs (3 + f * 3 + 1) (23 + f * 16 + 4) Q (F0 m 43 ls []) := by
          intro r8
          induction r8 with
          | zero =>
            intro i hi G ls H locs hl hH hS hG
            obtain rfl : i = 256 := by omega
            rw [b_t256 (y_fS _)] at hG
            refine lv_iload hx hb dL_build_43 (lv_at hl 0 rfl) ?_
            refine lv_sipush (v := 256) hx hb dL_build_45 (by decide) ?_
            refine lv_icmp_ge (tgt := 79) hx hb dL_build_48 (by decide) (fun c2 => ?_) (fun c2 => ?_)
            · skip
              refine lv_aload_n hx hb dL_build_79 rfl (lv_at hl 4 rfl) ?_
              refine lv_iload hx hb dL_build_80 (lv_at hl 1 rfl) ?_
              have hM2 : kM I Z F ad M1 (h_U (h_U (h_U CC q0 (.inl (cs 1, 4, .inr (.inl (fun _ => 0))))) fd (.inl (cs 2, 12, .inr (.inr (.inr (.inr (va_up Fd1 f (some q0)))))))) q0 (.inl (cs 1, 4, .inr (.inl G)))) := hB1.pre (gx G)
              refine kx_calli (vx_runV (As := [.int (nI q9)]) (rest := []) ⟨hx, hb, hml, hown, hts⟩ (c_ask l hst D I Z F ad sa hI M1 H.size (nI q9)) (cwV 1 hts gL_build_X2_ask rfl rfl rfl (by decide +kernel) ⟨Nat.le_of_ble_eq_true rfl, Nat.le_of_ble_eq_true rfl⟩) (k_preV hKc hNc hX hA hI hM2 hH hS) rfl rfl hl.1 rfl (lv_room (Nat.le_of_ble_eq_true rfl)) dL_build_82 ⟨show 3 + f * 3 + 1 + 2 ≤ 212400 by omega, show 23 + f * 16 + 4 + 12 ≤ 891600 by omega⟩) hI hM2 hH hS hA (xpN_no ⟨q9, hq9, rfl⟩ hfr) (fun r u H locs hp hH hM9 hS => ?_)
              obtain ⟨f9, -, hf9, hrk, hu⟩ := hp
              have ef := fr_one hfr hf9
              subst ef
              rw [hu] at hH
              rw [hrk]
              clear hu hM9
              have hI9 := hB1.new hI (C9 := (h_U (h_U (h_U CC q0 (.inl (cs 1, 4, .inr (.inl (fun _ => 0))))) fd (.inl (cs 2, 12, .inr (.inr (.inr (.inr (va_up Fd1 f (some q0)))))))) q0 (.inl (cs 1, 4, .inr (.inl G))))) (gx G) (gf G) h_U_at hq0o hG is_T
              refine lv_iload_n hx hb dL_build_85 rfl (lv_at hl 2 rfl) ?_
              refine lv_icmp_eq (tgt := 91) hx hb dL_build_86 (by decide) (fun c3 => ?_) (fun c3 => ?_)
              · skip
                refine lv_iinc (v := nI (f + 1)) (lv' := [(3, .int (nI (f + 1))), (5, .int (nI 256)), (4, .int (nI q9)), (2, .ref q), (0, .ref (ad 0)), (1, .ref b)]) hx hb dL_build_91 hl (k := 2) rfl (nI_1 f) (by decide) rfl (fun ls hl => ?_)
                refine lv_goto (tgt := 10) hx hb dL_build_94 (by decide) ?_
                refine W.widen (k := 3 + (f + 1) * 3) (n := 23 + (f + 1) * 16) (by omega) (by omega) ?_
                refine ih (f + 1) (by omega) _ (nwF M1 f (fun j => isF (nI j) (nI q9))) o1 _ O1 hI9.B (fun _ => hI9) (by rw [k_N_new (by omega) hfr.2.1, hn1]) (fun k9 => ?_) ls H locs (lv_sub hl [0, 3, 4, 5] rfl) hH hS
                rw [nw_k, ha1]; omega
              · exact absurd rfl c3
            · exact absurd (nI_le (Nat.le_refl 256) (by decide)) c2
          | succ r8 ih8 =>
            intro i hi G ls H locs hl hH hS hG
            refine lv_iload hx hb dL_build_43 (lv_at hl 0 rfl) ?_
            refine lv_sipush (v := 256) hx hb dL_build_45 (by decide) ?_
            refine lv_icmp_ge (tgt := 79) hx hb dL_build_48 (by decide) (fun c2 => ?_) (fun c2 => ?_)
            · exact absurd c2 (nI_ge (b := 256) (by omega) (by decide))
            · skip
              refine lv_iload hx hb dL_build_51 (lv_at hl 0 rfl) ?_
              refine lv_iload hx hb dL_build_53 (lv_at hl 1 rfl) ?_
              refine lv_ishr hx hb dL_build_55 ?_
              refine lv_iconst (v := 2) hx hb dL_build_56 (by decide) ?_
              refine lv_irem hx hb dL_build_57 (by decide) ?_
              refine lv_iconst (v := 1) hx hb dL_build_58 (by decide) ?_
              refine lv_icmp_ne (tgt := 73) hx hb dL_build_59 (by decide) (fun c3 => ?_) (fun c3 => ?_)
              · skip
                have hv : y_f (fun j => isF (nI j) (nI q9)) i = false := y_ff (Classical.not_not.mp (fun h9 => c3 ((ask_bit i (by omega) q9 hq9).mpr h9)))
                refine lv_iinc (v := nI (i + 1)) (lv' := [(5, .int (nI (i + 1))), (4, .int (nI q9)), (3, .int (nI f)), (2, .ref q), (0, .ref (ad 0)), (1, .ref b)]) hx hb dL_build_73 hl (k := 0) rfl (nI_1 i) (by decide) rfl (fun ls hl => ?_)
                refine lv_goto (tgt := 43) hx hb dL_build_76 (by decide) ?_
                exact ih8 (i + 1) (by omega) G ls H locs (lv_sub hl [0, 1, 2, 3, 4, 5] rfl) hH hS (by rw [← b_ts0 hv]; exact hG)
              · skip
                have hv : y_f (fun j => isF (nI j) (nI q9)) i = true := y_ft (by omega) ((ask_bit i (by omega) q9 hq9).mp c3)
                refine lv_aload_n hx hb dL_build_62 rfl (lv_at hl 3 rfl) ?_
                refine h_get (v := .ref fd) (C0 := RX4) (T := TX4) (N := 3) hx hb hts hin4 hown hK.1 hH (gq G) rfl 0 (by decide) rfl (by decide +kernel) rfl dL_build_63 ?_
                refine lv_iload_n hx hb dL_build_66 rfl (lv_at hl 2 rfl) ?_
                refine h_aald hx hb hH hK.2.1.1 rfl (gf G) f (by omega) (by decide) rfl dL_build_67 ?_
                rw [va_up_self]
                refine lv_iload hx hb dL_build_68 (lv_at hl 0 rfl) ?_
                refine h_callv (va_runS (As := [.ref q0, .int (nI i)]) (rest := []) ⟨hx, hb, hml, hown, hts⟩ (c_l_set l D cs (h_U (h_U (h_U CC q0 (.inl (cs 1, 4, .inr (.inl (fun _ => 0))))) fd (.inl (cs 2, 12, .inr (.inr (.inr (.inr (va_up Fd1 f (some q0)))))))) q0 (.inl (cs 1, 4, .inr (.inl G)))) H.size q0 G h_U_at i (by omega)) (va_cwS 2 hts gL_build_L_set rfl rfl rfl (by decide +kernel) ⟨Nat.le_of_ble_eq_true rfl, Nat.le_of_ble_eq_true rfl⟩) (h_preS hK hN hH) rfl rfl hl.1 rfl (lv_room (Nat.le_of_ble_eq_true rfl)) dL_build_70 ⟨show 3 + f * 3 + 1 + 0 ≤ 212400 by omega, show 23 + f * 16 + 4 + 0 ≤ 891600 by omega⟩) hH hS hA (fun u9 H locs hp hH hS => ?_)
                rw [hp, h_U_U] at hH
                refine lv_iinc (v := nI (i + 1)) (lv' := [(5, .int (nI (i + 1))), (4, .int (nI q9)), (3, .int (nI f)), (2, .ref q), (0, .ref (ad 0)), (1, .ref b)]) hx hb dL_build_73 hl (k := 0) rfl (nI_1 i) (by decide) rfl (fun ls hl => ?_)
                refine lv_goto (tgt := 43) hx hb dL_build_76 (by decide) ?_
                exact ih8 (i + 1) (by omega) _ ls H locs (lv_sub hl [0, 1, 2, 3, 4, 5] rfl) hH hS (by rw [← b_ts1 hv]; exact j_set hG (by omega))
        exact loop 256 0 rfl (fun _ => 0) ls H locs (lv_sub hl [0, 1, 2, 3, 4, 5] rfl) hH hS (by rw [b_t0]; exact j_S0)
  exact first 2 0 rfl u0 M (fun p => p) (fun _ => none) O hB0 (fun h => absurd h (Nat.lt_irrefl 0)) hN0 (fun k => ⟨fun h => absurd h (hk0 k), fun h => absurd h (Nat.not_lt_zero _)⟩) ls H locs (lv_sub hl [0, 1, 2, 3] rfl) hH hS
