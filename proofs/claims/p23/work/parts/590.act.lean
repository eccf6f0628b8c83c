/-- a place of the law's row of folds is another: the class's cells stay -/
theorem k_I.pre {cs : Nat → ClassId} {I Z F : ClassId} {ad : Nat → Nat} {si fd oa : Nat} {C : hC} {M : Nat → Nat → Int32} {o : Nat → Nat} {Fd : Nat → Option Nat} {O : Nat → Int32} (h : k_I cs I Z F ad si fd oa C M o Fd O) {C2 : hC} (hx : ∀ b : Nat, C b ≠ none → C2 b = C b) (e : va_E) : kM I Z F ad M (h_U C2 fd e) := fun i hi => by
  rw [h_U_ne (Ne.symm (h.2.2.2.2.1.2.1 i hi)), hx (ad i) (by rw [h.1 i hi]; simp)]; exact h.1 i hi
theorem k_I.preo {cs : Nat → ClassId} {I Z F : ClassId} {ad : Nat → Nat} {si fd oa : Nat} {C : hC} {M : Nat → Nat → Int32} {o : Nat → Nat} {Fd : Nat → Option Nat} {O : Nat → Int32} (h : k_I cs I Z F ad si fd oa C M o Fd O) (e : va_E) : kM I Z F ad M (h_U C oa e) := fun i hi => by
  rw [h_U_ne (Ne.symm (h.2.2.2.2.1.2.2 i hi))]; exact h.1 i hi
theorem xpN_no {M : Nat → Nat → Int32} {ok : Prop} {f : Nat} (h : ok) (hf : frOk M f) : ∀ E : String, ¬ xpN M ok E := by
  rintro E (⟨_, h1⟩ | ⟨_, _, h1⟩)
  · exact h1 h
  · exact h1 f hf.1 hf.2.1
theorem fdOk_of {M : Nat → Nat → Int32} {w : Nat} (hw : w < 12) (ha : a_k M w) : fdOk M (nI w) w := ⟨hw, rfl, ha⟩
/-- cyclic distance to a fold -/
theorem cy_s {at9 d f0 : Nat} (h1 : at9 < 12) (hf : f0 < 12) (h : (at9 + (d + 1)) % 12 = f0) : ((at9 + 1) % 12 + d) % 12 = f0 := by omega
abbrev rm_l_act : Room := { frames := 40, cells := 9230, slots := 38760, locals := 7000 }
set_option maxHeartbeats 40000000 in
set_option maxRecDepth 100000 in
/-- one thing done to both -/
theorem c_l_act (l : Launch) (hst : l.stackTraces = false) (D : va_G) (cs : Nat → ClassId) (I Z F : ClassId) (ad sa : Nat → Nat) (hI : cI ad) (C : hC) (sz : Nat) (si fd oa : Nat) (M : Nat → Nat → Int32) (o : Nat → Nat) (Fd : Nat → Option Nat) (O : Nat → Int32) (hk : k_I cs I Z F ad si fd oa C M o Fd O) (h2 : 2 ≤ k_N M) (x : Int32) : Met l yL_act wsL_act rm_l_act (va_Pc [.ref (ad 0), .ref si, .int x] (gU D cs C sz (kX D I Z F sa C sz))) (va_Qi (fun (r : Int32) (u : hC) => r = 1 ∧ ∃ (M' : Nat → Nat → Int32) (o' : Nat → Nat) (Fd' : Nat → Option Nat) (O' : Nat → Int32), k_I cs I Z F ad si fd oa u M' o' Fd' O' ∧ 2 ≤ k_N M') (fun u t => h_H D (h_A C sz) u t.heap) (h_A C sz)) 9230 38760 (h_A C sz) := by
  refine gMet_z (cc := cL_act) (maxL := 13) (by decide) rfl RL rfl (Nat.le_of_ble_eq_true rfl) (lv := [(0, .ref (ad 0)), (1, .ref si), (2, .int x)]) rfl ?_
  intro p e s m args below meth c Q A ls hsz hA9 hX9 C0 hH hS hl hret
  obtain ⟨hx, hb, hml, hts, hown, hlocks, hK, hN, hA, hargs⟩ := C0
  obtain ⟨hKc, hNc, hX⟩ := hX9
  rw [← hA9] at hX
  have hin4 : ∀ w ∈ u_ws RX4 TX4 3, w ∈ wsL_act := by decide +kernel
  obtain ⟨hM0, hsi, hfd, hoa, ⟨oo1, oo2, oo3⟩, hO, hF9, hS9⟩ := id hk
  have hle := k_N_le M
  refine lv_aload_n hx hb dL_act_0 rfl (lv_at hl 1 rfl) ?_
  refine h_calli (va_runV (As := []) (rest := []) ⟨hx, hb, hml, hown, hts⟩ (c_h_many l D cs C s.heap.size si fd oa .null Fd hsi hfd) (cwV 0 hts gL_act_X4_many rfl rfl rfl (by decide +kernel) ⟨Nat.le_of_ble_eq_true rfl, Nat.le_of_ble_eq_true rfl⟩) (h_preV hK hN hH hsi rfl) rfl rfl hl.1 rfl (lv_room (Nat.le_of_ble_eq_true rfl)) dL_act_1 ⟨by first | exact Nat.le_of_ble_eq_true rfl | omega, by first | exact Nat.le_of_ble_eq_true rfl | omega⟩) hH hS hA (fun r9 u9 H locs hp hH hS => ?_)
  obtain ⟨hu, hr9⟩ := hp
  rw [hu] at hH
  rw [hr9, hk.cnt]
  refine lv_istore_n (lv' := [(3, .int (nI (k_N M))), (0, .ref (ad 0)), (1, .ref si), (2, .int x)]) hx hb dL_act_4 rfl hl (by decide) rfl (fun ls hl => ?_)
  refine lv_aload_n hx hb dL_act_5 rfl (lv_at hl 2 rfl) ?_
  refine h_calli (va_runV (As := []) (rest := []) ⟨hx, hb, hml, hown, hts⟩ (c_h_free l D cs C H.size si fd oa .null Fd hsi hfd) (cwV 0 hts gL_act_X4_free rfl rfl rfl (by decide +kernel) ⟨Nat.le_of_ble_eq_true rfl, Nat.le_of_ble_eq_true rfl⟩) (h_preV hK hN hH hsi rfl) rfl rfl hl.1 rfl (lv_room (Nat.le_of_ble_eq_true rfl)) dL_act_6 ⟨by first | exact Nat.le_of_ble_eq_true rfl | omega, by first | exact Nat.le_of_ble_eq_true rfl | omega⟩) hH hS hA (fun r9 u9 H locs hp hH hS => ?_)
  obtain ⟨hu, fr, hfr, hr9, hfr1, hfr2⟩ := hp
  rw [hu] at hH
  rw [hr9]
  have hfrM : k_N M ≠ 12 → frOk M fr := fun h12 => by
    have hlt : fr < 12 := by
      rcases Nat.lt_or_ge fr 12 with h | h
      · exact h
      · exact absurd (k_N_all (fun k hk9 => Classical.not_not.mp (fun hn => hfr1 k (by omega) ((hk.off hk9).mpr hn)))) h12
    exact ⟨hlt, Classical.not_not.mp ((hk.off hlt).mp (hfr2 hlt)), fun g hg => Classical.not_not.mp (fun hn => hfr1 g hg ((hk.off (by omega)).mpr hn))⟩
  refine lv_istore (lv' := [(4, .int (nI fr)), (3, .int (nI (k_N M))), (0, .ref (ad 0)), (1, .ref si), (2, .int x)]) hx hb dL_act_9 hl (by decide) rfl (fun ls hl => ?_)
  refine lv_iconst (v := 3) hx hb dL_act_11 (by decide) ?_
  refine h_newa (atype := .int) (ty := .int) (a0 := (3, .inl (fun _ => 0))) (cA := cs 0) hx hb (hts (.arrayClass .int) (by decide +kernel)) rfl (fun _ h => by cases h) hK.1 hH hS hA 0 rfl (N' := 3) (fun _ => rfl) (by decide) (by decide) (by decide) (Nat.le_of_ble_eq_true rfl) (Nat.le_of_ble_eq_true rfl) dL_act_12 (fun wa H hwa hH hS => ?_)
  refine lv_astore (lv' := [(5, .ref wa), (4, .int (nI fr)), (3, .int (nI (k_N M))), (0, .ref (ad 0)), (1, .ref si), (2, .int x)]) hx hb dL_act_14 hl (by decide) rfl (fun ls hl => ?_)
  refine lv_iconst (v := 0) hx hb dL_act_16 (by decide) ?_
  refine lv_istore (lv' := [(6, .int 0), (5, .ref wa), (4, .int (nI fr)), (3, .int (nI (k_N M))), (0, .ref (ad 0)), (1, .ref si), (2, .int x)]) hx hb dL_act_17 hl (by decide) rfl (fun ls hl => ?_)
  have hwo : k_o ad wa := hM0.off hwa
  have hext : ∀ (X : Nat → Int32) (b : Nat), C b ≠ none → (h_U C wa (.inl (cs 0, 3, .inl X))) b = C b := fun X b hb9 => h_U_keep hwa hb9
  have hkX : ∀ X : Nat → Int32, k_I cs I Z F ad si fd oa (h_U C wa (.inl (cs 0, 3, .inl X))) M o Fd O := fun X => hk.ext (hext X)
  have nwf : wa ≠ fd := fun h9 => by rw [h9, hfd] at hwa; cases hwa
  have rest80 : ∀ X : Nat → Int32, (∀ j : Nat, j < 3 → ∃ v : Nat, v < 12 ∧ X j = nI v ∧ a_k M v) → ∀ (ls : Array Slot) (H : Heap) (locs : List Loc), lv_has ls 13 [(5, .ref wa), (4, .int (nI fr)), (3, .int (nI (k_N M))), (0, .ref (ad 0)), (1, .ref si), (2, .int x)] → h_H D A (h_U C wa (.inl (cs 0, 3, .inl X))) H → va_S A s.heap H locs → W p l e rm_l_act s m args below meth c H locs 1 3 Q (F0 m 80 ls []) := by
    intro X hX9 ls H locs hl hH hS
    obtain ⟨w0, hw0, ew0, aw0⟩ := hX9 0 (by decide)
    obtain ⟨w1, hw1, ew1, aw1⟩ := hX9 1 (by decide)
    obtain ⟨w2, hw2, ew2, aw2⟩ := hX9 2 (by decide)
    obtain ⟨hM1, hsi1, hfd1, hoa1, -, -, -, -⟩ := hkX X
    have hwa1 : (h_U C wa (.inl (cs 0, 3, .inl X))) wa = some (.inl (cs 0, 3, .inl X)) := h_U_at
    refine lv_iload_n hx hb dL_act_80 rfl (lv_at hl 5 rfl) ?_
    refine lv_iconst (v := 3) hx hb dL_act_81 (by decide) ?_
    refine lv_ishr hx hb dL_act_82 ?_
    refine lv_bipush (v := 8) hx hb dL_act_83 (by decide) ?_
    refine h_calli (va_runS (As := [.int (x >>> (3 &&& 31)), .int (nI 8)]) (rest := []) ⟨hx, hb, hml, hown, hts⟩ (c_l_below l D cs _ H.size _ 8 (by decide) (by decide)) (va_cwS 2 hts gL_act_L_below rfl rfl rfl (by decide +kernel) ⟨Nat.le_of_ble_eq_true rfl, Nat.le_of_ble_eq_true rfl⟩) (h_preS hK hN hH) rfl rfl hl.1 rfl (lv_room (Nat.le_of_ble_eq_true rfl)) dL_act_85 ⟨by first | exact Nat.le_of_ble_eq_true rfl | omega, by first | exact Nat.le_of_ble_eq_true rfl | omega⟩) hH hS hA (fun r9 u9 H locs hp hH hS => ?_)
    obtain ⟨hu, q9, hq9, hr9⟩ := hp
    rw [hu] at hH
    rw [hr9]
    refine lv_istore (lv' := [(6, .int (nI q9)), (5, .ref wa), (4, .int (nI fr)), (3, .int (nI (k_N M))), (0, .ref (ad 0)), (1, .ref si), (2, .int x)]) hx hb dL_act_88 hl (by decide) rfl (fun ls hl => ?_)
    refine lv_iload_n hx hb dL_act_90 rfl (lv_at hl 6 rfl) ?_
    refine lv_bipush (v := 9) hx hb dL_act_91 (by decide) ?_
    refine lv_ishr hx hb dL_act_93 ?_
    refine lv_bipush (v := 16) hx hb dL_act_94 (by decide) ?_
    refine h_calli (va_runS (As := [.int (x >>> (9 &&& 31)), .int (nI 16)]) (rest := []) ⟨hx, hb, hml, hown, hts⟩ (c_l_below l D cs _ H.size _ 16 (by decide) (by decide)) (va_cwS 2 hts gL_act_L_below rfl rfl rfl (by decide +kernel) ⟨Nat.le_of_ble_eq_true rfl, Nat.le_of_ble_eq_true rfl⟩) (h_preS hK hN hH) rfl rfl hl.1 rfl (lv_room (Nat.le_of_ble_eq_true rfl)) dL_act_96 ⟨by first | exact Nat.le_of_ble_eq_true rfl | omega, by first | exact Nat.le_of_ble_eq_true rfl | omega⟩) hH hS hA (fun r9 u9 H locs hp hH hS => ?_)
    obtain ⟨hu, so, hso, hr9⟩ := hp
    rw [hu] at hH
    rw [hr9]
    refine lv_istore (lv' := [(7, .int (nI so)), (6, .int (nI q9)), (5, .ref wa), (4, .int (nI fr)), (3, .int (nI (k_N M))), (0, .ref (ad 0)), (1, .ref si), (2, .int x)]) hx hb dL_act_99 hl (by decide) rfl (fun ls hl => ?_)
    have drop9 : 4 ≤ k_N M → ∀ (ls : Array Slot) (H : Heap) (locs : List Loc), lv_has ls 13 [(7, .int (nI so)), (6, .int (nI q9)), (5, .ref wa), (4, .int (nI fr)), (3, .int (nI (k_N M))), (0, .ref (ad 0)), (1, .ref si), (2, .int x)] → h_H D A (h_U C wa (.inl (cs 0, 3, .inl X))) H → va_S A s.heap H locs → W p l e rm_l_act s m args below meth c H locs 1 3 Q (F0 m 117 ls []) := by
      intro h4 ls H locs hl hH hS
      refine lv_aload_n hx hb dL_act_117 rfl (lv_at hl 6 rfl) ?_
      refine h_get (v := .ref fd) (C0 := RX4) (T := TX4) (N := 3) hx hb hts hin4 hown hK.1 hH hsi1 rfl 0 (by decide) rfl (by decide +kernel) rfl dL_act_118 ?_
      refine lv_aload hx hb dL_act_121 (lv_at hl 2 rfl) ?_
      refine lv_iconst (v := 0) hx hb dL_act_123 (by decide) ?_
      refine h_iald hx hb hK.1 hH hwa1 0 rfl 0 (by decide) (by decide) rfl dL_act_124 ?_
      rw [ew0]
      refine lv_null hx hb dL_act_125 ?_
      refine h_aastN hx hb hH hS hK.2.1.1 hfd1 w0 hw0 (by decide) rfl dL_act_126 (fun H locs hH hS => ?_)
      have hwa2 : (h_U (h_U C wa (.inl (cs 0, 3, .inl X))) fd (.inl (cs 2, 12, .inr (.inr (.inr (.inr (va_up Fd w0 none))))))) wa = some (.inl (cs 0, 3, .inl X)) := (h_U_ne nwf).trans h_U_at
      have hM2 : kM I Z F ad M (h_U (h_U C wa (.inl (cs 0, 3, .inl X))) fd (.inl (cs 2, 12, .inr (.inr (.inr (.inr (va_up Fd w0 none))))))) := hk.pre (hext X) _
      refine lv_aload_n hx hb dL_act_127 rfl (lv_at hl 5 rfl) ?_
      refine lv_aload hx hb dL_act_128 (lv_at hl 2 rfl) ?_
      refine lv_iconst (v := 0) hx hb dL_act_130 (by decide) ?_
      refine h_iald hx hb hK.1 hH hwa2 0 rfl 0 (by decide) (by decide) rfl dL_act_131 ?_
      rw [ew0]
      refine kx_calli (vx_runV (As := [.int (nI w0)]) (rest := []) ⟨hx, hb, hml, hown, hts⟩ (c_drop l hst D I Z F ad sa hI M H.size (nI w0)) (cwV 1 hts gL_act_X2_drop rfl rfl rfl (by decide +kernel) ⟨Nat.le_of_ble_eq_true rfl, Nat.le_of_ble_eq_true rfl⟩) (k_preV hKc hNc hX hA hI hM2 hH hS) rfl rfl hl.1 rfl (lv_room (Nat.le_of_ble_eq_true rfl)) dL_act_132 ⟨by exact Nat.le_of_ble_eq_true rfl, by exact Nat.le_of_ble_eq_true rfl⟩) hI hM2 hH hS hA (by rintro E ⟨_, h9⟩; exact h9 ⟨w0, fdOk_of hw0 aw0⟩) (fun r u H locs hp hH hM9 hS => ?_)
      obtain ⟨k9, hk9, hu, hrk⟩ := hp
      have ek := fd_one hw0 hk9
      subst ek
      rw [hu] at hH
      rw [hrk, hu, k_N_ck]
      clear hu hrk hM9
      have hcnt := k_N_drop (M := M) hk9.1 hk9.2.2
      have hI9 := (hkX X).drop hI (f := k9)
      refine lv_iload_n hx hb dL_act_135 rfl (lv_at hl 4 rfl) ?_
      refine lv_iconst (v := 1) hx hb dL_act_136 (by decide) ?_
      refine lv_isub hx hb dL_act_137 ?_
      rw [show nI (k_N M) - 1 = nI (k_N (laF (mst M (25 + 6 * k9) 0 0))) from by rw [hcnt]; exact nI_pred _]
      refine lv_icmp_ne (tgt := 145) hx hb dL_act_138 (by decide) (fun c9 => ?_) (fun c9 => ?_)
      · exact absurd rfl c9
      · skip
        refine lv_iconst (v := 1) hx hb dL_act_141 (by decide) ?_
        refine lv_goto (tgt := 146) hx hb dL_act_142 (by decide) ?_
        exact hret 146 ls _ _ _ _ 1 _ dL_act_146 (by exact Nat.le_of_ble_eq_true rfl) (by exact Nat.le_of_ble_eq_true rfl) ⟨⟨rfl, (laF (mst M (25 + 6 * k9) 0 0)), o, va_up Fd k9 none, O, hI9, by omega⟩, Or.inr rfl⟩ hH hS
    have rest9 : k_N M ≠ 12 → ∀ (ls : Array Slot) (H : Heap) (locs : List Loc), lv_has ls 13 [(7, .int (nI so)), (6, .int (nI q9)), (5, .ref wa), (4, .int (nI fr)), (3, .int (nI (k_N M))), (0, .ref (ad 0)), (1, .ref si), (2, .int x)] → h_H D A (h_U C wa (.inl (cs 0, 3, .inl X))) H → va_S A s.heap H locs → W p l e rm_l_act s m args below meth c H locs 1 3 Q (F0 m 147 ls []) := by
      intro h12 ls H locs hl hH hS
      have hfrk := hfrM h12
      have hfr12 := hfrk.1
      refine lv_iload hx hb dL_act_147 (lv_at hl 0 rfl) ?_
      refine lv_iconst (v := 1) hx hb dL_act_149 (by decide) ?_
      refine lv_icmp_ne (tgt := 222) hx hb dL_act_150 (by decide) (fun c1 => ?_) (fun c1 => ?_)
      · skip
        refine lv_iconst (v := 4) hx hb dL_act_222 (by decide) ?_
        refine h_newa (atype := .long) (ty := .long) (a0 := (4, .inr (.inl (fun _ => 0)))) (cA := cs 1) hx hb (hts (.arrayClass .long) (by decide +kernel)) rfl (fun _ h => by cases h) hK.1 hH hS hA 1 rfl (N' := 4) (fun _ => rfl) (by decide) (by decide) (by decide) (Nat.le_of_ble_eq_true rfl) (Nat.le_of_ble_eq_true rfl) dL_act_223 (fun q0 H hq0 hH hS => ?_)
        refine lv_astore (lv' := [(8, .ref q0), (7, .int (nI so)), (6, .int (nI q9)), (5, .ref wa), (4, .int (nI fr)), (3, .int (nI (k_N M))), (0, .ref (ad 0)), (1, .ref si), (2, .int x)]) hx hb dL_act_225 hl (by decide) rfl (fun ls hl => ?_)
        have n0w : q0 ≠ wa := fun h9 => by rw [h9, h_U_at] at hq0; cases hq0
        have hq0C : C q0 = none := by rw [h_U_ne n0w] at hq0; exact hq0
        have hq0o : k_o ad q0 := hM0.off hq0C
        have n0f : q0 ≠ fd := fun h9 => by rw [h9, hfd] at hq0C; cases hq0C
        have hx3 : ∀ (G : Nat → Int64) (b : Nat), C b ≠ none → (h_U (h_U C wa (.inl (cs 0, 3, .inl X))) q0 (.inl (cs 1, 4, .inr (.inl G)))) b = C b := fun G b hb9 => by rw [h_U_ne (fun h9 => hb9 (by rw [h9]; exact hq0C))]; exact hext X b hb9
        have hk3 : ∀ G : Nat → Int64, k_I cs I Z F ad si fd oa (h_U (h_U C wa (.inl (cs 0, 3, .inl X))) q0 (.inl (cs 1, 4, .inr (.inl G)))) M o Fd O := fun G => hk.ext (hx3 G)
        have hw3 : ∀ G : Nat → Int64, (h_U (h_U C wa (.inl (cs 0, 3, .inl X))) q0 (.inl (cs 1, 4, .inr (.inl G)))) wa = some (.inl (cs 0, 3, .inl X)) := fun G => (h_U_ne (Ne.symm n0w)).trans h_U_at
        have ask9 : ∀ (ls : Array Slot) (H : Heap) (locs : List Loc), lv_has ls 13 [(8, .ref q0), (7, .int (nI so)), (6, .int (nI q9)), (5, .ref wa), (4, .int (nI fr)), (3, .int (nI (k_N M))), (0, .ref (ad 0)), (1, .ref si), (2, .int x)] → h_H D A (h_U (h_U C wa (.inl (cs 0, 3, .inl X))) q0 (.inl (cs 1, 4, .inr (.inl (fun _ => 0))))) H → va_S A s.heap H locs → W p l e rm_l_act s m args below meth c H locs 2 7 Q (F0 m 244 ls []) := by
          intro ls H locs hl hH hS
          refine lv_iconst (v := 0) hx hb dL_act_244 (by decide) ?_
          refine lv_istore (lv' := [(9, .int 0), (8, .ref q0), (7, .int (nI so)), (6, .int (nI q9)), (5, .ref wa), (4, .int (nI fr)), (3, .int (nI (k_N M))), (0, .ref (ad 0)), (1, .ref si), (2, .int x)]) hx hb dL_act_245 hl (by decide) rfl (fun ls hl => ?_)
          have loop : ∀ r9 i : Nat, i + r9 = 256 → ∀ (G : Nat → Int64) (ls : Array Slot) (H : Heap) (locs : List Loc), lv_has ls 13 [(9, .int (nI i)), (8, .ref q0), (7, .int (nI so)), (6, .int (nI q9)), (5, .ref wa), (4, .int (nI fr)), (3, .int (nI (k_N M))), (0, .ref (ad 0)), (1, .ref si), (2, .int x)] → h_H D A (h_U (h_U C wa (.inl (cs 0, 3, .inl X))) q0 (.inl (cs 1, 4, .inr (.inl G)))) H → va_S A s.heap H locs → j_S G (b_t (y_f (fun j => isF (nI j) (nI q9))) i) → W p l e rm_l_act s m args below meth c H locs 2 7 Q (F0 m 247 ls []) := by
            intro r9
            induction r9 with
            | zero =>
              intro i hi G ls H locs hl hH hS hG
              obtain rfl : i = 256 := by omega
              rw [b_t256 (y_fS _)] at hG
              refine lv_iload hx hb dL_act_247 (lv_at hl 0 rfl) ?_
              refine lv_sipush (v := 256) hx hb dL_act_249 (by decide) ?_
              refine lv_icmp_ge (tgt := 279) hx hb dL_act_252 (by decide) (fun c2 => ?_) (fun c2 => ?_)
              · skip
                obtain ⟨hM3, hsi3, hfdc, hoa3, -, -, -, -⟩ := hk3 G
                refine lv_aload_n hx hb dL_act_279 rfl (lv_at hl 8 rfl) ?_
                refine h_get (v := .ref fd) (C0 := RX4) (T := TX4) (N := 3) hx hb hts hin4 hown hK.1 hH hsi3 rfl 0 (by decide) rfl (by decide +kernel) rfl dL_act_280 ?_
                refine lv_iload hx hb dL_act_283 (lv_at hl 5 rfl) ?_
                refine lv_aload hx hb dL_act_285 (lv_at hl 1 rfl) ?_
                refine h_aast hx hb hH hS hfdc (h_okA hH hK.2.1 h_U_at) fr hfr12 (by decide) rfl dL_act_287 (fun H locs hH hS => ?_)
                have hM2 : kM I Z F ad M (h_U (h_U (h_U C wa (.inl (cs 0, 3, .inl X))) q0 (.inl (cs 1, 4, .inr (.inl G)))) fd (.inl (cs 2, 12, .inr (.inr (.inr (.inr (va_up Fd fr (some q0)))))))) := hk.pre (hx3 G) _
                have hwa2 : (h_U (h_U (h_U C wa (.inl (cs 0, 3, .inl X))) q0 (.inl (cs 1, 4, .inr (.inl G)))) fd (.inl (cs 2, 12, .inr (.inr (.inr (.inr (va_up Fd fr (some q0)))))))) wa = some (.inl (cs 0, 3, .inl X)) := (h_U_ne nwf).trans (hw3 G)
                refine lv_aload_n hx hb dL_act_288 rfl (lv_at hl 7 rfl) ?_
                refine lv_iload hx hb dL_act_289 (lv_at hl 3 rfl) ?_
                refine kx_calli (vx_runV (As := [.int (nI q9)]) (rest := []) ⟨hx, hb, hml, hown, hts⟩ (c_ask l hst D I Z F ad sa hI M H.size (nI q9)) (cwV 1 hts gL_act_X2_ask rfl rfl rfl (by decide +kernel) ⟨Nat.le_of_ble_eq_true rfl, Nat.le_of_ble_eq_true rfl⟩) (k_preV hKc hNc hX hA hI hM2 hH hS) rfl rfl hl.1 rfl (lv_room (Nat.le_of_ble_eq_true rfl)) dL_act_291 ⟨by exact Nat.le_of_ble_eq_true rfl, by exact Nat.le_of_ble_eq_true rfl⟩) hI hM2 hH hS hA (xpN_no ⟨q9, hq9, rfl⟩ hfrk) (fun r u H locs hp hH hM9 hS => ?_)
                obtain ⟨f9, -, hf9, hrk, hu⟩ := hp
                have ef := fr_one hfrk hf9
                subst ef
                rw [hu] at hH
                clear hu hM9
                rw [hrk]
                have hI9 := hk.new hI (T := (fun j => isF (nI j) (nI q9))) (hx3 G) h_U_at hq0o hG is_T hfr12
                refine lv_iload hx hb dL_act_294 (lv_at hl 5 rfl) ?_
                refine lv_icmp_ne (tgt := 303) hx hb dL_act_296 (by decide) (fun c9 => ?_) (fun c9 => ?_)
                · exact absurd rfl c9
                · skip
                  refine lv_iconst (v := 1) hx hb dL_act_299 (by decide) ?_
                  refine lv_goto (tgt := 304) hx hb dL_act_300 (by decide) ?_
                  exact hret 304 ls _ _ _ _ 1 _ dL_act_304 (by exact Nat.le_of_ble_eq_true rfl) (by exact Nat.le_of_ble_eq_true rfl) ⟨⟨rfl, nwF M fr ((fun j => isF (nI j) (nI q9))), o, _, O, hI9, by rw [k_N_new hfr12 hfrk.2.1]; omega⟩, Or.inr rfl⟩ hH hS
              · exact absurd (nI_le (Nat.le_refl 256) (by decide)) c2
            | succ r9 ih =>
              intro i hi G ls H locs hl hH hS hG
              refine lv_iload hx hb dL_act_247 (lv_at hl 0 rfl) ?_
              refine lv_sipush (v := 256) hx hb dL_act_249 (by decide) ?_
              refine lv_icmp_ge (tgt := 279) hx hb dL_act_252 (by decide) (fun c2 => ?_) (fun c2 => ?_)
              · exact absurd c2 (nI_ge (b := 256) (by omega) (by decide))
              · skip
                refine lv_iload hx hb dL_act_255 (lv_at hl 0 rfl) ?_
                refine lv_iload hx hb dL_act_257 (lv_at hl 3 rfl) ?_
                refine lv_ishr hx hb dL_act_259 ?_
                refine lv_iconst (v := 2) hx hb dL_act_260 (by decide) ?_
                refine lv_irem hx hb dL_act_261 (by decide) ?_
                refine lv_iconst (v := 1) hx hb dL_act_262 (by decide) ?_
                refine lv_icmp_ne (tgt := 273) hx hb dL_act_263 (by decide) (fun c3 => ?_) (fun c3 => ?_)
                · skip
                  have hv : y_f (fun j => isF (nI j) (nI q9)) i = false := y_ff (Classical.not_not.mp (fun h9 => c3 ((ask_bit i (by omega) q9 hq9).mpr h9)))
                  refine lv_iinc (v := nI (i + 1)) (lv' := [(9, .int (nI (i + 1))), (8, .ref q0), (7, .int (nI so)), (6, .int (nI q9)), (5, .ref wa), (4, .int (nI fr)), (3, .int (nI (k_N M))), (0, .ref (ad 0)), (1, .ref si), (2, .int x)]) hx hb dL_act_273 hl (k := 0) rfl (nI_1 i) (by decide) rfl (fun ls hl => ?_)
                  refine lv_goto (tgt := 247) hx hb dL_act_276 (by decide) ?_
                  exact ih (i + 1) (by omega) G ls H locs (lv_sub hl [0, 1, 2, 3, 4, 5, 6, 7, 8, 9] rfl) hH hS (by rw [← b_ts0 hv]; exact hG)
                · skip
                  have hv : y_f (fun j => isF (nI j) (nI q9)) i = true := y_ft (by omega) ((ask_bit i (by omega) q9 hq9).mp c3)
                  refine lv_aload hx hb dL_act_266 (lv_at hl 1 rfl) ?_
                  refine lv_iload hx hb dL_act_268 (lv_at hl 0 rfl) ?_
                  refine h_callv (va_runS (As := [.ref q0, .int (nI i)]) (rest := []) ⟨hx, hb, hml, hown, hts⟩ (c_l_set l D cs (h_U (h_U C wa (.inl (cs 0, 3, .inl X))) q0 (.inl (cs 1, 4, .inr (.inl G)))) H.size q0 G h_U_at i (by omega)) (va_cwS 2 hts gL_act_L_set rfl rfl rfl (by decide +kernel) ⟨Nat.le_of_ble_eq_true rfl, Nat.le_of_ble_eq_true rfl⟩) (h_preS hK hN hH) rfl rfl hl.1 rfl (lv_room (Nat.le_of_ble_eq_true rfl)) dL_act_270 ⟨by first | exact Nat.le_of_ble_eq_true rfl | omega, by first | exact Nat.le_of_ble_eq_true rfl | omega⟩) hH hS hA (fun u9 H locs hp hH hS => ?_)
                  rw [hp, h_U_U] at hH
                  refine lv_iinc (v := nI (i + 1)) (lv' := [(9, .int (nI (i + 1))), (8, .ref q0), (7, .int (nI so)), (6, .int (nI q9)), (5, .ref wa), (4, .int (nI fr)), (3, .int (nI (k_N M))), (0, .ref (ad 0)), (1, .ref si), (2, .int x)]) hx hb dL_act_273 hl (k := 0) rfl (nI_1 i) (by decide) rfl (fun ls hl => ?_)
                  refine lv_goto (tgt := 247) hx hb dL_act_276 (by decide) ?_
                  exact ih (i + 1) (by omega) _ ls H locs (lv_sub hl [0, 1, 2, 3, 4, 5, 6, 7, 8, 9] rfl) hH hS (by rw [← b_ts1 hv]; exact j_set hG (by omega))
          exact loop 256 0 rfl (fun _ => 0) ls H locs (lv_sub hl [0, 1, 2, 3, 4, 5, 6, 7, 8, 9] rfl) hH hS (by rw [b_t0]; exact j_S0)
        refine lv_iload_n hx hb dL_act_227 rfl (lv_at hl 5 rfl) ?_
        refine lv_iconst (v := 2) hx hb dL_act_228 (by decide) ?_
        refine lv_icmp_lt (tgt := 244) hx hb dL_act_229 (by decide) (fun c2 => ?_) (fun c2 => ?_)
        · exact ask9 ls H locs hl hH hS
        · skip
          refine lv_iload hx hb dL_act_232 (lv_at hl 1 rfl) ?_
          refine lv_iconst (v := 2) hx hb dL_act_234 (by decide) ?_
          refine lv_icmp_eq (tgt := 244) hx hb dL_act_235 (by decide) (fun c3 => ?_) (fun c3 => ?_)
          · exact ask9 ls H locs hl hH hS
          · skip
            refine lv_iload hx hb dL_act_238 (lv_at hl 1 rfl) ?_
            refine lv_iconst (v := 3) hx hb dL_act_240 (by decide) ?_
            refine lv_icmp_ne (tgt := 305) hx hb dL_act_241 (by decide) (fun c4 => ?_) (fun c4 => ?_)
            · skip
              obtain ⟨a0, Fn0, e0, ea0, eF0⟩ := hk.fold hw0 aw0
              obtain ⟨a1, Fn1, e1, ea1, eF1⟩ := hk.fold hw1 aw1
              obtain ⟨a2, Fn2, e2, ea2, eF2⟩ := hk.fold hw2 aw2
              have ga0 : ∀ G : Nat → Int64, (h_U (h_U C wa (.inl (cs 0, 3, .inl X))) q0 (.inl (cs 1, 4, .inr (.inl G)))) a0 = some (.inl (cs 1, 4, .inr (.inl Fn0))) := fun G => (hx3 G a0 (by rw [ea0]; simp)).trans ea0
              have ga1 : ∀ G : Nat → Int64, (h_U (h_U C wa (.inl (cs 0, 3, .inl X))) q0 (.inl (cs 1, 4, .inr (.inl G)))) a1 = some (.inl (cs 1, 4, .inr (.inl Fn1))) := fun G => (hx3 G a1 (by rw [ea1]; simp)).trans ea1
              have ga2 : ∀ G : Nat → Int64, (h_U (h_U C wa (.inl (cs 0, 3, .inl X))) q0 (.inl (cs 1, 4, .inr (.inl G)))) a2 = some (.inl (cs 1, 4, .inr (.inl Fn2))) := fun G => (hx3 G a2 (by rw [ea2]; simp)).trans ea2
              have three9 : ∀ (ls : Array Slot) (H : Heap) (locs : List Loc), lv_has ls 13 [(8, .ref q0), (7, .int (nI so)), (6, .int (nI q9)), (5, .ref wa), (4, .int (nI fr)), (3, .int (nI (k_N M))), (0, .ref (ad 0)), (1, .ref si), (2, .int x)] → h_H D A (h_U (h_U C wa (.inl (cs 0, 3, .inl X))) q0 (.inl (cs 1, 4, .inr (.inl (fun _ => 0))))) H → va_S A s.heap H locs → W p l e rm_l_act s m args below meth c H locs 2 7 Q (F0 m 391 ls []) := by
                intro ls H locs hl hH hS
                obtain ⟨hM3, hsi3, hfd3, hoa3, -, -, -, -⟩ := hk3 (fun _ => 0)
                refine lv_aload_n hx hb dL_act_391 rfl (lv_at hl 7 rfl) ?_
                refine h_get (v := .ref fd) (C0 := RX4) (T := TX4) (N := 3) hx hb hts hin4 hown hK.1 hH hsi3 rfl 0 (by decide) rfl (by decide +kernel) rfl dL_act_392 ?_
                refine lv_aload hx hb dL_act_395 (lv_at hl 3 rfl) ?_
                refine lv_iconst (v := 0) hx hb dL_act_397 (by decide) ?_
                refine h_iald hx hb hK.1 hH (hw3 _) 0 rfl 0 (by decide) (by decide) rfl dL_act_398 ?_
                rw [ew0]
                refine h_aald hx hb hH hK.2.1.1 rfl hfd3 w0 hw0 (by decide) rfl dL_act_399 ?_
                rw [e0]
                refine lv_astore (lv' := [(9, .ref a0), (8, .ref q0), (7, .int (nI so)), (6, .int (nI q9)), (5, .ref wa), (4, .int (nI fr)), (3, .int (nI (k_N M))), (0, .ref (ad 0)), (1, .ref si), (2, .int x)]) hx hb dL_act_400 hl (by decide) rfl (fun ls hl => ?_)
                refine lv_aload_n hx hb dL_act_402 rfl (lv_at hl 8 rfl) ?_
                refine h_get (v := .ref fd) (C0 := RX4) (T := TX4) (N := 3) hx hb hts hin4 hown hK.1 hH hsi3 rfl 0 (by decide) rfl (by decide +kernel) rfl dL_act_403 ?_
                refine lv_aload hx hb dL_act_406 (lv_at hl 4 rfl) ?_
                refine lv_iconst (v := 1) hx hb dL_act_408 (by decide) ?_
                refine h_iald hx hb hK.1 hH (hw3 _) 0 rfl 1 (by decide) (by decide) rfl dL_act_409 ?_
                rw [ew1]
                refine h_aald hx hb hH hK.2.1.1 rfl hfd3 w1 hw1 (by decide) rfl dL_act_410 ?_
                rw [e1]
                refine lv_astore (lv' := [(10, .ref a1), (9, .ref a0), (8, .ref q0), (7, .int (nI so)), (6, .int (nI q9)), (5, .ref wa), (4, .int (nI fr)), (3, .int (nI (k_N M))), (0, .ref (ad 0)), (1, .ref si), (2, .int x)]) hx hb dL_act_411 hl (by decide) rfl (fun ls hl => ?_)
                refine lv_aload_n hx hb dL_act_413 rfl (lv_at hl 9 rfl) ?_
                refine h_get (v := .ref fd) (C0 := RX4) (T := TX4) (N := 3) hx hb hts hin4 hown hK.1 hH hsi3 rfl 0 (by decide) rfl (by decide +kernel) rfl dL_act_414 ?_
                refine lv_aload hx hb dL_act_417 (lv_at hl 5 rfl) ?_
                refine lv_iconst (v := 2) hx hb dL_act_419 (by decide) ?_
                refine h_iald hx hb hK.1 hH (hw3 _) 0 rfl 2 (by decide) (by decide) rfl dL_act_420 ?_
                rw [ew2]
                refine h_aald hx hb hH hK.2.1.1 rfl hfd3 w2 hw2 (by decide) rfl dL_act_421 ?_
                rw [e2]
                refine lv_astore (lv' := [(11, .ref a2), (10, .ref a1), (9, .ref a0), (8, .ref q0), (7, .int (nI so)), (6, .int (nI q9)), (5, .ref wa), (4, .int (nI fr)), (3, .int (nI (k_N M))), (0, .ref (ad 0)), (1, .ref si), (2, .int x)]) hx hb dL_act_422 hl (by decide) rfl (fun ls hl => ?_)
                refine lv_iload hx hb dL_act_424 (lv_at hl 4 rfl) ?_
                refine lv_bipush (v := 10) hx hb dL_act_426 (by decide) ?_
                refine lv_icmp_ge (tgt := 482) hx hb dL_act_428 (by decide) (fun c5 => ?_) (fun c5 => ?_)
                · skip
                  refine lv_iload hx hb dL_act_482 (lv_at hl 4 rfl) ?_
                  refine lv_bipush (v := 13) hx hb dL_act_484 (by decide) ?_
                  refine lv_icmp_ge (tgt := 582) hx hb dL_act_486 (by decide) (fun c6 => ?_) (fun c6 => ?_)
                  · skip
                    refine lv_iload hx hb dL_act_582 (lv_at hl 4 rfl) ?_
                    refine lv_bipush (v := 13) hx hb dL_act_584 (by decide) ?_
                    refine lv_icmp_ne (tgt := 646) hx hb dL_act_586 (by decide) (fun c7 => ?_) (fun c7 => ?_)
                    · skip
                      refine lv_iload_n hx hb dL_act_646 rfl (lv_at hl 11 rfl) ?_
                      refine lv_iconst (v := 1) hx hb dL_act_647 (by decide) ?_
                      refine lv_ishr hx hb dL_act_648 ?_
                      refine lv_iconst (v := 2) hx hb dL_act_649 (by decide) ?_
                      refine h_calli (va_runS (As := [.int (x >>> (1 &&& 31)), .int (nI 2)]) (rest := []) ⟨hx, hb, hml, hown, hts⟩ (c_l_below l D cs _ H.size _ 2 (by decide) (by decide)) (va_cwS 2 hts gL_act_L_below rfl rfl rfl (by decide +kernel) ⟨Nat.le_of_ble_eq_true rfl, Nat.le_of_ble_eq_true rfl⟩) (h_preS hK hN hH) rfl rfl hl.1 rfl (lv_room (Nat.le_of_ble_eq_true rfl)) dL_act_650 ⟨by first | exact Nat.le_of_ble_eq_true rfl | omega, by first | exact Nat.le_of_ble_eq_true rfl | omega⟩) hH hS hA (fun r9 u9 H locs hp hH hS => ?_)
                      obtain ⟨hu, bb, hbb, hr9⟩ := hp
                      rw [hu] at hH
                      rw [hr9]
                      refine lv_if_ne (tgt := 660) hx hb dL_act_653 (by decide) (fun c8 => ?_) (fun c8 => ?_)
                      · skip
                        refine lv_iconst (v := 0) hx hb dL_act_660 (by decide) ?_
                        refine lv_istore (lv' := [(12, .int 0), (11, .ref a2), (10, .ref a1), (9, .ref a0), (8, .ref q0), (7, .int (nI so)), (6, .int (nI q9)), (5, .ref wa), (4, .int (nI fr)), (3, .int (nI (k_N M))), (0, .ref (ad 0)), (1, .ref si), (2, .int x)]) hx hb dL_act_661 hl (by decide) rfl (fun ls hl => ?_)
                        refine lv_aload_n hx hb dL_act_663 rfl (lv_at hl 11 rfl) ?_
                        refine h_get (v := .ref fd) (C0 := RX4) (T := TX4) (N := 3) hx hb hts hin4 hown hK.1 hH hsi3 rfl 0 (by decide) rfl (by decide +kernel) rfl dL_act_664 ?_
                        refine lv_iload hx hb dL_act_667 (lv_at hl 8 rfl) ?_
                        refine lv_aload hx hb dL_act_669 (lv_at hl 3 rfl) ?_
                        refine lv_iload hx hb dL_act_671 (lv_at hl 6 rfl) ?_
                        refine lv_iconst (v := 0) hx hb dL_act_673 (by decide) ?_
                        refine h_calla (va_runS (As := [.ref a0, .int (nI q9), .int (nI 0)]) (rest := [.int (nI fr), .ref fd]) ⟨hx, hb, hml, hown, hts⟩ (c_l_given l D cs _ H.size a0 Fn0 _ (ga0 _) eF0 q9 0 hq9 (by decide)) (va_cwS 3 hts gL_act_L_given rfl rfl rfl (by decide +kernel) ⟨Nat.le_of_ble_eq_true rfl, Nat.le_of_ble_eq_true rfl⟩) (h_preS hK hN hH) rfl rfl hl.1 rfl (lv_room (Nat.le_of_ble_eq_true rfl)) dL_act_674 ⟨by first | exact Nat.le_of_ble_eq_true rfl | omega, by first | exact Nat.le_of_ble_eq_true rfl | omega⟩) hH hS hA (fun q1 u9 H locs hp hH hS => ?_)
                        obtain ⟨hq1, G1, hG1, rfl⟩ := hp
                        have o_q1 : k_o ad q1 := hM0.off (by have h9 := hq1; by_cases c : C q1 = none; exact c; rw [(hx3 (fun _ => 0)) q1 c] at h9; exact absurd h9 c)
                        have x_q1 : ∀ b : Nat, C b ≠ none → (h_U (h_U (h_U C wa (.inl (cs 0, 3, .inl X))) q0 (.inl (cs 1, 4, .inr (.inl (fun _ => 0))))) q1 (.inl (cs 1, 4, .inr (.inl G1)))) b = C b := fun b hb9 => by rw [h_U_ne (fun h9 => hb9 (by have h8 := hq1; rw [← h9, (hx3 (fun _ => 0)) b hb9] at h8; exact h8))]; exact (hx3 (fun _ => 0)) b hb9
                        have w_q1 : (h_U (h_U (h_U C wa (.inl (cs 0, 3, .inl X))) q0 (.inl (cs 1, 4, .inr (.inl (fun _ => 0))))) q1 (.inl (cs 1, 4, .inr (.inl G1)))) wa = some (.inl (cs 0, 3, .inl X)) := (h_U_ne (fun h9 => by have h8 := hq1; rw [← h9, (hw3 (fun _ => 0))] at h8; cases h8)).trans (hw3 (fun _ => 0))
                        have ga01 : (h_U (h_U (h_U C wa (.inl (cs 0, 3, .inl X))) q0 (.inl (cs 1, 4, .inr (.inl (fun _ => 0))))) q1 (.inl (cs 1, 4, .inr (.inl G1)))) a0 = some (.inl (cs 1, 4, .inr (.inl Fn0))) := (x_q1 a0 (by rw [ea0]; simp)).trans ea0
                        refine lv_aload hx hb dL_act_677 (lv_at hl 3 rfl) ?_
                        refine lv_iload hx hb dL_act_679 (lv_at hl 6 rfl) ?_
                        refine lv_iconst (v := 1) hx hb dL_act_681 (by decide) ?_
                        refine h_calla (va_runS (As := [.ref a0, .int (nI q9), .int (nI 1)]) (rest := [.ref q1, .int (nI fr), .ref fd]) ⟨hx, hb, hml, hown, hts⟩ (c_l_given l D cs _ H.size a0 Fn0 _ ga01 eF0 q9 1 hq9 (by decide)) (va_cwS 3 hts gL_act_L_given rfl rfl rfl (by decide +kernel) ⟨Nat.le_of_ble_eq_true rfl, Nat.le_of_ble_eq_true rfl⟩) (h_preS hK hN hH) rfl rfl hl.1 rfl (lv_room (Nat.le_of_ble_eq_true rfl)) dL_act_682 ⟨by first | exact Nat.le_of_ble_eq_true rfl | omega, by first | exact Nat.le_of_ble_eq_true rfl | omega⟩) hH hS hA (fun q2 u9 H locs hp hH hS => ?_)
                        obtain ⟨hq2, G2, hG2, rfl⟩ := hp
                        have o_q2 : k_o ad q2 := hM0.off (by have h9 := hq2; by_cases c : C q2 = none; exact c; rw [x_q1 q2 c] at h9; exact absurd h9 c)
                        have x_q2 : ∀ b : Nat, C b ≠ none → (h_U (h_U (h_U (h_U C wa (.inl (cs 0, 3, .inl X))) q0 (.inl (cs 1, 4, .inr (.inl (fun _ => 0))))) q1 (.inl (cs 1, 4, .inr (.inl G1)))) q2 (.inl (cs 1, 4, .inr (.inl G2)))) b = C b := fun b hb9 => by rw [h_U_ne (fun h9 => hb9 (by have h8 := hq2; rw [← h9, x_q1 b hb9] at h8; exact h8))]; exact x_q1 b hb9
                        have w_q2 : (h_U (h_U (h_U (h_U C wa (.inl (cs 0, 3, .inl X))) q0 (.inl (cs 1, 4, .inr (.inl (fun _ => 0))))) q1 (.inl (cs 1, 4, .inr (.inl G1)))) q2 (.inl (cs 1, 4, .inr (.inl G2)))) wa = some (.inl (cs 0, 3, .inl X)) := (h_U_ne (fun h9 => by have h8 := hq2; rw [← h9, w_q1] at h8; cases h8)).trans w_q1
                        refine lv_iload hx hb dL_act_685 (lv_at hl 0 rfl) ?_
                        refine lv_if_eq (tgt := 694) hx hb dL_act_687 (by decide) (fun d0 => ?_) (fun d0 => ?_)
                        · skip
                          refine lv_iconst (v := 1) hx hb dL_act_694 (by decide) ?_
                          have n12 : q1 ≠ q2 := h_ne (h_U_at (C := (h_U (h_U C wa (.inl (cs 0, 3, .inl X))) q0 (.inl (cs 1, 4, .inr (.inl (fun _ => 0)))))) (a := q1) (e := .inl (cs 1, 4, .inr (.inl G1)))) hq2
                          refine h_calla (va_runS (As := [.ref q1, .ref q2, .int (nI 1)]) (rest := [.int (nI fr), .ref fd]) ⟨hx, hb, hml, hown, hts⟩ (c_l_joined_ l D cs _ H.size q1 q2 G1 G2 _ _ ((h_U_ne n12).trans h_U_at) h_U_at hG1 hG2 1 (by decide)) (va_cwS 3 hts gL_act_L_joined_ rfl rfl rfl (by decide +kernel) ⟨Nat.le_of_ble_eq_true rfl, Nat.le_of_ble_eq_true rfl⟩) (h_preS hK hN hH) rfl rfl hl.1 rfl (lv_room (Nat.le_of_ble_eq_true rfl)) dL_act_695 ⟨by first | exact Nat.le_of_ble_eq_true rfl | omega, by first | exact Nat.le_of_ble_eq_true rfl | omega⟩) hH hS hA (fun q3 u9 H locs hp hH hS => ?_)
                          obtain ⟨hq3, G3, hG3, rfl⟩ := hp
                          have o_q3 : k_o ad q3 := hM0.off (by have h9 := hq3; by_cases c : C q3 = none; exact c; rw [x_q2 q3 c] at h9; exact absurd h9 c)
                          have x_q3 : ∀ b : Nat, C b ≠ none → (h_U (h_U (h_U (h_U (h_U C wa (.inl (cs 0, 3, .inl X))) q0 (.inl (cs 1, 4, .inr (.inl (fun _ => 0))))) q1 (.inl (cs 1, 4, .inr (.inl G1)))) q2 (.inl (cs 1, 4, .inr (.inl G2)))) q3 (.inl (cs 1, 4, .inr (.inl G3)))) b = C b := fun b hb9 => by rw [h_U_ne (fun h9 => hb9 (by have h8 := hq3; rw [← h9, x_q2 b hb9] at h8; exact h8))]; exact x_q2 b hb9
                          have w_q3 : (h_U (h_U (h_U (h_U (h_U C wa (.inl (cs 0, 3, .inl X))) q0 (.inl (cs 1, 4, .inr (.inl (fun _ => 0))))) q1 (.inl (cs 1, 4, .inr (.inl G1)))) q2 (.inl (cs 1, 4, .inr (.inl G2)))) q3 (.inl (cs 1, 4, .inr (.inl G3)))) wa = some (.inl (cs 0, 3, .inl X)) := (h_U_ne (fun h9 => by have h8 := hq3; rw [← h9, w_q2] at h8; cases h8)).trans w_q2
                          obtain ⟨-, -, hfdc, -, -, -, -, -⟩ := hk.ext x_q3
                          refine h_aast hx hb hH hS hfdc (h_okA hH hK.2.1 (h_U_at (C := (h_U (h_U (h_U (h_U C wa (.inl (cs 0, 3, .inl X))) q0 (.inl (cs 1, 4, .inr (.inl (fun _ => 0))))) q1 (.inl (cs 1, 4, .inr (.inl G1)))) q2 (.inl (cs 1, 4, .inr (.inl G2))))) (a := q3) (e := .inl (cs 1, 4, .inr (.inl G3))))) fr hfr12 (by decide) rfl dL_act_698 (fun H locs hH hS => ?_)
                          have hM2 : kM I Z F ad M (h_U (h_U (h_U (h_U (h_U (h_U C wa (.inl (cs 0, 3, .inl X))) q0 (.inl (cs 1, 4, .inr (.inl (fun _ => 0))))) q1 (.inl (cs 1, 4, .inr (.inl G1)))) q2 (.inl (cs 1, 4, .inr (.inl G2)))) q3 (.inl (cs 1, 4, .inr (.inl G3)))) fd (.inl (cs 2, 12, .inr (.inr (.inr (.inr (va_up Fd fr (some q3)))))))) := hk.pre x_q3 _
                          have hwa2 : (h_U (h_U (h_U (h_U (h_U (h_U C wa (.inl (cs 0, 3, .inl X))) q0 (.inl (cs 1, 4, .inr (.inl (fun _ => 0))))) q1 (.inl (cs 1, 4, .inr (.inl G1)))) q2 (.inl (cs 1, 4, .inr (.inl G2)))) q3 (.inl (cs 1, 4, .inr (.inl G3)))) fd (.inl (cs 2, 12, .inr (.inr (.inr (.inr (va_up Fd fr (some q3)))))))) wa = some (.inl (cs 0, 3, .inl X)) := (h_U_ne nwf).trans w_q3
                          refine lv_aload_n hx hb dL_act_699 rfl (lv_at hl 10 rfl) ?_
                          refine lv_aload hx hb dL_act_700 (lv_at hl 7 rfl) ?_
                          refine lv_iconst (v := 0) hx hb dL_act_702 (by decide) ?_
                          refine h_iald hx hb hK.1 hH hwa2 0 rfl 0 (by decide) (by decide) rfl dL_act_703 ?_
                          rw [ew0]
                          refine lv_iload hx hb dL_act_704 (lv_at hl 6 rfl) ?_
                          refine lv_iload hx hb dL_act_706 (lv_at hl 0 rfl) ?_
                          refine kx_calli (vx_runV (As := [.int (nI w0), .int (nI q9), .int 0]) (rest := []) ⟨hx, hb, hml, hown, hts⟩ (c_without l hst D I Z F ad sa hI M H.size hS9.2.1 (nI w0) (nI q9) 0) (cwV 3 hts gL_act_X2_without rfl rfl rfl (by decide +kernel) ⟨Nat.le_of_ble_eq_true rfl, Nat.le_of_ble_eq_true rfl⟩) (k_preV hKc hNc hX hA hI hM2 hH hS) rfl rfl hl.1 rfl (lv_room (Nat.le_of_ble_eq_true rfl)) dL_act_708 ⟨by exact Nat.le_of_ble_eq_true rfl, by exact Nat.le_of_ble_eq_true rfl⟩) hI hM2 hH hS hA (xpN_no ⟨⟨w0, fdOk_of hw0 aw0⟩, ⟨q9, hq9, rfl⟩⟩ hfrk) (fun r u H locs hp hH hM9 hS => ?_)
                          obtain ⟨ka, q8, f9, hka, hq8, eq8, hf9, hrk, hu⟩ := hp
                          have e_a := fd_one hw0 hka
                          subst e_a
                          have e_q : q8 = q9 := ((nI_eq (by omega) (by omega)).mp eq8).symm
                          subst e_q
                          have ef := fr_one hfrk hf9
                          subst ef
                          rw [hu] at hH
                          clear hu hM9
                          rw [hrk]
                          have hI9 := hk.new hI (T := woT M ka (nI q8) 0) x_q3 h_U_at o_q3 (by rw [wo_Y hS9.2.1 hka.1 hq8 (Or.inr ⟨rfl, rfl⟩)]; exact hG3) wo_T hfr12
                          refine lv_iload hx hb dL_act_711 (lv_at hl 8 rfl) ?_
                          refine lv_icmp_ne (tgt := 720) hx hb dL_act_713 (by decide) (fun c9 => ?_) (fun c9 => ?_)
                          · exact absurd rfl c9
                          · skip
                            refine lv_iconst (v := 1) hx hb dL_act_716 (by decide) ?_
                            refine lv_goto (tgt := 721) hx hb dL_act_717 (by decide) ?_
                            exact hret 721 ls _ _ _ _ 1 _ dL_act_721 (by exact Nat.le_of_ble_eq_true rfl) (by exact Nat.le_of_ble_eq_true rfl) ⟨⟨rfl, nwF M fr (woT M ka (nI q8) 0), o, _, O, hI9, by rw [k_N_new hfr12 hfrk.2.1]; omega⟩, Or.inr rfl⟩ hH hS
                        · exact absurd rfl d0
                      · skip
                        refine lv_iconst (v := 1) hx hb dL_act_656 (by decide) ?_
                        refine lv_goto (tgt := 661) hx hb dL_act_657 (by decide) ?_
                        refine lv_istore (lv' := [(12, .int 1), (11, .ref a2), (10, .ref a1), (9, .ref a0), (8, .ref q0), (7, .int (nI so)), (6, .int (nI q9)), (5, .ref wa), (4, .int (nI fr)), (3, .int (nI (k_N M))), (0, .ref (ad 0)), (1, .ref si), (2, .int x)]) hx hb dL_act_661 hl (by decide) rfl (fun ls hl => ?_)
                        refine lv_aload_n hx hb dL_act_663 rfl (lv_at hl 11 rfl) ?_
                        refine h_get (v := .ref fd) (C0 := RX4) (T := TX4) (N := 3) hx hb hts hin4 hown hK.1 hH hsi3 rfl 0 (by decide) rfl (by decide +kernel) rfl dL_act_664 ?_
                        refine lv_iload hx hb dL_act_667 (lv_at hl 8 rfl) ?_
                        refine lv_aload hx hb dL_act_669 (lv_at hl 3 rfl) ?_
                        refine lv_iload hx hb dL_act_671 (lv_at hl 6 rfl) ?_
                        refine lv_iconst (v := 0) hx hb dL_act_673 (by decide) ?_
                        refine h_calla (va_runS (As := [.ref a0, .int (nI q9), .int (nI 0)]) (rest := [.int (nI fr), .ref fd]) ⟨hx, hb, hml, hown, hts⟩ (c_l_given l D cs _ H.size a0 Fn0 _ (ga0 _) eF0 q9 0 hq9 (by decide)) (va_cwS 3 hts gL_act_L_given rfl rfl rfl (by decide +kernel) ⟨Nat.le_of_ble_eq_true rfl, Nat.le_of_ble_eq_true rfl⟩) (h_preS hK hN hH) rfl rfl hl.1 rfl (lv_room (Nat.le_of_ble_eq_true rfl)) dL_act_674 ⟨by first | exact Nat.le_of_ble_eq_true rfl | omega, by first | exact Nat.le_of_ble_eq_true rfl | omega⟩) hH hS hA (fun q1 u9 H locs hp hH hS => ?_)
                        obtain ⟨hq1, G1, hG1, rfl⟩ := hp
                        have o_q1 : k_o ad q1 := hM0.off (by have h9 := hq1; by_cases c : C q1 = none; exact c; rw [(hx3 (fun _ => 0)) q1 c] at h9; exact absurd h9 c)
                        have x_q1 : ∀ b : Nat, C b ≠ none → (h_U (h_U (h_U C wa (.inl (cs 0, 3, .inl X))) q0 (.inl (cs 1, 4, .inr (.inl (fun _ => 0))))) q1 (.inl (cs 1, 4, .inr (.inl G1)))) b = C b := fun b hb9 => by rw [h_U_ne (fun h9 => hb9 (by have h8 := hq1; rw [← h9, (hx3 (fun _ => 0)) b hb9] at h8; exact h8))]; exact (hx3 (fun _ => 0)) b hb9
                        have w_q1 : (h_U (h_U (h_U C wa (.inl (cs 0, 3, .inl X))) q0 (.inl (cs 1, 4, .inr (.inl (fun _ => 0))))) q1 (.inl (cs 1, 4, .inr (.inl G1)))) wa = some (.inl (cs 0, 3, .inl X)) := (h_U_ne (fun h9 => by have h8 := hq1; rw [← h9, (hw3 (fun _ => 0))] at h8; cases h8)).trans (hw3 (fun _ => 0))
                        have ga01 : (h_U (h_U (h_U C wa (.inl (cs 0, 3, .inl X))) q0 (.inl (cs 1, 4, .inr (.inl (fun _ => 0))))) q1 (.inl (cs 1, 4, .inr (.inl G1)))) a0 = some (.inl (cs 1, 4, .inr (.inl Fn0))) := (x_q1 a0 (by rw [ea0]; simp)).trans ea0
                        refine lv_aload hx hb dL_act_677 (lv_at hl 3 rfl) ?_
                        refine lv_iload hx hb dL_act_679 (lv_at hl 6 rfl) ?_
                        refine lv_iconst (v := 1) hx hb dL_act_681 (by decide) ?_
                        refine h_calla (va_runS (As := [.ref a0, .int (nI q9), .int (nI 1)]) (rest := [.ref q1, .int (nI fr), .ref fd]) ⟨hx, hb, hml, hown, hts⟩ (c_l_given l D cs _ H.size a0 Fn0 _ ga01 eF0 q9 1 hq9 (by decide)) (va_cwS 3 hts gL_act_L_given rfl rfl rfl (by decide +kernel) ⟨Nat.le_of_ble_eq_true rfl, Nat.le_of_ble_eq_true rfl⟩) (h_preS hK hN hH) rfl rfl hl.1 rfl (lv_room (Nat.le_of_ble_eq_true rfl)) dL_act_682 ⟨by first | exact Nat.le_of_ble_eq_true rfl | omega, by first | exact Nat.le_of_ble_eq_true rfl | omega⟩) hH hS hA (fun q2 u9 H locs hp hH hS => ?_)
                        obtain ⟨hq2, G2, hG2, rfl⟩ := hp
                        have o_q2 : k_o ad q2 := hM0.off (by have h9 := hq2; by_cases c : C q2 = none; exact c; rw [x_q1 q2 c] at h9; exact absurd h9 c)
                        have x_q2 : ∀ b : Nat, C b ≠ none → (h_U (h_U (h_U (h_U C wa (.inl (cs 0, 3, .inl X))) q0 (.inl (cs 1, 4, .inr (.inl (fun _ => 0))))) q1 (.inl (cs 1, 4, .inr (.inl G1)))) q2 (.inl (cs 1, 4, .inr (.inl G2)))) b = C b := fun b hb9 => by rw [h_U_ne (fun h9 => hb9 (by have h8 := hq2; rw [← h9, x_q1 b hb9] at h8; exact h8))]; exact x_q1 b hb9
                        have w_q2 : (h_U (h_U (h_U (h_U C wa (.inl (cs 0, 3, .inl X))) q0 (.inl (cs 1, 4, .inr (.inl (fun _ => 0))))) q1 (.inl (cs 1, 4, .inr (.inl G1)))) q2 (.inl (cs 1, 4, .inr (.inl G2)))) wa = some (.inl (cs 0, 3, .inl X)) := (h_U_ne (fun h9 => by have h8 := hq2; rw [← h9, w_q1] at h8; cases h8)).trans w_q1
                        refine lv_iload hx hb dL_act_685 (lv_at hl 0 rfl) ?_
                        refine lv_if_eq (tgt := 694) hx hb dL_act_687 (by decide) (fun d0 => ?_) (fun d0 => ?_)
                        · exact absurd d0 (by decide)
                        · skip
                          refine lv_iconst (v := 0) hx hb dL_act_690 (by decide) ?_
                          refine lv_goto (tgt := 695) hx hb dL_act_691 (by decide) ?_
                          have n12 : q1 ≠ q2 := h_ne (h_U_at (C := (h_U (h_U C wa (.inl (cs 0, 3, .inl X))) q0 (.inl (cs 1, 4, .inr (.inl (fun _ => 0)))))) (a := q1) (e := .inl (cs 1, 4, .inr (.inl G1)))) hq2
                          refine h_calla (va_runS (As := [.ref q1, .ref q2, .int (nI 0)]) (rest := [.int (nI fr), .ref fd]) ⟨hx, hb, hml, hown, hts⟩ (c_l_joined_ l D cs _ H.size q1 q2 G1 G2 _ _ ((h_U_ne n12).trans h_U_at) h_U_at hG1 hG2 0 (by decide)) (va_cwS 3 hts gL_act_L_joined_ rfl rfl rfl (by decide +kernel) ⟨Nat.le_of_ble_eq_true rfl, Nat.le_of_ble_eq_true rfl⟩) (h_preS hK hN hH) rfl rfl hl.1 rfl (lv_room (Nat.le_of_ble_eq_true rfl)) dL_act_695 ⟨by first | exact Nat.le_of_ble_eq_true rfl | omega, by first | exact Nat.le_of_ble_eq_true rfl | omega⟩) hH hS hA (fun q3 u9 H locs hp hH hS => ?_)
                          obtain ⟨hq3, G3, hG3, rfl⟩ := hp
                          have o_q3 : k_o ad q3 := hM0.off (by have h9 := hq3; by_cases c : C q3 = none; exact c; rw [x_q2 q3 c] at h9; exact absurd h9 c)
                          have x_q3 : ∀ b : Nat, C b ≠ none → (h_U (h_U (h_U (h_U (h_U C wa (.inl (cs 0, 3, .inl X))) q0 (.inl (cs 1, 4, .inr (.inl (fun _ => 0))))) q1 (.inl (cs 1, 4, .inr (.inl G1)))) q2 (.inl (cs 1, 4, .inr (.inl G2)))) q3 (.inl (cs 1, 4, .inr (.inl G3)))) b = C b := fun b hb9 => by rw [h_U_ne (fun h9 => hb9 (by have h8 := hq3; rw [← h9, x_q2 b hb9] at h8; exact h8))]; exact x_q2 b hb9
                          have w_q3 : (h_U (h_U (h_U (h_U (h_U C wa (.inl (cs 0, 3, .inl X))) q0 (.inl (cs 1, 4, .inr (.inl (fun _ => 0))))) q1 (.inl (cs 1, 4, .inr (.inl G1)))) q2 (.inl (cs 1, 4, .inr (.inl G2)))) q3 (.inl (cs 1, 4, .inr (.inl G3)))) wa = some (.inl (cs 0, 3, .inl X)) := (h_U_ne (fun h9 => by have h8 := hq3; rw [← h9, w_q2] at h8; cases h8)).trans w_q2
                          obtain ⟨-, -, hfdc, -, -, -, -, -⟩ := hk.ext x_q3
                          refine h_aast hx hb hH hS hfdc (h_okA hH hK.2.1 (h_U_at (C := (h_U (h_U (h_U (h_U C wa (.inl (cs 0, 3, .inl X))) q0 (.inl (cs 1, 4, .inr (.inl (fun _ => 0))))) q1 (.inl (cs 1, 4, .inr (.inl G1)))) q2 (.inl (cs 1, 4, .inr (.inl G2))))) (a := q3) (e := .inl (cs 1, 4, .inr (.inl G3))))) fr hfr12 (by decide) rfl dL_act_698 (fun H locs hH hS => ?_)
                          have hM2 : kM I Z F ad M (h_U (h_U (h_U (h_U (h_U (h_U C wa (.inl (cs 0, 3, .inl X))) q0 (.inl (cs 1, 4, .inr (.inl (fun _ => 0))))) q1 (.inl (cs 1, 4, .inr (.inl G1)))) q2 (.inl (cs 1, 4, .inr (.inl G2)))) q3 (.inl (cs 1, 4, .inr (.inl G3)))) fd (.inl (cs 2, 12, .inr (.inr (.inr (.inr (va_up Fd fr (some q3)))))))) := hk.pre x_q3 _
                          have hwa2 : (h_U (h_U (h_U (h_U (h_U (h_U C wa (.inl (cs 0, 3, .inl X))) q0 (.inl (cs 1, 4, .inr (.inl (fun _ => 0))))) q1 (.inl (cs 1, 4, .inr (.inl G1)))) q2 (.inl (cs 1, 4, .inr (.inl G2)))) q3 (.inl (cs 1, 4, .inr (.inl G3)))) fd (.inl (cs 2, 12, .inr (.inr (.inr (.inr (va_up Fd fr (some q3)))))))) wa = some (.inl (cs 0, 3, .inl X)) := (h_U_ne nwf).trans w_q3
                          refine lv_aload_n hx hb dL_act_699 rfl (lv_at hl 10 rfl) ?_
                          refine lv_aload hx hb dL_act_700 (lv_at hl 7 rfl) ?_
                          refine lv_iconst (v := 0) hx hb dL_act_702 (by decide) ?_
                          refine h_iald hx hb hK.1 hH hwa2 0 rfl 0 (by decide) (by decide) rfl dL_act_703 ?_
                          rw [ew0]
                          refine lv_iload hx hb dL_act_704 (lv_at hl 6 rfl) ?_
                          refine lv_iload hx hb dL_act_706 (lv_at hl 0 rfl) ?_
                          refine kx_calli (vx_runV (As := [.int (nI w0), .int (nI q9), .int 1]) (rest := []) ⟨hx, hb, hml, hown, hts⟩ (c_without l hst D I Z F ad sa hI M H.size hS9.2.1 (nI w0) (nI q9) 1) (cwV 3 hts gL_act_X2_without rfl rfl rfl (by decide +kernel) ⟨Nat.le_of_ble_eq_true rfl, Nat.le_of_ble_eq_true rfl⟩) (k_preV hKc hNc hX hA hI hM2 hH hS) rfl rfl hl.1 rfl (lv_room (Nat.le_of_ble_eq_true rfl)) dL_act_708 ⟨by exact Nat.le_of_ble_eq_true rfl, by exact Nat.le_of_ble_eq_true rfl⟩) hI hM2 hH hS hA (xpN_no ⟨⟨w0, fdOk_of hw0 aw0⟩, ⟨q9, hq9, rfl⟩⟩ hfrk) (fun r u H locs hp hH hM9 hS => ?_)
                          obtain ⟨ka, q8, f9, hka, hq8, eq8, hf9, hrk, hu⟩ := hp
                          have e_a := fd_one hw0 hka
                          subst e_a
                          have e_q : q8 = q9 := ((nI_eq (by omega) (by omega)).mp eq8).symm
                          subst e_q
                          have ef := fr_one hfrk hf9
                          subst ef
                          rw [hu] at hH
                          clear hu hM9
                          rw [hrk]
                          have hI9 := hk.new hI (T := woT M ka (nI q8) 1) x_q3 h_U_at o_q3 (by rw [wo_Y hS9.2.1 hka.1 hq8 (Or.inl ⟨rfl, rfl⟩)]; exact hG3) wo_T hfr12
                          refine lv_iload hx hb dL_act_711 (lv_at hl 8 rfl) ?_
                          refine lv_icmp_ne (tgt := 720) hx hb dL_act_713 (by decide) (fun c9 => ?_) (fun c9 => ?_)
                          · exact absurd rfl c9
                          · skip
                            refine lv_iconst (v := 1) hx hb dL_act_716 (by decide) ?_
                            refine lv_goto (tgt := 721) hx hb dL_act_717 (by decide) ?_
                            exact hret 721 ls _ _ _ _ 1 _ dL_act_721 (by exact Nat.le_of_ble_eq_true rfl) (by exact Nat.le_of_ble_eq_true rfl) ⟨⟨rfl, nwF M fr (woT M ka (nI q8) 1), o, _, O, hI9, by rw [k_N_new hfr12 hfrk.2.1]; omega⟩, Or.inr rfl⟩ hH hS
                    · skip
                      refine lv_iload_n hx hb dL_act_589 rfl (lv_at hl 11 rfl) ?_
                      refine lv_iconst (v := 1) hx hb dL_act_590 (by decide) ?_
                      refine lv_ishr hx hb dL_act_591 ?_
                      refine lv_iconst (v := 2) hx hb dL_act_592 (by decide) ?_
                      refine h_calli (va_runS (As := [.int (x >>> (1 &&& 31)), .int (nI 2)]) (rest := []) ⟨hx, hb, hml, hown, hts⟩ (c_l_below l D cs _ H.size _ 2 (by decide) (by decide)) (va_cwS 2 hts gL_act_L_below rfl rfl rfl (by decide +kernel) ⟨Nat.le_of_ble_eq_true rfl, Nat.le_of_ble_eq_true rfl⟩) (h_preS hK hN hH) rfl rfl hl.1 rfl (lv_room (Nat.le_of_ble_eq_true rfl)) dL_act_593 ⟨by first | exact Nat.le_of_ble_eq_true rfl | omega, by first | exact Nat.le_of_ble_eq_true rfl | omega⟩) hH hS hA (fun r9 u9 H locs hp hH hS => ?_)
                      obtain ⟨hu, bb, hbb, hr9⟩ := hp
                      rw [hu] at hH
                      rw [hr9]
                      refine lv_istore (lv' := [(12, .int (nI bb)), (11, .ref a2), (10, .ref a1), (9, .ref a0), (8, .ref q0), (7, .int (nI so)), (6, .int (nI q9)), (5, .ref wa), (4, .int (nI fr)), (3, .int (nI (k_N M))), (0, .ref (ad 0)), (1, .ref si), (2, .int x)]) hx hb dL_act_596 hl (by decide) rfl (fun ls hl => ?_)
                      refine lv_aload_n hx hb dL_act_598 rfl (lv_at hl 11 rfl) ?_
                      refine h_get (v := .ref fd) (C0 := RX4) (T := TX4) (N := 3) hx hb hts hin4 hown hK.1 hH hsi3 rfl 0 (by decide) rfl (by decide +kernel) rfl dL_act_599 ?_
                      refine lv_iload hx hb dL_act_602 (lv_at hl 8 rfl) ?_
                      refine lv_aload hx hb dL_act_604 (lv_at hl 3 rfl) ?_
                      refine lv_iload hx hb dL_act_606 (lv_at hl 6 rfl) ?_
                      refine lv_iload hx hb dL_act_608 (lv_at hl 0 rfl) ?_
                      refine h_calla (va_runS (As := [.ref a0, .int (nI q9), .int (nI bb)]) (rest := [.int (nI fr), .ref fd]) ⟨hx, hb, hml, hown, hts⟩ (c_l_given l D cs _ H.size a0 Fn0 _ (ga0 _) eF0 q9 bb hq9 hbb) (va_cwS 3 hts gL_act_L_given rfl rfl rfl (by decide +kernel) ⟨Nat.le_of_ble_eq_true rfl, Nat.le_of_ble_eq_true rfl⟩) (h_preS hK hN hH) rfl rfl hl.1 rfl (lv_room (Nat.le_of_ble_eq_true rfl)) dL_act_610 ⟨by first | exact Nat.le_of_ble_eq_true rfl | omega, by first | exact Nat.le_of_ble_eq_true rfl | omega⟩) hH hS hA (fun q1 u9 H locs hp hH hS => ?_)
                      obtain ⟨hq1, G1, hG1, rfl⟩ := hp
                      have o_q1 : k_o ad q1 := hM0.off (by have h9 := hq1; by_cases c : C q1 = none; exact c; rw [(hx3 (fun _ => 0)) q1 c] at h9; exact absurd h9 c)
                      have x_q1 : ∀ b : Nat, C b ≠ none → (h_U (h_U (h_U C wa (.inl (cs 0, 3, .inl X))) q0 (.inl (cs 1, 4, .inr (.inl (fun _ => 0))))) q1 (.inl (cs 1, 4, .inr (.inl G1)))) b = C b := fun b hb9 => by rw [h_U_ne (fun h9 => hb9 (by have h8 := hq1; rw [← h9, (hx3 (fun _ => 0)) b hb9] at h8; exact h8))]; exact (hx3 (fun _ => 0)) b hb9
                      have w_q1 : (h_U (h_U (h_U C wa (.inl (cs 0, 3, .inl X))) q0 (.inl (cs 1, 4, .inr (.inl (fun _ => 0))))) q1 (.inl (cs 1, 4, .inr (.inl G1)))) wa = some (.inl (cs 0, 3, .inl X)) := (h_U_ne (fun h9 => by have h8 := hq1; rw [← h9, (hw3 (fun _ => 0))] at h8; cases h8)).trans (hw3 (fun _ => 0))
                      obtain ⟨-, -, hfdc, -, -, -, -, -⟩ := hk.ext x_q1
                      refine h_aast hx hb hH hS hfdc (h_okA hH hK.2.1 (h_U_at (C := (h_U (h_U C wa (.inl (cs 0, 3, .inl X))) q0 (.inl (cs 1, 4, .inr (.inl (fun _ => 0)))))) (a := q1) (e := .inl (cs 1, 4, .inr (.inl G1))))) fr hfr12 (by decide) rfl dL_act_613 (fun H locs hH hS => ?_)
                      have hM2 : kM I Z F ad M (h_U (h_U (h_U (h_U C wa (.inl (cs 0, 3, .inl X))) q0 (.inl (cs 1, 4, .inr (.inl (fun _ => 0))))) q1 (.inl (cs 1, 4, .inr (.inl G1)))) fd (.inl (cs 2, 12, .inr (.inr (.inr (.inr (va_up Fd fr (some q1)))))))) := hk.pre x_q1 _
                      have hwa2 : (h_U (h_U (h_U (h_U C wa (.inl (cs 0, 3, .inl X))) q0 (.inl (cs 1, 4, .inr (.inl (fun _ => 0))))) q1 (.inl (cs 1, 4, .inr (.inl G1)))) fd (.inl (cs 2, 12, .inr (.inr (.inr (.inr (va_up Fd fr (some q1)))))))) wa = some (.inl (cs 0, 3, .inl X)) := (h_U_ne nwf).trans w_q1
                      refine lv_aload_n hx hb dL_act_614 rfl (lv_at hl 10 rfl) ?_
                      refine lv_aload hx hb dL_act_615 (lv_at hl 7 rfl) ?_
                      refine lv_iconst (v := 0) hx hb dL_act_617 (by decide) ?_
                      refine h_iald hx hb hK.1 hH hwa2 0 rfl 0 (by decide) (by decide) rfl dL_act_618 ?_
                      rw [ew0]
                      have hb01 : bb = 0 ∨ bb = 1 := by omega
                      rcases hb01 with rfl | rfl
                      · skip
                        refine lv_iload hx hb dL_act_619 (lv_at hl 6 rfl) ?_
                        refine lv_iload hx hb dL_act_621 (lv_at hl 0 rfl) ?_
                        refine lv_iconst (v := 1) hx hb dL_act_623 (by decide) ?_
                        refine lv_icmp_ne (tgt := 631) hx hb dL_act_624 (by decide) (fun c8 => ?_) (fun c8 => ?_)
                        · skip
                          refine lv_iconst (v := 0) hx hb dL_act_631 (by decide) ?_
                          refine kx_calli (vx_runV (As := [.int (nI w0), .int (nI q9), .int (nI 0)]) (rest := []) ⟨hx, hb, hml, hown, hts⟩ (c_given l hst D I Z F ad sa hI M H.size hS9.2.1 (nI w0) (nI q9) (nI 0)) (cwV 3 hts gL_act_X2_given rfl rfl rfl (by decide +kernel) ⟨Nat.le_of_ble_eq_true rfl, Nat.le_of_ble_eq_true rfl⟩) (k_preV hKc hNc hX hA hI hM2 hH hS) rfl rfl hl.1 rfl (lv_room (Nat.le_of_ble_eq_true rfl)) dL_act_632 ⟨by exact Nat.le_of_ble_eq_true rfl, by exact Nat.le_of_ble_eq_true rfl⟩) hI hM2 hH hS hA (xpN_no ⟨⟨w0, fdOk_of hw0 aw0⟩, ⟨q9, hq9, rfl⟩⟩ hfrk) (fun r u H locs hp hH hM9 hS => ?_)
                          obtain ⟨ka, q8, f9, hka, hq8, eq8, hf9, hrk, hu⟩ := hp
                          have e_a := fd_one hw0 hka
                          subst e_a
                          have e_q : q8 = q9 := ((nI_eq (by omega) (by omega)).mp eq8).symm
                          subst e_q
                          have ef := fr_one hfrk hf9
                          subst ef
                          rw [hu] at hH
                          clear hu hM9
                          rw [hrk]
                          have hI9 := hk.new hI (T := gvT M ka (nI q8) (nI 0)) x_q1 h_U_at o_q1 (by rw [gv_Y hq8 (by decide)]; exact hG1) (gv_T hS9.2.1 hka.1 hq8 (by decide)) hfr12
                          refine lv_iload hx hb dL_act_635 (lv_at hl 8 rfl) ?_
                          refine lv_icmp_ne (tgt := 644) hx hb dL_act_637 (by decide) (fun c9 => ?_) (fun c9 => ?_)
                          · exact absurd rfl c9
                          · skip
                            refine lv_iconst (v := 1) hx hb dL_act_640 (by decide) ?_
                            refine lv_goto (tgt := 645) hx hb dL_act_641 (by decide) ?_
                            exact hret 645 ls _ _ _ _ 1 _ dL_act_645 (by exact Nat.le_of_ble_eq_true rfl) (by exact Nat.le_of_ble_eq_true rfl) ⟨⟨rfl, nwF M fr (gvT M ka (nI q8) (nI 0)), o, _, O, hI9, by rw [k_N_new hfr12 hfrk.2.1]; omega⟩, Or.inr rfl⟩ hH hS
                        · exact absurd c8 (by decide)
                      · skip
                        refine lv_iload hx hb dL_act_619 (lv_at hl 6 rfl) ?_
                        refine lv_iload hx hb dL_act_621 (lv_at hl 0 rfl) ?_
                        refine lv_iconst (v := 1) hx hb dL_act_623 (by decide) ?_
                        refine lv_icmp_ne (tgt := 631) hx hb dL_act_624 (by decide) (fun c8 => ?_) (fun c8 => ?_)
                        · exact absurd rfl c8
                        · skip
                          refine lv_iconst (v := 1) hx hb dL_act_627 (by decide) ?_
                          refine lv_goto (tgt := 632) hx hb dL_act_628 (by decide) ?_
                          refine kx_calli (vx_runV (As := [.int (nI w0), .int (nI q9), .int (nI 1)]) (rest := []) ⟨hx, hb, hml, hown, hts⟩ (c_given l hst D I Z F ad sa hI M H.size hS9.2.1 (nI w0) (nI q9) (nI 1)) (cwV 3 hts gL_act_X2_given rfl rfl rfl (by decide +kernel) ⟨Nat.le_of_ble_eq_true rfl, Nat.le_of_ble_eq_true rfl⟩) (k_preV hKc hNc hX hA hI hM2 hH hS) rfl rfl hl.1 rfl (lv_room (Nat.le_of_ble_eq_true rfl)) dL_act_632 ⟨by exact Nat.le_of_ble_eq_true rfl, by exact Nat.le_of_ble_eq_true rfl⟩) hI hM2 hH hS hA (xpN_no ⟨⟨w0, fdOk_of hw0 aw0⟩, ⟨q9, hq9, rfl⟩⟩ hfrk) (fun r u H locs hp hH hM9 hS => ?_)
                          obtain ⟨ka, q8, f9, hka, hq8, eq8, hf9, hrk, hu⟩ := hp
                          have e_a := fd_one hw0 hka
                          subst e_a
                          have e_q : q8 = q9 := ((nI_eq (by omega) (by omega)).mp eq8).symm
                          subst e_q
                          have ef := fr_one hfrk hf9
                          subst ef
                          rw [hu] at hH
                          clear hu hM9
                          rw [hrk]
                          have hI9 := hk.new hI (T := gvT M ka (nI q8) (nI 1)) x_q1 h_U_at o_q1 (by rw [gv_Y hq8 (by decide)]; exact hG1) (gv_T hS9.2.1 hka.1 hq8 (by decide)) hfr12
                          refine lv_iload hx hb dL_act_635 (lv_at hl 8 rfl) ?_
                          refine lv_icmp_ne (tgt := 644) hx hb dL_act_637 (by decide) (fun c9 => ?_) (fun c9 => ?_)
                          · exact absurd rfl c9
                          · skip
                            refine lv_iconst (v := 1) hx hb dL_act_640 (by decide) ?_
                            refine lv_goto (tgt := 645) hx hb dL_act_641 (by decide) ?_
                            exact hret 645 ls _ _ _ _ 1 _ dL_act_645 (by exact Nat.le_of_ble_eq_true rfl) (by exact Nat.le_of_ble_eq_true rfl) ⟨⟨rfl, nwF M fr (gvT M ka (nI q8) (nI 1)), o, _, O, hI9, by rw [k_N_new hfr12 hfrk.2.1]; omega⟩, Or.inr rfl⟩ hH hS
                  · skip
                    refine lv_iconst (v := 0) hx hb dL_act_489 (by decide) ?_
                    refine lv_istore (lv' := [(12, .int 0), (11, .ref a2), (10, .ref a1), (9, .ref a0), (8, .ref q0), (7, .int (nI so)), (6, .int (nI q9)), (5, .ref wa), (4, .int (nI fr)), (3, .int (nI (k_N M))), (0, .ref (ad 0)), (1, .ref si), (2, .int x)]) hx hb dL_act_490 hl (by decide) rfl (fun ls hl => ?_)
                    have loop : ∀ r9 i : Nat, i + r9 = 256 → ∀ (G : Nat → Int64) (ls : Array Slot) (H : Heap) (locs : List Loc), lv_has ls 13 [(12, .int (nI i)), (11, .ref a2), (10, .ref a1), (9, .ref a0), (8, .ref q0), (7, .int (nI so)), (6, .int (nI q9)), (5, .ref wa), (4, .int (nI fr)), (3, .int (nI (k_N M))), (0, .ref (ad 0)), (1, .ref si), (2, .int x)] → h_H D A (h_U (h_U C wa (.inl (cs 0, 3, .inl X))) q0 (.inl (cs 1, 4, .inr (.inl G)))) H → va_S A s.heap H locs → j_S G (b_t (y_f (chT M w0 w1 w2)) i) → W p l e rm_l_act s m args below meth c H locs 2 7 Q (F0 m 492 ls []) := by
                      intro r9
                      induction r9 with
                      | zero =>
                        intro i hi G ls H locs hl hH hS hG
                        obtain rfl : i = 256 := by omega
                        rw [b_t256 (y_fS _)] at hG
                        refine lv_iload hx hb dL_act_492 (lv_at hl 0 rfl) ?_
                        refine lv_sipush (v := 256) hx hb dL_act_494 (by decide) ?_
                        refine lv_icmp_ge (tgt := 546) hx hb dL_act_497 (by decide) (fun c7 => ?_) (fun c7 => ?_)
                        · skip
                          obtain ⟨hM4, hsi4, hfdc, hoa4, -, -, -, -⟩ := hk3 G
                          refine lv_aload_n hx hb dL_act_546 rfl (lv_at hl 11 rfl) ?_
                          refine h_get (v := .ref fd) (C0 := RX4) (T := TX4) (N := 3) hx hb hts hin4 hown hK.1 hH hsi4 rfl 0 (by decide) rfl (by decide +kernel) rfl dL_act_547 ?_
                          refine lv_iload hx hb dL_act_550 (lv_at hl 8 rfl) ?_
                          refine lv_aload hx hb dL_act_552 (lv_at hl 4 rfl) ?_
                          refine h_aast hx hb hH hS hfdc (h_okA hH hK.2.1 h_U_at) fr hfr12 (by decide) rfl dL_act_554 (fun H locs hH hS => ?_)
                          have hM2 : kM I Z F ad M (h_U (h_U (h_U C wa (.inl (cs 0, 3, .inl X))) q0 (.inl (cs 1, 4, .inr (.inl G)))) fd (.inl (cs 2, 12, .inr (.inr (.inr (.inr (va_up Fd fr (some q0)))))))) := hk.pre (hx3 G) _
                          have hwa2 : (h_U (h_U (h_U C wa (.inl (cs 0, 3, .inl X))) q0 (.inl (cs 1, 4, .inr (.inl G)))) fd (.inl (cs 2, 12, .inr (.inr (.inr (.inr (va_up Fd fr (some q0)))))))) wa = some (.inl (cs 0, 3, .inl X)) := (h_U_ne nwf).trans (hw3 G)
                          refine lv_aload_n hx hb dL_act_555 rfl (lv_at hl 10 rfl) ?_
                          refine lv_aload hx hb dL_act_556 (lv_at hl 7 rfl) ?_
                          refine lv_iconst (v := 0) hx hb dL_act_558 (by decide) ?_
                          refine h_iald hx hb hK.1 hH hwa2 0 rfl 0 (by decide) (by decide) rfl dL_act_559 ?_
                          rw [ew0]
                          refine lv_aload hx hb dL_act_560 (lv_at hl 7 rfl) ?_
                          refine lv_iconst (v := 1) hx hb dL_act_562 (by decide) ?_
                          refine h_iald hx hb hK.1 hH hwa2 0 rfl 1 (by decide) (by decide) rfl dL_act_563 ?_
                          rw [ew1]
                          refine lv_aload hx hb dL_act_564 (lv_at hl 7 rfl) ?_
                          refine lv_iconst (v := 2) hx hb dL_act_566 (by decide) ?_
                          refine h_iald hx hb hK.1 hH hwa2 0 rfl 2 (by decide) (by decide) rfl dL_act_567 ?_
                          rw [ew2]
                          refine kx_calli (vx_runV (As := [.int (nI w0), .int (nI w1), .int (nI w2)]) (rest := []) ⟨hx, hb, hml, hown, hts⟩ (c_choose l hst D I Z F ad sa hI M H.size hS9.2.1 (nI w0) (nI w1) (nI w2)) (cwV 3 hts gL_act_X2_choose rfl rfl rfl (by decide +kernel) ⟨Nat.le_of_ble_eq_true rfl, Nat.le_of_ble_eq_true rfl⟩) (k_preV hKc hNc hX hA hI hM2 hH hS) rfl rfl hl.1 rfl (lv_room (Nat.le_of_ble_eq_true rfl)) dL_act_568 ⟨by exact Nat.le_of_ble_eq_true rfl, by exact Nat.le_of_ble_eq_true rfl⟩) hI hM2 hH hS hA (xpN_no ⟨⟨w0, fdOk_of hw0 aw0⟩, ⟨w1, fdOk_of hw1 aw1⟩, ⟨w2, fdOk_of hw2 aw2⟩⟩ hfrk) (fun r u H locs hp hH hM9 hS => ?_)
                          obtain ⟨ka, kb, kc, f9, hka, hkb, hkc, hf9, hrk, hu⟩ := hp
                          have e_a := fd_one hw0 hka
                          subst e_a
                          have e_b := fd_one hw1 hkb
                          subst e_b
                          have e_c := fd_one hw2 hkc
                          subst e_c
                          have ef := fr_one hfrk hf9
                          subst ef
                          rw [hu] at hH
                          clear hu hM9
                          rw [hrk]
                          have hI9 := hk.new hI (T := chT M ka kb kc) (hx3 G) h_U_at hq0o hG (ch_T hS9.2.1 hkb.1 hkc.1) hfr12
                          refine lv_iload hx hb dL_act_571 (lv_at hl 8 rfl) ?_
                          refine lv_icmp_ne (tgt := 580) hx hb dL_act_573 (by decide) (fun c9 => ?_) (fun c9 => ?_)
                          · exact absurd rfl c9
                          · skip
                            refine lv_iconst (v := 1) hx hb dL_act_576 (by decide) ?_
                            refine lv_goto (tgt := 581) hx hb dL_act_577 (by decide) ?_
                            exact hret 581 ls _ _ _ _ 1 _ dL_act_581 (by exact Nat.le_of_ble_eq_true rfl) (by exact Nat.le_of_ble_eq_true rfl) ⟨⟨rfl, nwF M fr (chT M ka kb kc), o, _, O, hI9, by rw [k_N_new hfr12 hfrk.2.1]; omega⟩, Or.inr rfl⟩ hH hS
                        · exact absurd (nI_le (Nat.le_refl 256) (by decide)) c7
                      | succ r9 ih =>
                        intro i hi G ls H locs hl hH hS hG
                        refine lv_iload hx hb dL_act_492 (lv_at hl 0 rfl) ?_
                        refine lv_sipush (v := 256) hx hb dL_act_494 (by decide) ?_
                        refine lv_icmp_ge (tgt := 546) hx hb dL_act_497 (by decide) (fun c7 => ?_) (fun c7 => ?_)
                        · exact absurd c7 (nI_ge (b := 256) (by omega) (by decide))
                        · skip
                          refine lv_aload hx hb dL_act_500 (lv_at hl 3 rfl) ?_
                          refine lv_iload hx hb dL_act_502 (lv_at hl 0 rfl) ?_
                          refine h_calli (va_runS (As := [.ref a0, .int (nI i)]) (rest := []) ⟨hx, hb, hml, hown, hts⟩ (c_l_says l D cs (h_U (h_U C wa (.inl (cs 0, 3, .inl X))) q0 (.inl (cs 1, 4, .inr (.inl G)))) H.size a0 Fn0 _ (ga0 G) eF0 i (by omega)) (va_cwS 2 hts gL_act_L_says rfl rfl rfl (by decide +kernel) ⟨Nat.le_of_ble_eq_true rfl, Nat.le_of_ble_eq_true rfl⟩) (h_preS hK hN hH) rfl rfl hl.1 rfl (lv_room (Nat.le_of_ble_eq_true rfl)) dL_act_504 ⟨by first | exact Nat.le_of_ble_eq_true rfl | omega, by first | exact Nat.le_of_ble_eq_true rfl | omega⟩) hH hS hA (fun r9 u9 H locs hp hH hS => ?_)
                          obtain ⟨hu, hr9⟩ := hp
                          rw [hu] at hH
                          rw [hr9]
                          refine lv_if_eq (tgt := 523) hx hb dL_act_507 (by decide) (fun d0 => ?_) (fun d0 => ?_)
                          · skip
                            refine lv_aload hx hb dL_act_523 (lv_at hl 1 rfl) ?_
                            refine lv_iload hx hb dL_act_525 (lv_at hl 0 rfl) ?_
                            refine h_calli (va_runS (As := [.ref a2, .int (nI i)]) (rest := []) ⟨hx, hb, hml, hown, hts⟩ (c_l_says l D cs (h_U (h_U C wa (.inl (cs 0, 3, .inl X))) q0 (.inl (cs 1, 4, .inr (.inl G)))) H.size a2 Fn2 _ (ga2 G) eF2 i (by omega)) (va_cwS 2 hts gL_act_L_says rfl rfl rfl (by decide +kernel) ⟨Nat.le_of_ble_eq_true rfl, Nat.le_of_ble_eq_true rfl⟩) (h_preS hK hN hH) rfl rfl hl.1 rfl (lv_room (Nat.le_of_ble_eq_true rfl)) dL_act_527 ⟨by first | exact Nat.le_of_ble_eq_true rfl | omega, by first | exact Nat.le_of_ble_eq_true rfl | omega⟩) hH hS hA (fun r9 u9 H locs hp hH hS => ?_)
                            obtain ⟨hu, hr9⟩ := hp
                            rw [hu] at hH
                            rw [hr9]
                            refine lv_if_eq (tgt := 540) hx hb dL_act_530 (by decide) (fun d1 => ?_) (fun d1 => ?_)
                            · skip
                              have hv : y_f (chT M w0 w1 w2) i = false := (ch_0 (by omega) (b2_f d0)).trans (b2_f d1)
                              refine lv_iinc (v := nI (i + 1)) (lv' := [(12, .int (nI (i + 1))), (11, .ref a2), (10, .ref a1), (9, .ref a0), (8, .ref q0), (7, .int (nI so)), (6, .int (nI q9)), (5, .ref wa), (4, .int (nI fr)), (3, .int (nI (k_N M))), (0, .ref (ad 0)), (1, .ref si), (2, .int x)]) hx hb dL_act_540 hl (k := 0) rfl (nI_1 i) (by decide) rfl (fun ls hl => ?_)
                              refine lv_goto (tgt := 492) hx hb dL_act_543 (by decide) ?_
                              exact ih (i + 1) (by omega) G ls H locs (lv_sub hl [0, 1, 2, 3, 4, 5, 6, 7, 8, 9, 10, 11, 12] rfl) hH hS (by rw [← b_ts0 hv]; exact hG)
                            · skip
                              have hv : y_f (chT M w0 w1 w2) i = true := (ch_0 (by omega) (b2_f d0)).trans (b2_t d1)
                              refine lv_aload hx hb dL_act_533 (lv_at hl 4 rfl) ?_
                              refine lv_iload hx hb dL_act_535 (lv_at hl 0 rfl) ?_
                              refine h_callv (va_runS (As := [.ref q0, .int (nI i)]) (rest := []) ⟨hx, hb, hml, hown, hts⟩ (c_l_set l D cs (h_U (h_U C wa (.inl (cs 0, 3, .inl X))) q0 (.inl (cs 1, 4, .inr (.inl G)))) H.size q0 G h_U_at i (by omega)) (va_cwS 2 hts gL_act_L_set rfl rfl rfl (by decide +kernel) ⟨Nat.le_of_ble_eq_true rfl, Nat.le_of_ble_eq_true rfl⟩) (h_preS hK hN hH) rfl rfl hl.1 rfl (lv_room (Nat.le_of_ble_eq_true rfl)) dL_act_537 ⟨by first | exact Nat.le_of_ble_eq_true rfl | omega, by first | exact Nat.le_of_ble_eq_true rfl | omega⟩) hH hS hA (fun u9 H locs hp hH hS => ?_)
                              rw [hp, h_U_U] at hH
                              refine lv_iinc (v := nI (i + 1)) (lv' := [(12, .int (nI (i + 1))), (11, .ref a2), (10, .ref a1), (9, .ref a0), (8, .ref q0), (7, .int (nI so)), (6, .int (nI q9)), (5, .ref wa), (4, .int (nI fr)), (3, .int (nI (k_N M))), (0, .ref (ad 0)), (1, .ref si), (2, .int x)]) hx hb dL_act_540 hl (k := 0) rfl (nI_1 i) (by decide) rfl (fun ls hl => ?_)
                              refine lv_goto (tgt := 492) hx hb dL_act_543 (by decide) ?_
                              exact ih (i + 1) (by omega) _ ls H locs (lv_sub hl [0, 1, 2, 3, 4, 5, 6, 7, 8, 9, 10, 11, 12] rfl) hH hS (by rw [← b_ts1 hv]; exact j_set hG (by omega))
                          · skip
                            refine lv_aload hx hb dL_act_510 (lv_at hl 2 rfl) ?_
                            refine lv_iload hx hb dL_act_512 (lv_at hl 0 rfl) ?_
                            refine h_calli (va_runS (As := [.ref a1, .int (nI i)]) (rest := []) ⟨hx, hb, hml, hown, hts⟩ (c_l_says l D cs (h_U (h_U C wa (.inl (cs 0, 3, .inl X))) q0 (.inl (cs 1, 4, .inr (.inl G)))) H.size a1 Fn1 _ (ga1 G) eF1 i (by omega)) (va_cwS 2 hts gL_act_L_says rfl rfl rfl (by decide +kernel) ⟨Nat.le_of_ble_eq_true rfl, Nat.le_of_ble_eq_true rfl⟩) (h_preS hK hN hH) rfl rfl hl.1 rfl (lv_room (Nat.le_of_ble_eq_true rfl)) dL_act_514 ⟨by first | exact Nat.le_of_ble_eq_true rfl | omega, by first | exact Nat.le_of_ble_eq_true rfl | omega⟩) hH hS hA (fun r9 u9 H locs hp hH hS => ?_)
                            obtain ⟨hu, hr9⟩ := hp
                            rw [hu] at hH
                            rw [hr9]
                            refine lv_if_eq (tgt := 540) hx hb dL_act_517 (by decide) (fun d1 => ?_) (fun d1 => ?_)
                            · skip
                              have hv : y_f (chT M w0 w1 w2) i = false := (ch_1 (by omega) (b2_t d0)).trans (b2_f d1)
                              refine lv_iinc (v := nI (i + 1)) (lv' := [(12, .int (nI (i + 1))), (11, .ref a2), (10, .ref a1), (9, .ref a0), (8, .ref q0), (7, .int (nI so)), (6, .int (nI q9)), (5, .ref wa), (4, .int (nI fr)), (3, .int (nI (k_N M))), (0, .ref (ad 0)), (1, .ref si), (2, .int x)]) hx hb dL_act_540 hl (k := 0) rfl (nI_1 i) (by decide) rfl (fun ls hl => ?_)
                              refine lv_goto (tgt := 492) hx hb dL_act_543 (by decide) ?_
                              exact ih (i + 1) (by omega) G ls H locs (lv_sub hl [0, 1, 2, 3, 4, 5, 6, 7, 8, 9, 10, 11, 12] rfl) hH hS (by rw [← b_ts0 hv]; exact hG)
                            · skip
                              have hv : y_f (chT M w0 w1 w2) i = true := (ch_1 (by omega) (b2_t d0)).trans (b2_t d1)
                              refine lv_goto (tgt := 533) hx hb dL_act_520 (by decide) ?_
                              refine lv_aload hx hb dL_act_533 (lv_at hl 4 rfl) ?_
                              refine lv_iload hx hb dL_act_535 (lv_at hl 0 rfl) ?_
                              refine h_callv (va_runS (As := [.ref q0, .int (nI i)]) (rest := []) ⟨hx, hb, hml, hown, hts⟩ (c_l_set l D cs (h_U (h_U C wa (.inl (cs 0, 3, .inl X))) q0 (.inl (cs 1, 4, .inr (.inl G)))) H.size q0 G h_U_at i (by omega)) (va_cwS 2 hts gL_act_L_set rfl rfl rfl (by decide +kernel) ⟨Nat.le_of_ble_eq_true rfl, Nat.le_of_ble_eq_true rfl⟩) (h_preS hK hN hH) rfl rfl hl.1 rfl (lv_room (Nat.le_of_ble_eq_true rfl)) dL_act_537 ⟨by first | exact Nat.le_of_ble_eq_true rfl | omega, by first | exact Nat.le_of_ble_eq_true rfl | omega⟩) hH hS hA (fun u9 H locs hp hH hS => ?_)
                              rw [hp, h_U_U] at hH
                              refine lv_iinc (v := nI (i + 1)) (lv' := [(12, .int (nI (i + 1))), (11, .ref a2), (10, .ref a1), (9, .ref a0), (8, .ref q0), (7, .int (nI so)), (6, .int (nI q9)), (5, .ref wa), (4, .int (nI fr)), (3, .int (nI (k_N M))), (0, .ref (ad 0)), (1, .ref si), (2, .int x)]) hx hb dL_act_540 hl (k := 0) rfl (nI_1 i) (by decide) rfl (fun ls hl => ?_)
                              refine lv_goto (tgt := 492) hx hb dL_act_543 (by decide) ?_
                              exact ih (i + 1) (by omega) _ ls H locs (lv_sub hl [0, 1, 2, 3, 4, 5, 6, 7, 8, 9, 10, 11, 12] rfl) hH hS (by rw [← b_ts1 hv]; exact j_set hG (by omega))
                    exact loop 256 0 rfl (fun _ => 0) ls H locs (lv_sub hl [0, 1, 2, 3, 4, 5, 6, 7, 8, 9, 10, 11, 12] rfl) hH hS (by rw [b_t0]; exact j_S0)
                · skip
                  refine lv_iload_n hx hb dL_act_431 rfl (lv_at hl 11 rfl) ?_
                  refine lv_iconst (v := 4) hx hb dL_act_432 (by decide) ?_
                  refine lv_ishr hx hb dL_act_433 ?_
                  refine lv_bipush (v := 6) hx hb dL_act_434 (by decide) ?_
                  refine h_calli (va_runS (As := [.int (x >>> (4 &&& 31)), .int (nI 6)]) (rest := []) ⟨hx, hb, hml, hown, hts⟩ (c_l_below l D cs _ H.size _ 6 (by decide) (by decide)) (va_cwS 2 hts gL_act_L_below rfl rfl rfl (by decide +kernel) ⟨Nat.le_of_ble_eq_true rfl, Nat.le_of_ble_eq_true rfl⟩) (h_preS hK hN hH) rfl rfl hl.1 rfl (lv_room (Nat.le_of_ble_eq_true rfl)) dL_act_436 ⟨by first | exact Nat.le_of_ble_eq_true rfl | omega, by first | exact Nat.le_of_ble_eq_true rfl | omega⟩) hH hS hA (fun r9 u9 H locs hp hH hS => ?_)
                  obtain ⟨hu, wh, hwh, hr9⟩ := hp
                  rw [hu] at hH
                  rw [hr9]
                  refine lv_istore (lv' := [(12, .int (nI wh)), (11, .ref a2), (10, .ref a1), (9, .ref a0), (8, .ref q0), (7, .int (nI so)), (6, .int (nI q9)), (5, .ref wa), (4, .int (nI fr)), (3, .int (nI (k_N M))), (0, .ref (ad 0)), (1, .ref si), (2, .int x)]) hx hb dL_act_439 hl (by decide) rfl (fun ls hl => ?_)
                  refine lv_aload_n hx hb dL_act_441 rfl (lv_at hl 11 rfl) ?_
                  refine h_get (v := .ref fd) (C0 := RX4) (T := TX4) (N := 3) hx hb hts hin4 hown hK.1 hH hsi3 rfl 0 (by decide) rfl (by decide +kernel) rfl dL_act_442 ?_
                  refine lv_iload hx hb dL_act_445 (lv_at hl 8 rfl) ?_
                  refine lv_aload hx hb dL_act_447 (lv_at hl 3 rfl) ?_
                  refine lv_aload hx hb dL_act_449 (lv_at hl 2 rfl) ?_
                  refine lv_iload hx hb dL_act_451 (lv_at hl 0 rfl) ?_
                  refine h_calla (va_runS (As := [.ref a0, .ref a1, .int (nI wh)]) (rest := [.int (nI fr), .ref fd]) ⟨hx, hb, hml, hown, hts⟩ (c_l_joined_ l D cs _ H.size a0 a1 Fn0 Fn1 _ _ (ga0 _) (ga1 _) eF0 eF1 wh hwh) (va_cwS 3 hts gL_act_L_joined_ rfl rfl rfl (by decide +kernel) ⟨Nat.le_of_ble_eq_true rfl, Nat.le_of_ble_eq_true rfl⟩) (h_preS hK hN hH) rfl rfl hl.1 rfl (lv_room (Nat.le_of_ble_eq_true rfl)) dL_act_453 ⟨by first | exact Nat.le_of_ble_eq_true rfl | omega, by first | exact Nat.le_of_ble_eq_true rfl | omega⟩) hH hS hA (fun q1 u9 H locs hp hH hS => ?_)
                  obtain ⟨hq1, G1, hG1, rfl⟩ := hp
                  have o_q1 : k_o ad q1 := hM0.off (by have h9 := hq1; by_cases c : C q1 = none; exact c; rw [(hx3 (fun _ => 0)) q1 c] at h9; exact absurd h9 c)
                  have x_q1 : ∀ b : Nat, C b ≠ none → (h_U (h_U (h_U C wa (.inl (cs 0, 3, .inl X))) q0 (.inl (cs 1, 4, .inr (.inl (fun _ => 0))))) q1 (.inl (cs 1, 4, .inr (.inl G1)))) b = C b := fun b hb9 => by rw [h_U_ne (fun h9 => hb9 (by have h8 := hq1; rw [← h9, (hx3 (fun _ => 0)) b hb9] at h8; exact h8))]; exact (hx3 (fun _ => 0)) b hb9
                  have w_q1 : (h_U (h_U (h_U C wa (.inl (cs 0, 3, .inl X))) q0 (.inl (cs 1, 4, .inr (.inl (fun _ => 0))))) q1 (.inl (cs 1, 4, .inr (.inl G1)))) wa = some (.inl (cs 0, 3, .inl X)) := (h_U_ne (fun h9 => by have h8 := hq1; rw [← h9, (hw3 (fun _ => 0))] at h8; cases h8)).trans (hw3 (fun _ => 0))
                  obtain ⟨-, -, hfdc, -, -, -, -, -⟩ := hk.ext x_q1
                  refine h_aast hx hb hH hS hfdc (h_okA hH hK.2.1 (h_U_at (C := (h_U (h_U C wa (.inl (cs 0, 3, .inl X))) q0 (.inl (cs 1, 4, .inr (.inl (fun _ => 0)))))) (a := q1) (e := .inl (cs 1, 4, .inr (.inl G1))))) fr hfr12 (by decide) rfl dL_act_456 (fun H locs hH hS => ?_)
                  have hM2 : kM I Z F ad M (h_U (h_U (h_U (h_U C wa (.inl (cs 0, 3, .inl X))) q0 (.inl (cs 1, 4, .inr (.inl (fun _ => 0))))) q1 (.inl (cs 1, 4, .inr (.inl G1)))) fd (.inl (cs 2, 12, .inr (.inr (.inr (.inr (va_up Fd fr (some q1)))))))) := hk.pre x_q1 _
                  have hwa2 : (h_U (h_U (h_U (h_U C wa (.inl (cs 0, 3, .inl X))) q0 (.inl (cs 1, 4, .inr (.inl (fun _ => 0))))) q1 (.inl (cs 1, 4, .inr (.inl G1)))) fd (.inl (cs 2, 12, .inr (.inr (.inr (.inr (va_up Fd fr (some q1)))))))) wa = some (.inl (cs 0, 3, .inl X)) := (h_U_ne nwf).trans w_q1
                  refine lv_aload_n hx hb dL_act_457 rfl (lv_at hl 10 rfl) ?_
                  refine lv_aload hx hb dL_act_458 (lv_at hl 7 rfl) ?_
                  refine lv_iconst (v := 0) hx hb dL_act_460 (by decide) ?_
                  refine h_iald hx hb hK.1 hH hwa2 0 rfl 0 (by decide) (by decide) rfl dL_act_461 ?_
                  rw [ew0]
                  refine lv_aload hx hb dL_act_462 (lv_at hl 7 rfl) ?_
                  refine lv_iconst (v := 1) hx hb dL_act_464 (by decide) ?_
                  refine h_iald hx hb hK.1 hH hwa2 0 rfl 1 (by decide) (by decide) rfl dL_act_465 ?_
                  rw [ew1]
                  refine lv_iload hx hb dL_act_466 (lv_at hl 0 rfl) ?_
                  refine kx_calli (vx_runV (As := [.int (nI w0), .int (nI w1), .int (nI wh)]) (rest := []) ⟨hx, hb, hml, hown, hts⟩ (c_join l hst D I Z F ad sa hI M H.size (nI w0) (nI w1) (nI wh)) (cwV 3 hts gL_act_X2_join rfl rfl rfl (by decide +kernel) ⟨Nat.le_of_ble_eq_true rfl, Nat.le_of_ble_eq_true rfl⟩) (k_preV hKc hNc hX hA hI hM2 hH hS) rfl rfl hl.1 rfl (lv_room (Nat.le_of_ble_eq_true rfl)) dL_act_468 ⟨by exact Nat.le_of_ble_eq_true rfl, by exact Nat.le_of_ble_eq_true rfl⟩) hI hM2 hH hS hA (xpN_no ⟨⟨w0, fdOk_of hw0 aw0⟩, ⟨w1, fdOk_of hw1 aw1⟩, ⟨wh, hwh, rfl⟩⟩ hfrk) (fun r u H locs hp hH hM9 hS => ?_)
                  obtain ⟨ka, kb, wh2, f9, hka, hkb, hwh2, ewh, hf9, hrk, hu⟩ := hp
                  have e_a := fd_one hw0 hka
                  subst e_a
                  have e_b := fd_one hw1 hkb
                  subst e_b
                  have e_w : wh2 = wh := ((nI_eq (by omega) (by omega)).mp ewh).symm
                  subst e_w
                  have ef := fr_one hfrk hf9
                  subst ef
                  rw [hu] at hH
                  clear hu hM9
                  rw [hrk]
                  have hI9 := hk.new hI (T := sjT M ka kb wh2) x_q1 h_U_at o_q1 (by rw [sj_Y hS9.2.1 hka.1 hkb.1]; exact hG1) sj_T hfr12
                  refine lv_iload hx hb dL_act_471 (lv_at hl 8 rfl) ?_
                  refine lv_icmp_ne (tgt := 480) hx hb dL_act_473 (by decide) (fun c9 => ?_) (fun c9 => ?_)
                  · exact absurd rfl c9
                  · skip
                    refine lv_iconst (v := 1) hx hb dL_act_476 (by decide) ?_
                    refine lv_goto (tgt := 481) hx hb dL_act_477 (by decide) ?_
                    exact hret 481 ls _ _ _ _ 1 _ dL_act_481 (by exact Nat.le_of_ble_eq_true rfl) (by exact Nat.le_of_ble_eq_true rfl) ⟨⟨rfl, nwF M fr (sjT M ka kb wh2), o, _, O, hI9, by rw [k_N_new hfr12 hfrk.2.1]; omega⟩, Or.inr rfl⟩ hH hS
              refine lv_iload hx hb dL_act_305 (lv_at hl 1 rfl) ?_
              refine lv_iconst (v := 4) hx hb dL_act_307 (by decide) ?_
              refine lv_icmp_ne (tgt := 391) hx hb dL_act_308 (by decide) (fun c5 => ?_) (fun c5 => ?_)
              · exact three9 ls H locs hl hH hS
              · skip
                refine lv_iload_n hx hb dL_act_311 rfl (lv_at hl 8 rfl) ?_
                refine lv_iconst (v := 4) hx hb dL_act_312 (by decide) ?_
                refine h_calli (va_runS (As := [.int x, .int (nI 4)]) (rest := []) ⟨hx, hb, hml, hown, hts⟩ (c_l_below l D cs _ H.size _ 4 (by decide) (by decide)) (va_cwS 2 hts gL_act_L_below rfl rfl rfl (by decide +kernel) ⟨Nat.le_of_ble_eq_true rfl, Nat.le_of_ble_eq_true rfl⟩) (h_preS hK hN hH) rfl rfl hl.1 rfl (lv_room (Nat.le_of_ble_eq_true rfl)) dL_act_313 ⟨by first | exact Nat.le_of_ble_eq_true rfl | omega, by first | exact Nat.le_of_ble_eq_true rfl | omega⟩) hH hS hA (fun r9 u9 H locs hp hH hS => ?_)
                obtain ⟨hu, k4, hk4, hr9⟩ := hp
                rw [hu] at hH
                rw [hr9]
                refine lv_if_ne (tgt := 391) hx hb dL_act_316 (by decide) (fun c6 => ?_) (fun c6 => ?_)
                · exact three9 ls H locs hl hH hS
                · skip
                  have leaf9 : ∀ y9 : Int32, (y9 = 0 ∨ y9 = 1) → ∀ (G : Nat → Int64) (i9 : Int32) (ls : Array Slot) (H : Heap) (locs : List Loc), lv_has ls 13 [(10, .int i9), (9, .int y9), (8, .ref q0), (7, .int (nI so)), (6, .int (nI q9)), (5, .ref wa), (4, .int (nI fr)), (3, .int (nI (k_N M))), (0, .ref (ad 0)), (1, .ref si), (2, .int x)] → h_H D A (h_U (h_U C wa (.inl (cs 0, 3, .inl X))) q0 (.inl (cs 1, 4, .inr (.inl G)))) H → va_S A s.heap H locs → j_S G (y_f (fun _ => y9)) → W p l e rm_l_act s m args below meth c H locs 2 7 Q (F0 m 365 ls []) := by
                    intro y9 hy9 G i9 ls H locs hl hH hS hG
                    obtain ⟨hM4, hsi4, hfdc, hoa4, -, -, -, -⟩ := hk3 G
                    refine lv_aload_n hx hb dL_act_365 rfl (lv_at hl 9 rfl) ?_
                    refine h_get (v := .ref fd) (C0 := RX4) (T := TX4) (N := 3) hx hb hts hin4 hown hK.1 hH hsi4 rfl 0 (by decide) rfl (by decide +kernel) rfl dL_act_366 ?_
                    refine lv_iload hx hb dL_act_369 (lv_at hl 6 rfl) ?_
                    refine lv_aload hx hb dL_act_371 (lv_at hl 2 rfl) ?_
                    refine h_aast hx hb hH hS hfdc (h_okA hH hK.2.1 h_U_at) fr hfr12 (by decide) rfl dL_act_373 (fun H locs hH hS => ?_)
                    have hM2 : kM I Z F ad M (h_U (h_U (h_U C wa (.inl (cs 0, 3, .inl X))) q0 (.inl (cs 1, 4, .inr (.inl G)))) fd (.inl (cs 2, 12, .inr (.inr (.inr (.inr (va_up Fd fr (some q0)))))))) := hk.pre (hx3 G) _
                    have hwa2 : (h_U (h_U (h_U C wa (.inl (cs 0, 3, .inl X))) q0 (.inl (cs 1, 4, .inr (.inl G)))) fd (.inl (cs 2, 12, .inr (.inr (.inr (.inr (va_up Fd fr (some q0)))))))) wa = some (.inl (cs 0, 3, .inl X)) := (h_U_ne nwf).trans (hw3 G)
                    refine lv_aload_n hx hb dL_act_374 rfl (lv_at hl 8 rfl) ?_
                    refine lv_iload hx hb dL_act_375 (lv_at hl 1 rfl) ?_
                    refine kx_calli (vx_runV (As := [.int y9]) (rest := []) ⟨hx, hb, hml, hown, hts⟩ (c_leaf l hst D I Z F ad sa hI M H.size y9 hy9) (cwV 1 hts gL_act_X2_leaf rfl rfl rfl (by decide +kernel) ⟨Nat.le_of_ble_eq_true rfl, Nat.le_of_ble_eq_true rfl⟩) (k_preV hKc hNc hX hA hI hM2 hH hS) rfl rfl hl.1 rfl (lv_room (Nat.le_of_ble_eq_true rfl)) dL_act_377 ⟨by exact Nat.le_of_ble_eq_true rfl, by exact Nat.le_of_ble_eq_true rfl⟩) hI hM2 hH hS hA (by rintro E ⟨_, h9⟩; exact h9 fr hfr12 hfrk.2.1) (fun r u H locs hp hH hM9 hS => ?_)
                    obtain ⟨f9, hf9, hrk, hu⟩ := hp
                    have ef := fr_one hfrk hf9
                    subst ef
                    rw [hu] at hH
                    clear hu hM9
                    rw [hrk]
                    have hI9 := hk.new hI (T := fun _ => y9) (hx3 G) h_U_at hq0o hG (fun _ _ => hy9) hfr12
                    refine lv_iload hx hb dL_act_380 (lv_at hl 6 rfl) ?_
                    refine lv_icmp_ne (tgt := 389) hx hb dL_act_382 (by decide) (fun c9 => ?_) (fun c9 => ?_)
                    · exact absurd rfl c9
                    · skip
                      refine lv_iconst (v := 1) hx hb dL_act_385 (by decide) ?_
                      refine lv_goto (tgt := 390) hx hb dL_act_386 (by decide) ?_
                      exact hret 390 ls _ _ _ _ 1 _ dL_act_390 (by exact Nat.le_of_ble_eq_true rfl) (by exact Nat.le_of_ble_eq_true rfl) ⟨⟨rfl, nwF M fr (fun _ => y9), o, _, O, hI9, by rw [k_N_new hfr12 hfrk.2.1]; omega⟩, Or.inr rfl⟩ hH hS
                  refine lv_iload_n hx hb dL_act_319 rfl (lv_at hl 8 rfl) ?_
                  refine lv_iconst (v := 2) hx hb dL_act_320 (by decide) ?_
                  refine lv_ishr hx hb dL_act_321 ?_
                  refine lv_iconst (v := 2) hx hb dL_act_322 (by decide) ?_
                  refine h_calli (va_runS (As := [.int (x >>> (2 &&& 31)), .int (nI 2)]) (rest := []) ⟨hx, hb, hml, hown, hts⟩ (c_l_below l D cs _ H.size _ 2 (by decide) (by decide)) (va_cwS 2 hts gL_act_L_below rfl rfl rfl (by decide +kernel) ⟨Nat.le_of_ble_eq_true rfl, Nat.le_of_ble_eq_true rfl⟩) (h_preS hK hN hH) rfl rfl hl.1 rfl (lv_room (Nat.le_of_ble_eq_true rfl)) dL_act_323 ⟨by first | exact Nat.le_of_ble_eq_true rfl | omega, by first | exact Nat.le_of_ble_eq_true rfl | omega⟩) hH hS hA (fun r9 u9 H locs hp hH hS => ?_)
                  obtain ⟨hu, k2, hk2, hr9⟩ := hp
                  rw [hu] at hH
                  rw [hr9]
                  refine lv_if_ne (tgt := 333) hx hb dL_act_326 (by decide) (fun c7 => ?_) (fun c7 => ?_)
                  · skip
                    refine lv_iconst (v := 0) hx hb dL_act_333 (by decide) ?_
                    refine lv_istore (lv' := [(9, .int 0), (8, .ref q0), (7, .int (nI so)), (6, .int (nI q9)), (5, .ref wa), (4, .int (nI fr)), (3, .int (nI (k_N M))), (0, .ref (ad 0)), (1, .ref si), (2, .int x)]) hx hb dL_act_334 hl (by decide) rfl (fun ls hl => ?_)
                    refine lv_iconst (v := 0) hx hb dL_act_336 (by decide) ?_
                    refine lv_istore (lv' := [(10, .int 0), (9, .int 0), (8, .ref q0), (7, .int (nI so)), (6, .int (nI q9)), (5, .ref wa), (4, .int (nI fr)), (3, .int (nI (k_N M))), (0, .ref (ad 0)), (1, .ref si), (2, .int x)]) hx hb dL_act_337 hl (by decide) rfl (fun ls hl => ?_)
                    refine lv_iload hx hb dL_act_339 (lv_at hl 0 rfl) ?_
                    refine lv_sipush (v := 256) hx hb dL_act_341 (by decide) ?_
                    refine lv_icmp_ge (tgt := 365) hx hb dL_act_344 (by decide) (fun c8 => ?_) (fun c8 => ?_)
                    · exact absurd c8 (by decide)
                    · skip
                      refine lv_iload hx hb dL_act_347 (lv_at hl 1 rfl) ?_
                      refine lv_if_eq (tgt := 365) hx hb dL_act_349 (by decide) (fun c9 => ?_) (fun c9 => ?_)
                      · skip
                        exact leaf9 0 (Or.inl rfl) (fun _ => 0) 0 ls H locs (lv_sub hl [0, 1, 2, 3, 4, 5, 6, 7, 8, 9, 10] rfl) hH hS (by rw [y_f0]; exact j_S0)
                      · exact absurd rfl c9
                  · skip
                    refine lv_iconst (v := 1) hx hb dL_act_329 (by decide) ?_
                    refine lv_goto (tgt := 334) hx hb dL_act_330 (by decide) ?_
                    refine lv_istore (lv' := [(9, .int 1), (8, .ref q0), (7, .int (nI so)), (6, .int (nI q9)), (5, .ref wa), (4, .int (nI fr)), (3, .int (nI (k_N M))), (0, .ref (ad 0)), (1, .ref si), (2, .int x)]) hx hb dL_act_334 hl (by decide) rfl (fun ls hl => ?_)
                    refine lv_iconst (v := 0) hx hb dL_act_336 (by decide) ?_
                    refine lv_istore (lv' := [(10, .int 0), (9, .int 1), (8, .ref q0), (7, .int (nI so)), (6, .int (nI q9)), (5, .ref wa), (4, .int (nI fr)), (3, .int (nI (k_N M))), (0, .ref (ad 0)), (1, .ref si), (2, .int x)]) hx hb dL_act_337 hl (by decide) rfl (fun ls hl => ?_)
                    have loop : ∀ r9 i : Nat, i + r9 = 256 → ∀ (G : Nat → Int64) (ls : Array Slot) (H : Heap) (locs : List Loc), lv_has ls 13 [(10, .int (nI i)), (9, .int 1), (8, .ref q0), (7, .int (nI so)), (6, .int (nI q9)), (5, .ref wa), (4, .int (nI fr)), (3, .int (nI (k_N M))), (0, .ref (ad 0)), (1, .ref si), (2, .int x)] → h_H D A (h_U (h_U C wa (.inl (cs 0, 3, .inl X))) q0 (.inl (cs 1, 4, .inr (.inl G)))) H → va_S A s.heap H locs → j_S G (b_t (y_f (fun _ => 1)) i) → W p l e rm_l_act s m args below meth c H locs 2 7 Q (F0 m 339 ls []) := by
                      intro r9
                      induction r9 with
                      | zero =>
                        intro i hi G ls H locs hl hH hS hG
                        obtain rfl : i = 256 := by omega
                        rw [b_t256 (y_fS _)] at hG
                        refine lv_iload hx hb dL_act_339 (lv_at hl 0 rfl) ?_
                        refine lv_sipush (v := 256) hx hb dL_act_341 (by decide) ?_
                        refine lv_icmp_ge (tgt := 365) hx hb dL_act_344 (by decide) (fun c8 => ?_) (fun c8 => ?_)
                        · skip
                          exact leaf9 1 (Or.inr rfl) G (nI 256) ls H locs hl hH hS hG
                        · exact absurd (nI_le (Nat.le_refl 256) (by decide)) c8
                      | succ r9 ih =>
                        intro i hi G ls H locs hl hH hS hG
                        refine lv_iload hx hb dL_act_339 (lv_at hl 0 rfl) ?_
                        refine lv_sipush (v := 256) hx hb dL_act_341 (by decide) ?_
                        refine lv_icmp_ge (tgt := 365) hx hb dL_act_344 (by decide) (fun c8 => ?_) (fun c8 => ?_)
                        · exact absurd c8 (nI_ge (b := 256) (by omega) (by decide))
                        · skip
                          refine lv_iload hx hb dL_act_347 (lv_at hl 1 rfl) ?_
                          refine lv_if_eq (tgt := 365) hx hb dL_act_349 (by decide) (fun c9 => ?_) (fun c9 => ?_)
                          · exact absurd c9 (by decide)
                          · skip
                            have hv : y_f (fun _ => 1) i = true := y_ft (by omega) (by decide)
                            refine lv_aload hx hb dL_act_352 (lv_at hl 2 rfl) ?_
                            refine lv_iload hx hb dL_act_354 (lv_at hl 0 rfl) ?_
                            refine h_callv (va_runS (As := [.ref q0, .int (nI i)]) (rest := []) ⟨hx, hb, hml, hown, hts⟩ (c_l_set l D cs (h_U (h_U C wa (.inl (cs 0, 3, .inl X))) q0 (.inl (cs 1, 4, .inr (.inl G)))) H.size q0 G h_U_at i (by omega)) (va_cwS 2 hts gL_act_L_set rfl rfl rfl (by decide +kernel) ⟨Nat.le_of_ble_eq_true rfl, Nat.le_of_ble_eq_true rfl⟩) (h_preS hK hN hH) rfl rfl hl.1 rfl (lv_room (Nat.le_of_ble_eq_true rfl)) dL_act_356 ⟨by first | exact Nat.le_of_ble_eq_true rfl | omega, by first | exact Nat.le_of_ble_eq_true rfl | omega⟩) hH hS hA (fun u9 H locs hp hH hS => ?_)
                            rw [hp, h_U_U] at hH
                            refine lv_iinc (v := nI (i + 1)) (lv' := [(10, .int (nI (i + 1))), (9, .int 1), (8, .ref q0), (7, .int (nI so)), (6, .int (nI q9)), (5, .ref wa), (4, .int (nI fr)), (3, .int (nI (k_N M))), (0, .ref (ad 0)), (1, .ref si), (2, .int x)]) hx hb dL_act_359 hl (k := 0) rfl (nI_1 i) (by decide) rfl (fun ls hl => ?_)
                            refine lv_goto (tgt := 339) hx hb dL_act_362 (by decide) ?_
                            exact ih (i + 1) (by omega) _ ls H locs (lv_sub hl [0, 1, 2, 3, 4, 5, 6, 7, 8, 9, 10] rfl) hH hS (by rw [← b_ts1 hv]; exact j_set hG (by omega))
                    exact loop 256 0 rfl (fun _ => 0) ls H locs (lv_sub hl [0, 1, 2, 3, 4, 5, 6, 7, 8, 9, 10] rfl) hH hS (by rw [b_t0]; exact j_S0)
            · exact ask9 ls H locs hl hH hS
      · skip
        refine lv_iload_n hx hb dL_act_153 rfl (lv_at hl 7 rfl) ?_
        refine lv_iconst (v := 1) hx hb dL_act_154 (by decide) ?_
        refine lv_ishr hx hb dL_act_155 ?_
        refine lv_bipush (v := 7) hx hb dL_act_156 (by decide) ?_
        refine h_calli (va_runS (As := [.int (x >>> (1 &&& 31)), .int (nI 7)]) (rest := []) ⟨hx, hb, hml, hown, hts⟩ (c_l_below l D cs _ H.size _ 7 (by decide) (by decide)) (va_cwS 2 hts gL_act_L_below rfl rfl rfl (by decide +kernel) ⟨Nat.le_of_ble_eq_true rfl, Nat.le_of_ble_eq_true rfl⟩) (h_preS hK hN hH) rfl rfl hl.1 rfl (lv_room (Nat.le_of_ble_eq_true rfl)) dL_act_158 ⟨by first | exact Nat.le_of_ble_eq_true rfl | omega, by first | exact Nat.le_of_ble_eq_true rfl | omega⟩) hH hS hA (fun r9 u9 H locs hp hH hS => ?_)
        obtain ⟨hu, p9, hp9, hr9⟩ := hp
        rw [hu] at hH
        rw [hr9]
        refine lv_istore (lv' := [(8, .int (nI p9)), (7, .int (nI so)), (6, .int (nI q9)), (5, .ref wa), (4, .int (nI fr)), (3, .int (nI (k_N M))), (0, .ref (ad 0)), (1, .ref si), (2, .int x)]) hx hb dL_act_161 hl (by decide) rfl (fun ls hl => ?_)
        refine lv_aload_n hx hb dL_act_163 rfl (lv_at hl 7 rfl) ?_
        refine h_get (v := .ref oa) (C0 := RX4) (T := TX4) (N := 3) hx hb hts hin4 hown hK.1 hH hsi1 rfl 1 (by decide) rfl (by decide +kernel) rfl dL_act_164 ?_
        refine lv_iload hx hb dL_act_167 (lv_at hl 0 rfl) ?_
        refine h_iald hx hb hK.1 hH hoa1 0 rfl p9 (by omega) (by decide) rfl dL_act_169 ?_
        refine lv_istore (lv' := [(9, .int (O p9)), (8, .int (nI p9)), (7, .int (nI so)), (6, .int (nI q9)), (5, .ref wa), (4, .int (nI fr)), (3, .int (nI (k_N M))), (0, .ref (ad 0)), (1, .ref si), (2, .int x)]) hx hb dL_act_170 hl (by decide) rfl (fun ls hl => ?_)
        refine lv_aload_n hx hb dL_act_172 rfl (lv_at hl 8 rfl) ?_
        refine h_get (v := .ref oa) (C0 := RX4) (T := TX4) (N := 3) hx hb hts hin4 hown hK.1 hH hsi1 rfl 1 (by decide) rfl (by decide +kernel) rfl dL_act_173 ?_
        refine lv_iload hx hb dL_act_176 (lv_at hl 1 rfl) ?_
        refine lv_aload_n hx hb dL_act_178 rfl (lv_at hl 8 rfl) ?_
        refine h_get (v := .ref oa) (C0 := RX4) (T := TX4) (N := 3) hx hb hts hin4 hown hK.1 hH hsi1 rfl 1 (by decide) rfl (by decide +kernel) rfl dL_act_179 ?_
        refine lv_iload hx hb dL_act_182 (lv_at hl 1 rfl) ?_
        refine lv_iconst (v := 1) hx hb dL_act_184 (by decide) ?_
        refine lv_iadd hx hb dL_act_185 ?_
        refine h_iald hx hb hK.1 hH hoa1 0 rfl (p9 + 1) (by omega) (by decide) (nI_1 p9) dL_act_186 ?_
        refine h_iast hx hb hK.1 hH hS hoa1 0 rfl p9 (by omega) (by decide) rfl dL_act_187 (fun H locs hH hS => ?_)
        have hso1 : si ≠ oa := hk.fd_ne.2.2
        have hsi2 : (h_U (h_U C wa (.inl (cs 0, 3, .inl X))) oa (.inl (cs 0, 8, .inl (upd O p9 (O (p9 + 1)))))) si = some (.inr (4, [.ref fd, .ref oa, .null])) := (h_U_ne hso1).trans hsi1
        have hoa2 : (h_U (h_U C wa (.inl (cs 0, 3, .inl X))) oa (.inl (cs 0, 8, .inl (upd O p9 (O (p9 + 1)))))) oa = some (.inl (cs 0, 8, .inl (upd O p9 (O (p9 + 1))))) := h_U_at
        refine lv_aload_n hx hb dL_act_188 rfl (lv_at hl 8 rfl) ?_
        refine h_get (v := .ref oa) (C0 := RX4) (T := TX4) (N := 3) hx hb hts hin4 hown hK.1 hH hsi2 rfl 1 (by decide) rfl (by decide +kernel) rfl dL_act_189 ?_
        refine lv_iload hx hb dL_act_192 (lv_at hl 1 rfl) ?_
        refine lv_iconst (v := 1) hx hb dL_act_194 (by decide) ?_
        refine lv_iadd hx hb dL_act_195 ?_
        refine lv_iload hx hb dL_act_196 (lv_at hl 0 rfl) ?_
        refine h_iast hx hb hK.1 hH hS hoa2 0 rfl (p9 + 1) (by omega) (by decide) (nI_1 p9) dL_act_198 (fun H locs hH hS => ?_)
        rw [h_U_U] at hH
        have hM2 : kM I Z F ad M (h_U (h_U C wa (.inl (cs 0, 3, .inl X))) oa (.inl (cs 0, 8, .inl (upd (upd O p9 (O (p9 + 1))) (p9 + 1) (O p9))))) := (hkX X).preo _
        refine lv_aload_n hx hb dL_act_199 rfl (lv_at hl 7 rfl) ?_
        refine lv_iload hx hb dL_act_200 (lv_at hl 1 rfl) ?_
        refine kx_calli (vx_runV (As := [.int (nI p9)]) (rest := []) ⟨hx, hb, hml, hown, hts⟩ (c_swap l hst D I Z F ad sa hI M H.size (nI p9)) (cwV 1 hts gL_act_X2_swap rfl rfl rfl (by decide +kernel) ⟨Nat.le_of_ble_eq_true rfl, Nat.le_of_ble_eq_true rfl⟩) (k_preV hKc hNc hX hA hI hM2 hH hS) rfl rfl hl.1 rfl (lv_room (Nat.le_of_ble_eq_true rfl)) dL_act_202 ⟨by exact Nat.le_of_ble_eq_true rfl, by exact Nat.le_of_ble_eq_true rfl⟩) hI hM2 hH hS hA (by rintro E ⟨_, h9⟩; exact h9 ⟨p9, hp9, rfl⟩) (fun r u H locs hp hH hM9 hS => ?_)
        obtain ⟨p1, hp1, ep, hu, hrk⟩ := hp
        have ep1 : p1 = p9 := ((nI_eq (by omega) (by omega)).mp ep).symm
        subst ep1
        rw [hu] at hH
        rw [hrk, hu]
        clear hu hrk hM9
        have hI9 := (hkX X).swap hI hp1
        obtain ⟨CS, hCS⟩ : ∃ CS : hC, CS = (kC I Z F ad (laF (exF M 2 p1)) (h_U (h_U C wa (.inl (cs 0, 3, .inl X))) oa (.inl (cs 0, 8, .inl (upd (upd O p1 (O (p1 + 1))) (p1 + 1) (O p1)))))) := ⟨_, rfl⟩
        rw [← hCS] at hI9 hH
        obtain ⟨⟨n9, tb9, pl9, hSS⟩, -, -⟩ := hI9.2.2.2.2.2.2.2
        have en9 := hSS.n
        rw [hSS.2.2.1.2.1]
        obtain ⟨hb1, hb2⟩ := hI9.2.2.2.2.2.2.2.o
        refine lv_aload_n hx hb dL_act_205 rfl (lv_at hl 8 rfl) ?_
        refine h_calla (va_runV (As := []) (rest := [.int (nI n9)]) ⟨hx, hb, hml, hown, hts⟩ (c_h_all l D cs CS H.size (o_x o p1) hb1 oa _ hI9.2.2.2.1 hI9.2.2.2.2.2.1 si fd .null Fd hI9.2.1 hI9.2.2.1 (fun k => a_Y (laF (exF M 2 p1)) k) (fun k a hk12 e9 => by
            have hak : a_k (laF (exF M 2 p1)) k := Classical.not_not.mp (fun hn => by rw [(hI9.off hk12).mpr hn] at e9; cases e9)
            obtain ⟨a2, Fn2, e1, e2, e3⟩ := hI9.fold hk12 hak
            have : a2 = a := Option.some.inj (e1.symm.trans e9)
            subst this
            exact ⟨Fn2, e2, e3⟩)) (cwV 0 hts gL_act_X4_all rfl rfl rfl (by decide +kernel) ⟨Nat.le_of_ble_eq_true rfl, Nat.le_of_ble_eq_true rfl⟩) (h_preV hK hN hH hI9.2.1 rfl) rfl rfl hl.1 rfl (lv_room (Nat.le_of_ble_eq_true rfl)) dL_act_206 ⟨by first | exact Nat.le_of_ble_eq_true rfl | omega, by first | exact Nat.le_of_ble_eq_true rfl | omega⟩) hH hS hA (fun rw9 u9 H locs hp hH hS => ?_)
        obtain ⟨hrw0, ⟨Rf, hrw, hrows⟩, hkeep⟩ := hp
        have hI8 := hI9.ext hkeep
        refine lv_iconst (v := -1) hx hb dL_act_209 (by decide) ?_
        refine h_calli (va_runS (As := [.ref rw9, .int (-1)]) (rest := [.int (nI n9)]) ⟨hx, hb, hml, hown, hts⟩ (c_h_together l D cs u9 H.size (o_x o p1) (a_k (laF (exF M 2 p1))) (a_Y (laF (exF M 2 p1))) rw9 Rf hrw (fun j hj => ⟨fun hn => (hrows j hj).1 ((hI9.off hj).mpr hn), fun ha => (hrows j hj).2 (fun e9 => ((hI9.off hj).mp e9) ha)⟩) (fun j hj ha => r_R_77 hb1 (y_fS _)) (-1)) (va_cwS 2 hts gL_act_X4_together rfl rfl rfl (by decide +kernel) ⟨Nat.le_of_ble_eq_true rfl, Nat.le_of_ble_eq_true rfl⟩) (h_preS hK hN hH) rfl rfl hl.1 rfl (lv_room (Nat.le_of_ble_eq_true rfl)) dL_act_210 ⟨by first | exact Nat.le_of_ble_eq_true rfl | omega, by first | exact Nat.le_of_ble_eq_true rfl | omega⟩) hH hS hA (fun r8 u8 H locs hp hH hS => ?_)
        obtain ⟨hu, hr8⟩ := hp
        rw [hu] at hH
        rw [hr8, tg_all, ← en9]
        refine lv_icmp_ne (tgt := 220) hx hb dL_act_213 (by decide) (fun c9 => ?_) (fun c9 => ?_)
        · exact absurd rfl c9
        · skip
          refine lv_iconst (v := 1) hx hb dL_act_216 (by decide) ?_
          refine lv_goto (tgt := 221) hx hb dL_act_217 (by decide) ?_
          exact hret 221 ls _ _ _ _ 1 _ dL_act_221 (by exact Nat.le_of_ble_eq_true rfl) (by exact Nat.le_of_ble_eq_true rfl) ⟨⟨rfl, (laF (exF M 2 p1)), o_x o p1, Fd, _, hI8, by rw [k_N_swap]; exact h2⟩, Or.inr rfl⟩ hH hS
    refine lv_iload hx hb dL_act_101 (lv_at hl 0 rfl) ?_
    refine lv_if_ne (tgt := 111) hx hb dL_act_103 (by decide) (fun c1 => ?_) (fun c1 => ?_)
    · skip
      refine lv_iload_n hx hb dL_act_111 rfl (lv_at hl 4 rfl) ?_
      refine lv_bipush (v := 12) hx hb dL_act_112 (by decide) ?_
      refine lv_icmp_ne (tgt := 147) hx hb dL_act_114 (by decide) (fun c3 => ?_) (fun c3 => ?_)
      · exact rest9 (fun h9 => c3 (by rw [h9]; rfl)) ls H locs hl hH hS
      · exact drop9 (by have h9 := (nI_eq (a := k_N M) (b := 12) (by omega) (by decide)).mp c3; omega) ls H locs hl hH hS
    · skip
      refine lv_iload_n hx hb dL_act_106 rfl (lv_at hl 4 rfl) ?_
      refine lv_iconst (v := 3) hx hb dL_act_107 (by decide) ?_
      refine lv_icmp_gt (tgt := 117) hx hb dL_act_108 (by decide) (fun c2 => ?_) (fun c2 => ?_)
      · exact drop9 (by have h9 := (nI_ltI (a := 3) (b := k_N M) (by decide) (by omega)).mp c2; omega) ls H locs hl hH hS
      · skip
        refine lv_iload_n hx hb dL_act_111 rfl (lv_at hl 4 rfl) ?_
        refine lv_bipush (v := 12) hx hb dL_act_112 (by decide) ?_
        refine lv_icmp_ne (tgt := 147) hx hb dL_act_114 (by decide) (fun c3 => ?_) (fun c3 => ?_)
        · exact rest9 (fun h9 => c3 (by rw [h9]; rfl)) ls H locs hl hH hS
        · exact drop9 (by have h9 := (nI_eq (a := k_N M) (b := 12) (by omega) (by decide)).mp c3; omega) ls H locs hl hH hS
  have loop : ∀ r9 k : Nat, k + r9 = 3 → ∀ X : Nat → Int32, (∀ j : Nat, j < k → ∃ v : Nat, v < 12 ∧ X j = nI v ∧ a_k M v) → ∀ (ls : Array Slot) (H : Heap) (locs : List Loc), lv_has ls 13 [(6, .int (nI k)), (5, .ref wa), (4, .int (nI fr)), (3, .int (nI (k_N M))), (0, .ref (ad 0)), (1, .ref si), (2, .int x)] → h_H D A (h_U C wa (.inl (cs 0, 3, .inl X))) H → va_S A s.heap H locs → W p l e rm_l_act s m args below meth c H locs 1 3 Q (F0 m 19 ls []) := by
    intro r9
    induction r9 with
    | zero =>
      intro k hk3 X hX9 ls H locs hl hH hS
      obtain rfl : k = 3 := by omega
      refine lv_iload hx hb dL_act_19 (lv_at hl 0 rfl) ?_
      refine lv_iconst (v := 3) hx hb dL_act_21 (by decide) ?_
      refine lv_icmp_ge (tgt := 80) hx hb dL_act_22 (by decide) (fun c1 => ?_) (fun c1 => ?_)
      · skip
        exact rest80 X hX9 ls H locs (lv_sub hl [1, 2, 3, 4, 5, 6] rfl) hH hS
      · exact absurd (nI_le (Nat.le_refl 3) (by decide)) c1
    | succ r9 ih =>
      intro k hk3 X hX9 ls H locs hl hH hS
      refine lv_iload hx hb dL_act_19 (lv_at hl 0 rfl) ?_
      refine lv_iconst (v := 3) hx hb dL_act_21 (by decide) ?_
      refine lv_icmp_ge (tgt := 80) hx hb dL_act_22 (by decide) (fun c1 => ?_) (fun c1 => ?_)
      · exact absurd c1 (nI_ge (b := 3) (by omega) (by decide))
      · skip
        refine lv_iload_n hx hb dL_act_25 rfl (lv_at hl 3 rfl) ?_
        refine lv_if_le (tgt := 80) hx hb dL_act_26 (by decide) (fun c2 => ?_) (fun c2 => ?_)
        · exact absurd c2 (nI_nle (by omega) (by omega))
        · skip
          obtain ⟨hM1, hsi1, hfd1, hoa1, -, -, -, -⟩ := hkX X
          obtain ⟨f0, hf0, af0⟩ := k_N_some (M := M) (by omega)
          have seek : ∀ d at9 : Nat, at9 < 12 → (at9 + d) % 12 = f0 → ∀ (ls : Array Slot) (H : Heap) (locs : List Loc), lv_has ls 13 [(7, .int (nI at9)), (6, .int (nI k)), (5, .ref wa), (4, .int (nI fr)), (3, .int (nI (k_N M))), (0, .ref (ad 0)), (1, .ref si), (2, .int x)] → h_H D A (h_U C wa (.inl (cs 0, 3, .inl X))) H → va_S A s.heap H locs → W p l e rm_l_act s m args below meth c H locs 1 3 Q (F0 m 45 ls []) := by
            intro d
            induction d with
            | zero =>
              intro at9 hat had ls H locs hl hH hS
              have eat : at9 = f0 := by omega
              have aat : a_k M at9 := by rw [eat]; exact af0
              refine lv_aload_n hx hb dL_act_45 rfl (lv_at hl 6 rfl) ?_
              refine h_get (v := .ref fd) (C0 := RX4) (T := TX4) (N := 3) hx hb hts hin4 hown hK.1 hH hsi1 rfl 0 (by decide) rfl (by decide +kernel) rfl dL_act_46 ?_
              refine lv_iload hx hb dL_act_49 (lv_at hl 0 rfl) ?_
              obtain ⟨a9, F9, e9, -, -⟩ := hk.fold hat aat
              refine h_aald hx hb hH hK.2.1.1 rfl hfd1 at9 hat (by decide) rfl dL_act_51 ?_
              rw [e9]
              refine lv_ifnonnull (tgt := 67) hx hb dL_act_52 (by decide) ?_
              refine lv_aload hx hb dL_act_67 (lv_at hl 2 rfl) ?_
              refine lv_iload hx hb dL_act_69 (lv_at hl 1 rfl) ?_
              refine lv_iload hx hb dL_act_71 (lv_at hl 0 rfl) ?_
              refine h_iast hx hb hK.1 hH hS (h_U_at (C := C) (a := wa) (e := .inl (cs 0, 3, .inl X))) 0 rfl k (by omega) (by decide) rfl dL_act_73 (fun H locs hH hS => ?_)
              rw [h_U_U] at hH
              refine lv_iinc (v := nI (k + 1)) (lv' := [(6, .int (nI (k + 1))), (7, .int (nI at9)), (5, .ref wa), (4, .int (nI fr)), (3, .int (nI (k_N M))), (0, .ref (ad 0)), (1, .ref si), (2, .int x)]) hx hb dL_act_74 hl (k := 1) rfl (nI_1 k) (by decide) rfl (fun ls hl => ?_)
              refine lv_goto (tgt := 19) hx hb dL_act_77 (by decide) ?_
              refine ih (k + 1) (by omega) (upd X k (nI at9)) (fun j hj => ?_) ls H locs (lv_sub hl [0, 2, 3, 4, 5, 6, 7] rfl) hH hS
              by_cases c : j = k
              · subst c; exact ⟨at9, hat, pk_us, aat⟩
              · rw [pk_un c]; exact hX9 j (by omega)
            | succ d ihd =>
              intro at9 hat had ls H locs hl hH hS
              refine lv_aload_n hx hb dL_act_45 rfl (lv_at hl 6 rfl) ?_
              refine h_get (v := .ref fd) (C0 := RX4) (T := TX4) (N := 3) hx hb hts hin4 hown hK.1 hH hsi1 rfl 0 (by decide) rfl (by decide +kernel) rfl dL_act_46 ?_
              refine lv_iload hx hb dL_act_49 (lv_at hl 0 rfl) ?_
              rcases Classical.em (a_k M at9) with aat | aat
              · skip
                obtain ⟨a9, F9, e9, -, -⟩ := hk.fold hat aat
                refine h_aald hx hb hH hK.2.1.1 rfl hfd1 at9 hat (by decide) rfl dL_act_51 ?_
                rw [e9]
                refine lv_ifnonnull (tgt := 67) hx hb dL_act_52 (by decide) ?_
                refine lv_aload hx hb dL_act_67 (lv_at hl 2 rfl) ?_
                refine lv_iload hx hb dL_act_69 (lv_at hl 1 rfl) ?_
                refine lv_iload hx hb dL_act_71 (lv_at hl 0 rfl) ?_
                refine h_iast hx hb hK.1 hH hS (h_U_at (C := C) (a := wa) (e := .inl (cs 0, 3, .inl X))) 0 rfl k (by omega) (by decide) rfl dL_act_73 (fun H locs hH hS => ?_)
                rw [h_U_U] at hH
                refine lv_iinc (v := nI (k + 1)) (lv' := [(6, .int (nI (k + 1))), (7, .int (nI at9)), (5, .ref wa), (4, .int (nI fr)), (3, .int (nI (k_N M))), (0, .ref (ad 0)), (1, .ref si), (2, .int x)]) hx hb dL_act_74 hl (k := 1) rfl (nI_1 k) (by decide) rfl (fun ls hl => ?_)
                refine lv_goto (tgt := 19) hx hb dL_act_77 (by decide) ?_
                refine ih (k + 1) (by omega) (upd X k (nI at9)) (fun j hj => ?_) ls H locs (lv_sub hl [0, 2, 3, 4, 5, 6, 7] rfl) hH hS
                by_cases c : j = k
                · subst c; exact ⟨at9, hat, pk_us, aat⟩
                · rw [pk_un c]; exact hX9 j (by omega)
              · skip
                refine h_aald hx hb hH hK.2.1.1 rfl hfd1 at9 hat (by decide) rfl dL_act_51 ?_
                rw [(hk.off hat).mpr aat]
                refine lv_ifnonnullN hx hb dL_act_52 ?_
                refine lv_iload hx hb dL_act_55 (lv_at hl 0 rfl) ?_
                refine lv_iconst (v := 1) hx hb dL_act_57 (by decide) ?_
                refine lv_iadd hx hb dL_act_58 ?_
                refine lv_bipush (v := 12) hx hb dL_act_59 (by decide) ?_
                refine lv_irem hx hb dL_act_61 (by decide) ?_
                rw [nI_1, show (12 : Int32) = nI 12 from rfl, pk_rem (by omega) (by decide) (by decide)]
                refine lv_istore (lv' := [(7, .int (nI ((at9 + 1) % 12))), (6, .int (nI k)), (5, .ref wa), (4, .int (nI fr)), (3, .int (nI (k_N M))), (0, .ref (ad 0)), (1, .ref si), (2, .int x)]) hx hb dL_act_62 hl (by decide) rfl (fun ls hl => ?_)
                refine lv_goto (tgt := 45) hx hb dL_act_64 (by decide) ?_
                exact ihd ((at9 + 1) % 12) (Nat.mod_lt _ (by decide)) (cy_s hat hf0 had) ls H locs (lv_sub hl [0, 1, 2, 3, 4, 5, 6, 7] rfl) hH hS
          refine lv_iload_n hx hb dL_act_29 rfl (lv_at hl 6 rfl) ?_
          refine lv_iconst (v := 2) hx hb dL_act_30 (by decide) ?_
          refine lv_iload hx hb dL_act_31 (lv_at hl 0 rfl) ?_
          refine lv_imul hx hb dL_act_33 ?_
          refine lv_ishr hx hb dL_act_34 ?_
          refine lv_iload hx hb dL_act_35 (lv_at hl 0 rfl) ?_
          refine lv_iadd hx hb dL_act_37 ?_
          refine lv_bipush (v := 12) hx hb dL_act_38 (by decide) ?_
          refine h_calli (va_runS (As := [.int ((x >>> ((2 * (nI k)) &&& 31)) + (nI k)), .int (nI 12)]) (rest := []) ⟨hx, hb, hml, hown, hts⟩ (c_l_below l D cs _ H.size _ 12 (by decide) (by decide)) (va_cwS 2 hts gL_act_L_below rfl rfl rfl (by decide +kernel) ⟨Nat.le_of_ble_eq_true rfl, Nat.le_of_ble_eq_true rfl⟩) (h_preS hK hN hH) rfl rfl hl.1 rfl (lv_room (Nat.le_of_ble_eq_true rfl)) dL_act_40 ⟨by first | exact Nat.le_of_ble_eq_true rfl | omega, by first | exact Nat.le_of_ble_eq_true rfl | omega⟩) hH hS hA (fun r9 u9 H locs hp hH hS => ?_)
          obtain ⟨hu, at9, hat, hr9⟩ := hp
          rw [hu] at hH
          rw [hr9]
          refine lv_istore (lv' := [(7, .int (nI at9)), (6, .int (nI k)), (5, .ref wa), (4, .int (nI fr)), (3, .int (nI (k_N M))), (0, .ref (ad 0)), (1, .ref si), (2, .int x)]) hx hb dL_act_43 hl (by decide) rfl (fun ls hl => ?_)
          exact seek ((f0 + 12 - at9) % 12) at9 hat (by omega) ls H locs (lv_sub hl [0, 1, 2, 3, 4, 5, 6, 7] rfl) hH hS
  refine loop 3 0 rfl (fun _ => 0) (fun j h => absurd h (Nat.not_lt_zero _)) ls H locs (lv_sub hl [0, 1, 2, 3, 4, 5, 6] rfl) hH hS
