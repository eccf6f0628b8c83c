/-- how many cells one standing may make, d places ahead -/
def sT : Nat → Nat
  | 0 => 0
  | d + 1 => 3 + 2 * sT d
theorem sT_mono {e : Nat} : ∀ d : Nat, e ≤ d → sT e ≤ sT d := by
  intro d
  induction d with
  | zero => intro h; rw [show e = 0 by omega]; exact Nat.le_refl _
  | succ d ih =>
    intro h
    rcases Nat.lt_or_ge e (d + 1) with c | c
    · have := ih (by omega)
      show sT e ≤ 3 + 2 * sT d
      omega
    · rw [show e = d + 1 by omega]; exact Nat.le_refl _
abbrev rm_stand (d : Nat) : Room := { frames := d + 2, cells := sT d, slots := 4 * sT d, locals := 4300 + 40 * d }
set_option maxHeartbeats 8000000 in
set_option maxRecDepth 100000 in
/-- a fold's forks are put into a row -/
theorem c_stand (l : Launch) (D : va_G) (cs : Nat → ClassId) (o : Nat → Nat) (ho : b_O o) : ∀ n d : Nat, d < n → d ≤ 8 → ∀ (C : hC) (sz : Nat) (r0 sa ia oa fa : Nat) (hsi : sa ≠ ia) (S I : Nat → Option Nat) (lr : List (Nat → Bool)) (hr : h_R cs C r0 sa ia S I lr) (O : Nat → Int32) (hoa : C oa = some (.inl (cs 0, 8, .inl O))) (hO : ∀ p : Nat, p < 8 → O p = nI (o p)) (F : Nat → Int64) (f : Nat → Bool) (hfa : C fa = some (.inl (cs 1, 4, .inr (.inl F)))) (hf : j_S F f) (hh : r_h o f (8 - d)) (hcap : (r_D o d lr f).length ≤ 80), Met l yX3_stand wsX3_stand (rm_stand d) (va_Pc [.ref r0, .ref fa, .ref oa, .int (nI (8 - d))] (hU D cs C sz)) (va_Qi (fun (r : Int32) (u : hC) => ∃ (S' I' : Nat → Option Nat), h_G cs o r0 sa ia (fun _ => False) C S I lr u S' I' (r_D o d lr f) ∧ r_c (r_D o d lr f) f r) (fun u t => h_H D (h_A C sz) u t.heap) (h_A C sz)) (sT d) (4 * sT d) (h_A C sz) := by
  intro n
  induction n with
  | zero => intro d h; omega
  | succ n ih =>
    intro d hdn hd C sz r0 sa ia oa fa hsi S I lr hr O hoa hO F f hfa hf hh hcap
    refine hMet_i (cc := cX3_stand) (maxL := 9) (by decide) rfl RX3 rfl (Nat.le_of_ble_eq_true rfl) (lv := [(0, .ref r0), (1, .ref fa), (2, .ref oa), (3, .int (nI (8 - d)))]) rfl ?_
    intro p e s m args below meth c Q A ls hsz C0 hH hS hl hret
    obtain ⟨hx, hb, hml, hts, hown, hlocks, hK, hN, hA, hargs⟩ := C0
    have hin3 : ∀ w ∈ u_ws RX3 TX3 3, w ∈ wsX3_stand := by decide +kernel
    have hr1 := hr
    obtain ⟨hr0, hsa, hia, h80, hsaid⟩ := hr1
    have hon : h_on C r0 sa ia := hr.on
    have new9 : f ∉ lr → ¬ r_l f → ∀ (ls : Array Slot) (H : Heap) (locs : List Loc), lv_has ls 9 [(5, .int (nI lr.length)), (4, .int 0), (0, .ref r0), (1, .ref fa), (2, .ref oa), (3, .int (nI (8 - d)))] → h_H D A C H → va_S A s.heap H locs → W p l e (rm_stand d) s m args below meth c H locs 0 0 Q (F0 m 49 ls []) := by
      intro hnin hnl ls H locs hl hH hS
      obtain ⟨p0, hp0, hq0⟩ := hh.top hnl
      have hd1 : 1 ≤ d := by have := hp0.1; omega
      obtain ⟨e0, he0⟩ : ∃ e0, d = e0 + 1 := ⟨d - 1, by omega⟩
      have hbig : r_D o d lr f = r_D o e0 (r_D o e0 (lr ++ [f]) (r_k o f 0)) (r_k o f 1) := by rw [he0]; exact r_D_out hnl hnin
      have h80n : lr.length < 80 := by
        have h1 : (lr ++ [f]).length ≤ (r_D o d lr f).length := by rw [hbig]; exact Nat.le_trans r_D_len r_D_len
        rw [List.length_append] at h1
        have h2 : [f].length = 1 := rfl
        omega
      have n_sr : sa ≠ r0 := fun h => by rw [h, hr0] at hsa; simp at hsa
      have n_ir : ia ≠ r0 := fun h => by rw [h, hr0] at hia; simp at hia
      have n_fr : fa ≠ r0 := fun h => by rw [h, hr0] at hfa; simp at hfa
      have n_fs : fa ≠ sa := fun h => by rw [h, hsa] at hfa; simp at hfa
      have n_fi : fa ≠ ia := fun h => by rw [h, hia] at hfa; simp at hfa
      have n_or : oa ≠ r0 := fun h => by rw [h, hr0] at hoa; simp at hoa
      have n_os : oa ≠ sa := fun h => by rw [h, hsa] at hoa; simp at hoa
      have n_oi : oa ≠ ia := fun h => by rw [h, hia] at hoa; simp at hoa
      refine lv_aload_n hx hb dX3_stand_49 rfl (lv_at hl 2 rfl) ?_
      refine h_get (v := .int (nI lr.length)) (C0 := RX3) (T := TX3) (N := 3) hx hb hts hin3 hown hK.1 hH hr0 rfl 0 (by decide) rfl (by decide +kernel) rfl dX3_stand_50 ?_
      refine lv_istore (lv' := [(5, .int (nI lr.length)), (4, .int 0), (0, .ref r0), (1, .ref fa), (2, .ref oa), (3, .int (nI (8 - d)))]) hx hb dX3_stand_53 hl (by decide) rfl (fun ls hl => ?_)
      refine lv_aload_n hx hb dX3_stand_55 rfl (lv_at hl 2 rfl) ?_
      refine h_get (v := .ref sa) (C0 := RX3) (T := TX3) (N := 3) hx hb hts hin3 hown hK.1 hH hr0 rfl 1 (by decide) rfl (by decide +kernel) rfl dX3_stand_56 ?_
      refine lv_iload hx hb dX3_stand_59 (lv_at hl 0 rfl) ?_
      refine lv_aload_n hx hb dX3_stand_61 rfl (lv_at hl 3 rfl) ?_
      refine h_aast hx hb hH hS hsa (h_okA hH hK.2.1 hfa) lr.length h80n (by decide) rfl dX3_stand_62 (fun H locs hH hS => ?_)
      have g1 := (h_U_ne (C := C) (e := .inl (cs 2, 80, .inr (.inr (.inr (.inr (va_up S lr.length (some fa))))))) (Ne.symm n_sr)).trans hr0
      refine lv_aload_n hx hb dX3_stand_63 rfl (lv_at hl 2 rfl) ?_
      refine lv_dup hx hb dX3_stand_64 rfl ?_
      refine h_get (v := .int (nI lr.length)) (C0 := RX3) (T := TX3) (N := 3) hx hb hts hin3 hown hK.1 hH g1 rfl 0 (by decide) rfl (by decide +kernel) rfl dX3_stand_65 ?_
      refine lv_iconst (v := 1) hx hb dX3_stand_68 (by decide) ?_
      refine lv_iadd hx hb dX3_stand_69 ?_
      rw [nI_1]
      refine h_put (ty := .int) (n0 := "size") (d0 := "I") hx hb hts hin3 tyX3 tyX3_ok nmX3 hown hK.1 hH hS g1 rfl 0 (by decide) rfl (by decide +kernel) (by decide +kernel) rfl rfl (Nat.le_of_ble_eq_true rfl) dX3_stand_70 (fun H locs hH hS => ?_)
      obtain ⟨C2, hC2⟩ : ∃ C2 : hC, C2 = h_U (h_U C sa (.inl (cs 2, 80, .inr (.inr (.inr (.inr (va_up S lr.length (some fa)))))))) r0 (.inr (3, [.int (nI (lr.length + 1)), .ref sa, .ref ia])) := ⟨_, rfl⟩
      have hH : h_H D A C2 H := by rw [hC2]; exact hH
      have c2r : C2 r0 = some (.inr (3, [.int (nI (lr.length + 1)), .ref sa, .ref ia])) := by rw [hC2]; exact h_U_at
      have c2s : C2 sa = some (.inl (cs 2, 80, .inr (.inr (.inr (.inr (va_up S lr.length (some fa))))))) := by rw [hC2]; exact (h_U_ne n_sr).trans h_U_at
      have c2i : C2 ia = some (.inl (cs 3, 80, .inr (.inr (.inr (.inr I))))) := by rw [hC2]; exact (h_U_ne n_ir).trans ((h_U_ne (Ne.symm hsi)).trans hia)
      have c2f : C2 fa = some (.inl (cs 1, 4, .inr (.inl F))) := by rw [hC2]; exact (h_U_ne n_fr).trans ((h_U_ne n_fs).trans hfa)
      have c2o : C2 oa = some (.inl (cs 0, 8, .inl O)) := by rw [hC2]; exact (h_U_ne n_or).trans ((h_U_ne n_os).trans hoa)
      have c2k : ∀ b : Nat, b ≠ r0 → b ≠ sa → C2 b = C b := fun b b1 b2 => by rw [hC2, h_U_ne b1, h_U_ne b2]
      have c2n : ∀ b : Nat, C b ≠ none → C2 b ≠ none := fun b hb9 => by
        by_cases c1 : b = r0
        · rw [c1, c2r]; simp
        · by_cases c2 : b = sa
          · rw [c2, c2s]; simp
          · rw [c2k b c1 c2]; exact hb9
      clear hC2
      refine lv_iload_n hx hb dX3_stand_73 rfl (lv_at hl 5 rfl) ?_
      refine lv_istore (lv' := [(6, .int (nI (8 - d))), (5, .int (nI lr.length)), (4, .int 0), (0, .ref r0), (1, .ref fa), (2, .ref oa), (3, .int (nI (8 - d)))]) hx hb dX3_stand_74 hl (by decide) rfl (fun ls hl => ?_)
      have place9 : ∀ (e9 p9 : Nat), p9 + e9 = 8 → e9 ≤ d → b_i o f p9 → ∀ (CC : hC) (ls : Array Slot) (H : Heap) (locs : List Loc), lv_has ls 9 [(6, .int (nI p9)), (5, .int (nI lr.length)), (4, .int 0), (0, .ref r0), (1, .ref fa), (2, .ref oa), (3, .int (nI (8 - d)))] → h_H D A CC H → va_S A s.heap H locs → (∀ b : Nat, C2 b ≠ none → CC b = C2 b) → W p l e (rm_stand d) s m args below meth c H locs (sT d - sT e9) (4 * (sT d - sT e9)) Q (F0 m 76 ls []) := by
        intro e9
        induction e9 with
        | zero =>
          intro p9 hp9 _ hi
          rw [show p9 = 8 by omega] at hi
          exact absurd (b_const ho hf.1 hi) hnl
        | succ e9 ih9 =>
          intro p9 hp9 he9 hi CC ls H locs hl hH hS hk
          have p8 : p9 < 8 := by omega
          have hs1 : sT (e9 + 1) = 3 + 2 * sT e9 := rfl
          have hs2 : sT (e9 + 1) ≤ sT d := sT_mono d he9
          have gr := (hk r0 (fun h => by rw [c2r] at h; cases h)).trans c2r
          have gs := (hk sa (fun h => by rw [c2s] at h; cases h)).trans c2s
          have gi := (hk ia (fun h => by rw [c2i] at h; cases h)).trans c2i
          have gf := (hk fa (fun h => by rw [c2f] at h; cases h)).trans c2f
          have go := (hk oa (fun h => by rw [c2o] at h; cases h)).trans c2o
          refine lv_iload hx hb dX3_stand_76 (lv_at hl 0 rfl) ?_
          refine lv_bipush (v := 8) hx hb dX3_stand_78 (by decide) ?_
          refine lv_icmp_ge (tgt := 197) hx hb dX3_stand_80 (by decide) (fun c1 => ?_) (fun c1 => ?_)
          · exact absurd c1 (nI_ge (b := 8) (by omega) (by omega))
          · skip
            refine lv_aload_n hx hb dX3_stand_83 rfl (lv_at hl 4 rfl) ?_
            refine lv_aload_n hx hb dX3_stand_84 rfl (lv_at hl 5 rfl) ?_
            refine lv_iload hx hb dX3_stand_85 (lv_at hl 0 rfl) ?_
            refine h_iald hx hb hK.1 hH go 0 rfl p9 p8 (by decide) rfl dX3_stand_87 ?_
            rw [hO p9 p8]
            refine lv_iconst (v := 0) hx hb dX3_stand_88 (by decide) ?_
            refine h_calla (va_runSN (As := [.ref fa, .int (nI (o p9)), .int (nI 0)]) (rest := []) (own := RX3) (host := "SharedForksLaw") ⟨hx, hb, hml, hown, hts⟩ (c_l_given l D cs CC H.size fa F f gf hf (o p9) 0 (ho.1 p9 p8) (by decide)) ⟨va_cnB 3 hts gX3_stand_L_given_n35 rfl rfl rfl (hN.1 (.methodLinkNest RX3 35 yL_given "SharedForksLaw") (by decide +kernel)) (hts (.initialized yL_given.cls) (by decide +kernel)) (by decide +kernel) ⟨show 1 + 1 ≤ d + 2 by omega, show 8 + (5 + 11) + 4100 ≤ 4300 + 40 * d by omega⟩, hts (.static yL_given) (by decide +kernel), trivial⟩ (h_preS hK hN hH) rfl rfl hl.1 rfl (lv_room (Nat.le_of_ble_eq_true rfl)) dX3_stand_89 ⟨show sT d - sT (e9 + 1) + 1 ≤ sT d by omega, show 4 * (sT d - sT (e9 + 1)) + 4 ≤ 4 * sT d by omega⟩) hH hS hA (fun q1 u H locs hp hH hS => ?_)
            obtain ⟨hq1, F1, hF1, rfl⟩ := hp
            have gf1 := (h_U_ne (e := .inl (cs 1, 4, .inr (.inl F1))) (h_ne gf hq1)).trans gf
            have go1 := (h_U_ne (e := .inl (cs 1, 4, .inr (.inl F1))) (h_ne go hq1)).trans go
            refine lv_astore (lv' := [(7, .ref q1), (6, .int (nI p9)), (5, .int (nI lr.length)), (4, .int 0), (0, .ref r0), (1, .ref fa), (2, .ref oa), (3, .int (nI (8 - d)))]) hx hb dX3_stand_92 hl (by decide) rfl (fun ls hl => ?_)
            refine lv_aload_n hx hb dX3_stand_94 rfl (lv_at hl 5 rfl) ?_
            refine lv_aload_n hx hb dX3_stand_95 rfl (lv_at hl 6 rfl) ?_
            refine lv_iload hx hb dX3_stand_96 (lv_at hl 1 rfl) ?_
            refine h_iald hx hb hK.1 hH go1 0 rfl p9 p8 (by decide) rfl dX3_stand_98 ?_
            rw [hO p9 p8]
            refine lv_iconst (v := 1) hx hb dX3_stand_99 (by decide) ?_
            refine h_calla (va_runSN (As := [.ref fa, .int (nI (o p9)), .int (nI 1)]) (rest := []) (own := RX3) (host := "SharedForksLaw") ⟨hx, hb, hml, hown, hts⟩ (c_l_given l D cs _ H.size fa F f gf1 hf (o p9) 1 (ho.1 p9 p8) (by decide)) ⟨va_cnB 3 hts gX3_stand_L_given_n35 rfl rfl rfl (hN.1 (.methodLinkNest RX3 35 yL_given "SharedForksLaw") (by decide +kernel)) (hts (.initialized yL_given.cls) (by decide +kernel)) (by decide +kernel) ⟨show 1 + 1 ≤ d + 2 by omega, show 8 + (5 + 11) + 4100 ≤ 4300 + 40 * d by omega⟩, hts (.static yL_given) (by decide +kernel), trivial⟩ (h_preS hK hN hH) rfl rfl hl.1 rfl (lv_room (Nat.le_of_ble_eq_true rfl)) dX3_stand_100 ⟨show sT d - sT (e9 + 1) + 1 + 1 ≤ sT d by omega, show 4 * (sT d - sT (e9 + 1)) + 4 + 4 ≤ 4 * sT d by omega⟩) hH hS hA (fun q2 u H locs hp hH hS => ?_)
            obtain ⟨hq2, F2, hF2, rfl⟩ := hp
            have n_12 : q1 ≠ q2 := h_ne h_U_at hq2
            have gq1 := (h_U_ne (C := h_U CC q1 (.inl (cs 1, 4, .inr (.inl F1)))) (e := .inl (cs 1, 4, .inr (.inl F2))) n_12).trans h_U_at
            have gq2 := h_U_at (C := h_U CC q1 (.inl (cs 1, 4, .inr (.inl F1)))) (a := q2) (e := .inl (cs 1, 4, .inr (.inl F2)))
            obtain ⟨CD, hCD⟩ : ∃ CD : hC, CD = h_U (h_U CC q1 (.inl (cs 1, 4, .inr (.inl F1)))) q2 (.inl (cs 1, 4, .inr (.inl F2))) := ⟨_, rfl⟩
            rw [← hCD] at gq1 gq2 hH
            have hkD : ∀ b : Nat, CC b ≠ none → CD b = CC b := fun b hb9 => by
              have b1 : b ≠ q1 := fun h => hb9 (by rw [h]; exact hq1)
              have b2 : b ≠ q2 := fun h => by rw [h, ← h_U_ne (C := CC) (a := q1) (e := .inl (cs 1, 4, .inr (.inl F1))) (fun h2 => n_12 h2.symm), hq2] at hb9; exact hb9 rfl
              rw [hCD, h_U_ne b2, h_U_ne b1]
            clear hCD
            have hk2 : ∀ b : Nat, C2 b ≠ none → CD b = C2 b := fun b hb9 => (hkD b (by rw [hk b hb9]; exact hb9)).trans (hk b hb9)
            have kr := (hk2 r0 (fun h => by rw [c2r] at h; cases h)).trans c2r
            have ks := (hk2 sa (fun h => by rw [c2s] at h; cases h)).trans c2s
            have ki := (hk2 ia (fun h => by rw [c2i] at h; cases h)).trans c2i
            have kf := (hk2 fa (fun h => by rw [c2f] at h; cases h)).trans c2f
            have ko := (hk2 oa (fun h => by rw [c2o] at h; cases h)).trans c2o
            refine lv_astore (lv' := [(8, .ref q2), (7, .ref q1), (6, .int (nI p9)), (5, .int (nI lr.length)), (4, .int 0), (0, .ref r0), (1, .ref fa), (2, .ref oa), (3, .int (nI (8 - d)))]) hx hb dX3_stand_103 hl (by decide) rfl (fun ls hl => ?_)
            refine lv_aload hx hb dX3_stand_105 (lv_at hl 1 rfl) ?_
            refine lv_aload hx hb dX3_stand_107 (lv_at hl 0 rfl) ?_
            refine h_calli (va_runSN (As := [.ref q1, .ref q2]) (rest := []) (own := RX3) (host := "SharedForksLaw") ⟨hx, hb, hml, hown, hts⟩ (c_l_alike l D cs CD H.size q1 q2 F1 F2 _ _ gq1 gq2 hF1 hF2) ⟨va_cnB 2 hts gX3_stand_L_alike_n31 rfl rfl rfl (hN.1 (.methodLinkNest RX3 31 yL_alike "SharedForksLaw") (by decide +kernel)) (hts (.initialized yL_alike.cls) (by decide +kernel)) (by decide +kernel) ⟨show 0 + 1 ≤ d + 2 by omega, show 8 + (2 + 11) + 4000 ≤ 4300 + 40 * d by omega⟩, hts (.static yL_alike) (by decide +kernel), trivial⟩ (h_preS hK hN hH) rfl rfl hl.1 rfl (lv_room (Nat.le_of_ble_eq_true rfl)) dX3_stand_109 ⟨show sT d - sT (e9 + 1) + 1 + 1 + 0 ≤ sT d by omega, show 4 * (sT d - sT (e9 + 1)) + 4 + 4 + 0 ≤ 4 * sT d by omega⟩) hH hS hA (fun r u H locs hp hH hS => ?_)
            obtain ⟨hu, hr9⟩ := hp
            rw [hu] at hH
            rcases hr9 with ⟨hv, he⟩ | ⟨hv, he⟩
            · skip
              rw [hv]
              refine lv_if_eq (tgt := 118) hx hb dX3_stand_112 (by decide) (fun c2 => ?_) (fun c2 => ?_)
              · exact absurd c2 (by decide)
              · skip
                refine lv_goto (tgt := 191) hx hb dX3_stand_115 (by decide) ?_
                refine lv_iinc (v := nI (p9 + 1)) (lv' := [(6, .int (nI (p9 + 1))), (8, .ref q2), (7, .ref q1), (5, .int (nI lr.length)), (4, .int 0), (0, .ref r0), (1, .ref fa), (2, .ref oa), (3, .int (nI (8 - d)))]) hx hb dX3_stand_191 hl (k := 2) rfl (nI_1 p9) (by decide) rfl (fun ls hl => ?_)
                refine lv_goto (tgt := 76) hx hb dX3_stand_194 (by decide) ?_
                refine W.widen (k := sT d - sT e9) (n := 4 * (sT d - sT e9)) (show sT d - sT (e9 + 1) + 1 + 1 + 0 ≤ sT d - sT e9 by omega) (show 4 * (sT d - sT (e9 + 1)) + 4 + 4 + 0 ≤ 4 * (sT d - sT e9) by omega) ?_
                refine ih9 (p9 + 1) (by omega) (by omega) (fun p1 hp1 => ?_) CD ls H locs (lv_sub hl [0, 3, 4, 5, 6, 7, 8] rfl) hH hS hk2
                rcases Nat.lt_or_ge p1 p9 with h | h
                · exact hi p1 h
                · rw [show p1 = p9 by omega]; exact fun h9 => h9 he
            · skip
              rw [hv]
              refine lv_if_eq (tgt := 118) hx hb dX3_stand_112 (by decide) (fun c2 => ?_) (fun c2 => ?_)
              · skip
                have hA9 : b_A o f p9 := ⟨p8, hi, he⟩
                have ek0 : r_k o f 0 = b_c f (o p9) 0 := r_k_eq hA9
                have ek1 : r_k o f 1 = b_c f (o p9) 1 := r_k_eq hA9
                have hh0 : r_h o (b_c f (o p9) 0) (8 - e9) := by rw [← ek0]; exact (r_h.kid ho hf.1 hA9 (by decide)).mono (by omega)
                have hh1 : r_h o (b_c f (o p9) 1) (8 - e9) := by rw [← ek1]; exact (r_h.kid ho hf.1 hA9 (by decide)).mono (by omega)
                rw [ek0, ek1, r_D_st ho e9 (by omega) _ _ hh0 e0 (by omega), r_D_st ho e9 (by omega) _ _ hh1 e0 (by omega)] at hbig
                refine lv_aload_n hx hb dX3_stand_118 rfl (lv_at hl 5 rfl) ?_
                refine h_get (v := .ref ia) (C0 := RX3) (T := TX3) (N := 3) hx hb hts hin3 hown hK.1 hH kr rfl 2 (by decide) rfl (by decide +kernel) rfl dX3_stand_119 ?_
                refine lv_iload hx hb dX3_stand_122 (lv_at hl 3 rfl) ?_
                refine lv_iconst (v := 4) hx hb dX3_stand_124 (by decide) ?_
                refine h_newa (atype := .int) (ty := .int) (a0 := (4, .inl (fun _ => 0))) (cA := cs 0) hx hb (hts (.arrayClass .int) (by decide +kernel)) rfl (fun _ h => by cases h) hK.1 hH hS hA 0 rfl (N' := 4) (fun _ => rfl) (by decide) (by decide) (by decide) (show sT d - sT (e9 + 1) + 1 + 1 + 0 + 1 ≤ sT d by omega) (show 4 * (sT d - sT (e9 + 1)) + 4 + 4 + 0 + 4 ≤ 4 * sT d by omega) dX3_stand_125 (fun q3 H hq3 hH hS => ?_)
                have ko1 := (h_U_ne (e := .inl (cs 0, 4, .inl (fun _ => 0))) (h_ne ko hq3)).trans ko
                refine lv_dup hx hb dX3_stand_127 rfl ?_
                refine lv_iconst (v := 0) hx hb dX3_stand_128 (by decide) ?_
                refine lv_aload_n hx hb dX3_stand_129 rfl (lv_at hl 7 rfl) ?_
                refine lv_iload hx hb dX3_stand_130 (lv_at hl 2 rfl) ?_
                refine h_iald hx hb hK.1 hH ko1 0 rfl p9 p8 (by decide) rfl dX3_stand_132 ?_
                rw [hO p9 p8]
                refine h_iast hx hb hK.1 hH hS (h_U_at (e := .inl (cs 0, 4, .inl (fun _ => 0)))) 0 rfl 0 (by decide) (by decide) rfl dX3_stand_133 (fun H locs hH hS => ?_)
                rw [h_U_U] at hH
                refine lv_dup hx hb dX3_stand_134 rfl ?_
                refine lv_iconst (v := 1) hx hb dX3_stand_135 (by decide) ?_
                refine lv_iconst (v := 0) hx hb dX3_stand_136 (by decide) ?_
                refine h_iast hx hb hK.1 hH hS (h_U_at (e := .inl (cs 0, 4, .inl (upd (fun _ => 0) 0 (nI (o p9)))))) 0 rfl 1 (by decide) (by decide) rfl dX3_stand_137 (fun H locs hH hS => ?_)
                rw [h_U_U] at hH
                refine lv_dup hx hb dX3_stand_138 rfl ?_
                refine lv_iconst (v := 2) hx hb dX3_stand_139 (by decide) ?_
                refine lv_iconst (v := 0) hx hb dX3_stand_140 (by decide) ?_
                refine h_iast hx hb hK.1 hH hS (h_U_at (e := .inl (cs 0, 4, .inl (upd (upd (fun _ => 0) 0 (nI (o p9))) 1 0)))) 0 rfl 2 (by decide) (by decide) rfl dX3_stand_141 (fun H locs hH hS => ?_)
                rw [h_U_U] at hH
                refine lv_dup hx hb dX3_stand_142 rfl ?_
                refine lv_iconst (v := 3) hx hb dX3_stand_143 (by decide) ?_
                refine lv_bipush (v := 99) hx hb dX3_stand_144 (by decide) ?_
                refine h_iast hx hb hK.1 hH hS (h_U_at (e := .inl (cs 0, 4, .inl (upd (upd (upd (fun _ => 0) 0 (nI (o p9))) 1 0) 2 0)))) 0 rfl 3 (by decide) (by decide) rfl dX3_stand_146 (fun H locs hH hS => ?_)
                rw [h_U_U] at hH
                obtain ⟨X0, hX0⟩ : ∃ X0 : Nat → Int32, X0 = (upd (upd (upd (upd (fun _ => 0) 0 (nI (o p9))) 1 0) 2 0) 3 99) := ⟨_, rfl⟩
                rw [← hX0] at hH
                have x0 : X0 0 = nI (o p9) := by rw [hX0]; rfl
                have x3 : X0 3 = 99 := by rw [hX0]; rfl
                clear hX0
                have n_i3 : ia ≠ q3 := h_ne ki hq3
                have ki1 := (h_U_ne (e := .inl (cs 0, 4, .inl X0)) n_i3).trans ki
                refine h_aast hx hb hH hS ki1 (h_okA hH hK.2.2 h_U_at) lr.length h80n (by decide) rfl dX3_stand_147 (fun H locs hH hS => ?_)
                obtain ⟨CA, hCA⟩ : ∃ CA : hC, CA = h_U (h_U CD q3 (.inl (cs 0, 4, .inl X0))) ia (.inl (cs 3, 80, .inr (.inr (.inr (.inr (va_up I lr.length (some q3))))))) := ⟨_, rfl⟩
                rw [← hCA] at hH
                have caK : ∀ b : Nat, CD b ≠ none → b ≠ ia → CA b = CD b := fun b hb9 b1 => by rw [hCA, h_U_ne b1, h_U_ne (fun h => hb9 (by rw [h]; exact hq3))]
                have cai : CA ia = some (.inl (cs 3, 80, .inr (.inr (.inr (.inr (va_up I lr.length (some q3))))))) := by rw [hCA]; exact h_U_at
                have ca3 : CA q3 = some (.inl (cs 0, 4, .inl X0)) := by rw [hCA, h_U_ne (Ne.symm n_i3)]; exact h_U_at
                clear hCA
                have off9 : ∀ b : Nat, CD b = none → C b = none := fun b hb9 => by
                  cases hc : C b with
                  | none => rfl
                  | some x => exact absurd ((hk2 b (c2n b (by rw [hc]; simp))).symm.trans hb9) (c2n b (by rw [hc]; simp))
                have hG0 : h_G cs o r0 sa ia (fun i => i = lr.length) C S I lr CA (va_up S lr.length (some fa)) (va_up I lr.length (some q3)) (lr ++ [f]) := by
                  refine h_G.push hr hfa hf h80n (off9 q3 hq3) ?_ ?_ cai ca3 (fun b b0 b1 b2 b3 => ?_)
                  · rw [caK r0 (by rw [kr]; simp) (Ne.symm n_ir)]; exact kr
                  · rw [caK sa (by rw [ks]; simp) hsi]; exact ks
                  · have e1 := hk2 b (c2n b b0)
                    have e2 := c2k b b1 b2
                    rw [caK b (by rw [e1, e2]; exact b0) b3, e1, e2]
                refine lv_aload_n hx hb dX3_stand_148 rfl (lv_at hl 5 rfl) ?_
                refine h_get (v := .ref ia) (C0 := RX3) (T := TX3) (N := 3) hx hb hts hin3 hown hK.1 hH hG0.1.1 rfl 2 (by decide) rfl (by decide +kernel) rfl dX3_stand_149 ?_
                refine lv_iload hx hb dX3_stand_152 (lv_at hl 3 rfl) ?_
                refine h_aald hx hb hH hK.2.2.1 rfl cai lr.length h80n (by decide) rfl dX3_stand_154 ?_
                rw [va_up_self]
                refine lv_iconst (v := 1) hx hb dX3_stand_155 (by decide) ?_
                refine lv_aload_n hx hb dX3_stand_156 rfl (lv_at hl 5 rfl) ?_
                refine lv_aload hx hb dX3_stand_157 (lv_at hl 1 rfl) ?_
                refine lv_aload_n hx hb dX3_stand_159 rfl (lv_at hl 7 rfl) ?_
                refine lv_iload hx hb dX3_stand_160 (lv_at hl 2 rfl) ?_
                refine lv_iconst (v := 1) hx hb dX3_stand_162 (by decide) ?_
                refine lv_iadd hx hb dX3_stand_163 ?_
                rw [nI_1, show p9 + 1 = 8 - e9 by omega]
                have cq1 : CA q1 = some (.inl (cs 1, 4, .inr (.inl F1))) := by rw [caK q1 (by rw [gq1]; simp) (fun h => by rw [h, ki] at gq1; simp at gq1)]; exact gq1
                have cq2 : CA q2 = some (.inl (cs 1, 4, .inr (.inl F2))) := by rw [caK q2 (by rw [gq2]; simp) (fun h => by rw [h, ki] at gq2; simp at gq2)]; exact gq2
                have cqo : CA oa = some (.inl (cs 0, 8, .inl O)) := by rw [caK oa (by rw [ko]; simp) n_oi]; exact ko
                have cap1 : (r_D o e9 (lr ++ [f]) (b_c f (o p9) 0)).length ≤ 80 := Nat.le_trans r_D_len (by rw [← hbig]; exact hcap)
                have cap2 : (r_D o e9 (r_D o e9 (lr ++ [f]) (b_c f (o p9) 0)) (b_c f (o p9) 1)).length ≤ 80 := by rw [← hbig]; exact hcap
                refine h_calli (va_runV (As := [.ref q1, .ref oa, .int (nI (8 - e9))]) (rest := [.int 1, .ref q3]) ⟨hx, hb, hml, hown, hts⟩ (ih e9 (by omega) (by omega) CA H.size r0 sa ia oa q1 hsi _ _ (lr ++ [f]) hG0.1 O cqo hO F1 _ cq1 hF1 hh0 cap1) (cwV 3 hts gX3_stand_X3_stand rfl rfl rfl (by decide +kernel) ⟨show e9 + 2 + 1 ≤ d + 2 by omega, show 8 + (9 + 11) + (4300 + 40 * e9) ≤ 4300 + 40 * d by omega⟩) (h_preV hK hN hH hG0.1.1 rfl) rfl rfl hl.1 rfl (lv_room (Nat.le_of_ble_eq_true rfl)) dX3_stand_164 ⟨show sT d - sT (e9 + 1) + 1 + 1 + 0 + 1 + sT e9 ≤ sT d by omega, show 4 * (sT d - sT (e9 + 1)) + 4 + 4 + 0 + 4 + 4 * sT e9 ≤ 4 * sT d by omega⟩) hH hS hA (fun r1 C1 H locs hp hH hS => ?_)
                obtain ⟨S1, I1, hG1, hx1⟩ := hp
                have hGa := hG0.tr hon hG1
                have u3 : C1 q3 = some (.inl (cs 0, 4, .inl X0)) := (hG1.2.2.2.1 q3 (by rw [ca3]; simp) (fun h => by rw [h, hG0.1.1] at ca3; simp at ca3) (fun h => by rw [h, hG0.1.2.1] at ca3; simp at ca3) (Ne.symm n_i3)).trans ca3
                have u2 : C1 q2 = some (.inl (cs 1, 4, .inr (.inl F2))) := (hG1.2.2.2.1 q2 (by rw [cq2]; simp) (fun h => by rw [h, hG0.1.1] at cq2; simp at cq2) (fun h => by rw [h, hG0.1.2.1] at cq2; simp at cq2) (fun h => by rw [h, cai] at cq2; simp at cq2)).trans cq2
                have uo : C1 oa = some (.inl (cs 0, 8, .inl O)) := (hG1.2.2.2.1 oa (by rw [cqo]; simp) n_or n_os n_oi).trans cqo
                have hI1 : I1 lr.length = some q3 := (hG1.2.2.1 lr.length (by rw [List.length_append]; exact Nat.lt_succ_self _)).2.trans (va_up_self _ _ _)
                obtain ⟨t1, ht1⟩ := hG1.2.1
                have hat1 : (r_D o e9 (lr ++ [f]) (b_c f (o p9) 0))[lr.length]? = some f := by rw [ht1, List.getElem?_append_left (by rw [List.length_append]; exact Nat.lt_succ_self _)]; exact app_last
                refine h_iast hx hb hK.1 hH hS u3 0 rfl 1 (by decide) (by decide) rfl dX3_stand_167 (fun H locs hH hS => ?_)
                have hGb := hGa.put hon (Op' := fun i => i = lr.length) (Nat.le_refl _) hat1 hI1 (X := upd X0 1 r1) (fun i _ h => h) (fun h => absurd rfl h)
                refine lv_aload_n hx hb dX3_stand_168 rfl (lv_at hl 5 rfl) ?_
                refine h_get (v := .ref ia) (C0 := RX3) (T := TX3) (N := 3) hx hb hts hin3 hown hK.1 hH hGb.1.1 rfl 2 (by decide) rfl (by decide +kernel) rfl dX3_stand_169 ?_
                refine lv_iload hx hb dX3_stand_172 (lv_at hl 3 rfl) ?_
                refine h_aald hx hb hH hK.2.2.1 rfl hGb.1.2.2.1 lr.length h80n (by decide) rfl dX3_stand_174 ?_
                rw [hI1]
                refine lv_iconst (v := 2) hx hb dX3_stand_175 (by decide) ?_
                refine lv_aload_n hx hb dX3_stand_176 rfl (lv_at hl 5 rfl) ?_
                refine lv_aload hx hb dX3_stand_177 (lv_at hl 0 rfl) ?_
                refine lv_aload_n hx hb dX3_stand_179 rfl (lv_at hl 7 rfl) ?_
                refine lv_iload hx hb dX3_stand_180 (lv_at hl 2 rfl) ?_
                refine lv_iconst (v := 1) hx hb dX3_stand_182 (by decide) ?_
                refine lv_iadd hx hb dX3_stand_183 ?_
                rw [nI_1, show p9 + 1 = 8 - e9 by omega]
                have v2 := (h_U_ne (e := .inl (cs 0, 4, .inl (upd X0 1 r1))) (fun h : q2 = q3 => by rw [h, u3] at u2; simp at u2)).trans u2
                have vo := (h_U_ne (e := .inl (cs 0, 4, .inl (upd X0 1 r1))) (fun h : oa = q3 => by rw [h, u3] at uo; simp at uo)).trans uo
                refine h_calli (va_runV (As := [.ref q2, .ref oa, .int (nI (8 - e9))]) (rest := [.int 2, .ref q3]) ⟨hx, hb, hml, hown, hts⟩ (ih e9 (by omega) (by omega) _ H.size r0 sa ia oa q2 hsi _ _ _ hGb.1 O vo hO F2 _ v2 hF2 hh1 cap2) (cwV 3 hts gX3_stand_X3_stand rfl rfl rfl (by decide +kernel) ⟨show e9 + 2 + 1 ≤ d + 2 by omega, show 8 + (9 + 11) + (4300 + 40 * e9) ≤ 4300 + 40 * d by omega⟩) (h_preV hK hN hH hGb.1.1 rfl) rfl rfl hl.1 rfl (lv_room (Nat.le_of_ble_eq_true rfl)) dX3_stand_184 ⟨show sT d - sT (e9 + 1) + 1 + 1 + 0 + 1 + sT e9 + sT e9 ≤ sT d by omega, show 4 * (sT d - sT (e9 + 1)) + 4 + 4 + 0 + 4 + 4 * sT e9 + 4 * sT e9 ≤ 4 * sT d by omega⟩) hH hS hA (fun r2 C3 H locs hp hH hS => ?_)
                obtain ⟨S2, I2, hG2, hx2⟩ := hp
                have hGc := hGb.tr hon hG2
                have n_3r : q3 ≠ r0 := fun h => by rw [h, hG0.1.1] at ca3; simp at ca3
                have n_3s : q3 ≠ sa := fun h => by rw [h, hG0.1.2.1] at ca3; simp at ca3
                have w3 : C3 q3 = some (.inl (cs 0, 4, .inl (upd X0 1 r1))) := (hG2.2.2.2.1 q3 (by rw [h_U_at]; simp) n_3r n_3s (Ne.symm n_i3)).trans h_U_at
                have hl1 : lr.length < (r_D o e9 (lr ++ [f]) (b_c f (o p9) 0)).length := get_lt hat1
                have hI2 : I2 lr.length = some q3 := (hG2.2.2.1 lr.length hl1).2.trans hI1
                obtain ⟨t2, ht2⟩ := hG2.2.1
                have hat2 : (r_D o e9 (r_D o e9 (lr ++ [f]) (b_c f (o p9) 0)) (b_c f (o p9) 1))[lr.length]? = some f := by rw [ht2, List.getElem?_append_left hl1]; exact hat1
                refine h_iast hx hb hK.1 hH hS w3 0 rfl 2 (by decide) (by decide) rfl dX3_stand_187 (fun H locs hH hS => ?_)
                have hGd : h_G cs o r0 sa ia (fun _ => False) C S I lr (h_U C3 q3 (.inl (cs 0, 4, .inl (upd (upd X0 1 r1) 2 r2)))) S2 I2 (r_D o e9 (r_D o e9 (lr ++ [f]) (b_c f (o p9) 0)) (b_c f (o p9) 1)) := by
                  refine hGc.put hon (Op' := fun _ => False) (Nat.le_refl _) hat2 hI2 (X := upd (upd X0 1 r1) 2 r2) (fun i hi _ h => hi h) (fun _ => ⟨?_, ?_, ?_, ?_⟩)
                  · show X0 0 = _
                    rw [x0, t_q, r_p_eq hA9]
                  · rw [ek0]; exact hx1.more ⟨t2, ht2⟩
                  · rw [ek1]; exact hx2
                  · exact x3
                refine lv_goto (tgt := 197) hx hb dX3_stand_188 (by decide) ?_
                refine lv_iload hx hb dX3_stand_197 (lv_at hl 3 rfl) ?_
                refine hret 199 ls _ _ _ _ _ _ dX3_stand_199 (show sT d - sT (e9 + 1) + 1 + 1 + 0 + 1 + sT e9 + sT e9 ≤ sT d by omega) (show 4 * (sT d - sT (e9 + 1)) + 4 + 4 + 0 + 4 + 4 * sT e9 + 4 * sT e9 ≤ 4 * sT d by omega) ⟨S2, I2, ?_, ?_⟩ hH hS
                · rw [hbig]; exact hGd
                · rw [hbig]; exact Or.inr (Or.inr ⟨lr.length, hat2, rfl⟩)
              · exact absurd rfl c2
      refine W.widen (k := sT d - sT d) (n := 4 * (sT d - sT d)) (Nat.zero_le _) (Nat.zero_le _) ?_
      refine place9 d (8 - d) (by omega) (Nat.le_refl d) (fun p1 hp1 h9 => ?_) C2 ls H locs (lv_sub hl [0, 1, 2, 3, 4, 5, 6] rfl) hH hS (fun _ _ => rfl)
      exact absurd h9 (hp0.2.1 p1 (by omega))
    have loop : ¬ r_l f → ∀ q9 k : Nat, k + q9 = lr.length → (∀ i : Nat, i < k → lr[i]? ≠ some f) → ∀ (ls : Array Slot) (H : Heap) (locs : List Loc), lv_has ls 9 [(5, .int (nI k)), (4, .int 0), (0, .ref r0), (1, .ref fa), (2, .ref oa), (3, .int (nI (8 - d)))] → h_H D A C H → va_S A s.heap H locs → W p l e (rm_stand d) s m args below meth c H locs 0 0 Q (F0 m 17 ls []) := by
      intro hnl q9
      induction q9 with
      | zero =>
        intro k hk hno ls H locs hl hH hS
        obtain rfl : k = lr.length := by omega
        refine lv_iload hx hb dX3_stand_17 (lv_at hl 0 rfl) ?_
        refine lv_aload_n hx hb dX3_stand_19 rfl (lv_at hl 2 rfl) ?_
        refine h_get (v := .int (nI lr.length)) (C0 := RX3) (T := TX3) (N := 3) hx hb hts hin3 hown hK.1 hH hr0 rfl 0 (by decide) rfl (by decide +kernel) rfl dX3_stand_20 ?_
        refine lv_icmp_ge (tgt := 49) hx hb dX3_stand_23 (by decide) (fun c1 => ?_) (fun c1 => ?_)
        · skip
          exact new9 (fun h => by
            obtain ⟨i, hi, e⟩ := List.getElem_of_mem h
            exact hno i hi (by rw [List.getElem?_eq_getElem hi, e])) hnl ls H locs hl hH hS
        · exact absurd (nI_le (Nat.le_refl lr.length) (by omega)) c1
      | succ q9 ih9 =>
        intro k hk hno ls H locs hl hH hS
        refine lv_iload hx hb dX3_stand_17 (lv_at hl 0 rfl) ?_
        refine lv_aload_n hx hb dX3_stand_19 rfl (lv_at hl 2 rfl) ?_
        refine h_get (v := .int (nI lr.length)) (C0 := RX3) (T := TX3) (N := 3) hx hb hts hin3 hown hK.1 hH hr0 rfl 0 (by decide) rfl (by decide +kernel) rfl dX3_stand_20 ?_
        refine lv_icmp_ge (tgt := 49) hx hb dX3_stand_23 (by decide) (fun c1 => ?_) (fun c1 => ?_)
        · exact absurd c1 (nI_ge (b := lr.length) (by omega) (by omega))
        · skip
          obtain ⟨x, hx9⟩ : ∃ x, lr[k]? = some x := ⟨lr[k]'(by omega), List.getElem?_eq_getElem (by omega)⟩
          obtain ⟨a, G, hSk, ha, hG⟩ := hsaid k x hx9
          refine lv_aload_n hx hb dX3_stand_26 rfl (lv_at hl 2 rfl) ?_
          refine h_get (v := .ref sa) (C0 := RX3) (T := TX3) (N := 3) hx hb hts hin3 hown hK.1 hH hr0 rfl 1 (by decide) rfl (by decide +kernel) rfl dX3_stand_27 ?_
          refine lv_iload hx hb dX3_stand_30 (lv_at hl 0 rfl) ?_
          refine h_aald hx hb hH hK.2.1.1 rfl hsa k (by omega) (by decide) rfl dX3_stand_32 ?_
          rw [hSk]
          refine lv_aload_n hx hb dX3_stand_33 rfl (lv_at hl 3 rfl) ?_
          refine h_calli (va_runSN (As := [.ref a, .ref fa]) (rest := []) (own := RX3) (host := "SharedForksLaw") ⟨hx, hb, hml, hown, hts⟩ (c_l_alike l D cs C H.size a fa G F x f ha hfa hG hf) ⟨va_cnB 2 hts gX3_stand_L_alike_n31 rfl rfl rfl (hN.1 (.methodLinkNest RX3 31 yL_alike "SharedForksLaw") (by decide +kernel)) (hts (.initialized yL_alike.cls) (by decide +kernel)) (by decide +kernel) ⟨show 0 + 1 ≤ d + 2 by omega, show 8 + (2 + 11) + 4000 ≤ 4300 + 40 * d by omega⟩, hts (.static yL_alike) (by decide +kernel), trivial⟩ (h_preS hK hN hH) rfl rfl hl.1 rfl (lv_room (Nat.le_of_ble_eq_true rfl)) dX3_stand_34 ⟨show 0 + 0 ≤ sT d by omega, show 0 + 0 ≤ 4 * sT d by omega⟩) hH hS hA (fun r u H locs hp hH hS => ?_)
          obtain ⟨hu, hr9⟩ := hp
          rw [hu] at hH
          rcases hr9 with ⟨hv, he⟩ | ⟨hv, he⟩
          · skip
            rw [hv]
            refine lv_if_eq (tgt := 43) hx hb dX3_stand_37 (by decide) (fun c2 => ?_) (fun c2 => ?_)
            · exact absurd c2 (by decide)
            · skip
              refine lv_iload hx hb dX3_stand_40 (lv_at hl 0 rfl) ?_
              have hmem : f ∈ lr := by rw [← he]; exact List.mem_of_getElem? hx9
              exact hret 42 ls _ _ _ _ _ C dX3_stand_42 (by omega) (by omega) ⟨S, I, by rw [r_D_in (Or.inr hmem)]; exact h_G.rf hr, by rw [r_D_in (Or.inr hmem)]; exact Or.inr (Or.inr ⟨k, by rw [hx9, he], rfl⟩)⟩ hH hS
          · skip
            rw [hv]
            refine lv_if_eq (tgt := 43) hx hb dX3_stand_37 (by decide) (fun c2 => ?_) (fun c2 => ?_)
            · skip
              refine lv_iinc (v := nI (k + 1)) (lv' := [(5, .int (nI (k + 1))), (4, .int 0), (0, .ref r0), (1, .ref fa), (2, .ref oa), (3, .int (nI (8 - d)))]) hx hb dX3_stand_43 hl (k := 0) rfl (nI_1 k) (by decide) rfl (fun ls hl => ?_)
              refine lv_goto (tgt := 17) hx hb dX3_stand_46 (by decide) ?_
              exact ih9 (k + 1) (by omega) (fun i hi => by
                rcases Nat.lt_or_ge i k with h | h
                · exact hno i h
                · rw [show i = k by omega, hx9]; exact fun h => he (Option.some.inj h)) ls H locs (lv_sub hl [0, 1, 2, 3, 4, 5] rfl) hH hS
            · exact absurd rfl c2
    refine lv_aload_n hx hb dX3_stand_0 rfl (lv_at hl 1 rfl) ?_
    refine h_calli (va_runSN (As := [.ref fa]) (rest := []) (own := RX3) (host := "SharedForksLaw") ⟨hx, hb, hml, hown, hts⟩ (c_l_leafOf l D cs C s.heap.size fa F f hfa hf) ⟨va_cnB 1 hts gX3_stand_L_leafOf_n21 rfl rfl rfl (hN.1 (.methodLinkNest RX3 21 yL_leafOf "SharedForksLaw") (by decide +kernel)) (hts (.initialized yL_leafOf.cls) (by decide +kernel)) (by decide +kernel) ⟨show 0 + 1 ≤ d + 2 by omega, show 8 + (1 + 11) + 4000 ≤ 4300 + 40 * d by omega⟩, hts (.static yL_leafOf) (by decide +kernel), trivial⟩ (h_preS hK hN hH) rfl rfl hl.1 rfl (lv_room (Nat.le_of_ble_eq_true rfl)) dX3_stand_1 ⟨show 0 + 0 ≤ sT d by omega, show 0 + 0 ≤ 4 * sT d by omega⟩) hH hS hA (fun r u H locs hp hH hS => ?_)
    obtain ⟨hu, hr9⟩ := hp
    rw [hu] at hH
    rcases hr9 with ⟨he, hv⟩ | ⟨he, hv⟩ | ⟨hnl, hv⟩
    · skip
      rw [hv]
      refine lv_istore (lv' := [(4, .int (-1)), (0, .ref r0), (1, .ref fa), (2, .ref oa), (3, .int (nI (8 - d)))]) hx hb dX3_stand_4 hl (by decide) rfl (fun ls hl => ?_)
      refine lv_iload hx hb dX3_stand_6 (lv_at hl 0 rfl) ?_
      refine lv_if_ge (tgt := 14) hx hb dX3_stand_8 (by decide) (fun c1 => ?_) (fun c1 => ?_)
      · exact absurd c1 (by decide)
      · skip
        refine lv_iload hx hb dX3_stand_11 (lv_at hl 0 rfl) ?_
        exact hret 13 ls _ _ _ _ _ C dX3_stand_13 (by omega) (by omega) ⟨S, I, by rw [r_D_in (Or.inl (Or.inl he))]; exact h_G.rf hr, by rw [r_D_in (Or.inl (Or.inl he))]; exact Or.inl ⟨he, rfl⟩⟩ hH hS
    · skip
      rw [hv]
      refine lv_istore (lv' := [(4, .int (-2)), (0, .ref r0), (1, .ref fa), (2, .ref oa), (3, .int (nI (8 - d)))]) hx hb dX3_stand_4 hl (by decide) rfl (fun ls hl => ?_)
      refine lv_iload hx hb dX3_stand_6 (lv_at hl 0 rfl) ?_
      refine lv_if_ge (tgt := 14) hx hb dX3_stand_8 (by decide) (fun c1 => ?_) (fun c1 => ?_)
      · exact absurd c1 (by decide)
      · skip
        refine lv_iload hx hb dX3_stand_11 (lv_at hl 0 rfl) ?_
        exact hret 13 ls _ _ _ _ _ C dX3_stand_13 (by omega) (by omega) ⟨S, I, by rw [r_D_in (Or.inl (Or.inr he))]; exact h_G.rf hr, by rw [r_D_in (Or.inl (Or.inr he))]; exact Or.inr (Or.inl ⟨he, rfl⟩)⟩ hH hS
    · skip
      rw [hv]
      refine lv_istore (lv' := [(4, .int 0), (0, .ref r0), (1, .ref fa), (2, .ref oa), (3, .int (nI (8 - d)))]) hx hb dX3_stand_4 hl (by decide) rfl (fun ls hl => ?_)
      refine lv_iload hx hb dX3_stand_6 (lv_at hl 0 rfl) ?_
      refine lv_if_ge (tgt := 14) hx hb dX3_stand_8 (by decide) (fun c1 => ?_) (fun c1 => ?_)
      · skip
        refine lv_iconst (v := 0) hx hb dX3_stand_14 (by decide) ?_
        refine lv_istore (lv' := [(5, .int 0), (4, .int 0), (0, .ref r0), (1, .ref fa), (2, .ref oa), (3, .int (nI (8 - d)))]) hx hb dX3_stand_15 hl (by decide) rfl (fun ls hl => ?_)
        exact loop hnl lr.length 0 (by omega) (fun i h => absurd h (Nat.not_lt_zero _)) ls H locs (lv_sub hl [0, 1, 2, 3, 4, 5] rfl) hH hS
      · exact absurd (by decide) c1
