/-- the slots hold numbers of forks, or nothing -/
def slOk (M : Nat → Nat → Int32) (g n : Nat) : Prop := ∀ j : Nat, j < 1024 → M (g + 5) j < 0 ∨ ∃ k : Nat, k < n ∧ M (g + 5) j = nI k
/-- the slot that is looked at in a step -/
def ptS (st : Int32) (k : Nat) : Nat := ((st + nI k) &&& 1023).toNatClampNeg
def ptL (M : Nat → Nat → Int32) (g : Nat) (st a no yes : Int32) : Nat → Nat → (Nat → Nat → Int32) × Int32
  | 0, _ => (M, -1)
  | r + 1, k => if M (g + 5) (ptS st k) < 0 then mkF M g (ptS st k) a no yes else if M (g + 1) (M (g + 5) (ptS st k)).toNatClampNeg = a ∧ M (g + 2) (M (g + 5) (ptS st k)).toNatClampNeg = no ∧ M (g + 3) (M (g + 5) (ptS st k)).toNatClampNeg = yes then (M, M (g + 5) (ptS st k)) else ptL M g st a no yes r (k + 1)
def ptF (M : Nat → Nat → Int32) (g : Nat) (a no yes : Int32) : (Nat → Nat → Int32) × Int32 := if no = yes then (M, no) else ptL M g ((no * 31 + yes) * 31 + a) a no yes 1024 0
theorem ptS_of (st : Int32) (k : Nat) : ∃ j : Nat, j < 1024 ∧ ((st + nI k) &&& 1023) = nI j ∧ ptS st k = j := by
  obtain ⟨j, hj, ej⟩ := pk_andE (st + nI k) (m := 1023) 10 (by decide)
  exact ⟨j, hj, ej, by rw [ptS, ej, nI_clamp (by omega)]⟩
abbrev rm_part : Room := { frames := 1, cells := 0, slots := 0, locals := 100 }
set_option maxHeartbeats 4000000 in
set_option maxRecDepth 100000 in
/-- the fork with these parts, found or made -/
theorem c_part (l : Launch) (D : va_G) (I Z F : ClassId) (ad : Nat → Nat) (hI : cI ad) (M : Nat → Nat → Int32) (sz : Nat) (g : Nat) (hg : g = 3 ∨ g = 15) (n : Nat) (hn : M g 0 = nI n) (hn6 : n ≤ 626) (hsl : slOk M g n) (a no yes : Int32) : Met l yX1_part wsX1_part rm_part (va_Pc [.ref (ad g), .int a, .int no, .int yes] (cU D I Z F ad sz M)) (va_Qi (fun (r : Int32) (u : Nat → Nat → Int32) => u = (ptF M g a no yes).1 ∧ r = (ptF M g a no yes).2) (fun u t => cP D I Z F ad u t.heap) (cA ad sz)) 0 0 (cA ad sz) := by
  refine cMet_i (cc := cX1_part) (maxL := 8) hI (by decide) rfl ⟨rfl, rfl⟩ RX1 rfl (Nat.le_of_ble_eq_true rfl) (lv := [(0, .ref (ad g)), (1, .int a), (2, .int no), (3, .int yes)]) rfl ?_
  intro p e s m args below meth c Q A ls hsz C0 hW hl hret
  obtain ⟨hx, hb, hml, hts, hown, hlocks, hK, hN, hDa, hA, hargs⟩ := C0
  have hin1 : ∀ w ∈ u_ws RX1 TX1 10, w ∈ wsX1_part := by decide +kernel
  have hgl : g < 16 := by omega
  refine lv_iload_n hx hb dX1_part_0 rfl (lv_at hl 2 rfl) ?_
  refine lv_iload_n hx hb dX1_part_1 rfl (lv_at hl 3 rfl) ?_
  refine lv_icmp_ne (tgt := 7) hx hb dX1_part_2 (by decide) (fun c1 => ?_) (fun c1 => ?_)
  · skip
    have hne : ¬ no = yes := c1
    refine lv_iload_n hx hb dX1_part_7 rfl (lv_at hl 2 rfl) ?_
    refine lv_bipush (v := 31) hx hb dX1_part_8 (by decide) ?_
    refine lv_imul hx hb dX1_part_10 ?_
    refine lv_iload_n hx hb dX1_part_11 rfl (lv_at hl 3 rfl) ?_
    refine lv_iadd hx hb dX1_part_12 ?_
    refine lv_bipush (v := 31) hx hb dX1_part_13 (by decide) ?_
    refine lv_imul hx hb dX1_part_15 ?_
    refine lv_iload_n hx hb dX1_part_16 rfl (lv_at hl 1 rfl) ?_
    refine lv_iadd hx hb dX1_part_17 ?_
    refine lv_istore (lv' := [(4, .int ((((no * 31) + yes) * 31) + a)), (0, .ref (ad g)), (1, .int a), (2, .int no), (3, .int yes)]) hx hb dX1_part_18 hl (by decide) rfl (fun ls hl => ?_)
    refine lv_iconst (v := 0) hx hb dX1_part_20 (by decide) ?_
    refine lv_istore (lv' := [(5, .int 0), (4, .int ((((no * 31) + yes) * 31) + a)), (0, .ref (ad g)), (1, .int a), (2, .int no), (3, .int yes)]) hx hb dX1_part_21 hl (by decide) rfl (fun ls hl => ?_)
    obtain ⟨st, hst⟩ : ∃ st : Int32, st = ((((no * 31) + yes) * 31) + a) := ⟨_, rfl⟩
    rw [← hst] at hl
    have hF : ptF M g a no yes = ptL M g st a no yes 1024 0 := by rw [ptF, if_neg hne, hst]
    have loop : ∀ r k : Nat, k + r = 1024 → ptF M g a no yes = ptL M g st a no yes r k → ∀ (ls : Array Slot), lv_has ls 8 [(5, .int (nI k)), (4, .int st), (0, .ref (ad g)), (1, .int a), (2, .int no), (3, .int yes)] → W p l e rm_part s m args below meth c s.heap [] 0 0 Q (F0 m 23 ls []) := by
      intro r
      induction r with
      | zero =>
        intro k hk hv ls hl
        obtain rfl : k = 1024 := by omega
        refine lv_iload hx hb dX1_part_23 (lv_at hl 0 rfl) ?_
        refine lv_sipush (v := 1024) hx hb dX1_part_25 (by decide) ?_
        refine lv_icmp_ge (tgt := 108) hx hb dX1_part_28 (by decide) (fun c1 => ?_) (fun c1 => ?_)
        · skip
          refine lv_iconst (v := -1) hx hb dX1_part_108 (by decide) ?_
          exact hret 109 ls _ _ _ _ dX1_part_109 (by rw [hv]; exact ⟨rfl, rfl⟩) hW
        · exact absurd (nI_le (by decide) (by decide)) c1
      | succ r ih =>
        intro k hk hv ls hl
        refine lv_iload hx hb dX1_part_23 (lv_at hl 0 rfl) ?_
        refine lv_sipush (v := 1024) hx hb dX1_part_25 (by decide) ?_
        refine lv_icmp_ge (tgt := 108) hx hb dX1_part_28 (by decide) (fun c1 => ?_) (fun c1 => ?_)
        · exact absurd c1 (nI_ge (b := 1024) (by omega) (by decide))
        · skip
          obtain ⟨j, hj, ej, hpj⟩ := ptS_of st k
          rw [ptL, hpj] at hv
          refine lv_iload hx hb dX1_part_31 (lv_at hl 1 rfl) ?_
          refine lv_iload hx hb dX1_part_33 (lv_at hl 0 rfl) ?_
          refine lv_iadd hx hb dX1_part_35 ?_
          refine lv_sipush (v := 1023) hx hb dX1_part_36 (by decide) ?_
          refine lv_iand hx hb dX1_part_39 ?_
          rw [ej]
          refine lv_istore (lv' := [(6, .int (nI j)), (5, .int (nI k)), (4, .int st), (0, .ref (ad g)), (1, .int a), (2, .int no), (3, .int yes)]) hx hb dX1_part_40 hl (by decide) rfl (fun ls hl => ?_)
          refine lv_aload_n hx hb dX1_part_42 rfl (lv_at hl 3 rfl) ?_
          refine cr_get (v := .ref (ad (g + 5))) hx hb hts hin1 hown hK hW g (by omega) (cE_f0 I Z F ad M hg) rfl 5 (by decide) rfl (by decide +kernel) rfl dX1_part_43 ?_
          refine lv_iload hx hb dX1_part_46 (lv_at hl 0 rfl) ?_
          refine cr_iald hx hb hK hW (g + 5) (by omega) (cE_f5 I Z F ad M hg) j hj (by decide) rfl dX1_part_48 ?_
          refine lv_istore (lv' := [(7, .int (M (g + 5) j)), (6, .int (nI j)), (5, .int (nI k)), (4, .int st), (0, .ref (ad g)), (1, .int a), (2, .int no), (3, .int yes)]) hx hb dX1_part_49 hl (by decide) rfl (fun ls hl => ?_)
          refine lv_iload hx hb dX1_part_51 (lv_at hl 0 rfl) ?_
          have nx : ptF M g a no yes = ptL M g st a no yes r (k + 1) → ∀ (ls : Array Slot), lv_has ls 8 [(7, .int (M (g + 5) j)), (6, .int (nI j)), (5, .int (nI k)), (4, .int st), (0, .ref (ad g)), (1, .int a), (2, .int no), (3, .int yes)] → W p l e rm_part s m args below meth c s.heap [] 0 0 Q (F0 m 102 ls []) := by
            intro hv ls hl
            refine lv_iinc (v := nI (k + 1)) (lv' := [(5, .int (nI (k + 1))), (7, .int (M (g + 5) j)), (6, .int (nI j)), (4, .int st), (0, .ref (ad g)), (1, .int a), (2, .int no), (3, .int yes)]) hx hb dX1_part_102 hl (k := 2) rfl (nI_1 k) (by decide) rfl (fun ls hl => ?_)
            refine lv_goto (tgt := 23) hx hb dX1_part_105 (by decide) ?_
            exact ih (k + 1) (by omega) hv ls (lv_sub hl [0, 3, 4, 5, 6, 7] rfl)
          refine lv_if_ge (tgt := 66) hx hb dX1_part_53 (by decide) (fun c2 => ?_) (fun c2 => ?_)
          · skip
            rw [if_neg (fun h => Int32.not_le.mpr h c2)] at hv
            obtain ⟨k0, hk0, ek0⟩ := (hsl j hj).resolve_left (fun h => Int32.not_le.mpr h c2)
            have ec0 : (M (g + 5) j).toNatClampNeg = k0 := by rw [ek0, nI_clamp (by omega)]
            rw [ec0] at hv
            refine lv_aload_n hx hb dX1_part_66 rfl (lv_at hl 4 rfl) ?_
            refine cr_get (v := .ref (ad (g + 1))) hx hb hts hin1 hown hK hW g (by omega) (cE_f0 I Z F ad M hg) rfl 1 (by decide) rfl (by decide +kernel) rfl dX1_part_67 ?_
            refine lv_iload hx hb dX1_part_70 (lv_at hl 0 rfl) ?_
            refine cr_iald hx hb hK hW (g + 1) (by omega) (cE_f1 I Z F ad M hg) k0 (by omega) (by decide) ek0 dX1_part_72 ?_
            refine lv_iload_n hx hb dX1_part_73 rfl (lv_at hl 5 rfl) ?_
            refine lv_icmp_ne (tgt := 102) hx hb dX1_part_74 (by decide) (fun d1 => ?_) (fun d1 => ?_)
            · skip
              exact nx (by rw [if_neg (fun h => d1 h.1)] at hv; exact hv) ls hl
            · skip
              refine lv_aload_n hx hb dX1_part_77 rfl (lv_at hl 4 rfl) ?_
              refine cr_get (v := .ref (ad (g + 2))) hx hb hts hin1 hown hK hW g (by omega) (cE_f0 I Z F ad M hg) rfl 2 (by decide) rfl (by decide +kernel) rfl dX1_part_78 ?_
              refine lv_iload hx hb dX1_part_81 (lv_at hl 0 rfl) ?_
              refine cr_iald hx hb hK hW (g + 2) (by omega) (cE_f2 I Z F ad M hg) k0 (by omega) (by decide) ek0 dX1_part_83 ?_
              refine lv_iload_n hx hb dX1_part_84 rfl (lv_at hl 6 rfl) ?_
              refine lv_icmp_ne (tgt := 102) hx hb dX1_part_85 (by decide) (fun d2 => ?_) (fun d2 => ?_)
              · skip
                exact nx (by rw [if_neg (fun h => d2 h.2.1)] at hv; exact hv) ls hl
              · skip
                refine lv_aload_n hx hb dX1_part_88 rfl (lv_at hl 4 rfl) ?_
                refine cr_get (v := .ref (ad (g + 3))) hx hb hts hin1 hown hK hW g (by omega) (cE_f0 I Z F ad M hg) rfl 3 (by decide) rfl (by decide +kernel) rfl dX1_part_89 ?_
                refine lv_iload hx hb dX1_part_92 (lv_at hl 0 rfl) ?_
                refine cr_iald hx hb hK hW (g + 3) (by omega) (cE_f3 I Z F ad M hg) k0 (by omega) (by decide) ek0 dX1_part_94 ?_
                refine lv_iload_n hx hb dX1_part_95 rfl (lv_at hl 7 rfl) ?_
                refine lv_icmp_ne (tgt := 102) hx hb dX1_part_96 (by decide) (fun d3 => ?_) (fun d3 => ?_)
                · skip
                  exact nx (by rw [if_neg (fun h => d3 h.2.2)] at hv; exact hv) ls hl
                · skip
                  refine lv_iload hx hb dX1_part_99 (lv_at hl 0 rfl) ?_
                  have e1 := d1
                  have e2 := d2
                  have e3 := d3
                  rw [if_pos ⟨e1, e2, e3⟩] at hv
                  exact hret 101 ls _ _ _ _ dX1_part_101 (by rw [hv]; exact ⟨rfl, rfl⟩) hW
          · skip
            have c3 : M (g + 5) j < 0 := Int32.not_le.mp c2
            rw [if_pos c3] at hv
            refine lv_aload_n hx hb dX1_part_56 rfl (lv_at hl 4 rfl) ?_
            refine lv_iload hx hb dX1_part_57 (lv_at hl 1 rfl) ?_
            refine lv_iload_n hx hb dX1_part_59 rfl (lv_at hl 5 rfl) ?_
            refine lv_iload_n hx hb dX1_part_60 rfl (lv_at hl 6 rfl) ?_
            refine lv_iload_n hx hb dX1_part_61 rfl (lv_at hl 7 rfl) ?_
            refine cr_calli (va_runV (As := [.int (nI j), .int a, .int no, .int yes]) (rest := []) ⟨hx, hb, hml, hown, hts⟩ (c_make l D I Z F ad hI M s.heap.size g hg n hn hn6 j hj a no yes) (cwV 4 hts gX1_part_X1_make rfl rfl rfl (by decide +kernel) ⟨Nat.le_of_ble_eq_true rfl, Nat.le_of_ble_eq_true rfl⟩) (cr_preV hK hN hW g (by omega) (cE_f0 I Z F ad M hg) rfl) rfl rfl hl.1 rfl (lv_room (Nat.le_of_ble_eq_true rfl)) dX1_part_62 ⟨Nat.le_refl _, Nat.le_refl _⟩) hA hDa hW (fun r u H locs hp hW => ?_)
            obtain ⟨rfl, rfl⟩ := hp
            exact hret 65 ls H locs _ _ dX1_part_65 (by rw [hv]; exact ⟨rfl, rfl⟩) hW
    exact loop 1024 0 (by decide) hF ls (lv_sub hl [0, 1, 2, 3, 4, 5] rfl)
  · skip
    have he : no = yes := c1
    refine lv_iload_n hx hb dX1_part_5 rfl (lv_at hl 2 rfl) ?_
    exact hret 6 ls _ _ _ _ dX1_part_6 (by rw [ptF, if_pos he]; exact ⟨rfl, rfl⟩) hW
