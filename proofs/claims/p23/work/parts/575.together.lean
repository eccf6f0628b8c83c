/-- which forks are counted -/
noncomputable def tg_P (o : Nat → Nat) (qn : Int32) (g : Nat → Bool) : Bool := decide (qn < 0 ∨ nI (t_q o g) = qn)
noncomputable def tg_T (o : Nat → Nat) (kp : Nat → Prop) (Y : Nat → Nat → Bool) (qn : Int32) (f : Nat) (g : Nat → Bool) : Bool := @decide (tg_P o qn g = true ∧ g ∉ u_L o kp Y f) (Classical.propDecidable _)
noncomputable def tg_u (o : Nat → Nat) (kp : Nat → Prop) (Y : Nat → Nat → Bool) (qn : Int32) (f : Nat) : Nat := ((u_L o kp Y f).filter (tg_P o qn)).length
noncomputable def tg_c (o : Nat → Nat) (kp : Nat → Prop) (Y : Nat → Nat → Bool) (qn : Int32) (f : Nat) : Nat → Int32 := fun i => nI (if tg_T o kp Y qn f ((r_R o (Y f)).getD i b_0) = true then 1 else 0)
theorem tg_Tt {o : Nat → Nat} {kp : Nat → Prop} {Y : Nat → Nat → Bool} {qn : Int32} {f : Nat} {g : Nat → Bool} (h : tg_P o qn g = true ∧ g ∉ u_L o kp Y f) : tg_T o kp Y qn f g = true := @decide_eq_true _ (Classical.propDecidable _) h
theorem tg_Tf {o : Nat → Nat} {kp : Nat → Prop} {Y : Nat → Nat → Bool} {qn : Int32} {f : Nat} {g : Nat → Bool} (h : tg_T o kp Y qn f g = true) : tg_P o qn g = true ∧ g ∉ u_L o kp Y f := @of_decide_eq_true _ (Classical.propDecidable _) h
theorem tg_no {o : Nat → Nat} {kp : Nat → Prop} {Y : Nat → Nat → Bool} {qn : Int32} {f : Nat} (h : ¬ kp f) : tg_u o kp Y qn (f + 1) = tg_u o kp Y qn f := by
  unfold tg_u
  rw [u_L, cIf_neg h, List.append_nil]
theorem tg_yes {o : Nat → Nat} {kp : Nat → Prop} {Y : Nat → Nat → Bool} {qn : Int32} {f : Nat} (h : kp f) : nI (tg_u o kp Y qn f) + sI (tg_c o kp Y qn f) (r_R o (Y f)).length = nI (tg_u o kp Y qn (f + 1)) := by
  have h1 : sI (tg_c o kp Y qn f) (r_R o (Y f)).length = nI ((List.range (r_R o (Y f)).length).filter (fun i => tg_T o kp Y qn f ((r_R o (Y f)).getD i b_0))).length := sI_cnt _ (fun k _ => rfl)
  rw [h1, cnt_list (tg_T o kp Y qn f) b_0, nI_add]
  unfold tg_u
  rw [u_L, cIf_pos h, List.filter_append, List.length_append, List.filter_filter]
  congr 3
  apply List.filter_congr
  intro g _
  unfold tg_T
  by_cases c1 : tg_P o qn g = true <;> by_cases c2 : g ∈ u_L o kp Y f <;> simp [c1, c2]
theorem tg_up {o : Nat → Nat} {kp : Nat → Prop} {Y : Nat → Nat → Bool} {g : Nat → Bool} {e f : Nat} (h : e ≤ f) (hg : g ∈ u_L o kp Y e) : g ∈ u_L o kp Y f := by
  obtain ⟨e1, h1, h2⟩ := (u_mem e).mp hg
  exact (u_mem f).mpr ⟨e1, by omega, h2⟩
theorem tg_s {o : Nat → Nat} {kp : Nat → Prop} {Y : Nat → Nat → Bool} {g : Nat → Bool} {e : Nat} (hg : g ∉ u_L o kp Y e) (h : kp e → g ∉ r_R o (Y e)) : g ∉ u_L o kp Y (e + 1) := by
  intro hm
  obtain ⟨e1, h1, h2, h3⟩ := (u_mem (e + 1)).mp hm
  by_cases c : e1 = e
  · subst c; exact h h2 h3
  · exact hg ((u_mem e).mpr ⟨e1, by omega, h2, h3⟩)
abbrev rm_h_together : Room := { frames := 2, cells := 0, slots := 0, locals := 4300 }
set_option maxHeartbeats 4000000 in
set_option maxRecDepth 100000 in
/-- how many forks all rows have together -/
theorem c_h_together (l : Launch) (D : va_G) (cs : Nat → ClassId) (C : hC) (sz : Nat) (o : Nat → Nat) (kp : Nat → Prop) (Y : Nat → Nat → Bool) (rw9 : Nat) (Rf : Nat → Option Nat) (hrw : C rw9 = some (.inl (cs 4, 12, .inr (.inr (.inr (.inr Rf)))))) (hrows : ∀ j : Nat, j < 12 → (¬ kp j → Rf j = none) ∧ (kp j → ∃ (q sa ia : Nat) (S I : Nat → Option Nat), Rf j = some q ∧ h_V cs o C q sa ia S I (r_R o (Y j)) (r_A o (Y j)))) (h77 : ∀ j : Nat, j < 12 → kp j → (r_R o (Y j)).length ≤ 77) (qn : Int32) : Met l yX4_together wsX4_together rm_h_together (va_Pc [.ref rw9, .int qn] (hU D cs C sz)) (va_Qi (fun (r : Int32) (u : hC) => u = C ∧ r = nI (tg_u o kp Y qn 12)) (fun u t => h_H D (h_A C sz) u t.heap) (h_A C sz)) 0 0 (h_A C sz) := by
  refine hMet_i (cc := cX4_together) (maxL := 7) (by decide) rfl RX4 rfl (Nat.le_of_ble_eq_true rfl) (lv := [(0, .ref rw9), (1, .int qn)]) rfl ?_
  intro p e s m args below meth c Q A ls hsz C0 hH hS hl hret
  obtain ⟨hx, hb, hml, hts, hown, hlocks, hK, hN, hA, hargs⟩ := C0
  have hin3 : ∀ w ∈ u_ws RX3 TX3 3, w ∈ wsX4_together := by decide +kernel
  refine lv_iconst (v := 0) hx hb dX4_together_0 (by decide) ?_
  refine lv_istore_n (lv' := [(2, .int 0), (0, .ref rw9), (1, .int qn)]) hx hb dX4_together_1 rfl hl (by decide) rfl (fun ls hl => ?_)
  refine lv_iconst (v := 0) hx hb dX4_together_2 (by decide) ?_
  refine lv_istore_n (lv' := [(3, .int 0), (2, .int 0), (0, .ref rw9), (1, .int qn)]) hx hb dX4_together_3 rfl hl (by decide) rfl (fun ls hl => ?_)
  have outer : ∀ r9 f : Nat, f + r9 = 12 → ∀ (ls : Array Slot) (H : Heap) (locs : List Loc), lv_has ls 7 [(3, .int (nI f)), (2, .int (nI (tg_u o kp Y qn f))), (0, .ref rw9), (1, .int qn)] → h_H D A C H → va_S A s.heap H locs → W p l e rm_h_together s m args below meth c H locs 0 0 Q (F0 m 4 ls []) := by
    intro r9
    induction r9 with
    | zero =>
      intro f hf ls H locs hl hH hS
      obtain rfl : f = 12 := by omega
      refine lv_iload_n hx hb dX4_together_4 rfl (lv_at hl 0 rfl) ?_
      refine lv_bipush (v := 12) hx hb dX4_together_5 (by decide) ?_
      refine lv_icmp_ge (tgt := 137) hx hb dX4_together_7 (by decide) (fun c1 => ?_) (fun c1 => ?_)
      · skip
        refine lv_iload_n hx hb dX4_together_137 rfl (lv_at hl 1 rfl) ?_
        exact hret 138 ls _ _ 0 0 _ C dX4_together_138 (by first | decide | omega) (by first | decide | omega) (⟨rfl, rfl⟩) hH hS
      · exact absurd (nI_le (Nat.le_refl 12) (by omega)) c1
    | succ r9 ih =>
      intro f hf ls H locs hl hH hS
      have hf12 : f < 12 := by omega
      refine lv_iload_n hx hb dX4_together_4 rfl (lv_at hl 0 rfl) ?_
      refine lv_bipush (v := 12) hx hb dX4_together_5 (by decide) ?_
      refine lv_icmp_ge (tgt := 137) hx hb dX4_together_7 (by decide) (fun c1 => ?_) (fun c1 => ?_)
      · exact absurd c1 (nI_ge (b := 12) (by omega) (by omega))
      · skip
        refine lv_aload_n hx hb dX4_together_10 rfl (lv_at hl 2 rfl) ?_
        refine lv_iload_n hx hb dX4_together_11 rfl (lv_at hl 0 rfl) ?_
        rcases Classical.em (kp f) with hk | hk
        · skip
          obtain ⟨q, sa, ia, S, I, hq, hV⟩ := (hrows f hf12).2 hk
          have h77f := h77 f hf12 hk
          obtain ⟨⟨vr, vs, vi, h80, vsaid⟩, vE, -⟩ := id hV
          refine h_aald hx hb hH (hK.1.2 2 _ rfl).1 rfl hrw f hf12 (by decide) rfl dX4_together_12 ?_
          rw [hq]
          refine lv_ifnonnull (tgt := 19) hx hb dX4_together_13 (by decide) ?_
          refine lv_iconst (v := 0) hx hb dX4_together_19 (by decide) ?_
          refine lv_istore (lv' := [(4, .int 0), (3, .int (nI f)), (2, .int (nI (tg_u o kp Y qn f))), (0, .ref rw9), (1, .int qn)]) hx hb dX4_together_20 hl (by decide) rfl (fun ls hl => ?_)
          have inner : ∀ r8 k : Nat, k + r8 = (r_R o (Y f)).length → ∀ (ls : Array Slot) (H : Heap) (locs : List Loc), lv_has ls 7 [(4, .int (nI k)), (2, .int (nI (tg_u o kp Y qn f) + sI (tg_c o kp Y qn f) k)), (3, .int (nI f)), (0, .ref rw9), (1, .int qn)] → h_H D A C H → va_S A s.heap H locs → W p l e rm_h_together s m args below meth c H locs 0 0 Q (F0 m 22 ls []) := by
            intro r8
            induction r8 with
            | zero =>
              intro k hk8 ls H locs hl hH hS
              obtain rfl : k = (r_R o (Y f)).length := by omega
              refine lv_iload hx hb dX4_together_22 (lv_at hl 0 rfl) ?_
              refine lv_aload_n hx hb dX4_together_24 rfl (lv_at hl 3 rfl) ?_
              refine lv_iload_n hx hb dX4_together_25 rfl (lv_at hl 2 rfl) ?_
              refine h_aald hx hb hH (hK.1.2 2 _ rfl).1 rfl hrw f hf12 (by decide) rfl dX4_together_26 ?_
              rw [hq]
              refine h_get (v := .int (nI (r_R o (Y f)).length)) (C0 := RX3) (T := TX3) (N := 3) hx hb hts hin3 hown hK.1 hH vr rfl 0 (by decide) rfl (by decide +kernel) rfl dX4_together_27 ?_
              refine lv_icmp_ge (tgt := 131) hx hb dX4_together_30 (by decide) (fun c1 => ?_) (fun c1 => ?_)
              · skip
                have hl2 : lv_has ls 7 [(4, .int (nI (r_R o (Y f)).length)), (2, .int (nI (tg_u o kp Y qn (f + 1)))), (3, .int (nI f)), (0, .ref rw9), (1, .int qn)] := by rw [← tg_yes hk]; exact hl
                replace hl := hl2
                refine lv_iinc (v := nI (f + 1)) (lv' := [(3, .int (nI (f + 1))), (4, .int (nI (r_R o (Y f)).length)), (2, .int (nI (tg_u o kp Y qn (f + 1)))), (0, .ref rw9), (1, .int qn)]) hx hb dX4_together_131 hl (k := 2) rfl (nI_1 f) (by decide) rfl (fun ls hl => ?_)
                refine lv_goto (tgt := 4) hx hb dX4_together_134 (by decide) ?_
                exact ih (f + 1) (by omega) ls H locs (lv_sub hl [0, 2, 3, 4] rfl) hH hS
              · exact absurd (nI_le (Nat.le_refl _) (by omega)) c1
            | succ r8 ih8 =>
              intro k hk8 ls H locs hl hH hS
              refine lv_iload hx hb dX4_together_22 (lv_at hl 0 rfl) ?_
              refine lv_aload_n hx hb dX4_together_24 rfl (lv_at hl 3 rfl) ?_
              refine lv_iload_n hx hb dX4_together_25 rfl (lv_at hl 2 rfl) ?_
              refine h_aald hx hb hH (hK.1.2 2 _ rfl).1 rfl hrw f hf12 (by decide) rfl dX4_together_26 ?_
              rw [hq]
              refine h_get (v := .int (nI (r_R o (Y f)).length)) (C0 := RX3) (T := TX3) (N := 3) hx hb hts hin3 hown hK.1 hH vr rfl 0 (by decide) rfl (by decide +kernel) rfl dX4_together_27 ?_
              refine lv_icmp_ge (tgt := 131) hx hb dX4_together_30 (by decide) (fun c1 => ?_) (fun c1 => ?_)
              · exact absurd c1 (nI_ge (b := (r_R o (Y f)).length) (by omega) (by omega))
              · skip
                have hkl : k < (r_R o (Y f)).length := by omega
                obtain ⟨x, hx9⟩ : ∃ x, (r_R o (Y f))[k]? = some x := ⟨_, List.getElem?_eq_getElem hkl⟩
                obtain ⟨a, F, hSk, ha, hF⟩ := vsaid k x hx9
                obtain ⟨b, X, hIk, hbX, x0, -, -, -⟩ := vE k x hx9
                have hgd : (r_R o (Y f)).getD k b_0 = x := getD_of hx9
                have tail9 : ∀ (v9 : Int32) (e9 : Nat), ((v9 = 1 ∧ tg_P o qn x = true ∧ x ∉ u_L o kp Y f) ∨ (v9 = 0 ∧ ¬ (tg_P o qn x = true ∧ x ∉ u_L o kp Y f))) → ∀ (ls : Array Slot) (H : Heap) (locs : List Loc), lv_has ls 7 [(6, .int (nI e9)), (5, .int v9), (4, .int (nI k)), (2, .int (nI (tg_u o kp Y qn f) + sI (tg_c o kp Y qn f) k)), (3, .int (nI f)), (0, .ref rw9), (1, .int qn)] → h_H D A C H → va_S A s.heap H locs → W p l e rm_h_together s m args below meth c H locs 0 0 Q (F0 m 112 ls []) := by
                  intro v9 e9 hv ls H locs hl hH hS
                  rcases hv with ⟨rfl, hv⟩ | ⟨rfl, hv⟩
                  · skip
                    have hT : tg_c o kp Y qn f k = 1 := by show nI (if tg_T o kp Y qn f ((r_R o (Y f)).getD k b_0) = true then 1 else 0) = 1; rw [hgd, if_pos (tg_Tt hv)]; rfl
                    refine lv_iload_n hx hb dX4_together_112 rfl (lv_at hl 3 rfl) ?_
                    refine lv_iload hx hb dX4_together_113 (lv_at hl 1 rfl) ?_
                    refine lv_if_eq (tgt := 122) hx hb dX4_together_115 (by decide) (fun c5 => ?_) (fun c5 => ?_)
                    · exact absurd c5 (by decide)
                    · skip
                      refine lv_iconst (v := 1) hx hb dX4_together_118 (by decide) ?_
                      refine lv_goto (tgt := 123) hx hb dX4_together_119 (by decide) ?_
                      refine lv_iadd hx hb dX4_together_123 ?_
                      rw [Int32.add_assoc, sI_s hT]
                      refine lv_istore_n (lv' := [(2, .int (nI (tg_u o kp Y qn f) + sI (tg_c o kp Y qn f) (k + 1))), (6, .int (nI e9)), (5, .int 1), (4, .int (nI k)), (3, .int (nI f)), (0, .ref rw9), (1, .int qn)]) hx hb dX4_together_124 rfl hl (by decide) rfl (fun ls hl => ?_)
                      refine lv_iinc (v := nI (k + 1)) (lv' := [(4, .int (nI (k + 1))), (2, .int (nI (tg_u o kp Y qn f) + sI (tg_c o kp Y qn f) (k + 1))), (6, .int (nI e9)), (5, .int 1), (3, .int (nI f)), (0, .ref rw9), (1, .int qn)]) hx hb dX4_together_125 hl (k := 3) rfl (nI_1 k) (by decide) rfl (fun ls hl => ?_)
                      refine lv_goto (tgt := 22) hx hb dX4_together_128 (by decide) ?_
                      exact ih8 (k + 1) (by omega) ls H locs (lv_sub hl [0, 1, 4, 5, 6] rfl) hH hS
                  · skip
                    have hT : tg_c o kp Y qn f k = 0 := by show nI (if tg_T o kp Y qn f ((r_R o (Y f)).getD k b_0) = true then 1 else 0) = 0; rw [hgd, if_neg (fun h9 => hv (tg_Tf h9))]; rfl
                    refine lv_iload_n hx hb dX4_together_112 rfl (lv_at hl 3 rfl) ?_
                    refine lv_iload hx hb dX4_together_113 (lv_at hl 1 rfl) ?_
                    refine lv_if_eq (tgt := 122) hx hb dX4_together_115 (by decide) (fun c5 => ?_) (fun c5 => ?_)
                    · skip
                      refine lv_iconst (v := 0) hx hb dX4_together_122 (by decide) ?_
                      refine lv_iadd hx hb dX4_together_123 ?_
                      rw [Int32.add_assoc, sI_s hT]
                      refine lv_istore_n (lv' := [(2, .int (nI (tg_u o kp Y qn f) + sI (tg_c o kp Y qn f) (k + 1))), (6, .int (nI e9)), (5, .int 0), (4, .int (nI k)), (3, .int (nI f)), (0, .ref rw9), (1, .int qn)]) hx hb dX4_together_124 rfl hl (by decide) rfl (fun ls hl => ?_)
                      refine lv_iinc (v := nI (k + 1)) (lv' := [(4, .int (nI (k + 1))), (2, .int (nI (tg_u o kp Y qn f) + sI (tg_c o kp Y qn f) (k + 1))), (6, .int (nI e9)), (5, .int 0), (3, .int (nI f)), (0, .ref rw9), (1, .int qn)]) hx hb dX4_together_125 hl (k := 3) rfl (nI_1 k) (by decide) rfl (fun ls hl => ?_)
                      refine lv_goto (tgt := 22) hx hb dX4_together_128 (by decide) ?_
                      exact ih8 (k + 1) (by omega) ls H locs (lv_sub hl [0, 1, 4, 5, 6] rfl) hH hS
                    · exact absurd rfl c5
                have gl : ∀ (r7 e9 : Nat) (v9 : Int32), e9 + r7 = f → ((v9 = 1 ∧ tg_P o qn x = true ∧ x ∉ u_L o kp Y e9) ∨ (v9 = 0 ∧ ¬ (tg_P o qn x = true ∧ x ∉ u_L o kp Y f))) → ∀ (ls : Array Slot) (H : Heap) (locs : List Loc), lv_has ls 7 [(6, .int (nI e9)), (5, .int v9), (4, .int (nI k)), (2, .int (nI (tg_u o kp Y qn f) + sI (tg_c o kp Y qn f) k)), (3, .int (nI f)), (0, .ref rw9), (1, .int qn)] → h_H D A C H → va_S A s.heap H locs → W p l e rm_h_together s m args below meth c H locs 0 0 Q (F0 m 62 ls []) := by
                  intro r7
                  induction r7 with
                  | zero =>
                    intro e9 v9 he hv ls H locs hl hH hS
                    obtain rfl : e9 = f := by omega
                    refine lv_iload hx hb dX4_together_62 (lv_at hl 0 rfl) ?_
                    refine lv_iload_n hx hb dX4_together_64 rfl (lv_at hl 4 rfl) ?_
                    refine lv_icmp_ge (tgt := 112) hx hb dX4_together_65 (by decide) (fun c4 => ?_) (fun c4 => ?_)
                    · exact tail9 v9 e9 hv ls H locs hl hH hS
                    · exact absurd (nI_le (Nat.le_refl e9) (by omega)) c4
                  | succ r7 ih7 =>
                    intro e9 v9 he hv ls H locs hl hH hS
                    refine lv_iload hx hb dX4_together_62 (lv_at hl 0 rfl) ?_
                    refine lv_iload_n hx hb dX4_together_64 rfl (lv_at hl 4 rfl) ?_
                    refine lv_icmp_ge (tgt := 112) hx hb dX4_together_65 (by decide) (fun c4 => ?_) (fun c4 => ?_)
                    · exact absurd c4 (nI_ge (b := f) (by omega) (by omega))
                    · skip
                      rcases hv with ⟨rfl, hv⟩ | ⟨rfl, hv⟩
                      · skip
                        refine lv_iload hx hb dX4_together_68 (lv_at hl 1 rfl) ?_
                        refine lv_if_eq (tgt := 112) hx hb dX4_together_70 (by decide) (fun c5 => ?_) (fun c5 => ?_)
                        · exact absurd c5 (by decide)
                        · skip
                          have he12 : e9 < 12 := by omega
                          refine lv_aload_n hx hb dX4_together_73 rfl (lv_at hl 5 rfl) ?_
                          refine lv_iload hx hb dX4_together_74 (lv_at hl 0 rfl) ?_
                          rcases Classical.em (kp e9) with hke | hke
                          · skip
                            obtain ⟨q2, sa2, ia2, S2, I2, hq2, hV2⟩ := (hrows e9 he12).2 hke
                            refine h_aald hx hb hH (hK.1.2 2 _ rfl).1 rfl hrw e9 he12 (by decide) rfl dX4_together_76 ?_
                            rw [hq2]
                            refine lv_ifnull hx hb dX4_together_77 ?_
                            refine lv_aload_n hx hb dX4_together_80 rfl (lv_at hl 5 rfl) ?_
                            refine lv_iload hx hb dX4_together_81 (lv_at hl 0 rfl) ?_
                            refine h_aald hx hb hH (hK.1.2 2 _ rfl).1 rfl hrw e9 he12 (by decide) rfl dX4_together_83 ?_
                            rw [hq2]
                            refine lv_aload_n hx hb dX4_together_84 rfl (lv_at hl 5 rfl) ?_
                            refine lv_iload_n hx hb dX4_together_85 rfl (lv_at hl 4 rfl) ?_
                            refine h_aald hx hb hH (hK.1.2 2 _ rfl).1 rfl hrw f hf12 (by decide) rfl dX4_together_86 ?_
                            rw [hq]
                            refine h_get (v := .ref sa) (C0 := RX3) (T := TX3) (N := 3) hx hb hts hin3 hown hK.1 hH vr rfl 1 (by decide) rfl (by decide +kernel) rfl dX4_together_87 ?_
                            refine lv_iload hx hb dX4_together_90 (lv_at hl 2 rfl) ?_
                            refine h_aald hx hb hH hK.2.1.1 rfl vs k (by omega) (by decide) rfl dX4_together_92 ?_
                            rw [hSk]
                            refine h_calli (va_runS (As := [.ref q2, .ref a]) (rest := []) ⟨hx, hb, hml, hown, hts⟩ (c_h_has l D cs C H.size q2 sa2 ia2 S2 I2 _ hV2.1 a F x ha hF) (va_cwS 2 hts gX4_together_X4_has rfl rfl rfl (by decide +kernel) ⟨Nat.le_of_ble_eq_true rfl, Nat.le_of_ble_eq_true rfl⟩) (h_preS hK hN hH) rfl rfl hl.1 rfl (lv_room (Nat.le_of_ble_eq_true rfl)) dX4_together_93 ⟨by first | exact Nat.le_of_ble_eq_true rfl | omega, by first | exact Nat.le_of_ble_eq_true rfl | omega⟩) hH hS hA (fun r9 u9 H locs hp hH hS => ?_)
                            obtain ⟨hu, hr9⟩ := hp
                            rw [hu] at hH
                            rcases hr9 with ⟨rfl, hm⟩ | ⟨rfl, hm⟩
                            · skip
                              refine lv_if_ne (tgt := 103) hx hb dX4_together_96 (by decide) (fun c6 => ?_) (fun c6 => ?_)
                              · skip
                                refine lv_iconst (v := 0) hx hb dX4_together_103 (by decide) ?_
                                refine lv_istore (lv' := [(5, .int 0), (6, .int (nI e9)), (4, .int (nI k)), (2, .int (nI (tg_u o kp Y qn f) + sI (tg_c o kp Y qn f) k)), (3, .int (nI f)), (0, .ref rw9), (1, .int qn)]) hx hb dX4_together_104 hl (by decide) rfl (fun ls hl => ?_)
                                refine lv_iinc (v := nI (e9 + 1)) (lv' := [(6, .int (nI (e9 + 1))), (5, .int 0), (4, .int (nI k)), (2, .int (nI (tg_u o kp Y qn f) + sI (tg_c o kp Y qn f) k)), (3, .int (nI f)), (0, .ref rw9), (1, .int qn)]) hx hb dX4_together_106 hl (k := 1) rfl (nI_1 e9) (by decide) rfl (fun ls hl => ?_)
                                refine lv_goto (tgt := 62) hx hb dX4_together_109 (by decide) ?_
                                exact ih7 (e9 + 1) 0 (by omega) (Or.inr ⟨rfl, fun h9 => h9.2 ((u_mem f).mpr ⟨e9, by omega, hke, hm⟩)⟩) ls H locs (lv_sub hl [0, 1, 2, 3, 4, 5, 6] rfl) hH hS
                              · exact absurd c6 (by decide)
                            · skip
                              refine lv_if_ne (tgt := 103) hx hb dX4_together_96 (by decide) (fun c6 => ?_) (fun c6 => ?_)
                              · exact absurd rfl c6
                              · skip
                                refine lv_iconst (v := 1) hx hb dX4_together_99 (by decide) ?_
                                refine lv_goto (tgt := 104) hx hb dX4_together_100 (by decide) ?_
                                refine lv_istore (lv' := [(5, .int 1), (6, .int (nI e9)), (4, .int (nI k)), (2, .int (nI (tg_u o kp Y qn f) + sI (tg_c o kp Y qn f) k)), (3, .int (nI f)), (0, .ref rw9), (1, .int qn)]) hx hb dX4_together_104 hl (by decide) rfl (fun ls hl => ?_)
                                refine lv_iinc (v := nI (e9 + 1)) (lv' := [(6, .int (nI (e9 + 1))), (5, .int 1), (4, .int (nI k)), (2, .int (nI (tg_u o kp Y qn f) + sI (tg_c o kp Y qn f) k)), (3, .int (nI f)), (0, .ref rw9), (1, .int qn)]) hx hb dX4_together_106 hl (k := 1) rfl (nI_1 e9) (by decide) rfl (fun ls hl => ?_)
                                refine lv_goto (tgt := 62) hx hb dX4_together_109 (by decide) ?_
                                exact ih7 (e9 + 1) 1 (by omega) (Or.inl ⟨rfl, hv.1, tg_s hv.2 (fun _ => hm)⟩) ls H locs (lv_sub hl [0, 1, 2, 3, 4, 5, 6] rfl) hH hS
                          · skip
                            refine h_aald hx hb hH (hK.1.2 2 _ rfl).1 rfl hrw e9 he12 (by decide) rfl dX4_together_76 ?_
                            rw [(hrows e9 he12).1 hke]
                            refine lv_ifnullN (tgt := 99) hx hb dX4_together_77 (by decide) ?_
                            refine lv_iconst (v := 1) hx hb dX4_together_99 (by decide) ?_
                            refine lv_goto (tgt := 104) hx hb dX4_together_100 (by decide) ?_
                            refine lv_istore (lv' := [(5, .int 1), (6, .int (nI e9)), (4, .int (nI k)), (2, .int (nI (tg_u o kp Y qn f) + sI (tg_c o kp Y qn f) k)), (3, .int (nI f)), (0, .ref rw9), (1, .int qn)]) hx hb dX4_together_104 hl (by decide) rfl (fun ls hl => ?_)
                            refine lv_iinc (v := nI (e9 + 1)) (lv' := [(6, .int (nI (e9 + 1))), (5, .int 1), (4, .int (nI k)), (2, .int (nI (tg_u o kp Y qn f) + sI (tg_c o kp Y qn f) k)), (3, .int (nI f)), (0, .ref rw9), (1, .int qn)]) hx hb dX4_together_106 hl (k := 1) rfl (nI_1 e9) (by decide) rfl (fun ls hl => ?_)
                            refine lv_goto (tgt := 62) hx hb dX4_together_109 (by decide) ?_
                            exact ih7 (e9 + 1) 1 (by omega) (Or.inl ⟨rfl, hv.1, tg_s hv.2 (fun h9 => absurd h9 hke)⟩) ls H locs (lv_sub hl [0, 1, 2, 3, 4, 5, 6] rfl) hH hS
                      · skip
                        refine lv_iload hx hb dX4_together_68 (lv_at hl 1 rfl) ?_
                        refine lv_if_eq (tgt := 112) hx hb dX4_together_70 (by decide) (fun c5 => ?_) (fun c5 => ?_)
                        · exact tail9 0 e9 (Or.inr ⟨rfl, hv⟩) ls H locs hl hH hS
                        · exact absurd rfl c5
                refine lv_iload_n hx hb dX4_together_33 rfl (lv_at hl 4 rfl) ?_
                refine lv_if_lt (tgt := 52) hx hb dX4_together_34 (by decide) (fun c2 => ?_) (fun c2 => ?_)
                · skip
                  have hP : tg_P o qn x = true := decide_eq_true (Or.inl c2)
                  refine lv_iconst (v := 1) hx hb dX4_together_52 (by decide) ?_
                  refine lv_goto (tgt := 57) hx hb dX4_together_53 (by decide) ?_
                  refine lv_istore (lv' := [(5, .int 1), (4, .int (nI k)), (2, .int (nI (tg_u o kp Y qn f) + sI (tg_c o kp Y qn f) k)), (3, .int (nI f)), (0, .ref rw9), (1, .int qn)]) hx hb dX4_together_57 hl (by decide) rfl (fun ls hl => ?_)
                  refine lv_iconst (v := 0) hx hb dX4_together_59 (by decide) ?_
                  refine lv_istore (lv' := [(6, .int 0), (5, .int 1), (4, .int (nI k)), (2, .int (nI (tg_u o kp Y qn f) + sI (tg_c o kp Y qn f) k)), (3, .int (nI f)), (0, .ref rw9), (1, .int qn)]) hx hb dX4_together_60 hl (by decide) rfl (fun ls hl => ?_)
                  exact gl f 0 1 (by omega) (Or.inl ⟨rfl, hP, fun h9 => by obtain ⟨_, h, _⟩ := (u_mem 0).mp h9; exact absurd h (Nat.not_lt_zero _)⟩) ls H locs (lv_sub hl [0, 1, 2, 3, 4, 5, 6] rfl) hH hS
                · skip
                  refine lv_aload_n hx hb dX4_together_37 rfl (lv_at hl 3 rfl) ?_
                  refine lv_iload_n hx hb dX4_together_38 rfl (lv_at hl 2 rfl) ?_
                  refine h_aald hx hb hH (hK.1.2 2 _ rfl).1 rfl hrw f hf12 (by decide) rfl dX4_together_39 ?_
                  rw [hq]
                  refine h_get (v := .ref ia) (C0 := RX3) (T := TX3) (N := 3) hx hb hts hin3 hown hK.1 hH vr rfl 2 (by decide) rfl (by decide +kernel) rfl dX4_together_40 ?_
                  refine lv_iload hx hb dX4_together_43 (lv_at hl 0 rfl) ?_
                  refine h_aald hx hb hH hK.2.2.1 rfl vi k (by omega) (by decide) rfl dX4_together_45 ?_
                  rw [hIk]
                  refine lv_iconst (v := 0) hx hb dX4_together_46 (by decide) ?_
                  refine h_iald hx hb hK.1 hH hbX 0 rfl 0 (by decide) (by decide) rfl dX4_together_47 ?_
                  rw [x0]
                  refine lv_iload_n hx hb dX4_together_48 rfl (lv_at hl 4 rfl) ?_
                  refine lv_icmp_ne (tgt := 56) hx hb dX4_together_49 (by decide) (fun c3 => ?_) (fun c3 => ?_)
                  · skip
                    have hP : ¬ tg_P o qn x = true := fun h9 => (of_decide_eq_true h9).elim c2 c3
                    refine lv_iconst (v := 0) hx hb dX4_together_56 (by decide) ?_
                    refine lv_istore (lv' := [(5, .int 0), (4, .int (nI k)), (2, .int (nI (tg_u o kp Y qn f) + sI (tg_c o kp Y qn f) k)), (3, .int (nI f)), (0, .ref rw9), (1, .int qn)]) hx hb dX4_together_57 hl (by decide) rfl (fun ls hl => ?_)
                    refine lv_iconst (v := 0) hx hb dX4_together_59 (by decide) ?_
                    refine lv_istore (lv' := [(6, .int 0), (5, .int 0), (4, .int (nI k)), (2, .int (nI (tg_u o kp Y qn f) + sI (tg_c o kp Y qn f) k)), (3, .int (nI f)), (0, .ref rw9), (1, .int qn)]) hx hb dX4_together_60 hl (by decide) rfl (fun ls hl => ?_)
                    exact gl f 0 0 (by omega) (Or.inr ⟨rfl, fun h9 => hP h9.1⟩) ls H locs (lv_sub hl [0, 1, 2, 3, 4, 5, 6] rfl) hH hS
                  · skip
                    have hP : tg_P o qn x = true := decide_eq_true (Or.inr c3)
                    refine lv_iconst (v := 1) hx hb dX4_together_52 (by decide) ?_
                    refine lv_goto (tgt := 57) hx hb dX4_together_53 (by decide) ?_
                    refine lv_istore (lv' := [(5, .int 1), (4, .int (nI k)), (2, .int (nI (tg_u o kp Y qn f) + sI (tg_c o kp Y qn f) k)), (3, .int (nI f)), (0, .ref rw9), (1, .int qn)]) hx hb dX4_together_57 hl (by decide) rfl (fun ls hl => ?_)
                    refine lv_iconst (v := 0) hx hb dX4_together_59 (by decide) ?_
                    refine lv_istore (lv' := [(6, .int 0), (5, .int 1), (4, .int (nI k)), (2, .int (nI (tg_u o kp Y qn f) + sI (tg_c o kp Y qn f) k)), (3, .int (nI f)), (0, .ref rw9), (1, .int qn)]) hx hb dX4_together_60 hl (by decide) rfl (fun ls hl => ?_)
                    exact gl f 0 1 (by omega) (Or.inl ⟨rfl, hP, fun h9 => by obtain ⟨_, h, _⟩ := (u_mem 0).mp h9; exact absurd h (Nat.not_lt_zero _)⟩) ls H locs (lv_sub hl [0, 1, 2, 3, 4, 5, 6] rfl) hH hS
          refine inner (r_R o (Y f)).length 0 (by omega) ls H locs ?_ hH hS
          have e0 : nI (tg_u o kp Y qn f) + sI (tg_c o kp Y qn f) 0 = nI (tg_u o kp Y qn f) := Int32.add_zero _
          rw [e0]
          exact (lv_sub hl [0, 2, 1, 3, 4] rfl)
        · skip
          refine h_aald hx hb hH (hK.1.2 2 _ rfl).1 rfl hrw f hf12 (by decide) rfl dX4_together_12 ?_
          rw [(hrows f hf12).1 hk]
          refine lv_ifnonnullN hx hb dX4_together_13 ?_
          refine lv_goto (tgt := 131) hx hb dX4_together_16 (by decide) ?_
          refine lv_iinc (v := nI (f + 1)) (lv' := [(3, .int (nI (f + 1))), (2, .int (nI (tg_u o kp Y qn f))), (0, .ref rw9), (1, .int qn)]) hx hb dX4_together_131 hl (k := 0) rfl (nI_1 f) (by decide) rfl (fun ls hl => ?_)
          refine lv_goto (tgt := 4) hx hb dX4_together_134 (by decide) ?_
          exact ih (f + 1) (by omega) ls H locs (by rw [tg_no hk]; exact (lv_sub hl [0, 1, 2, 3] rfl)) hH hS
  exact outer 12 0 rfl ls s.heap [] (lv_sub hl [0, 1, 2, 3] rfl) hH hS
