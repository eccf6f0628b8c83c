theorem b2_f {x : Bool} (h : b2 (x = true) = 0) : x = false := by cases x <;> first | rfl | exact absurd h (by decide)
theorem b2_t {x : Bool} (h : ¬ b2 (x = true) = 0) : x = true := by cases x <;> first | rfl | exact absurd (by decide) h
abbrev rm_l_joined : Room := { frames := 0, cells := 0, slots := 0, locals := 4000 }
set_option maxHeartbeats 4000000 in
set_option maxRecDepth 100000 in
/-- two truths joined -/
theorem c_l_joined (l : Launch) (D : va_G) (cs : Nat → ClassId) (C : hC) (sz : Nat) (a b : Int32) (wh : Nat) (hwh : wh < 6) : Met l yL_joined wsL_joined rm_l_joined (va_Pc [.int a, .int b, .int (nI wh)] (hU D cs C sz)) (va_Qi (fun (r : Int32) (u : hC) => u = C ∧ r = jnF a b wh) (fun u t => h_H D (h_A C sz) u t.heap) (h_A C sz)) 0 0 (h_A C sz) := by
  refine hMet_z (cc := cL_joined) (maxL := 3) (by decide) rfl RL rfl (Nat.le_of_ble_eq_true rfl) (lv := [(0, .int a), (1, .int b), (2, .int (nI wh))]) rfl ?_
  intro p e s m args below meth c Q A ls hsz C0 hH hS hl hret
  obtain ⟨hx, hb, hml, hts, hown, hlocks, hK, hN, hA, hargs⟩ := C0
  rcases (show wh = 0 ∨ wh = 1 ∨ wh = 2 ∨ wh = 3 ∨ wh = 4 ∨ wh = 5 by omega) with rfl | rfl | rfl | rfl | rfl | rfl
  · skip
    refine lv_iload_n hx hb dL_joined_0 rfl (lv_at hl 2 rfl) ?_
    refine lv_tableIn (off := 35) (tgt := 36) hx hb dL_joined_1 (by decide) (by decide) rfl (by decide) ?_
    refine lv_iload_n hx hb dL_joined_36 rfl (lv_at hl 0 rfl) ?_
    refine lv_if_eq (tgt := 48) hx hb dL_joined_37 (by decide) (fun c1 => ?_) (fun c1 => ?_)
    · skip
      refine lv_iconst (v := 0) hx hb dL_joined_48 (by decide) ?_
      exact hret 49 ls _ _ 0 0 0 C dL_joined_49 (by first | decide | omega) (by first | decide | omega) (⟨⟨rfl, by simp [jnF, b2, c1]⟩, Or.inl rfl⟩) hH hS
    · skip
      refine lv_iload_n hx hb dL_joined_40 rfl (lv_at hl 1 rfl) ?_
      refine lv_if_eq (tgt := 48) hx hb dL_joined_41 (by decide) (fun c2 => ?_) (fun c2 => ?_)
      · skip
        refine lv_iconst (v := 0) hx hb dL_joined_48 (by decide) ?_
        exact hret 49 ls _ _ 0 0 0 C dL_joined_49 (by first | decide | omega) (by first | decide | omega) (⟨⟨rfl, by simp [jnF, b2, c1, c2]⟩, Or.inl rfl⟩) hH hS
      · skip
        refine lv_iconst (v := 1) hx hb dL_joined_44 (by decide) ?_
        refine lv_goto (tgt := 49) hx hb dL_joined_45 (by decide) ?_
        exact hret 49 ls _ _ 0 0 1 C dL_joined_49 (by first | decide | omega) (by first | decide | omega) (⟨⟨rfl, by simp [jnF, b2, c1, c2]⟩, Or.inr rfl⟩) hH hS
  · skip
    refine lv_iload_n hx hb dL_joined_0 rfl (lv_at hl 2 rfl) ?_
    refine lv_tableIn (off := 49) (tgt := 50) hx hb dL_joined_1 (by decide) (by decide) rfl (by decide) ?_
    refine lv_iload_n hx hb dL_joined_50 rfl (lv_at hl 0 rfl) ?_
    refine lv_if_ne (tgt := 58) hx hb dL_joined_51 (by decide) (fun c1 => ?_) (fun c1 => ?_)
    · skip
      refine lv_iconst (v := 1) hx hb dL_joined_58 (by decide) ?_
      refine lv_goto (tgt := 63) hx hb dL_joined_59 (by decide) ?_
      exact hret 63 ls _ _ 0 0 1 C dL_joined_63 (by first | decide | omega) (by first | decide | omega) (⟨⟨rfl, by simp [jnF, b2, c1]⟩, Or.inr rfl⟩) hH hS
    · skip
      refine lv_iload_n hx hb dL_joined_54 rfl (lv_at hl 1 rfl) ?_
      refine lv_if_eq (tgt := 62) hx hb dL_joined_55 (by decide) (fun c2 => ?_) (fun c2 => ?_)
      · skip
        refine lv_iconst (v := 0) hx hb dL_joined_62 (by decide) ?_
        exact hret 63 ls _ _ 0 0 0 C dL_joined_63 (by first | decide | omega) (by first | decide | omega) (⟨⟨rfl, by simp [jnF, b2, c1, c2]⟩, Or.inl rfl⟩) hH hS
      · skip
        refine lv_iconst (v := 1) hx hb dL_joined_58 (by decide) ?_
        refine lv_goto (tgt := 63) hx hb dL_joined_59 (by decide) ?_
        exact hret 63 ls _ _ 0 0 1 C dL_joined_63 (by first | decide | omega) (by first | decide | omega) (⟨⟨rfl, by simp [jnF, b2, c1, c2]⟩, Or.inr rfl⟩) hH hS
  · skip
    refine lv_iload_n hx hb dL_joined_0 rfl (lv_at hl 2 rfl) ?_
    refine lv_tableIn (off := 63) (tgt := 64) hx hb dL_joined_1 (by decide) (by decide) rfl (by decide) ?_
    refine lv_iload_n hx hb dL_joined_64 rfl (lv_at hl 0 rfl) ?_
    refine lv_iload_n hx hb dL_joined_65 rfl (lv_at hl 1 rfl) ?_
    refine lv_icmp_eq (tgt := 73) hx hb dL_joined_66 (by decide) (fun c1 => ?_) (fun c1 => ?_)
    · skip
      refine lv_iconst (v := 0) hx hb dL_joined_73 (by decide) ?_
      exact hret 74 ls _ _ 0 0 0 C dL_joined_74 (by first | decide | omega) (by first | decide | omega) (⟨⟨rfl, by simp [jnF, b2, c1]⟩, Or.inl rfl⟩) hH hS
    · skip
      refine lv_iconst (v := 1) hx hb dL_joined_69 (by decide) ?_
      refine lv_goto (tgt := 74) hx hb dL_joined_70 (by decide) ?_
      exact hret 74 ls _ _ 0 0 1 C dL_joined_74 (by first | decide | omega) (by first | decide | omega) (⟨⟨rfl, by simp [jnF, b2, c1]⟩, Or.inr rfl⟩) hH hS
  · skip
    refine lv_iload_n hx hb dL_joined_0 rfl (lv_at hl 2 rfl) ?_
    refine lv_tableIn (off := 74) (tgt := 75) hx hb dL_joined_1 (by decide) (by decide) rfl (by decide) ?_
    refine lv_iload_n hx hb dL_joined_75 rfl (lv_at hl 0 rfl) ?_
    refine lv_if_eq (tgt := 83) hx hb dL_joined_76 (by decide) (fun c1 => ?_) (fun c1 => ?_)
    · skip
      refine lv_iconst (v := 1) hx hb dL_joined_83 (by decide) ?_
      refine lv_goto (tgt := 88) hx hb dL_joined_84 (by decide) ?_
      exact hret 88 ls _ _ 0 0 1 C dL_joined_88 (by first | decide | omega) (by first | decide | omega) (⟨⟨rfl, by simp [jnF, b2, c1]⟩, Or.inr rfl⟩) hH hS
    · skip
      refine lv_iload_n hx hb dL_joined_79 rfl (lv_at hl 1 rfl) ?_
      refine lv_if_ne (tgt := 87) hx hb dL_joined_80 (by decide) (fun c2 => ?_) (fun c2 => ?_)
      · skip
        refine lv_iconst (v := 0) hx hb dL_joined_87 (by decide) ?_
        exact hret 88 ls _ _ 0 0 0 C dL_joined_88 (by first | decide | omega) (by first | decide | omega) (⟨⟨rfl, by simp [jnF, b2, c1, c2]⟩, Or.inl rfl⟩) hH hS
      · skip
        refine lv_iconst (v := 1) hx hb dL_joined_83 (by decide) ?_
        refine lv_goto (tgt := 88) hx hb dL_joined_84 (by decide) ?_
        exact hret 88 ls _ _ 0 0 1 C dL_joined_88 (by first | decide | omega) (by first | decide | omega) (⟨⟨rfl, by simp [jnF, b2, c1, c2]⟩, Or.inr rfl⟩) hH hS
  · skip
    refine lv_iload_n hx hb dL_joined_0 rfl (lv_at hl 2 rfl) ?_
    refine lv_tableIn (off := 88) (tgt := 89) hx hb dL_joined_1 (by decide) (by decide) rfl (by decide) ?_
    refine lv_iload_n hx hb dL_joined_89 rfl (lv_at hl 0 rfl) ?_
    refine lv_if_ne (tgt := 101) hx hb dL_joined_90 (by decide) (fun c1 => ?_) (fun c1 => ?_)
    · skip
      refine lv_iconst (v := 0) hx hb dL_joined_101 (by decide) ?_
      exact hret 102 ls _ _ 0 0 0 C dL_joined_102 (by first | decide | omega) (by first | decide | omega) (⟨⟨rfl, by simp [jnF, b2, c1]⟩, Or.inl rfl⟩) hH hS
    · skip
      refine lv_iload_n hx hb dL_joined_93 rfl (lv_at hl 1 rfl) ?_
      refine lv_if_ne (tgt := 101) hx hb dL_joined_94 (by decide) (fun c2 => ?_) (fun c2 => ?_)
      · skip
        refine lv_iconst (v := 0) hx hb dL_joined_101 (by decide) ?_
        exact hret 102 ls _ _ 0 0 0 C dL_joined_102 (by first | decide | omega) (by first | decide | omega) (⟨⟨rfl, by simp [jnF, b2, c1, c2]⟩, Or.inl rfl⟩) hH hS
      · skip
        refine lv_iconst (v := 1) hx hb dL_joined_97 (by decide) ?_
        refine lv_goto (tgt := 102) hx hb dL_joined_98 (by decide) ?_
        exact hret 102 ls _ _ 0 0 1 C dL_joined_102 (by first | decide | omega) (by first | decide | omega) (⟨⟨rfl, by simp [jnF, b2, c1, c2]⟩, Or.inr rfl⟩) hH hS
  · skip
    refine lv_iload_n hx hb dL_joined_0 rfl (lv_at hl 2 rfl) ?_
    refine lv_tableOut (tgt := 103) hx hb dL_joined_1 (Or.inr (by decide)) (by decide) ?_
    refine lv_iload_n hx hb dL_joined_103 rfl (lv_at hl 0 rfl) ?_
    refine lv_iload_n hx hb dL_joined_104 rfl (lv_at hl 1 rfl) ?_
    refine lv_icmp_ne (tgt := 112) hx hb dL_joined_105 (by decide) (fun c1 => ?_) (fun c1 => ?_)
    · skip
      refine lv_iconst (v := 0) hx hb dL_joined_112 (by decide) ?_
      exact hret 113 ls _ _ 0 0 0 C dL_joined_113 (by first | decide | omega) (by first | decide | omega) (⟨⟨rfl, by simp [jnF, b2, c1]⟩, Or.inl rfl⟩) hH hS
    · skip
      refine lv_iconst (v := 1) hx hb dL_joined_108 (by decide) ?_
      refine lv_goto (tgt := 113) hx hb dL_joined_109 (by decide) ?_
      exact hret 113 ls _ _ 0 0 1 C dL_joined_113 (by first | decide | omega) (by first | decide | omega) (⟨⟨rfl, by simp [jnF, b2, c1]⟩, Or.inr rfl⟩) hH hS

abbrev rm_l_given : Room := { frames := 1, cells := 1, slots := 4, locals := 4100 }
set_option maxHeartbeats 4000000 in
set_option maxRecDepth 100000 in
/-- what is said if the answer to a question is given -/
theorem c_l_given (l : Launch) (D : va_G) (cs : Nat → ClassId) (C : hC) (sz : Nat) (a : Nat) (F : Nat → Int64) (f : Nat → Bool) (ha : C a = some (.inl (cs 1, 4, .inr (.inl F)))) (hf : j_S F f) (q b : Nat) (hq : q < 8) (hb2 : b < 2) : Met l yL_given wsL_given rm_l_given (va_Pc [.ref a, .int (nI q), .int (nI b)] (hU D cs C sz)) (va_Qr (fun _ : hC => True) (fun u a t => (fun (r : Nat) (u : hC) => C r = none ∧ ∃ F' : Nat → Int64, j_S F' (b_c f q b) ∧ u = h_U C r (.inl (cs 1, 4, .inr (.inl F')))) a u ∧ h_H D (h_A C sz) u t.heap) (h_A C sz)) 1 4 (h_A C sz) := by
  refine hMet_a (cc := cL_given) (maxL := 5) (by decide) rfl RL rfl (Or.inr ⟨_, rfl⟩) (Nat.le_of_ble_eq_true rfl) (lv := [(0, .ref a), (1, .int (nI q)), (2, .int (nI b))]) rfl ?_
  intro p e s m args below meth c Q A ls hsz C0 hH hS hl hret
  obtain ⟨hx, hb, hml, hts, hown, hlocks, hK, hN, hA, hargs⟩ := C0
  refine lv_iconst (v := 4) hx hb dL_given_0 (by decide) ?_
  refine h_newa (atype := .long) (ty := .long) (a0 := (4, .inr (.inl (fun _ => 0)))) (cA := cs 1) hx hb (hts (.arrayClass .long) (by decide +kernel)) rfl (fun _ h => by cases h) hK.1 hH hS hA 1 rfl (N' := 4) (fun _ => rfl) (by decide) (by decide) (by decide) (Nat.le_of_ble_eq_true rfl) (Nat.le_of_ble_eq_true rfl) dL_given_1 (fun q0 H hq0 hH hS => ?_)
  refine lv_astore_n (lv' := [(3, .ref q0), (0, .ref a), (1, .int (nI q)), (2, .int (nI b))]) hx hb dL_given_3 rfl hl (by decide) rfl (fun ls hl => ?_)
  refine lv_iconst (v := 0) hx hb dL_given_4 (by decide) ?_
  refine lv_istore (lv' := [(4, .int 0), (3, .ref q0), (0, .ref a), (1, .int (nI q)), (2, .int (nI b))]) hx hb dL_given_5 hl (by decide) rfl (fun ls hl => ?_)
  have loop : ∀ r9 i : Nat, i + r9 = 256 → ∀ (F' : Nat → Int64) (ls : Array Slot) (H : Heap) (locs : List Loc), lv_has ls 5 [(4, .int (nI i)), (3, .ref q0), (0, .ref a), (1, .int (nI q)), (2, .int (nI b))] → h_H D A (h_U C q0 (.inl (cs 1, 4, .inr (.inl F')))) H → va_S A s.heap H locs → j_S F' (b_t (b_c f q b) i) → W p l e rm_l_given s m args below meth c H locs 1 4 Q (F0 m 7 ls []) := by
    intro r9
    induction r9 with
    | zero =>
      intro i hi F' ls H locs hl hH hS hF
      obtain rfl : i = 256 := by omega
      refine lv_iload hx hb dL_given_7 (lv_at hl 0 rfl) ?_
      refine lv_sipush (v := 256) hx hb dL_given_9 (by decide) ?_
      refine lv_icmp_ge (tgt := 46) hx hb dL_given_12 (by decide) (fun c1 => ?_) (fun c1 => ?_)
      · skip
        refine lv_aload_n hx hb dL_given_46 rfl (lv_at hl 1 rfl) ?_
        exact hret 47 ls _ _ 1 4 q0 _ dL_given_47 (by first | decide | omega) (by first | decide | omega) (⟨hq0, F', by rw [b_t256 (hf.1.c hq hb2)] at hF; exact hF, rfl⟩) hH hS
      · exact absurd (nI_le (Nat.le_refl 256) (by omega)) c1
    | succ r9 ih =>
      intro i hi F' ls H locs hl hH hS hF
      refine lv_iload hx hb dL_given_7 (lv_at hl 0 rfl) ?_
      refine lv_sipush (v := 256) hx hb dL_given_9 (by decide) ?_
      refine lv_icmp_ge (tgt := 46) hx hb dL_given_12 (by decide) (fun c1 => ?_) (fun c1 => ?_)
      · exact absurd c1 (nI_ge (b := 256) (by omega) (by omega))
      · skip
        refine lv_aload_n hx hb dL_given_15 rfl (lv_at hl 2 rfl) ?_
        refine lv_iload hx hb dL_given_16 (lv_at hl 0 rfl) ?_
        refine lv_iconst (v := 1) hx hb dL_given_18 (by decide) ?_
        refine lv_iload_n hx hb dL_given_19 rfl (lv_at hl 3 rfl) ?_
        refine lv_ishl hx hb dL_given_20 ?_
        refine lv_iconst (v := -1) hx hb dL_given_21 (by decide) ?_
        refine lv_ixor hx hb dL_given_22 ?_
        refine lv_iand hx hb dL_given_23 ?_
        refine lv_iload_n hx hb dL_given_24 rfl (lv_at hl 4 rfl) ?_
        refine lv_iload_n hx hb dL_given_25 rfl (lv_at hl 3 rfl) ?_
        refine lv_ishl hx hb dL_given_26 ?_
        refine lv_ior hx hb dL_given_27 ?_
        rw [j_giv i (by omega) q hq b hb2]
        refine h_calli (va_runS (As := [.ref a, .int (nI (sB i q b))]) (rest := []) ⟨hx, hb, hml, hown, hts⟩ (c_l_says l D cs (h_U C q0 (.inl (cs 1, 4, .inr (.inl F')))) H.size a F f ((h_U_ne (h_ne ha hq0)).trans ha) hf (sB i q b) (sB_lt i (by omega) q hq b hb2)) (va_cwS 2 hts gL_given_L_says rfl rfl rfl (by decide +kernel) ⟨Nat.le_of_ble_eq_true rfl, Nat.le_of_ble_eq_true rfl⟩) (h_preS hK hN hH) rfl rfl hl.1 rfl (lv_room (Nat.le_of_ble_eq_true rfl)) dL_given_28 ⟨by first | exact Nat.le_of_ble_eq_true rfl | omega, by first | exact Nat.le_of_ble_eq_true rfl | omega⟩) hH hS hA (fun r u H locs hp hH hS => ?_)
        obtain ⟨hu, hr⟩ := hp
        rw [hu] at hH
        rw [hr]
        refine lv_if_eq (tgt := 40) hx hb dL_given_31 (by decide) (fun c2 => ?_) (fun c2 => ?_)
        · skip
          have hv : (b_c f q b) i = false := b2_f c2
          refine lv_iinc (v := nI (i + 1)) (lv' := [(4, .int (nI (i + 1))), (3, .ref q0), (0, .ref a), (1, .int (nI q)), (2, .int (nI b))]) hx hb dL_given_40 hl (k := 0) rfl (nI_1 i) (by decide) rfl (fun ls hl => ?_)
          refine lv_goto (tgt := 7) hx hb dL_given_43 (by decide) ?_
          exact ih (i + 1) (by omega) F' ls H locs (lv_sub hl [0, 1, 2, 3, 4] rfl) hH hS (by rw [← b_ts0 hv]; exact hF)
        · skip
          have hv : (b_c f q b) i = true := b2_t c2
          refine lv_aload_n hx hb dL_given_34 rfl (lv_at hl 1 rfl) ?_
          refine lv_iload hx hb dL_given_35 (lv_at hl 0 rfl) ?_
          refine h_callv (va_runS (As := [.ref q0, .int (nI i)]) (rest := []) ⟨hx, hb, hml, hown, hts⟩ (c_l_set l D cs (h_U C q0 (.inl (cs 1, 4, .inr (.inl F')))) H.size q0 F' h_U_at i (by omega)) (va_cwS 2 hts gL_given_L_set rfl rfl rfl (by decide +kernel) ⟨Nat.le_of_ble_eq_true rfl, Nat.le_of_ble_eq_true rfl⟩) (h_preS hK hN hH) rfl rfl hl.1 rfl (lv_room (Nat.le_of_ble_eq_true rfl)) dL_given_37 ⟨by first | exact Nat.le_of_ble_eq_true rfl | omega, by first | exact Nat.le_of_ble_eq_true rfl | omega⟩) hH hS hA (fun u H locs hp hH hS => ?_)
          rw [hp, h_U_U] at hH
          refine lv_iinc (v := nI (i + 1)) (lv' := [(4, .int (nI (i + 1))), (3, .ref q0), (0, .ref a), (1, .int (nI q)), (2, .int (nI b))]) hx hb dL_given_40 hl (k := 0) rfl (nI_1 i) (by decide) rfl (fun ls hl => ?_)
          refine lv_goto (tgt := 7) hx hb dL_given_43 (by decide) ?_
          exact ih (i + 1) (by omega) _ ls H locs (lv_sub hl [0, 1, 2, 3, 4] rfl) hH hS (by rw [← b_ts1 hv]; exact j_set hF (by omega))
  exact loop 256 0 rfl (fun _ => 0) ls H _ (lv_sub hl [0, 1, 2, 3, 4] rfl) hH hS (by rw [b_t0]; exact j_S0)

/-- two folds joined: what the new one says -/
def b_j (f g : Nat → Bool) (wh : Nat) : Nat → Bool := fun k => decide (k < 256) && decide (¬ jnF (b2 (f k = true)) (b2 (g k = true)) wh = 0)
theorem b_jS (f g : Nat → Bool) (wh : Nat) : b_S (b_j f g wh) := fun k hk => by simp [b_j]; omega
theorem b_j_f {f g : Nat → Bool} {wh k : Nat} (h : jnF (b2 (f k = true)) (b2 (g k = true)) wh = 0) : b_j f g wh k = false := by simp [b_j, h]
theorem b_j_t {f g : Nat → Bool} {wh k : Nat} (hk : k < 256) (h : ¬ jnF (b2 (f k = true)) (b2 (g k = true)) wh = 0) : b_j f g wh k = true := by simp [b_j, h, hk]
abbrev rm_l_joined_ : Room := { frames := 1, cells := 1, slots := 4, locals := 4100 }
set_option maxHeartbeats 4000000 in
set_option maxRecDepth 100000 in
/-- two folds joined -/
theorem c_l_joined_ (l : Launch) (D : va_G) (cs : Nat → ClassId) (C : hC) (sz : Nat) (a b : Nat) (F G : Nat → Int64) (f g : Nat → Bool) (ha : C a = some (.inl (cs 1, 4, .inr (.inl F)))) (hb9 : C b = some (.inl (cs 1, 4, .inr (.inl G)))) (hf : j_S F f) (hg : j_S G g) (wh : Nat) (hwh : wh < 6) : Met l yL_joined_ wsL_joined_ rm_l_joined_ (va_Pc [.ref a, .ref b, .int (nI wh)] (hU D cs C sz)) (va_Qr (fun _ : hC => True) (fun u a t => (fun (r : Nat) (u : hC) => C r = none ∧ ∃ F' : Nat → Int64, j_S F' (b_j f g wh) ∧ u = h_U C r (.inl (cs 1, 4, .inr (.inl F')))) a u ∧ h_H D (h_A C sz) u t.heap) (h_A C sz)) 1 4 (h_A C sz) := by
  refine hMet_a (cc := cL_joined_) (maxL := 5) (by decide) rfl RL rfl (Or.inr ⟨_, rfl⟩) (Nat.le_of_ble_eq_true rfl) (lv := [(0, .ref a), (1, .ref b), (2, .int (nI wh))]) rfl ?_
  intro p e s m args below meth c Q A ls hsz C0 hH hS hl hret
  obtain ⟨hx, hb, hml, hts, hown, hlocks, hK, hN, hA, hargs⟩ := C0
  refine lv_iconst (v := 4) hx hb dL_joined__0 (by decide) ?_
  refine h_newa (atype := .long) (ty := .long) (a0 := (4, .inr (.inl (fun _ => 0)))) (cA := cs 1) hx hb (hts (.arrayClass .long) (by decide +kernel)) rfl (fun _ h => by cases h) hK.1 hH hS hA 1 rfl (N' := 4) (fun _ => rfl) (by decide) (by decide) (by decide) (Nat.le_of_ble_eq_true rfl) (Nat.le_of_ble_eq_true rfl) dL_joined__1 (fun q0 H hq0 hH hS => ?_)
  refine lv_astore_n (lv' := [(3, .ref q0), (0, .ref a), (1, .ref b), (2, .int (nI wh))]) hx hb dL_joined__3 rfl hl (by decide) rfl (fun ls hl => ?_)
  refine lv_iconst (v := 0) hx hb dL_joined__4 (by decide) ?_
  refine lv_istore (lv' := [(4, .int 0), (3, .ref q0), (0, .ref a), (1, .ref b), (2, .int (nI wh))]) hx hb dL_joined__5 hl (by decide) rfl (fun ls hl => ?_)
  have loop : ∀ r9 i : Nat, i + r9 = 256 → ∀ (F' : Nat → Int64) (ls : Array Slot) (H : Heap) (locs : List Loc), lv_has ls 5 [(4, .int (nI i)), (3, .ref q0), (0, .ref a), (1, .ref b), (2, .int (nI wh))] → h_H D A (h_U C q0 (.inl (cs 1, 4, .inr (.inl F')))) H → va_S A s.heap H locs → j_S F' (b_t (b_j f g wh) i) → W p l e rm_l_joined_ s m args below meth c H locs 1 4 Q (F0 m 7 ls []) := by
    intro r9
    induction r9 with
    | zero =>
      intro i hi F' ls H locs hl hH hS hF
      obtain rfl : i = 256 := by omega
      refine lv_iload hx hb dL_joined__7 (lv_at hl 0 rfl) ?_
      refine lv_sipush (v := 256) hx hb dL_joined__9 (by decide) ?_
      refine lv_icmp_ge (tgt := 46) hx hb dL_joined__12 (by decide) (fun c1 => ?_) (fun c1 => ?_)
      · skip
        refine lv_aload_n hx hb dL_joined__46 rfl (lv_at hl 1 rfl) ?_
        exact hret 47 ls _ _ 1 4 q0 _ dL_joined__47 (by first | decide | omega) (by first | decide | omega) (⟨hq0, F', by rw [b_t256 (b_jS f g wh)] at hF; exact hF, rfl⟩) hH hS
      · exact absurd (nI_le (Nat.le_refl 256) (by omega)) c1
    | succ r9 ih =>
      intro i hi F' ls H locs hl hH hS hF
      refine lv_iload hx hb dL_joined__7 (lv_at hl 0 rfl) ?_
      refine lv_sipush (v := 256) hx hb dL_joined__9 (by decide) ?_
      refine lv_icmp_ge (tgt := 46) hx hb dL_joined__12 (by decide) (fun c1 => ?_) (fun c1 => ?_)
      · exact absurd c1 (nI_ge (b := 256) (by omega) (by omega))
      · skip
        refine lv_aload_n hx hb dL_joined__15 rfl (lv_at hl 2 rfl) ?_
        refine lv_iload hx hb dL_joined__16 (lv_at hl 0 rfl) ?_
        refine h_calli (va_runS (As := [.ref a, .int (nI i)]) (rest := []) ⟨hx, hb, hml, hown, hts⟩ (c_l_says l D cs (h_U C q0 (.inl (cs 1, 4, .inr (.inl F')))) H.size a F f ((h_U_ne (h_ne ha hq0)).trans ha) hf i (by omega)) (va_cwS 2 hts gL_joined__L_says rfl rfl rfl (by decide +kernel) ⟨Nat.le_of_ble_eq_true rfl, Nat.le_of_ble_eq_true rfl⟩) (h_preS hK hN hH) rfl rfl hl.1 rfl (lv_room (Nat.le_of_ble_eq_true rfl)) dL_joined__18 ⟨by first | exact Nat.le_of_ble_eq_true rfl | omega, by first | exact Nat.le_of_ble_eq_true rfl | omega⟩) hH hS hA (fun r u H locs hp hH hS => ?_)
        obtain ⟨hu, hr⟩ := hp
        rw [hu] at hH
        rw [hr]
        refine lv_aload_n hx hb dL_joined__21 rfl (lv_at hl 3 rfl) ?_
        refine lv_iload hx hb dL_joined__22 (lv_at hl 0 rfl) ?_
        refine h_calli (va_runS (As := [.ref b, .int (nI i)]) (rest := [.int (b2 (f i = true))]) ⟨hx, hb, hml, hown, hts⟩ (c_l_says l D cs (h_U C q0 (.inl (cs 1, 4, .inr (.inl F')))) H.size b G g ((h_U_ne (h_ne hb9 hq0)).trans hb9) hg i (by omega)) (va_cwS 2 hts gL_joined__L_says rfl rfl rfl (by decide +kernel) ⟨Nat.le_of_ble_eq_true rfl, Nat.le_of_ble_eq_true rfl⟩) (h_preS hK hN hH) rfl rfl hl.1 rfl (lv_room (Nat.le_of_ble_eq_true rfl)) dL_joined__24 ⟨by first | exact Nat.le_of_ble_eq_true rfl | omega, by first | exact Nat.le_of_ble_eq_true rfl | omega⟩) hH hS hA (fun r u H locs hp hH hS => ?_)
        obtain ⟨hu, hr⟩ := hp
        rw [hu] at hH
        rw [hr]
        refine lv_iload_n hx hb dL_joined__27 rfl (lv_at hl 4 rfl) ?_
        refine h_calli (va_runS (As := [.int (b2 (f i = true)), .int (b2 (g i = true)), .int (nI wh)]) (rest := []) ⟨hx, hb, hml, hown, hts⟩ (c_l_joined l D cs (h_U C q0 (.inl (cs 1, 4, .inr (.inl F')))) H.size (b2 (f i = true)) (b2 (g i = true)) wh hwh) (va_cwS 3 hts gL_joined__L_joined rfl rfl rfl (by decide +kernel) ⟨Nat.le_of_ble_eq_true rfl, Nat.le_of_ble_eq_true rfl⟩) (h_preS hK hN hH) rfl rfl hl.1 rfl (lv_room (Nat.le_of_ble_eq_true rfl)) dL_joined__28 ⟨by first | exact Nat.le_of_ble_eq_true rfl | omega, by first | exact Nat.le_of_ble_eq_true rfl | omega⟩) hH hS hA (fun r u H locs hp hH hS => ?_)
        obtain ⟨hu, hr⟩ := hp
        rw [hu] at hH
        rw [hr]
        refine lv_if_eq (tgt := 40) hx hb dL_joined__31 (by decide) (fun c2 => ?_) (fun c2 => ?_)
        · skip
          have hv : (b_j f g wh) i = false := b_j_f c2
          refine lv_iinc (v := nI (i + 1)) (lv' := [(4, .int (nI (i + 1))), (3, .ref q0), (0, .ref a), (1, .ref b), (2, .int (nI wh))]) hx hb dL_joined__40 hl (k := 0) rfl (nI_1 i) (by decide) rfl (fun ls hl => ?_)
          refine lv_goto (tgt := 7) hx hb dL_joined__43 (by decide) ?_
          exact ih (i + 1) (by omega) F' ls H locs (lv_sub hl [0, 1, 2, 3, 4] rfl) hH hS (by rw [← b_ts0 hv]; exact hF)
        · skip
          have hv : (b_j f g wh) i = true := b_j_t (by omega) c2
          refine lv_aload_n hx hb dL_joined__34 rfl (lv_at hl 1 rfl) ?_
          refine lv_iload hx hb dL_joined__35 (lv_at hl 0 rfl) ?_
          refine h_callv (va_runS (As := [.ref q0, .int (nI i)]) (rest := []) ⟨hx, hb, hml, hown, hts⟩ (c_l_set l D cs (h_U C q0 (.inl (cs 1, 4, .inr (.inl F')))) H.size q0 F' h_U_at i (by omega)) (va_cwS 2 hts gL_joined__L_set rfl rfl rfl (by decide +kernel) ⟨Nat.le_of_ble_eq_true rfl, Nat.le_of_ble_eq_true rfl⟩) (h_preS hK hN hH) rfl rfl hl.1 rfl (lv_room (Nat.le_of_ble_eq_true rfl)) dL_joined__37 ⟨by first | exact Nat.le_of_ble_eq_true rfl | omega, by first | exact Nat.le_of_ble_eq_true rfl | omega⟩) hH hS hA (fun u H locs hp hH hS => ?_)
          rw [hp, h_U_U] at hH
          refine lv_iinc (v := nI (i + 1)) (lv' := [(4, .int (nI (i + 1))), (3, .ref q0), (0, .ref a), (1, .ref b), (2, .int (nI wh))]) hx hb dL_joined__40 hl (k := 0) rfl (nI_1 i) (by decide) rfl (fun ls hl => ?_)
          refine lv_goto (tgt := 7) hx hb dL_joined__43 (by decide) ?_
          exact ih (i + 1) (by omega) _ ls H locs (lv_sub hl [0, 1, 2, 3, 4] rfl) hH hS (by rw [← b_ts1 hv]; exact j_set hF (by omega))
  exact loop 256 0 rfl (fun _ => 0) ls H _ (lv_sub hl [0, 1, 2, 3, 4] rfl) hH hS (by rw [b_t0]; exact j_S0)
