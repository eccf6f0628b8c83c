abbrev rm_m_own0 : Room := { frames := 0, cells := 0, slots := 0, locals := 0 }
set_option maxHeartbeats 4000000 in
set_option maxRecDepth 100000 in
/-- a leaf -/
theorem c_m_own0 (l : Launch) (D : va_G) (I Z J : ClassId) (ad : Nat → Nat) (hI : mI ad) (M : Nat → Nat → Int32) (L : Nat → Nat → Int64) (sz : Nat) (v : Int32) (hv : v < 0) : Met l yX3_own wsX3_own rm_m_own0 (va_Pc [.ref (ad 0), .int v, .int 0] (mU D I Z J ad sz M L)) (va_Qv (fun (u : mU8) => u = (M, L)) (fun (u : mU8) t => mP D I Z J ad u.1 u.2 t.heap) (mA ad sz)) 0 0 (mA ad sz) := by
  refine mMet_v (cc := cX3_own) (maxL := 3) hI (by decide) rfl rfl (Nat.le_of_ble_eq_true rfl) (lv := [(0, .ref (ad 0)), (1, .int v), (2, .int 0)]) rfl ?_
  intro p e s m args below meth c Q A ls hsz C0 hW hl hret
  obtain ⟨hx, hb, hml, hts, hown, hlocks, hK, hDa, hA, hargs⟩ := C0
  refine lv_iload_n hx hb dX3_own_0 rfl (lv_at hl 1 rfl) ?_
  refine lv_if_lt (tgt := 18) hx hb dX3_own_1 (by decide) (fun c1 => ?_) (fun c1 => ?_)
  · skip
    exact hret 18 ls _ _ (M, L) dX3_own_18 (rfl) hW
  · exact absurd hv c1

abbrev rm_m_own1 : Room := { frames := 1, cells := 0, slots := 0, locals := 100 }
set_option maxHeartbeats 4000000 in
set_option maxRecDepth 100000 in
/-- a fork of two leaves -/
theorem c_m_own1 (l : Launch) (D : va_G) (I Z J : ClassId) (ad : Nat → Nat) (hI : mI ad) (M : Nat → Nat → Int32) (L : Nat → Nat → Int64) (sz : Nat) (h8 : M 8 0 = 0) (h6 : M 6 0 = -1) (h7 : M 7 0 = -2) : Met l yX3_own wsX3_own rm_m_own1 (va_Pc [.ref (ad 0), .int 0, .int 0] (mU D I Z J ad sz M L)) (va_Qv (fun (u : mU8) => u.1 0 0 = M 0 0 ∧ ∀ j : Nat, u.1 1 j = M 1 j) (fun (u : mU8) t => mP D I Z J ad u.1 u.2 t.heap) (mA ad sz)) 0 0 (mA ad sz) := by
  refine mMet_v (cc := cX3_own) (maxL := 3) hI (by decide) rfl rfl (Nat.le_of_ble_eq_true rfl) (lv := [(0, .ref (ad 0)), (1, .int 0), (2, .int 0)]) rfl ?_
  intro p e s m args below meth c Q A ls hsz C0 hW hl hret
  obtain ⟨hx, hb, hml, hts, hown, hlocks, hK, hDa, hA, hargs⟩ := C0
  have hin3 : ∀ w ∈ u_ws RX3 TX3 15, w ∈ wsX3_own := by decide +kernel
  refine lv_iload_n hx hb dX3_own_0 rfl (lv_at hl 1 rfl) ?_
  refine lv_if_lt (tgt := 18) hx hb dX3_own_1 (by decide) (fun c1 => ?_) (fun c1 => ?_)
  · exact absurd c1 (by decide)
  · skip
    refine lv_aload_n hx hb dX3_own_4 rfl (lv_at hl 0 rfl) ?_
    refine mr_get (v := .ref (ad 8)) hx hb hts hin3 hown hK hW rfl 9 (by decide) rfl (by decide +kernel) rfl dX3_own_5 ?_
    refine lv_iload_n hx hb dX3_own_8 rfl (lv_at hl 1 rfl) ?_
    refine mr_iald hx hb hK hW 8 (by decide) rfl 0 (by decide) (by decide) rfl dX3_own_9 ?_
    rw [h8]
    refine lv_iload_n hx hb dX3_own_10 rfl (lv_at hl 2 rfl) ?_
    refine lv_ishr hx hb dX3_own_11 ?_
    refine lv_iconst (v := 1) hx hb dX3_own_12 (by decide) ?_
    refine lv_iand hx hb dX3_own_13 ?_
    refine lv_iconst (v := 1) hx hb dX3_own_14 (by decide) ?_
    refine lv_icmp_ne (tgt := 19) hx hb dX3_own_15 (by decide) (fun c2 => ?_) (fun c2 => ?_)
    · skip
      refine lv_aload_n hx hb dX3_own_19 rfl (lv_at hl 0 rfl) ?_
      refine mr_get (v := .ref (ad 8)) hx hb hts hin3 hown hK hW rfl 9 (by decide) rfl (by decide +kernel) rfl dX3_own_20 ?_
      refine lv_iload_n hx hb dX3_own_23 rfl (lv_at hl 1 rfl) ?_
      refine lv_dup2_11 hx hb dX3_own_24 rfl rfl ?_
      refine mr_iald hx hb hK hW 8 (by decide) rfl 0 (by decide) (by decide) rfl dX3_own_25 ?_
      refine lv_iconst (v := 1) hx hb dX3_own_26 (by decide) ?_
      refine lv_iload_n hx hb dX3_own_27 rfl (lv_at hl 2 rfl) ?_
      refine lv_ishl hx hb dX3_own_28 ?_
      refine lv_ior hx hb dX3_own_29 ?_
      obtain ⟨x8, hx8⟩ : ∃ x : Int32, x = M 8 0 ||| ((1 : Int32) <<< ((0 : Int32) &&& 31)) := ⟨_, rfl⟩
      rw [← hx8]
      refine mr_iast hx hb hK hDa hW 8 (by decide) (fun _ _ => rfl) 0 (by decide) (by decide) rfl dX3_own_30 (fun H locs hW => ?_)
      refine lv_aload_n hx hb dX3_own_31 rfl (lv_at hl 0 rfl) ?_
      refine lv_aload_n hx hb dX3_own_32 rfl (lv_at hl 0 rfl) ?_
      refine mr_get (v := .ref (ad 6)) hx hb hts hin3 hown hK hW rfl 7 (by decide) rfl (by decide +kernel) rfl dX3_own_33 ?_
      refine lv_iload_n hx hb dX3_own_36 rfl (lv_at hl 1 rfl) ?_
      refine mr_iald hx hb hK hW 6 (by decide) rfl 0 (by decide) (by decide) rfl dX3_own_37 ?_
      rw [show (mst M 8 0 x8) 6 0 = -1 from by rw [mst_ne (by decide)]; exact h6]
      refine lv_iload_n hx hb dX3_own_38 rfl (lv_at hl 2 rfl) ?_
      refine mr_callv (va_runV (As := [.int (-1), .int 0]) (rest := []) ⟨hx, hb, hml, hown, hts⟩ (c_m_own0 l D I Z J ad hI (mst M 8 0 x8) L H.size (-1) (by decide)) (cwV 2 hts gX3_own_X3_own rfl rfl rfl (by decide +kernel) ⟨Nat.le_of_ble_eq_true rfl, Nat.le_of_ble_eq_true rfl⟩) (mr_preV hK hW) rfl rfl hl.1 rfl (lv_room (Nat.le_of_ble_eq_true rfl)) dX3_own_39 ⟨Nat.le_of_ble_eq_true rfl, Nat.le_of_ble_eq_true rfl⟩) hA hDa hW (fun u H locs hp hW => ?_)
      rw [show u.1 = (mst M 8 0 x8) from congrArg Prod.fst hp, show u.2 = L from congrArg Prod.snd hp] at hW
      refine lv_aload_n hx hb dX3_own_42 rfl (lv_at hl 0 rfl) ?_
      refine lv_aload_n hx hb dX3_own_43 rfl (lv_at hl 0 rfl) ?_
      refine mr_get (v := .ref (ad 7)) hx hb hts hin3 hown hK hW rfl 8 (by decide) rfl (by decide +kernel) rfl dX3_own_44 ?_
      refine lv_iload_n hx hb dX3_own_47 rfl (lv_at hl 1 rfl) ?_
      refine mr_iald hx hb hK hW 7 (by decide) rfl 0 (by decide) (by decide) rfl dX3_own_48 ?_
      rw [show (mst M 8 0 x8) 7 0 = -2 from by rw [mst_ne (by decide)]; exact h7]
      refine lv_iload_n hx hb dX3_own_49 rfl (lv_at hl 2 rfl) ?_
      refine mr_callv (va_runV (As := [.int (-2), .int 0]) (rest := []) ⟨hx, hb, hml, hown, hts⟩ (c_m_own0 l D I Z J ad hI (mst M 8 0 x8) L H.size (-2) (by decide)) (cwV 2 hts gX3_own_X3_own rfl rfl rfl (by decide +kernel) ⟨Nat.le_of_ble_eq_true rfl, Nat.le_of_ble_eq_true rfl⟩) (mr_preV hK hW) rfl rfl hl.1 rfl (lv_room (Nat.le_of_ble_eq_true rfl)) dX3_own_50 ⟨Nat.le_of_ble_eq_true rfl, Nat.le_of_ble_eq_true rfl⟩) hA hDa hW (fun u H locs hp hW => ?_)
      rw [show u.1 = (mst M 8 0 x8) from congrArg Prod.fst hp, show u.2 = L from congrArg Prod.snd hp] at hW
      exact hret 53 ls H locs ((mst M 8 0 x8), L) dX3_own_53 (⟨by show mst M 8 0 x8 0 0 = M 0 0; rw [mst_ne (by decide)], fun j => by show mst M 8 0 x8 1 j = M 1 j; rw [mst_ne (by decide)]⟩) hW
    · exact absurd c2 (by decide)

/-- what the first fork(0) gives -/
def okF (M : Nat → Nat → Int32) (r : Int32) (M2 : Nat → Nat → Int32) : Prop := (M2 = M ∧ (r = -1 ∨ r = -2)) ∨ ∃ q : Nat, q < 8 ∧ M2 = forkM M q ∧ r = 0
theorem okF.at (i : Nat) (hi : i ≠ 5 ∧ i ≠ 6 ∧ i ≠ 7 ∧ i ≠ 8 ∧ i ≠ 0) {M M2 : Nat → Nat → Int32} {r : Int32} (h : okF M r M2) : M2 i = M i := by
  rcases h with ⟨rfl, _⟩ | ⟨q, _, rfl, _⟩
  · rfl
  · rw [forkM, mst_ne hi.2.2.2.2, mst_ne hi.2.2.2.1, mst_ne hi.2.2.1, mst_ne hi.2.1, mst_ne hi.1]
theorem okF.z {M M2 : Nat → Nat → Int32} {r : Int32} (h : okF M r M2) : M2 0 0 = M 0 0 := by
  rcases h with ⟨rfl, _⟩ | ⟨q, _, rfl, _⟩
  · rfl
  · rw [forkM, mst_same, pk_un (by decide), mst_ne (by decide), mst_ne (by decide), mst_ne (by decide), mst_ne (by decide)]
theorem okF.f {M M2 : Nat → Nat → Int32} (h : okF M 0 M2) : M2 8 0 = 0 ∧ M2 6 0 = -1 ∧ M2 7 0 = -2 := by
  rcases h with ⟨_, h | h⟩ | ⟨q, _, rfl, _⟩
  · exact absurd h (by decide)
  · exact absurd h (by decide)
  · refine ⟨?_, ?_, ?_⟩
    · rw [forkM, mst_ne (by decide), mst_same, pk_us]
    · rw [forkM, mst_ne (by decide), mst_ne (by decide), mst_ne (by decide), mst_same, pk_us]
    · rw [forkM, mst_ne (by decide), mst_ne (by decide), mst_same, pk_us]
theorem okF.n {M M2 : Nat → Nat → Int32} {r : Int32} (h : okF M r M2) : r < 0 ∨ r = 0 := by
  rcases h with ⟨_, h | h⟩ | ⟨q, _, _, h⟩
  · exact Or.inl (by rw [h]; decide)
  · exact Or.inl (by rw [h]; decide)
  · exact Or.inr h
/-- the words of the first fold: a leaf's, or a question's -/
def sdOk (X : Nat → Int64) : Prop := (∀ k : Nat, k < 4 → X k = 0) ∨ (∀ k : Nat, k < 4 → X k = -1) ∨ ∃ q : Nat, q < 8 ∧ ∀ k : Nat, k < 4 → X k = ywF q k
theorem cpy4 {f g : Nat → Int64} {k : Nat} (hk : k < 4) : va_cpy f g 0 0 4 k = f k := by
  unfold va_cpy
  rw [if_pos (by omega)]
  congr 1
  omega

abbrev rm_m_make1 : Room := { frames := 3, cells := 0, slots := 0, locals := 500 }
set_option maxHeartbeats 4000000 in
set_option maxRecDepth 100000 in
/-- the first fold alone -/
theorem c_m_make1 (l : Launch) (D : va_G) (I Z J : ClassId) (ad : Nat → Nat) (hI : mI ad) (M : Nat → Nat → Int32) (L : Nat → Nat → Int64) (sz : Nat) (h10 : M 1 0 = 1) (hz : ∀ j : Nat, 0 < j → j < 12 → M 1 j = 0) (ho : ∀ k : Nat, k < 8 → M 3 k = nI k) (hs : sdOk (L 2)) : Met l yX3_make wsX3_make rm_m_make1 (va_Pc [.ref (ad 0)] (mU D I Z J ad sz M L)) (va_Qv (fun (u : mU8) => u.1 0 0 = M 0 0) (fun (u : mU8) t => mP D I Z J ad u.1 u.2 t.heap) (mA ad sz)) 0 0 (mA ad sz) := by
  refine mMet_v (cc := cX3_make) (maxL := 2) hI (by decide) rfl rfl (Nat.le_of_ble_eq_true rfl) (lv := [(0, .ref (ad 0))]) rfl ?_
  intro p e s m args below meth c Q A ls hsz C0 hW hl hret
  obtain ⟨hx, hb, hml, hts, hown, hlocks, hK, hDa, hA, hargs⟩ := C0
  have hin3 : ∀ w ∈ u_ws RX3 TX3 15, w ∈ wsX3_make := by decide +kernel
  refine lv_aload_n hx hb dX3_make_0 rfl (lv_at hl 0 rfl) ?_
  refine lv_iconst (v := 0) hx hb dX3_make_1 (by decide) ?_
  refine mr_put hx hb hts hin3 hown hK hDa hW rfl 4 (by decide) rfl (by decide +kernel) (by decide +kernel) (Nat.le_of_ble_eq_true rfl) rfl dX3_make_2 (fun H locs hW => ?_)
  refine lv_iconst (v := 0) hx hb dX3_make_5 (by decide) ?_
  refine lv_istore_n (lv' := [(1, .int 0), (0, .ref (ad 0))]) hx hb dX3_make_6 rfl hl (by decide) rfl (fun ls hl => ?_)
  have l2 : ∀ q i : Nat, i + q = 12 → 0 < i → ∀ (ls : Array Slot) (H : Heap) (locs : List Loc) (X : Nat → Nat → Int32) (Y : Nat → Nat → Int64), (X 0 0 = M 0 0 ∧ ∀ j : Nat, 0 < j → j < 12 → X 1 j = 0) → lv_has ls 2 [(1, .int (nI i)), (0, .ref (ad 0))] → mB9 D I Z J ad A s.heap X Y H locs → W p l e rm_m_make1 s m args below meth c H locs 0 0 Q (F0 m 60 ls []) := by
    intro q
    induction q with
    | zero =>
      intro i hi hi0 ls H locs X Y hX hl hW
      obtain rfl : i = 12 := by omega
      refine lv_iload_n hx hb dX3_make_60 rfl (lv_at hl 0 rfl) ?_
      refine lv_bipush (v := 12) hx hb dX3_make_61 (by decide) ?_
      refine lv_icmp_ge (tgt := 92) hx hb dX3_make_63 (by decide) (fun c1 => ?_) (fun c1 => ?_)
      · skip
        exact hret 92 ls H locs (X, Y) dX3_make_92 (hX.1) hW
      · exact absurd (nI_le (Nat.le_refl 12) (by decide)) c1
    | succ q ih =>
      intro i hi hi0 ls H locs X Y hX hl hW
      refine lv_iload_n hx hb dX3_make_60 rfl (lv_at hl 0 rfl) ?_
      refine lv_bipush (v := 12) hx hb dX3_make_61 (by decide) ?_
      refine lv_icmp_ge (tgt := 92) hx hb dX3_make_63 (by decide) (fun c1 => ?_) (fun c1 => ?_)
      · exact absurd c1 (nI_ge (b := 12) (by omega) (by decide))
      · skip
        refine lv_aload_n hx hb dX3_make_66 rfl (lv_at hl 1 rfl) ?_
        refine mr_get (v := .ref (ad 1)) hx hb hts hin3 hown hK hW rfl 1 (by decide) rfl (by decide +kernel) rfl dX3_make_67 ?_
        refine lv_iload_n hx hb dX3_make_70 rfl (lv_at hl 0 rfl) ?_
        refine mr_zald hx hb hK hW 1 (by decide) rfl i (by omega) (by decide) rfl dX3_make_71 ?_
        rw [show X 1 i = 0 from hX.2 i hi0 (by omega)]
        refine lv_if_eq (tgt := 86) hx hb dX3_make_72 (by decide) (fun c2 => ?_) (fun c2 => ?_)
        · skip
          refine lv_iinc (v := nI (i + 1)) (lv' := [(1, .int (nI (i + 1))), (0, .ref (ad 0))]) hx hb dX3_make_86 hl (k := 0) rfl (nI_1 i) (by decide) rfl (fun ls hl => ?_)
          refine lv_goto (tgt := 60) hx hb dX3_make_89 (by decide) ?_
          exact ih (i + 1) (by omega) (Nat.succ_pos i) ls H locs X Y hX (lv_sub hl [0, 1] rfl) hW
        · exact absurd rfl c2
  have l1 : ∀ q i : Nat, i + q = 12 → 0 < i → ∀ (ls : Array Slot) (H : Heap) (locs : List Loc) (X : Nat → Nat → Int32) (Y : Nat → Nat → Int64), (X 0 0 = M 0 0 ∧ X 1 0 = 1 ∧ (∀ j : Nat, 0 < j → j < 12 → X 1 j = 0) ∧ (X 9 0 < 0 ∨ X 9 0 = 0 ∧ X 8 0 = 0 ∧ X 6 0 = -1 ∧ X 7 0 = -2)) → lv_has ls 2 [(1, .int (nI i)), (0, .ref (ad 0))] → mB9 D I Z J ad A s.heap X Y H locs → W p l e rm_m_make1 s m args below meth c H locs 0 0 Q (F0 m 7 ls []) := by
    intro q
    induction q with
    | zero =>
      intro i hi hi0 ls H locs X Y hX hl hW
      obtain rfl : i = 12 := by omega
      refine lv_iload_n hx hb dX3_make_7 rfl (lv_at hl 0 rfl) ?_
      refine lv_bipush (v := 12) hx hb dX3_make_8 (by decide) ?_
      refine lv_icmp_ge (tgt := 58) hx hb dX3_make_10 (by decide) (fun c1 => ?_) (fun c1 => ?_)
      · skip
        refine lv_iconst (v := 0) hx hb dX3_make_58 (by decide) ?_
        refine lv_istore_n (lv' := [(1, .int 0), (0, .ref (ad 0))]) hx hb dX3_make_59 rfl hl (by decide) rfl (fun ls hl => ?_)
        refine lv_iload_n hx hb dX3_make_60 rfl (lv_at hl 0 rfl) ?_
        refine lv_bipush (v := 12) hx hb dX3_make_61 (by decide) ?_
        refine lv_icmp_ge (tgt := 92) hx hb dX3_make_63 (by decide) (fun c3 => ?_) (fun c3 => ?_)
        · exact absurd c3 (by decide)
        · skip
          refine lv_aload_n hx hb dX3_make_66 rfl (lv_at hl 1 rfl) ?_
          refine mr_get (v := .ref (ad 1)) hx hb hts hin3 hown hK hW rfl 1 (by decide) rfl (by decide +kernel) rfl dX3_make_67 ?_
          refine lv_iload_n hx hb dX3_make_70 rfl (lv_at hl 0 rfl) ?_
          refine mr_zald hx hb hK hW 1 (by decide) rfl 0 (by decide) (by decide) rfl dX3_make_71 ?_
          rw [hX.2.1]
          refine lv_if_eq (tgt := 86) hx hb dX3_make_72 (by decide) (fun c4 => ?_) (fun c4 => ?_)
          · exact absurd c4 (by decide)
          · skip
            refine lv_aload_n hx hb dX3_make_75 rfl (lv_at hl 1 rfl) ?_
            refine lv_aload_n hx hb dX3_make_76 rfl (lv_at hl 1 rfl) ?_
            refine mr_get (v := .ref (ad 9)) hx hb hts hin3 hown hK hW rfl 10 (by decide) rfl (by decide +kernel) rfl dX3_make_77 ?_
            refine lv_iload_n hx hb dX3_make_80 rfl (lv_at hl 0 rfl) ?_
            refine mr_iald hx hb hK hW 9 (by decide) rfl 0 (by decide) (by decide) rfl dX3_make_81 ?_
            refine lv_iload_n hx hb dX3_make_82 rfl (lv_at hl 0 rfl) ?_
            rcases hX.2.2.2 with h9 | ⟨h9, h8, h6, h7⟩
            · skip
              refine mr_callv (va_runV (As := [.int (X 9 0), .int 0]) (rest := []) ⟨hx, hb, hml, hown, hts⟩ (c_m_own0 l D I Z J ad hI X Y H.size (X 9 0) h9) (cwV 2 hts gX3_make_X3_own rfl rfl rfl (by decide +kernel) ⟨Nat.le_of_ble_eq_true rfl, Nat.le_of_ble_eq_true rfl⟩) (mr_preV hK hW) rfl rfl hl.1 rfl (lv_room (Nat.le_of_ble_eq_true rfl)) dX3_make_83 ⟨Nat.le_of_ble_eq_true rfl, Nat.le_of_ble_eq_true rfl⟩) hA hDa hW (fun u H locs hp hW => ?_)
              rw [show u.1 = X from congrArg Prod.fst hp, show u.2 = Y from congrArg Prod.snd hp] at hW
              refine lv_iinc (v := nI 1) (lv' := [(1, .int (nI 1)), (0, .ref (ad 0))]) hx hb dX3_make_86 hl (k := 0) rfl (rfl) (by decide) rfl (fun ls hl => ?_)
              refine lv_goto (tgt := 60) hx hb dX3_make_89 (by decide) ?_
              exact l2 11 1 (by decide) (by decide) ls H locs X Y ⟨hX.1, hX.2.2.1⟩ (lv_sub hl [0, 1] rfl) hW
            · skip
              rw [h9]
              refine mr_callv (va_runV (As := [.int 0, .int 0]) (rest := []) ⟨hx, hb, hml, hown, hts⟩ (c_m_own1 l D I Z J ad hI X Y H.size h8 h6 h7) (cwV 2 hts gX3_make_X3_own rfl rfl rfl (by decide +kernel) ⟨Nat.le_of_ble_eq_true rfl, Nat.le_of_ble_eq_true rfl⟩) (mr_preV hK hW) rfl rfl hl.1 rfl (lv_room (Nat.le_of_ble_eq_true rfl)) dX3_make_83 ⟨Nat.le_of_ble_eq_true rfl, Nat.le_of_ble_eq_true rfl⟩) hA hDa hW (fun u H locs hp hW => ?_)
              refine lv_iinc (v := nI 1) (lv' := [(1, .int (nI 1)), (0, .ref (ad 0))]) hx hb dX3_make_86 hl (k := 0) rfl (rfl) (by decide) rfl (fun ls hl => ?_)
              refine lv_goto (tgt := 60) hx hb dX3_make_89 (by decide) ?_
              exact l2 11 1 (by decide) (by decide) ls H locs u.1 u.2 ⟨hp.1.trans hX.1, fun j h0 h1 => (hp.2 j).trans (hX.2.2.1 j h0 h1)⟩ (lv_sub hl [0, 1] rfl) hW
      · exact absurd (nI_le (Nat.le_refl 12) (by decide)) c1
    | succ q ih =>
      intro i hi hi0 ls H locs X Y hX hl hW
      refine lv_iload_n hx hb dX3_make_7 rfl (lv_at hl 0 rfl) ?_
      refine lv_bipush (v := 12) hx hb dX3_make_8 (by decide) ?_
      refine lv_icmp_ge (tgt := 58) hx hb dX3_make_10 (by decide) (fun c1 => ?_) (fun c1 => ?_)
      · exact absurd c1 (nI_ge (b := 12) (by omega) (by decide))
      · skip
        refine lv_aload_n hx hb dX3_make_13 rfl (lv_at hl 1 rfl) ?_
        refine mr_get (v := .ref (ad 1)) hx hb hts hin3 hown hK hW rfl 1 (by decide) rfl (by decide +kernel) rfl dX3_make_14 ?_
        refine lv_iload_n hx hb dX3_make_17 rfl (lv_at hl 0 rfl) ?_
        refine mr_zald hx hb hK hW 1 (by decide) rfl i (by omega) (by decide) rfl dX3_make_18 ?_
        rw [show X 1 i = 0 from hX.2.2.1 i hi0 (by omega)]
        refine lv_if_ne (tgt := 25) hx hb dX3_make_19 (by decide) (fun c2 => ?_) (fun c2 => ?_)
        · exact absurd rfl c2
        · skip
          refine lv_goto (tgt := 52) hx hb dX3_make_22 (by decide) ?_
          refine lv_iinc (v := nI (i + 1)) (lv' := [(1, .int (nI (i + 1))), (0, .ref (ad 0))]) hx hb dX3_make_52 hl (k := 0) rfl (nI_1 i) (by decide) rfl (fun ls hl => ?_)
          refine lv_goto (tgt := 7) hx hb dX3_make_55 (by decide) ?_
          exact ih (i + 1) (by omega) (Nat.succ_pos i) ls H locs X Y hX (lv_sub hl [0, 1] rfl) hW
  refine lv_iload_n hx hb dX3_make_7 rfl (lv_at hl 0 rfl) ?_
  refine lv_bipush (v := 12) hx hb dX3_make_8 (by decide) ?_
  refine lv_icmp_ge (tgt := 58) hx hb dX3_make_10 (by decide) (fun c3 => ?_) (fun c3 => ?_)
  · exact absurd c3 (by decide)
  · skip
    refine lv_aload_n hx hb dX3_make_13 rfl (lv_at hl 1 rfl) ?_
    refine mr_get (v := .ref (ad 1)) hx hb hts hin3 hown hK hW rfl 1 (by decide) rfl (by decide +kernel) rfl dX3_make_14 ?_
    refine lv_iload_n hx hb dX3_make_17 rfl (lv_at hl 0 rfl) ?_
    refine mr_zald hx hb hK hW 1 (by decide) rfl 0 (by decide) (by decide) rfl dX3_make_18 ?_
    rw [show (mst M 0 4 0) 1 0 = 1 from by rw [mst_ne (by decide)]; exact h10]
    refine lv_if_ne (tgt := 25) hx hb dX3_make_19 (by decide) (fun c4 => ?_) (fun c4 => ?_)
    · skip
      refine lv_aload_n hx hb dX3_make_25 rfl (lv_at hl 1 rfl) ?_
      refine mr_get (v := .ref (ad 2)) hx hb hts hin3 hown hK hW rfl 2 (by decide) rfl (by decide +kernel) rfl dX3_make_26 ?_
      refine lv_iconst (v := 4) hx hb dX3_make_29 (by decide) ?_
      refine lv_iload_n hx hb dX3_make_30 rfl (lv_at hl 0 rfl) ?_
      refine lv_imul hx hb dX3_make_31 ?_
      refine lv_aload_n hx hb dX3_make_32 rfl (lv_at hl 1 rfl) ?_
      refine mr_get (v := .ref (ad 10)) hx hb hts hin3 hown hK hW rfl 11 (by decide) rfl (by decide +kernel) rfl dX3_make_33 ?_
      refine lv_iconst (v := 0) hx hb dX3_make_36 (by decide) ?_
      refine lv_iconst (v := 4) hx hb dX3_make_37 (by decide) ?_
      refine mr_copyl hx hb (hml.trans hl.1.symm) hts hown (index := 85) (by decide +kernel) (by decide +kernel) (by decide +kernel) (by decide +kernel) hK hDa hW 2 10 (by decide) (by decide) (n0 := 48) (n1 := 40) (fun _ _ => rfl) (fun _ _ => rfl) 0 0 4 rfl rfl rfl (by decide) (by decide) (by decide) (by decide) (by decide) (Nat.le_of_ble_eq_true rfl) (Nat.le_of_ble_eq_true rfl) dX3_make_38 (fun H locs hW => ?_)
      obtain ⟨L1, hL1⟩ : ∃ L1, L1 = lrow L 10 (va_cpy (L 2) (L 10) 0 0 4) := ⟨_, rfl⟩
      rw [← hL1] at hW
      have hL2 : ∀ k : Nat, k < 4 → L1 10 k = L 2 k := fun k hk => by rw [hL1, lrow_same]; exact cpy4 hk
      refine lv_aload_n hx hb dX3_make_41 rfl (lv_at hl 1 rfl) ?_
      refine mr_get (v := .ref (ad 9)) hx hb hts hin3 hown hK hW rfl 10 (by decide) rfl (by decide +kernel) rfl dX3_make_42 ?_
      refine lv_iload_n hx hb dX3_make_45 rfl (lv_at hl 0 rfl) ?_
      refine lv_aload_n hx hb dX3_make_46 rfl (lv_at hl 1 rfl) ?_
      refine lv_iconst (v := 0) hx hb dX3_make_47 (by decide) ?_
      have go : ∀ (r : Int32) (u : mU8) (H : Heap) (locs : List Loc), okF (mst M 0 4 0) r u.1 → mB9 D I Z J ad A s.heap u.1 u.2 H locs → W p l e rm_m_make1 s m args below meth c H locs 0 0 Q (F0 m 51 ls [.int r, .int 0, .ref (ad 9)]) := by
        intro r u H locs hF hW
        refine mr_iast hx hb hK hDa hW 9 (by decide) (fun _ _ => rfl) 0 (by decide) (by decide) rfl dX3_make_51 (fun H locs hW => ?_)
        refine lv_iinc (v := nI 1) (lv' := [(1, .int (nI 1)), (0, .ref (ad 0))]) hx hb dX3_make_52 hl (k := 0) rfl (rfl) (by decide) rfl (fun ls hl => ?_)
        refine lv_goto (tgt := 7) hx hb dX3_make_55 (by decide) ?_
        have e1 : ∀ j : Nat, u.1 1 j = M 1 j := fun j => by rw [hF.at 1 (by decide), mst_ne (by decide)]
        refine l1 11 1 (by decide) (by decide) ls H locs (mst u.1 9 0 r) u.2 ⟨?_, ?_, ?_, ?_⟩ (lv_sub hl [0, 1] rfl) hW
        · rw [mst_ne (by decide), hF.z, mst_same, pk_un (by decide)]
        · rw [mst_ne (by decide), e1]; exact h10
        · intro j h0 h1; rw [mst_ne (by decide), e1]; exact hz j h0 h1
        · rcases hF.n with h | h
          · exact Or.inl (by rw [mst_same, pk_us]; exact h)
          · rw [h] at hF
            exact Or.inr ⟨by rw [mst_same, pk_us]; exact h, by rw [mst_ne (by decide)]; exact hF.f.1, by rw [mst_ne (by decide)]; exact hF.f.2.1, by rw [mst_ne (by decide)]; exact hF.f.2.2⟩
      rcases hs with h9 | h9 | ⟨q0, hq0, h9⟩
      · skip
        refine mr_calli (va_runV (As := [.int 0]) (rest := [.int 0, .ref (ad 9)]) ⟨hx, hb, hml, hown, hts⟩ (c_m_forkL l D I Z J ad hI (mst M 0 4 0) L1 H.size 0 (by decide) (fun k hk => by rw [Nat.mul_zero, Nat.zero_add, hL2 k hk]; exact h9 k hk)) (cwV 1 hts gX3_make_X3_fork rfl rfl rfl (by decide +kernel) ⟨Nat.le_of_ble_eq_true rfl, Nat.le_of_ble_eq_true rfl⟩) (mr_preV hK hW) rfl rfl hl.1 rfl (lv_room (Nat.le_of_ble_eq_true rfl)) dX3_make_48 ⟨Nat.le_of_ble_eq_true rfl, Nat.le_of_ble_eq_true rfl⟩) hA hDa hW (fun r u H locs hp hW => ?_)
        exact go r u H locs (Or.inl ⟨by rw [hp.1], Or.inl hp.2⟩) hW
      · skip
        refine mr_calli (va_runV (As := [.int 0]) (rest := [.int 0, .ref (ad 9)]) ⟨hx, hb, hml, hown, hts⟩ (c_m_forkY l D I Z J ad hI (mst M 0 4 0) L1 H.size 0 (by decide) (fun k hk => by rw [Nat.mul_zero, Nat.zero_add, hL2 k hk]; exact h9 k hk)) (cwV 1 hts gX3_make_X3_fork rfl rfl rfl (by decide +kernel) ⟨Nat.le_of_ble_eq_true rfl, Nat.le_of_ble_eq_true rfl⟩) (mr_preV hK hW) rfl rfl hl.1 rfl (lv_room (Nat.le_of_ble_eq_true rfl)) dX3_make_48 ⟨Nat.le_of_ble_eq_true rfl, Nat.le_of_ble_eq_true rfl⟩) hA hDa hW (fun r u H locs hp hW => ?_)
        exact go r u H locs (Or.inl ⟨by rw [hp.1], Or.inr hp.2⟩) hW
      · skip
        refine mr_calli (va_runV (As := [.int 0]) (rest := [.int 0, .ref (ad 9)]) ⟨hx, hb, hml, hown, hts⟩ (c_m_forkQ l D I Z J ad hI (mst M 0 4 0) L1 H.size q0 hq0 (fun k hk => (hL2 k hk).trans (h9 k hk)) (fun k hk => by rw [mst_ne (by decide)]; exact ho k hk) (by rw [mst_same, pk_us])) (cwV 1 hts gX3_make_X3_fork rfl rfl rfl (by decide +kernel) ⟨Nat.le_of_ble_eq_true rfl, Nat.le_of_ble_eq_true rfl⟩) (mr_preV hK hW) rfl rfl hl.1 rfl (lv_room (Nat.le_of_ble_eq_true rfl)) dX3_make_48 ⟨Nat.le_of_ble_eq_true rfl, Nat.le_of_ble_eq_true rfl⟩) hA hDa hW (fun r u H locs hp hW => ?_)
        exact go r u H locs (Or.inr ⟨q0, hq0, hp.1, hp.2⟩) hW
    · exact absurd c4 (by decide)

abbrev rm_m_kept : Room := { frames := 4, cells := 0, slots := 0, locals := 600 }
set_option maxHeartbeats 4000000 in
set_option maxRecDepth 100000 in
/-- the first fold -/
theorem c_m_kept (l : Launch) (D : va_G) (I Z J : ClassId) (ad : Nat → Nat) (hI : mI ad) (M : Nat → Nat → Int32) (L : Nat → Nat → Int64) (sz : Nat) (hz : ∀ j : Nat, 0 < j → j < 12 → M 1 j = 0) (ho : ∀ k : Nat, k < 8 → M 3 k = nI k) (hs : sdOk (L 2)) : Met l yX3_kept wsX3_kept rm_m_kept (va_Pc [.ref (ad 0), .int 0] (mU D I Z J ad sz M L)) (va_Qi (fun (r : Int32) (u : mU8) => u.1 0 0 = M 0 0 ∧ r = 0) (fun (u : mU8) t => mP D I Z J ad u.1 u.2 t.heap) (mA ad sz)) 0 0 (mA ad sz) := by
  refine mMet_i (cc := cX3_kept) (maxL := 2) hI (by decide) rfl rfl (Nat.le_of_ble_eq_true rfl) (lv := [(0, .ref (ad 0)), (1, .int 0)]) rfl ?_
  intro p e s m args below meth c Q A ls hsz C0 hW hl hret
  obtain ⟨hx, hb, hml, hts, hown, hlocks, hK, hDa, hA, hargs⟩ := C0
  have hin3 : ∀ w ∈ u_ws RX3 TX3 15, w ∈ wsX3_kept := by decide +kernel
  refine lv_aload_n hx hb dX3_kept_0 rfl (lv_at hl 0 rfl) ?_
  refine mr_get (v := .ref (ad 1)) hx hb hts hin3 hown hK hW rfl 1 (by decide) rfl (by decide +kernel) rfl dX3_kept_1 ?_
  refine lv_iload_n hx hb dX3_kept_4 rfl (lv_at hl 1 rfl) ?_
  refine lv_iconst (v := 1) hx hb dX3_kept_5 (by decide) ?_
  refine mr_zast hx hb hK hDa hW 1 (by decide) (fun _ _ => rfl) 0 (by decide) (by decide) rfl (Or.inr rfl) dX3_kept_6 (fun H locs hW => ?_)
  refine lv_aload_n hx hb dX3_kept_7 rfl (lv_at hl 0 rfl) ?_
  refine mr_callv (va_runV (As := []) (rest := []) ⟨hx, hb, hml, hown, hts⟩ (c_m_make1 l D I Z J ad hI (mst M 1 0 1) L H.size (by rw [mst_same, pk_us]) (fun j h0 h1 => by rw [mst_same, pk_un (by omega)]; exact hz j h0 h1) (fun k hk => by rw [mst_ne (by decide)]; exact ho k hk) hs) (cwV 0 hts gX3_kept_X3_make rfl rfl rfl (by decide +kernel) ⟨Nat.le_of_ble_eq_true rfl, Nat.le_of_ble_eq_true rfl⟩) (mr_preV hK hW) rfl rfl hl.1 rfl (lv_room (Nat.le_of_ble_eq_true rfl)) dX3_kept_8 ⟨Nat.le_of_ble_eq_true rfl, Nat.le_of_ble_eq_true rfl⟩) hA hDa hW (fun u H locs hp hW => ?_)
  refine lv_iload_n hx hb dX3_kept_11 rfl (lv_at hl 1 rfl) ?_
  exact hret 12 ls H locs _ u dX3_kept_12 (⟨by rw [hp, mst_ne (by decide)], rfl⟩) hW
