theorem h_V.keepS {cs : Nat → ClassId} {o : Nat → Nat} {C u : hC} {r sa ia : Nat} {S I : Nat → Option Nat} {l : List (Nat → Bool)} {A : (Nat → Bool) → Nat} (h : h_V cs o C r sa ia S I l A) (hk : ∀ (b : Nat) (x : va_E), C b = some x → (∀ fs : List Value, x ≠ (.inr (4, fs) : va_E)) → u b = some x) : h_V cs o u r sa ia S I l A := by
  obtain ⟨⟨r1, r2, r3, r4, r5⟩, hE, hJ⟩ := h
  refine ⟨⟨hk _ _ r1 (fun _ h => by simp at h), hk _ _ r2 (fun _ h => by simp at h), hk _ _ r3 (fun _ h => by simp at h), r4, fun i g hg => ?_⟩, fun i g hg => ?_, hJ⟩
  · obtain ⟨a, F, e1, e2, e3⟩ := r5 i g hg
    exact ⟨a, F, e1, hk _ _ e2 (fun _ h => by simp at h), e3⟩
  · obtain ⟨b, X, e1, e2, e3⟩ := hE i g hg
    exact ⟨b, X, e1, hk _ _ e2 (fun _ h => by simp at h), e3⟩
theorem r_c_one {R : List (Nat → Bool)} (hnd : R.Nodup) (h77 : R.length ≤ 77) {f : Nat → Bool} (hno : ∀ g ∈ R, ¬ r_l g) {x y : Int32} (hx : r_c R f x) (hy : r_c R f y) : x = y := by
  rcases hx with ⟨e1, hx⟩ | ⟨e1, hx⟩ | ⟨i, e1, hx⟩ <;> rcases hy with ⟨e2, hy⟩ | ⟨e2, hy⟩ | ⟨j, e2, hy⟩
  · rw [hx, hy]
  · exact absurd (e1.symm.trans e2) b_01
  · exact absurd (Or.inl e1) (hno f (get_mem e2))
  · exact absurd (e2.symm.trans e1) b_01
  · rw [hx, hy]
  · exact absurd (Or.inr e1) (hno f (get_mem e2))
  · exact absurd (Or.inl e2) (hno f (get_mem e1))
  · exact absurd (Or.inr e2) (hno f (get_mem e1))
  · have : i = j := (List.getElem?_inj (get_lt e1) hnd).mp (e1.trans e2.symm)
    rw [hx, hy, this]
/-- what a fork's row tells is what the class tells -/
theorem its_eq {cs : Nat → ClassId} {C : hC} {M : Nat → Nat → Int32} {o : Nat → Nat} (h : k_S M o) {f : Nat} (hf : f < 12) (hk : a_k M f) {i : Nat} {g : Nat → Bool} (hi : (kR M o f)[i]? = some g) {X : Nat → Int32} (x0 : X 0 = nI (t_q o g)) (x1 : r_c (kR M o f) (r_k o g 0) (X 1)) (x2 : r_c (kR M o f) (r_k o g 1) (X 2)) (x3 : X 3 = nI (r_A o (a_Y M f) g)) {wh : Nat} (hwh : wh < 4) : tfF M (25 + 6 * f) i wh = X wh := by
  obtain ⟨hW, hA⟩ := h.tW hf hk
  have hno : ∀ g ∈ kR M o f, ¬ r_l g := fun g hg => r_R_nl h.o.1 (y_fS _) hg
  obtain ⟨-, -, y1, y2⟩ := hW.2.2 i g hi
  rcases (show wh = 0 ∨ wh = 1 ∨ wh = 2 ∨ wh = 3 by omega) with rfl | rfl | rfl | rfl
  · rw [fk_0 hW (get_lt hi), x0, t_qs, getD_of hi]
  · exact r_c_one (r_R_nd _ _) hW.2.1 hno y1 x1
  · exact r_c_one (r_R_nd _ _) hW.2.1 hno y2 x2
  · rw [x3]; exact (hA i g hi).1
theorem cf_tg {M : Nat → Nat → Int32} {o : Nat → Nat} (h : k_S M o) {n : Nat} (hn : M 3 0 = nI n) (hn6 : n ≤ 626) : sI (cfT M) n = nI (tg_u o (a_k M) (a_Y M) (nI (o 0)) 12) := by
  obtain ⟨⟨n2, tb, pl, hS⟩, -⟩ := h
  have e0 : n = n2 := (nI_eq (by omega) (by have := hS.2.2.1.1; omega)).mp (hn.symm.trans hS.2.2.1.2.1)
  subst e0
  unfold tg_u
  rw [← u_nP hS.2.2.1.2.2.1 hS.2.2.E (tg_P o (nI (o 0)))]
  refine sI_cnt n (fun k hk => ?_)
  have h1 := (hS.2.2.1.2.2.2.1 k hk).1
  have h2 := (hS.2.2.1.2.2.1.1 k hk).2
  have e1 : M (3 + 1) k = nI (t_q o (tb k)) := by rw [h1, t_q, r_p_eq h2]
  unfold cfT
  rw [e1, hS.2.1 0 (by decide)]
  have ho := hS.1.1 0 (by decide)
  unfold tg_P
  by_cases c : nI (t_q o (tb k)) = nI (o 0)
  · rw [if_pos c, if_pos (decide_eq_true (Or.inr c))]; rfl
  · rw [if_neg c, if_neg (fun h9 => (of_decide_eq_true h9).elim (nI_pos (by omega)) c)]; rfl
abbrev rm_h_isSame : Room := { frames := 42, cells := 23300, slots := 122800, locals := 7200 }
set_option maxHeartbeats 40000000 in
set_option maxRecDepth 100000 in
/-- all told as by hand -/
theorem c_h_isSame (l : Launch) (hst : l.stackTraces = false) (D : va_G) (cs : Nat → ClassId) (I Z F : ClassId) (ad sa : Nat → Nat) (hI : cI ad) (C : hC) (sz : Nat) (si fd oa : Nat) (M : Nat → Nat → Int32) (o : Nat → Nat) (Fd : Nat → Option Nat) (O : Nat → Int32) (hk : k_I cs I Z F ad si fd oa C M o Fd O) (h2 : 2 ≤ k_N M) : Met l yX4_isSame wsX4_isSame rm_h_isSame (va_Pc [.ref si, .ref (ad 0), .int 0] (gU D cs C sz (kX D I Z F sa C sz))) (va_Qi (fun (r : Int32) (u : hC) => r = 1) (fun u t => h_H D (h_A C sz) u t.heap) (h_A C sz)) 23300 122800 (h_A C sz) := by
  refine gMet_z (cc := cX4_isSame) (maxL := 10) (by decide) rfl RX4 rfl (Nat.le_of_ble_eq_true rfl) (lv := [(0, .ref si), (1, .ref (ad 0)), (2, .int 0)]) rfl ?_
  intro p e s m args below meth c Q A ls hsz hA9 hX9 C0 hH hS hl hret
  obtain ⟨hx, hb, hml, hts, hown, hlocks, hK, hN, hA, hargs⟩ := C0
  obtain ⟨hKc, hNc, hX⟩ := hX9
  rw [← hA9] at hX
  have hin4 : ∀ w ∈ u_ws RX4 TX4 3, w ∈ wsX4_isSame := by decide +kernel
  have hin3 : ∀ w ∈ u_ws RX3 TX3 3, w ∈ wsX4_isSame := by decide +kernel
  obtain ⟨hM0, hsi, hfd, hoa, ⟨oo1, oo2, oo3⟩, hO, hF9, hSS⟩ := id hk
  have hle := k_N_le M
  obtain ⟨ho, hord⟩ := hSS.o
  obtain ⟨n9, en9, hn0, hrs⟩ := hSS.rws
  have hn6 := hrs.1
  refine lv_aload_n hx hb dX4_isSame_0 rfl (lv_at hl 0 rfl) ?_
  refine lv_aload_n hx hb dX4_isSame_1 rfl (lv_at hl 0 rfl) ?_
  refine h_calla (va_runV (As := []) (rest := [.ref si]) ⟨hx, hb, hml, hown, hts⟩ (c_h_all l D cs C s.heap.size o ho oa O hoa hO si fd .null Fd hsi hfd (a_Y M) (fun k a hk12 e9 => by
    have hak : a_k M k := Classical.not_not.mp (fun hn => by rw [(hk.off hk12).mpr hn] at e9; cases e9)
    obtain ⟨a2, F2, e1, e2, e3⟩ := hk.fold hk12 hak
    have : a2 = a := Option.some.inj (e1.symm.trans e9)
    subst this
    exact ⟨F2, e2, e3⟩)) (cwV 0 hts gX4_isSame_X4_all rfl rfl rfl (by decide +kernel) ⟨Nat.le_of_ble_eq_true rfl, Nat.le_of_ble_eq_true rfl⟩) (h_preV hK hN hH hsi rfl) rfl rfl hl.1 rfl (lv_room (Nat.le_of_ble_eq_true rfl)) dX4_isSame_2 ⟨by first | exact Nat.le_of_ble_eq_true rfl | omega, by first | exact Nat.le_of_ble_eq_true rfl | omega⟩) hH hS hA (fun rw9 u9 H locs hp hH hS => ?_)
  obtain ⟨hrw0, ⟨Rf, hrw, hrows⟩, hkeep⟩ := hp
  have usi := (hkeep si (by rw [hsi]; simp)).trans hsi
  have ufd := (hkeep fd (by rw [hfd]; simp)).trans hfd
  have uoa := (hkeep oa (by rw [hoa]; simp)).trans hoa
  refine h_put (ty := .array (.object "SharedForksLaw$Row")) (n0 := "rows") (d0 := "[LSharedForksLaw$Row;") hx hb hts hin4 tyX4 tyX4_ok nmX4 hown hK.1 hH hS usi rfl 2 (by decide) rfl (by decide +kernel) (by decide +kernel) rfl rfl (Nat.le_of_ble_eq_true rfl) dX4_isSame_5 (fun H locs hH hS => ?_)
  obtain ⟨C1, hC1⟩ : ∃ C1 : hC, C1 = h_U u9 si (.inr (4, [.ref fd, .ref oa, .ref rw9])) := ⟨_, rfl⟩
  have hH : h_H D A C1 H := by rw [hC1]; exact hH
  have hsi1 : C1 si = some (.inr (4, [.ref fd, .ref oa, .ref rw9])) := by rw [hC1]; exact h_U_at
  have hfd1 : C1 fd = some (.inl (cs 2, 12, .inr (.inr (.inr (.inr Fd))))) := by rw [hC1, h_U_ne (fun h9 => by rw [h9, usi] at ufd; simp at ufd)]; exact ufd
  have hoa1 : C1 oa = some (.inl (cs 0, 8, .inl O)) := by rw [hC1, h_U_ne (fun h9 => by rw [h9, usi] at uoa; simp at uoa)]; exact uoa
  have hrw1 : C1 rw9 = some (.inl (cs 4, 12, .inr (.inr (.inr (.inr Rf))))) := by rw [hC1, h_U_ne (fun h9 => by rw [h9, usi] at hrw; simp at hrw)]; exact hrw
  have hM1 : kM I Z F ad M C1 := fun i hi => by rw [hC1, h_U_ne (Ne.symm (oo1 i hi)), hkeep _ (by rw [hM0 i hi]; simp)]; exact hM0 i hi
  have hrow : ∀ j : Nat, j < 12 → (¬ a_k M j → Rf j = none) ∧ (a_k M j → ∃ (q sa ia : Nat) (S I : Nat → Option Nat), Rf j = some q ∧ h_V cs o C1 q sa ia S I (r_R o (a_Y M j)) (r_A o (a_Y M j))) := fun j hj => ⟨fun hn => (hrows j hj).1 ((hk.off hj).mpr hn), fun ha => by
    obtain ⟨q, sa, ia, S, I, e1, e2⟩ := (hrows j hj).2 (fun e9 => ((hk.off hj).mp e9) ha)
    exact ⟨q, sa, ia, S, I, e1, e2.keepS (fun b x hb9 hx9 => by rw [hC1, h_U_ne (fun h9 => hx9 _ (by rw [h9, usi] at hb9; exact (Option.some.inj hb9).symm))]; exact hb9)⟩⟩
  clear hC1 hrows hkeep hrw usi ufd uoa hF9
  have end9 : ∀ (x5 : Int32) (ls : Array Slot) (H : Heap) (locs : List Loc), lv_has ls 10 [(5, .int x5), (4, .int (sI (clT M) 12)), (3, .int (sI (afT M) 12)), (0, .ref si), (1, .ref (ad 0)), (2, .int 0)] → h_H D A C1 H → va_S A s.heap H locs → W p l e rm_h_isSame s m args below meth c H locs (9217 + 12 * 1165) (38688 + 12 * 6990) Q (F0 m 325 ls []) := by
    intro x5 ls H locs hl hH hS
    refine lv_iconst (v := 0) hx hb dX4_isSame_325 (by decide) ?_
    refine lv_istore (lv' := [(5, .int 0), (4, .int (sI (clT M) 12)), (3, .int (sI (afT M) 12)), (0, .ref si), (1, .ref (ad 0)), (2, .int 0)]) hx hb dX4_isSame_326 hl (by decide) rfl (fun ls hl => ?_)
    have tail9 : ∀ (x5 : Int32) (ls : Array Slot) (H : Heap) (locs : List Loc), lv_has ls 10 [(5, .int x5), (4, .int (sI (clT M) 12)), (3, .int (sI (afT M) 12)), (0, .ref si), (1, .ref (ad 0)), (2, .int 0)] → h_H D A C1 H → va_S A s.heap H locs → W p l e rm_h_isSame s m args below meth c H locs (23197 + 8) (122568 + 48) Q (F0 m 359 ls []) := by
      intro x5 ls H locs hl hH hS
      refine lv_iconst (v := 5) hx hb dX4_isSame_359 (by decide) ?_
      refine h_newa (atype := .int) (ty := .int) (a0 := (5, .inl (fun _ => 0))) (cA := cs 0) hx hb (hts (.arrayClass .int) (by decide +kernel)) rfl (fun _ h => by cases h) hK.1 hH hS hA 0 rfl (N' := 5) (fun _ => rfl) (by decide) (by decide) (by decide) (by exact Nat.le_of_ble_eq_true rfl) (by exact Nat.le_of_ble_eq_true rfl) dX4_isSame_360 (fun ca H hca hH hS => ?_)
      have hx1 : ∀ (X : Nat → Int32) (b : Nat) (x : va_E), C1 b = some x → (h_U C1 ca (.inl (cs 0, 5, .inl X))) b = some x := fun X b x hb9 => (h_U_keep hca (by rw [hb9]; simp)).trans hb9
      have hV1 : ∀ (X : Nat → Int32) (j : Nat), j < 12 → (¬ a_k M j → Rf j = none) ∧ (a_k M j → ∃ (q sa ia : Nat) (S I : Nat → Option Nat), Rf j = some q ∧ h_V cs o (h_U C1 ca (.inl (cs 0, 5, .inl X))) q sa ia S I (r_R o (a_Y M j)) (r_A o (a_Y M j))) := fun X j hj => ⟨(hrow j hj).1, fun ha => by
        obtain ⟨q, sa, ia, S, I, e1, e2⟩ := (hrow j hj).2 ha
        exact ⟨q, sa, ia, S, I, e1, e2.keepS (fun b x hb9 _ => hx1 X b x hb9)⟩⟩
      have hM2 : ∀ X : Nat → Int32, kM I Z F ad M (h_U C1 ca (.inl (cs 0, 5, .inl X))) := fun X i hi => hx1 X _ _ (hM1 i hi)
      refine lv_dup hx hb dX4_isSame_362 rfl ?_
      refine lv_iconst (v := 0) hx hb dX4_isSame_363 (by decide) ?_
      refine lv_aload_n hx hb dX4_isSame_364 rfl (lv_at hl 3 rfl) ?_
      refine h_calli (va_runV (As := []) (rest := [.int 0, .ref ca, .ref ca]) ⟨hx, hb, hml, hown, hts⟩ (c_h_many l D cs _ H.size si fd oa (.ref rw9) Fd (hx1 _ _ _ hsi1) (hx1 _ _ _ hfd1)) (cwV 0 hts gX4_isSame_X4_many rfl rfl rfl (by decide +kernel) ⟨Nat.le_of_ble_eq_true rfl, Nat.le_of_ble_eq_true rfl⟩) (h_preV hK hN hH (hx1 _ _ _ hsi1) rfl) rfl rfl hl.1 rfl (lv_room (Nat.le_of_ble_eq_true rfl)) dX4_isSame_365 ⟨by exact Nat.le_of_ble_eq_true rfl, by exact Nat.le_of_ble_eq_true rfl⟩) hH hS hA (fun r9 u8 H locs hp hH hS => ?_)
      obtain ⟨hu, hr9⟩ := hp
      rw [hu] at hH
      rw [hr9, hk.cnt]
      refine h_iast hx hb hK.1 hH hS (h_U_at (C := C1) (a := ca) (e := .inl (cs 0, 5, .inl (fun _ => 0)))) 0 rfl 0 (by decide) (by decide) rfl dX4_isSame_368 (fun H locs hH hS => ?_)
      rw [h_U_U] at hH
      refine lv_dup hx hb dX4_isSame_369 rfl ?_
      refine lv_iconst (v := 1) hx hb dX4_isSame_370 (by decide) ?_
      refine lv_aload_n hx hb dX4_isSame_371 rfl (lv_at hl 3 rfl) ?_
      refine h_get (v := .ref rw9) (C0 := RX4) (T := TX4) (N := 3) hx hb hts hin4 hown hK.1 hH (hx1 _ _ _ hsi1) rfl 2 (by decide) rfl (by decide +kernel) rfl dX4_isSame_372 ?_
      refine lv_iconst (v := -1) hx hb dX4_isSame_375 (by decide) ?_
      refine h_calli (va_runS (As := [.ref rw9, .int (-1)]) (rest := [.int 1, .ref ca, .ref ca]) ⟨hx, hb, hml, hown, hts⟩ (c_h_together l D cs _ H.size o (a_k M) (a_Y M) rw9 Rf (hx1 _ _ _ hrw1) (hV1 _) (fun j hj ha => r_R_77 ho (y_fS _)) (-1)) (va_cwS 2 hts gX4_isSame_X4_together rfl rfl rfl (by decide +kernel) ⟨Nat.le_of_ble_eq_true rfl, Nat.le_of_ble_eq_true rfl⟩) (h_preS hK hN hH) rfl rfl hl.1 rfl (lv_room (Nat.le_of_ble_eq_true rfl)) dX4_isSame_376 ⟨by exact Nat.le_of_ble_eq_true rfl, by exact Nat.le_of_ble_eq_true rfl⟩) hH hS hA (fun r9 u8 H locs hp hH hS => ?_)
      obtain ⟨hu, hr9⟩ := hp
      rw [hu] at hH
      rw [hr9]
      rw [tg_all, ← en9]
      refine h_iast hx hb hK.1 hH hS (h_U_at (C := C1) (a := ca) (e := .inl (cs 0, 5, .inl (upd (fun _ => 0) 0 (nI (k_N M)))))) 0 rfl 1 (by decide) (by decide) rfl dX4_isSame_379 (fun H locs hH hS => ?_)
      rw [h_U_U] at hH
      refine lv_dup hx hb dX4_isSame_380 rfl ?_
      refine lv_iconst (v := 2) hx hb dX4_isSame_381 (by decide) ?_
      refine lv_iload_n hx hb dX4_isSame_382 rfl (lv_at hl 2 rfl) ?_
      refine h_iast hx hb hK.1 hH hS (h_U_at (C := C1) (a := ca) (e := .inl (cs 0, 5, .inl (upd (upd (fun _ => 0) 0 (nI (k_N M))) 1 (nI n9))))) 0 rfl 2 (by decide) (by decide) rfl dX4_isSame_383 (fun H locs hH hS => ?_)
      rw [h_U_U] at hH
      refine lv_dup hx hb dX4_isSame_384 rfl ?_
      refine lv_iconst (v := 3) hx hb dX4_isSame_385 (by decide) ?_
      refine lv_aload_n hx hb dX4_isSame_386 rfl (lv_at hl 3 rfl) ?_
      refine h_get (v := .ref rw9) (C0 := RX4) (T := TX4) (N := 3) hx hb hts hin4 hown hK.1 hH (hx1 _ _ _ hsi1) rfl 2 (by decide) rfl (by decide +kernel) rfl dX4_isSame_387 ?_
      refine lv_aload_n hx hb dX4_isSame_390 rfl (lv_at hl 3 rfl) ?_
      refine h_get (v := .ref oa) (C0 := RX4) (T := TX4) (N := 3) hx hb hts hin4 hown hK.1 hH (hx1 _ _ _ hsi1) rfl 1 (by decide) rfl (by decide +kernel) rfl dX4_isSame_391 ?_
      refine lv_iconst (v := 0) hx hb dX4_isSame_394 (by decide) ?_
      refine h_iald hx hb hK.1 hH (hx1 _ _ _ hoa1) 0 rfl 0 (by decide) (by decide) rfl dX4_isSame_395 ?_
      rw [hO 0 (by decide)]
      refine h_calli (va_runS (As := [.ref rw9, .int (nI (o 0))]) (rest := [.int 3, .ref ca, .ref ca]) ⟨hx, hb, hml, hown, hts⟩ (c_h_together l D cs _ H.size o (a_k M) (a_Y M) rw9 Rf (hx1 _ _ _ hrw1) (hV1 _) (fun j hj ha => r_R_77 ho (y_fS _)) (nI (o 0))) (va_cwS 2 hts gX4_isSame_X4_together rfl rfl rfl (by decide +kernel) ⟨Nat.le_of_ble_eq_true rfl, Nat.le_of_ble_eq_true rfl⟩) (h_preS hK hN hH) rfl rfl hl.1 rfl (lv_room (Nat.le_of_ble_eq_true rfl)) dX4_isSame_396 ⟨by exact Nat.le_of_ble_eq_true rfl, by exact Nat.le_of_ble_eq_true rfl⟩) hH hS hA (fun r9 u8 H locs hp hH hS => ?_)
      obtain ⟨hu, hr9⟩ := hp
      rw [hu] at hH
      rw [hr9]
      refine h_iast hx hb hK.1 hH hS (h_U_at (C := C1) (a := ca) (e := .inl (cs 0, 5, .inl (upd (upd (upd (fun _ => 0) 0 (nI (k_N M))) 1 (nI n9)) 2 (sI (afT M) 12))))) 0 rfl 3 (by decide) (by decide) rfl dX4_isSame_399 (fun H locs hH hS => ?_)
      rw [h_U_U] at hH
      refine lv_dup hx hb dX4_isSame_400 rfl ?_
      refine lv_iconst (v := 4) hx hb dX4_isSame_401 (by decide) ?_
      refine lv_iload hx hb dX4_isSame_402 (lv_at hl 1 rfl) ?_
      refine h_iast hx hb hK.1 hH hS (h_U_at (C := C1) (a := ca) (e := .inl (cs 0, 5, .inl (upd (upd (upd (upd (fun _ => 0) 0 (nI (k_N M))) 1 (nI n9)) 2 (sI (afT M) 12)) 3 (nI (tg_u o (a_k M) (a_Y M) (nI (o 0)) 12)))))) 0 rfl 4 (by decide) (by decide) rfl dX4_isSame_404 (fun H locs hH hS => ?_)
      rw [h_U_U] at hH
      obtain ⟨X9, hX9⟩ : ∃ X9 : Nat → Int32, X9 = (upd (upd (upd (upd (upd (fun _ => 0) 0 (nI (k_N M))) 1 (nI n9)) 2 (sI (afT M) 12)) 3 (nI (tg_u o (a_k M) (a_Y M) (nI (o 0)) 12))) 4 (sI (clT M) 12)) := ⟨_, rfl⟩
      rw [← hX9] at hH
      have hcnt : ∀ wh : Nat, wh < 5 → tcF M n9 wh = X9 wh := fun wh hwh => by
        rcases (show wh = 0 ∨ wh = 1 ∨ wh = 2 ∨ wh = 3 ∨ wh = 4 by omega) with rfl | rfl | rfl | rfl | rfl <;> rw [hX9]
        · exact k_N_ck
        · rfl
        · rfl
        · exact cf_tg hSS hn0 hn6
        · rfl
      clear hX9
      refine lv_astore (lv' := [(5, .ref ca), (4, .int (sI (clT M) 12)), (3, .int (sI (afT M) 12)), (0, .ref si), (1, .ref (ad 0)), (2, .int 0)]) hx hb dX4_isSame_405 hl (by decide) rfl (fun ls hl => ?_)
      refine lv_iconst (v := 0) hx hb dX4_isSame_407 (by decide) ?_
      refine lv_istore (lv' := [(6, .int 0), (5, .ref ca), (4, .int (sI (clT M) 12)), (3, .int (sI (afT M) 12)), (0, .ref si), (1, .ref (ad 0)), (2, .int 0)]) hx hb dX4_isSame_408 hl (by decide) rfl (fun ls hl => ?_)
      have cl9 : ∀ r9 k : Nat, k + r9 = 5 → ∀ (ls : Array Slot) (H : Heap) (locs : List Loc), lv_has ls 10 [(6, .int (nI k)), (5, .ref ca), (4, .int (sI (clT M) 12)), (3, .int (sI (afT M) 12)), (0, .ref si), (1, .ref (ad 0)), (2, .int 0)] → h_H D A (h_U C1 ca (.inl (cs 0, 5, .inl X9))) H → va_S A s.heap H locs → W p l e rm_h_isSame s m args below meth c H locs (23206 + k) (122621 + k * 6) Q (F0 m 410 ls []) := by
        intro r9
        induction r9 with
        | zero =>
          intro k hk5 ls H locs hl hH hS
          obtain rfl : k = 5 := by omega
          refine lv_iload hx hb dX4_isSame_410 (lv_at hl 0 rfl) ?_
          refine lv_iconst (v := 5) hx hb dX4_isSame_412 (by decide) ?_
          refine lv_icmp_ge (tgt := 438) hx hb dX4_isSame_413 (by decide) (fun c1 => ?_) (fun c1 => ?_)
          · skip
            refine lv_aload_n hx hb dX4_isSame_438 rfl (lv_at hl 5 rfl) ?_
            refine kr_samed (va_runV (As := []) (rest := []) ⟨hx, hb, hml, hown, hts⟩ (c_mean l D I Z F ad hI M H.size n9 hrs) (cwV 0 hts gX4_isSame_X2_mean rfl rfl rfl (by decide +kernel) ⟨Nat.le_of_ble_eq_true rfl, Nat.le_of_ble_eq_true rfl⟩) (k_preV0 hKc hNc (hM2 X9) hH hS) rfl rfl hl.1 rfl (lv_room (Nat.le_of_ble_eq_true rfl)) dX4_isSame_439 ⟨by exact Nat.le_of_ble_eq_true rfl, by exact Nat.le_of_ble_eq_true rfl⟩) hI (hM2 X9) hH hS hA (fun r u h => h.1) (fun r H locs hp hH hS => ?_)
            obtain ⟨-, hr9⟩ := hp
            rw [hr9]
            refine lv_aload_n hx hb dX4_isSame_442 rfl (lv_at hl 4 rfl) ?_
            refine h_calli (va_runV (As := []) (rest := [.double (meF M)]) ⟨hx, hb, hml, hown, hts⟩ (c_h_many l D cs _ H.size si fd oa (.ref rw9) Fd (hx1 _ _ _ hsi1) (hx1 _ _ _ hfd1)) (cwV 0 hts gX4_isSame_X4_many rfl rfl rfl (by decide +kernel) ⟨Nat.le_of_ble_eq_true rfl, Nat.le_of_ble_eq_true rfl⟩) (h_preV hK hN hH (hx1 _ _ _ hsi1) rfl) rfl rfl hl.1 rfl (lv_room (Nat.le_of_ble_eq_true rfl)) dX4_isSame_443 ⟨by exact Nat.le_of_ble_eq_true rfl, by exact Nat.le_of_ble_eq_true rfl⟩) hH hS hA (fun r9 u8 H locs hp hH hS => ?_)
            obtain ⟨hu, hr9⟩ := hp
            rw [hu] at hH
            rw [hr9, hk.cnt]
            refine lv_if_ne (tgt := 453) hx hb dX4_isSame_446 (by decide) (fun c2 => ?_) (fun c2 => ?_)
            · skip
              refine lv_iload_n hx hb dX4_isSame_453 rfl (lv_at hl 3 rfl) ?_
              refine lv_i2d hx hb dX4_isSame_454 ?_
              refine lv_aload_n hx hb dX4_isSame_455 rfl (lv_at hl 4 rfl) ?_
              refine h_calli (va_runV (As := []) (rest := [.double (FP.i2d (sI (afT M) 12)), .double (meF M)]) ⟨hx, hb, hml, hown, hts⟩ (c_h_many l D cs _ H.size si fd oa (.ref rw9) Fd (hx1 _ _ _ hsi1) (hx1 _ _ _ hfd1)) (cwV 0 hts gX4_isSame_X4_many rfl rfl rfl (by decide +kernel) ⟨Nat.le_of_ble_eq_true rfl, Nat.le_of_ble_eq_true rfl⟩) (h_preV hK hN hH (hx1 _ _ _ hsi1) rfl) rfl rfl hl.1 rfl (lv_room (Nat.le_of_ble_eq_true rfl)) dX4_isSame_456 ⟨by exact Nat.le_of_ble_eq_true rfl, by exact Nat.le_of_ble_eq_true rfl⟩) hH hS hA (fun r9 u8 H locs hp hH hS => ?_)
              obtain ⟨hu, hr9⟩ := hp
              rw [hu] at hH
              rw [hr9, hk.cnt]
              refine lv_i2d hx hb dX4_isSame_459 ?_
              obtain ⟨hs1, hs2⟩ := af_sum hSS 12 (Nat.le_refl _)
              obtain ⟨n8, en8⟩ : ∃ n8 : Nat, k_N M = n8 + 1 := ⟨k_N M - 1, by omega⟩
              have hme : meF M = FP.ddiv (FP.i2d (sI (afT M) 12)) (FP.i2d (nI (k_N M))) := by rw [meF, k_N_ck, if_neg (nI_ne0 (by omega) (by omega))]
              rw [hme, hs1, en8]
              refine lv_ddiv hx hb dX4_isSame_460 (fp_mean (by omega) (by omega)) ?_
              refine lv_dcmp hx hb dX4_isSame_461 ?_
              rw [fp_eq n8 (by omega) _ (by omega)]
              refine lv_if_ne (tgt := 469) hx hb dX4_isSame_462 (by decide) (fun c3 => ?_) (fun c3 => ?_)
              · exact absurd rfl c3
              · skip
                refine lv_iconst (v := 1) hx hb dX4_isSame_465 (by decide) ?_
                refine lv_goto (tgt := 470) hx hb dX4_isSame_466 (by decide) ?_
                exact hret 470 ls _ _ _ _ 1 _ dX4_isSame_470 (by exact Nat.le_of_ble_eq_true rfl) (by exact Nat.le_of_ble_eq_true rfl) ⟨rfl, Or.inr rfl⟩ hH hS
            · exact absurd c2 (nI_ne0 (by omega) (by omega))
          · exact absurd (nI_le (Nat.le_refl 5) (by decide)) c1
        | succ r9 ih =>
          intro k hk5 ls H locs hl hH hS
          refine lv_iload hx hb dX4_isSame_410 (lv_at hl 0 rfl) ?_
          refine lv_iconst (v := 5) hx hb dX4_isSame_412 (by decide) ?_
          refine lv_icmp_ge (tgt := 438) hx hb dX4_isSame_413 (by decide) (fun c1 => ?_) (fun c1 => ?_)
          · exact absurd c1 (nI_ge (b := 5) (by omega) (by decide))
          · skip
            refine lv_aload_n hx hb dX4_isSame_416 rfl (lv_at hl 5 rfl) ?_
            refine lv_iload hx hb dX4_isSame_417 (lv_at hl 0 rfl) ?_
            refine kx_same (vx_runV (As := [.int (nI k)]) (rest := []) ⟨hx, hb, hml, hown, hts⟩ (c_count l hst D I Z F ad sa hI M H.size n9 hrs (nI k)) (cwV 1 hts gX4_isSame_X2_count rfl rfl rfl (by decide +kernel) ⟨Nat.le_of_ble_eq_true rfl, Nat.le_of_ble_eq_true rfl⟩) (k_preV hKc hNc hX hA hI (hM2 X9) hH hS) rfl rfl hl.1 rfl (lv_room (Nat.le_of_ble_eq_true rfl)) dX4_isSame_419 ⟨show 23206 + k + 1 ≤ 23300 by omega, show 122621 + k * 6 + 6 ≤ 122800 by omega⟩) hI (hM2 X9) hH hS hA (fun E h => h.2 ⟨k, by omega, rfl⟩) (fun r u h => (by obtain ⟨_, _, _, h9, _⟩ := h; exact h9)) (fun r H locs hp hH hS => ?_)
            obtain ⟨k1, hk1, ek1, -, hr9⟩ := hp
            have ek2 : k1 = k := ((nI_eq (by omega) (by omega)).mp ek1).symm
            rw [hr9, ek2, hcnt k (by omega)]
            refine lv_aload hx hb dX4_isSame_422 (lv_at hl 1 rfl) ?_
            refine lv_iload hx hb dX4_isSame_424 (lv_at hl 0 rfl) ?_
            refine h_iald hx hb hK.1 hH (h_U_at (C := C1) (a := ca)) 0 rfl k (by omega) (by decide) rfl dX4_isSame_426 ?_
            refine lv_icmp_eq (tgt := 432) hx hb dX4_isSame_427 (by decide) (fun c4 => ?_) (fun c4 => ?_)
            · skip
              refine lv_iinc (v := nI (k + 1)) (lv' := [(6, .int (nI (k + 1))), (5, .ref ca), (4, .int (sI (clT M) 12)), (3, .int (sI (afT M) 12)), (0, .ref si), (1, .ref (ad 0)), (2, .int 0)]) hx hb dX4_isSame_432 hl (k := 0) rfl (nI_1 k) (by decide) rfl (fun ls hl => ?_)
              refine lv_goto (tgt := 410) hx hb dX4_isSame_435 (by decide) ?_
              refine W.widen (k := 23206 + (k + 1)) (n := 122621 + (k + 1) * 6) (by omega) (by omega) ?_
              exact ih (k + 1) (by omega) ls H locs (lv_sub hl [0, 1, 2, 3, 4, 5, 6] rfl) hH hS
            · exact absurd rfl c4
      exact cl9 5 0 rfl ls H locs (lv_sub hl [0, 1, 2, 3, 4, 5, 6] rfl) hH hS
    have ol9 : ∀ r9 k : Nat, k + r9 = 8 → ∀ (ls : Array Slot) (H : Heap) (locs : List Loc), lv_has ls 10 [(5, .int (nI k)), (4, .int (sI (clT M) 12)), (3, .int (sI (afT M) 12)), (0, .ref si), (1, .ref (ad 0)), (2, .int 0)] → h_H D A C1 H → va_S A s.heap H locs → W p l e rm_h_isSame s m args below meth c H locs (23197 + k) (122568 + k * 6) Q (F0 m 328 ls []) := by
      intro r9
      induction r9 with
      | zero =>
        intro k hk8 ls H locs hl hH hS
        obtain rfl : k = 8 := by omega
        refine lv_iload hx hb dX4_isSame_328 (lv_at hl 0 rfl) ?_
        refine lv_bipush (v := 8) hx hb dX4_isSame_330 (by decide) ?_
        refine lv_icmp_ge (tgt := 359) hx hb dX4_isSame_332 (by decide) (fun c1 => ?_) (fun c1 => ?_)
        · skip
          exact tail9 _ ls H locs hl hH hS
        · exact absurd (nI_le (Nat.le_refl 8) (by decide)) c1
      | succ r9 ih =>
        intro k hk8 ls H locs hl hH hS
        refine lv_iload hx hb dX4_isSame_328 (lv_at hl 0 rfl) ?_
        refine lv_bipush (v := 8) hx hb dX4_isSame_330 (by decide) ?_
        refine lv_icmp_ge (tgt := 359) hx hb dX4_isSame_332 (by decide) (fun c1 => ?_) (fun c1 => ?_)
        · exact absurd c1 (nI_ge (b := 8) (by omega) (by decide))
        · skip
          refine lv_aload_n hx hb dX4_isSame_335 rfl (lv_at hl 4 rfl) ?_
          refine lv_iload hx hb dX4_isSame_336 (lv_at hl 0 rfl) ?_
          refine kx_same (vx_runV (As := [.int (nI k)]) (rest := []) ⟨hx, hb, hml, hown, hts⟩ (c_order l hst D I Z F ad sa hI M H.size (nI k)) (cwV 1 hts gX4_isSame_X2_order rfl rfl rfl (by decide +kernel) ⟨Nat.le_of_ble_eq_true rfl, Nat.le_of_ble_eq_true rfl⟩) (k_preV hKc hNc hX hA hI hM1 hH hS) rfl rfl hl.1 rfl (lv_room (Nat.le_of_ble_eq_true rfl)) dX4_isSame_338 ⟨show 23197 + k + 1 ≤ 23300 by omega, show 122568 + k * 6 + 6 ≤ 122800 by omega⟩) hI hM1 hH hS hA (fun E h => h.2 ⟨k, by omega, rfl⟩) (fun r u h => (by obtain ⟨_, _, _, h9, _⟩ := h; exact h9)) (fun r H locs hp hH hS => ?_)
          obtain ⟨k1, hk1, ek1, -, hr9⟩ := hp
          have ek2 : k1 = k := ((nI_eq (by omega) (by omega)).mp ek1).symm
          rw [hr9, ek2, hord k (by omega)]
          refine lv_aload_n hx hb dX4_isSame_341 rfl (lv_at hl 3 rfl) ?_
          refine h_get (v := .ref oa) (C0 := RX4) (T := TX4) (N := 3) hx hb hts hin4 hown hK.1 hH hsi1 rfl 1 (by decide) rfl (by decide +kernel) rfl dX4_isSame_342 ?_
          refine lv_iload hx hb dX4_isSame_345 (lv_at hl 0 rfl) ?_
          refine h_iald hx hb hK.1 hH hoa1 0 rfl k (by omega) (by decide) rfl dX4_isSame_347 ?_
          rw [hO k (by omega)]
          refine lv_icmp_eq (tgt := 353) hx hb dX4_isSame_348 (by decide) (fun c4 => ?_) (fun c4 => ?_)
          · skip
            refine lv_iinc (v := nI (k + 1)) (lv' := [(5, .int (nI (k + 1))), (4, .int (sI (clT M) 12)), (3, .int (sI (afT M) 12)), (0, .ref si), (1, .ref (ad 0)), (2, .int 0)]) hx hb dX4_isSame_353 hl (k := 0) rfl (nI_1 k) (by decide) rfl (fun ls hl => ?_)
            refine lv_goto (tgt := 328) hx hb dX4_isSame_356 (by decide) ?_
            refine W.widen (k := 23197 + (k + 1)) (n := 122568 + (k + 1) * 6) (by omega) (by omega) ?_
            exact ih (k + 1) (by omega) ls H locs (lv_sub hl [0, 1, 2, 3, 4, 5] rfl) hH hS
          · exact absurd rfl c4
    exact ol9 8 0 rfl ls H locs (lv_sub hl [0, 1, 2, 3, 4, 5] rfl) hH hS
  refine lv_iconst (v := 0) hx hb dX4_isSame_8 (by decide) ?_
  refine lv_istore_n (lv' := [(3, .int 0), (0, .ref si), (1, .ref (ad 0)), (2, .int 0)]) hx hb dX4_isSame_9 rfl hl (by decide) rfl (fun ls hl => ?_)
  refine lv_iconst (v := 0) hx hb dX4_isSame_10 (by decide) ?_
  refine lv_istore (lv' := [(4, .int 0), (3, .int 0), (0, .ref si), (1, .ref (ad 0)), (2, .int 0)]) hx hb dX4_isSame_11 hl (by decide) rfl (fun ls hl => ?_)
  refine lv_iconst (v := 0) hx hb dX4_isSame_13 (by decide) ?_
  refine lv_istore (lv' := [(5, .int 0), (4, .int 0), (3, .int 0), (0, .ref si), (1, .ref (ad 0)), (2, .int 0)]) hx hb dX4_isSame_14 hl (by decide) rfl (fun ls hl => ?_)
  have loop : ∀ r9 f : Nat, f + r9 = 12 → ∀ (ls : Array Slot) (H : Heap) (locs : List Loc), lv_has ls 10 [(5, .int (nI f)), (4, .int (sI (clT M) f)), (3, .int (sI (afT M) f)), (0, .ref si), (1, .ref (ad 0)), (2, .int 0)] → h_H D A C1 H → va_S A s.heap H locs → W p l e rm_h_isSame s m args below meth c H locs (9217 + f * 1165) (38688 + f * 6990) Q (F0 m 16 ls []) := by
    intro r9
    induction r9 with
    | zero =>
      intro f hf ls H locs hl hH hS
      obtain rfl : f = 12 := by omega
      refine lv_iload hx hb dX4_isSame_16 (lv_at hl 0 rfl) ?_
      refine lv_bipush (v := 12) hx hb dX4_isSame_18 (by decide) ?_
      refine lv_icmp_ge (tgt := 325) hx hb dX4_isSame_20 (by decide) (fun c1 => ?_) (fun c1 => ?_)
      · skip
        exact end9 _ ls H locs hl hH hS
      · exact absurd (nI_le (Nat.le_refl 12) (by decide)) c1
    | succ r9 ih =>
      intro f hf ls H locs hl hH hS
      have hf12 : f < 12 := by omega
      refine lv_iload hx hb dX4_isSame_16 (lv_at hl 0 rfl) ?_
      refine lv_bipush (v := 12) hx hb dX4_isSame_18 (by decide) ?_
      refine lv_icmp_ge (tgt := 325) hx hb dX4_isSame_20 (by decide) (fun c1 => ?_) (fun c1 => ?_)
      · exact absurd c1 (nI_ge (b := 12) (by omega) (by decide))
      · skip
        refine lv_aload_n hx hb dX4_isSame_23 rfl (lv_at hl 4 rfl) ?_
        refine lv_iload hx hb dX4_isSame_24 (lv_at hl 0 rfl) ?_
        refine kx_same (vx_runV (As := [.int (nI f)]) (rest := []) ⟨hx, hb, hml, hown, hts⟩ (c_has l hst D I Z F ad sa hI M H.size hSS.2.2 (nI f)) (cwV 1 hts gX4_isSame_X2_has rfl rfl rfl (by decide +kernel) ⟨Nat.le_of_ble_eq_true rfl, Nat.le_of_ble_eq_true rfl⟩) (k_preV hKc hNc hX hA hI hM1 hH hS) rfl rfl hl.1 rfl (lv_room (Nat.le_of_ble_eq_true rfl)) dX4_isSame_26 ⟨show 9217 + f * 1165 + 1 ≤ 23300 by omega, show 38688 + f * 6990 + 6 ≤ 122800 by omega⟩) hI hM1 hH hS hA (fun E h => h.2 ⟨f, hf12, rfl⟩) (fun r u h => (by obtain ⟨_, _, _, h9, _⟩ := h; exact h9)) (fun r H locs hp hH hS => ?_)
        obtain ⟨f1, hf1, ef1, -, hr9⟩ := hp
        have ef2 : f1 = f := ((nI_eq (by omega) (by omega)).mp ef1).symm
        rw [hr9, ef2]
        refine lv_aload_n hx hb dX4_isSame_29 rfl (lv_at hl 3 rfl) ?_
        refine h_get (v := .ref fd) (C0 := RX4) (T := TX4) (N := 3) hx hb hts hin4 hown hK.1 hH hsi1 rfl 0 (by decide) rfl (by decide +kernel) rfl dX4_isSame_30 ?_
        refine lv_iload hx hb dX4_isSame_33 (lv_at hl 0 rfl) ?_
        rcases Classical.em (a_k M f) with hak | hak
        · skip
          have hM1f : M (25 + 6 * f) 0 = 1 := (hSS.2.2 f hf12).resolve_left hak
          rw [hM1f]
          obtain ⟨a9, F8, e9, -, -⟩ := hk.fold hf12 hak
          refine h_aald hx hb hH hK.2.1.1 rfl hfd1 f hf12 (by decide) rfl dX4_isSame_35 ?_
          rw [e9]
          refine lv_ifnull hx hb dX4_isSame_36 ?_
          refine lv_iconst (v := 1) hx hb dX4_isSame_39 (by decide) ?_
          refine lv_goto (tgt := 44) hx hb dX4_isSame_40 (by decide) ?_
          refine lv_icmp_eq (tgt := 49) hx hb dX4_isSame_44 (by decide) (fun c2 => ?_) (fun c2 => ?_)
          · skip
            refine lv_aload_n hx hb dX4_isSame_49 rfl (lv_at hl 3 rfl) ?_
            refine h_get (v := .ref fd) (C0 := RX4) (T := TX4) (N := 3) hx hb hts hin4 hown hK.1 hH hsi1 rfl 0 (by decide) rfl (by decide +kernel) rfl dX4_isSame_50 ?_
            refine lv_iload hx hb dX4_isSame_53 (lv_at hl 0 rfl) ?_
            refine h_aald hx hb hH hK.2.1.1 rfl hfd1 f hf12 (by decide) rfl dX4_isSame_55 ?_
            rw [e9]
            refine lv_ifnonnull (tgt := 62) hx hb dX4_isSame_56 (by decide) ?_
            obtain ⟨q, sa9, ia9, S9, I9, hq, hV⟩ := (hrow f hf12).2 hak
            obtain ⟨⟨vr, vs, vi, h80, vsaid⟩, vE, -⟩ := id hV
            obtain ⟨hW, hA9⟩ := hSS.tW hf12 hak
            have h77 := kR_77 hSS (f := f)
            refine lv_iload_n hx hb dX4_isSame_62 rfl (lv_at hl 2 rfl) ?_
            refine lv_aload_n hx hb dX4_isSame_63 rfl (lv_at hl 3 rfl) ?_
            refine h_get (v := .ref rw9) (C0 := RX4) (T := TX4) (N := 3) hx hb hts hin4 hown hK.1 hH hsi1 rfl 2 (by decide) rfl (by decide +kernel) rfl dX4_isSame_64 ?_
            refine lv_iload hx hb dX4_isSame_67 (lv_at hl 0 rfl) ?_
            refine h_aald hx hb hH (hK.1.2 2 _ rfl).1 rfl hrw1 f hf12 (by decide) rfl dX4_isSame_69 ?_
            rw [hq]
            refine h_get (v := .int (nI (kR M o f).length)) (C0 := RX3) (T := TX3) (N := 3) hx hb hts hin3 hown hK.1 hH vr rfl 0 (by decide) rfl (by decide +kernel) rfl dX4_isSame_70 ?_
            refine lv_iadd hx hb dX4_isSame_73 ?_
            rw [sI_s (show afT M f = nI (kR M o f).length by unfold afT; rw [if_neg hak, hW.1])]
            refine lv_istore_n (lv' := [(3, .int (sI (afT M) (f + 1))), (5, .int (nI f)), (4, .int (sI (clT M) f)), (0, .ref si), (1, .ref (ad 0)), (2, .int 0)]) hx hb dX4_isSame_74 rfl hl (by decide) rfl (fun ls hl => ?_)
            refine lv_iload hx hb dX4_isSame_75 (lv_at hl 2 rfl) ?_
            refine lv_aload_n hx hb dX4_isSame_77 rfl (lv_at hl 3 rfl) ?_
            refine h_get (v := .ref rw9) (C0 := RX4) (T := TX4) (N := 3) hx hb hts hin4 hown hK.1 hH hsi1 rfl 2 (by decide) rfl (by decide +kernel) rfl dX4_isSame_78 ?_
            refine lv_iload hx hb dX4_isSame_81 (lv_at hl 1 rfl) ?_
            refine h_aald hx hb hH (hK.1.2 2 _ rfl).1 rfl hrw1 f hf12 (by decide) rfl dX4_isSame_83 ?_
            rw [hq]
            refine h_get (v := .int (nI (kR M o f).length)) (C0 := RX3) (T := TX3) (N := 3) hx hb hts hin3 hown hK.1 hH vr rfl 0 (by decide) rfl (by decide +kernel) rfl dX4_isSame_84 ?_
            have hcl : clT M f = if (kR M o f).length = 0 then 1 else 0 := by
              unfold clT
              rw [hW.1]
              by_cases c : (kR M o f).length = 0
              · rw [if_pos ⟨hak, by rw [c]; rfl⟩, if_pos c]
              · rw [if_neg (fun h9 => c ((nI_eq (b := 0) (by omega) (by decide)).mp h9.2)), if_neg c]
            have go98 : ∀ (ls : Array Slot) (H : Heap) (locs : List Loc), lv_has ls 10 [(4, .int (sI (clT M) (f + 1))), (3, .int (sI (afT M) (f + 1))), (5, .int (nI f)), (0, .ref si), (1, .ref (ad 0)), (2, .int 0)] → h_H D A C1 H → va_S A s.heap H locs → W p l e rm_h_isSame s m args below meth c H locs (9217 + f * 1165 + 1) (38688 + f * 6990 + 6) Q (F0 m 98 ls []) := by
              intro ls H locs hl hH hS
              refine lv_aload_n hx hb dX4_isSame_98 rfl (lv_at hl 4 rfl) ?_
              refine lv_iload hx hb dX4_isSame_99 (lv_at hl 2 rfl) ?_
              refine lv_iconst (v := 0) hx hb dX4_isSame_101 (by decide) ?_
              refine kx_same (vx_runV (As := [.int (nI f), .int (nI 0)]) (rest := []) ⟨hx, hb, hml, hown, hts⟩ (c_about l hst D I Z F ad sa hI M H.size n9 hrs (nI f) (nI 0)) (cwV 2 hts gX4_isSame_X2_about rfl rfl rfl (by decide +kernel) ⟨Nat.le_of_ble_eq_true rfl, Nat.le_of_ble_eq_true rfl⟩) (k_preV hKc hNc hX hA hI hM1 hH hS) rfl rfl hl.1 rfl (lv_room (Nat.le_of_ble_eq_true rfl)) dX4_isSame_102 ⟨show 9217 + f * 1165 + 1 + 2 ≤ 23300 by omega, show 38688 + f * 6990 + 6 + 12 ≤ 122800 by omega⟩) hI hM1 hH hS hA (ab_no hf12 hak (by decide)) (fun r u h => (by obtain ⟨_, _, _, _, _, _, _, _, h9, _⟩ := h; exact h9)) (fun r H locs hp hH hS => ?_)
              have hr8 := ab_eq hSS hf12 hak (by decide) hp
              rw [hr8]
              refine lv_aload_n hx hb dX4_isSame_105 rfl (lv_at hl 3 rfl) ?_
              refine h_get (v := .ref rw9) (C0 := RX4) (T := TX4) (N := 3) hx hb hts hin4 hown hK.1 hH hsi1 rfl 2 (by decide) rfl (by decide +kernel) rfl dX4_isSame_106 ?_
              refine lv_iload hx hb dX4_isSame_109 (lv_at hl 2 rfl) ?_
              refine h_aald hx hb hH (hK.1.2 2 _ rfl).1 rfl hrw1 f hf12 (by decide) rfl dX4_isSame_111 ?_
              rw [hq]
              refine h_get (v := .int (nI (kR M o f).length)) (C0 := RX3) (T := TX3) (N := 3) hx hb hts hin3 hown hK.1 hH vr rfl 0 (by decide) rfl (by decide +kernel) rfl dX4_isSame_112 ?_
              refine lv_icmp_eq (tgt := 120) hx hb dX4_isSame_115 (by decide) (fun c3 => ?_) (fun c3 => ?_)
              · skip
                refine lv_iconst (v := 0) hx hb dX4_isSame_120 (by decide) ?_
                refine lv_istore (lv' := [(6, .int 0), (4, .int (sI (clT M) (f + 1))), (3, .int (sI (afT M) (f + 1))), (5, .int (nI f)), (0, .ref si), (1, .ref (ad 0)), (2, .int 0)]) hx hb dX4_isSame_121 hl (by decide) rfl (fun ls hl => ?_)
                refine lv_iconst (v := 0) hx hb dX4_isSame_123 (by decide) ?_
                refine lv_istore (lv' := [(7, .int 0), (6, .int 0), (4, .int (sI (clT M) (f + 1))), (3, .int (sI (afT M) (f + 1))), (5, .int (nI f)), (0, .ref si), (1, .ref (ad 0)), (2, .int 0)]) hx hb dX4_isSame_124 hl (by decide) rfl (fun ls hl => ?_)
                have kl : ∀ r8 k : Nat, k + r8 = (kR M o f).length → ∀ (ls : Array Slot) (H : Heap) (locs : List Loc), lv_has ls 10 [(7, .int (nI k)), (6, .int (sI (coT M (25 + 6 * f)) k)), (4, .int (sI (clT M) (f + 1))), (3, .int (sI (afT M) (f + 1))), (5, .int (nI f)), (0, .ref si), (1, .ref (ad 0)), (2, .int 0)] → h_H D A C1 H → va_S A s.heap H locs → W p l e rm_h_isSame s m args below meth c H locs (9217 + f * 1165 + 3 + k * 15) (38688 + f * 6990 + 18 + k * 90) Q (F0 m 126 ls []) := by
                  intro r8
                  induction r8 with
                  | zero =>
                    intro k hk8 ls H locs hl hH hS
                    obtain rfl : k = (kR M o f).length := by omega
                    refine lv_iload hx hb dX4_isSame_126 (lv_at hl 0 rfl) ?_
                    refine lv_aload_n hx hb dX4_isSame_128 rfl (lv_at hl 5 rfl) ?_
                    refine h_get (v := .ref rw9) (C0 := RX4) (T := TX4) (N := 3) hx hb hts hin4 hown hK.1 hH hsi1 rfl 2 (by decide) rfl (by decide +kernel) rfl dX4_isSame_129 ?_
                    refine lv_iload hx hb dX4_isSame_132 (lv_at hl 4 rfl) ?_
                    refine h_aald hx hb hH (hK.1.2 2 _ rfl).1 rfl hrw1 f hf12 (by decide) rfl dX4_isSame_134 ?_
                    rw [hq]
                    refine h_get (v := .int (nI (kR M o f).length)) (C0 := RX3) (T := TX3) (N := 3) hx hb hts hin3 hown hK.1 hH vr rfl 0 (by decide) rfl (by decide +kernel) rfl dX4_isSame_135 ?_
                    refine lv_icmp_ge (tgt := 304) hx hb dX4_isSame_138 (by decide) (fun c4 => ?_) (fun c4 => ?_)
                    · skip
                      refine lv_aload_n hx hb dX4_isSame_304 rfl (lv_at hl 6 rfl) ?_
                      refine lv_iload hx hb dX4_isSame_305 (lv_at hl 4 rfl) ?_
                      refine lv_bipush (v := 7) hx hb dX4_isSame_307 (by decide) ?_
                      refine kx_same (vx_runV (As := [.int (nI f), .int (nI 7)]) (rest := []) ⟨hx, hb, hml, hown, hts⟩ (c_about l hst D I Z F ad sa hI M H.size n9 hrs (nI f) (nI 7)) (cwV 2 hts gX4_isSame_X2_about rfl rfl rfl (by decide +kernel) ⟨Nat.le_of_ble_eq_true rfl, Nat.le_of_ble_eq_true rfl⟩) (k_preV hKc hNc hX hA hI hM1 hH hS) rfl rfl hl.1 rfl (lv_room (Nat.le_of_ble_eq_true rfl)) dX4_isSame_309 ⟨show 9217 + f * 1165 + 3 + (kR M o f).length * 15 + 2 ≤ 23300 by omega, show 38688 + f * 6990 + 18 + (kR M o f).length * 90 + 12 ≤ 122800 by omega⟩) hI hM1 hH hS hA (ab_no hf12 hak (by decide)) (fun r u h => (by obtain ⟨_, _, _, _, _, _, _, _, h9, _⟩ := h; exact h9)) (fun r H locs hp hH hS => ?_)
                      have hr7 := ab_eq hSS hf12 hak (by decide) hp
                      rw [hr7]
                      refine lv_iload hx hb dX4_isSame_312 (lv_at hl 1 rfl) ?_
                      refine lv_icmp_eq (tgt := 319) hx hb dX4_isSame_314 (by decide) (fun c5 => ?_) (fun c5 => ?_)
                      · skip
                        refine lv_iinc (v := nI (f + 1)) (lv' := [(5, .int (nI (f + 1))), (7, .int (nI (kR M o f).length)), (6, .int (sI (coT M (25 + 6 * f)) (kR M o f).length)), (4, .int (sI (clT M) (f + 1))), (3, .int (sI (afT M) (f + 1))), (0, .ref si), (1, .ref (ad 0)), (2, .int 0)]) hx hb dX4_isSame_319 hl (k := 4) rfl (nI_1 f) (by decide) rfl (fun ls hl => ?_)
                        refine lv_goto (tgt := 16) hx hb dX4_isSame_322 (by decide) ?_
                        refine W.widen (k := 9217 + (f + 1) * 1165) (n := 38688 + (f + 1) * 6990) (by omega) (by omega) ?_
                        exact ih (f + 1) (by omega) ls H locs (lv_sub hl [0, 3, 4, 5, 6, 7] rfl) hH hS
                      · exact absurd rfl c5
                    · exact absurd (nI_le (Nat.le_refl _) (by omega)) c4
                  | succ r8 ih8 =>
                    intro k hk8 ls H locs hl hH hS
                    have hkl : k < (kR M o f).length := by omega
                    refine lv_iload hx hb dX4_isSame_126 (lv_at hl 0 rfl) ?_
                    refine lv_aload_n hx hb dX4_isSame_128 rfl (lv_at hl 5 rfl) ?_
                    refine h_get (v := .ref rw9) (C0 := RX4) (T := TX4) (N := 3) hx hb hts hin4 hown hK.1 hH hsi1 rfl 2 (by decide) rfl (by decide +kernel) rfl dX4_isSame_129 ?_
                    refine lv_iload hx hb dX4_isSame_132 (lv_at hl 4 rfl) ?_
                    refine h_aald hx hb hH (hK.1.2 2 _ rfl).1 rfl hrw1 f hf12 (by decide) rfl dX4_isSame_134 ?_
                    rw [hq]
                    refine h_get (v := .int (nI (kR M o f).length)) (C0 := RX3) (T := TX3) (N := 3) hx hb hts hin3 hown hK.1 hH vr rfl 0 (by decide) rfl (by decide +kernel) rfl dX4_isSame_135 ?_
                    refine lv_icmp_ge (tgt := 304) hx hb dX4_isSame_138 (by decide) (fun c4 => ?_) (fun c4 => ?_)
                    · exact absurd c4 (nI_ge (b := (kR M o f).length) (by omega) (by omega))
                    · skip
                      obtain ⟨xg, hx9⟩ : ∃ xg, (r_R o (a_Y M f))[k]? = some xg := ⟨_, List.getElem?_eq_getElem hkl⟩
                      obtain ⟨a8, F7, hSk, ha8, hF7⟩ := vsaid k xg hx9
                      obtain ⟨b8, X8, hIk, hbX, x0, x1, x2, x3⟩ := vE k xg hx9
                      refine lv_iconst (v := 0) hx hb dX4_isSame_141 (by decide) ?_
                      refine lv_istore (lv' := [(8, .int 0), (7, .int (nI k)), (6, .int (sI (coT M (25 + 6 * f)) k)), (4, .int (sI (clT M) (f + 1))), (3, .int (sI (afT M) (f + 1))), (5, .int (nI f)), (0, .ref si), (1, .ref (ad 0)), (2, .int 0)]) hx hb dX4_isSame_142 hl (by decide) rfl (fun ls hl => ?_)
                      refine lv_iconst (v := 0) hx hb dX4_isSame_144 (by decide) ?_
                      refine lv_istore (lv' := [(9, .int 0), (8, .int 0), (7, .int (nI k)), (6, .int (sI (coT M (25 + 6 * f)) k)), (4, .int (sI (clT M) (f + 1))), (3, .int (sI (afT M) (f + 1))), (5, .int (nI f)), (0, .ref si), (1, .ref (ad 0)), (2, .int 0)]) hx hb dX4_isSame_145 hl (by decide) rfl (fun ls hl => ?_)
                      have back9 : ∀ (x9 : Int32) (ls : Array Slot) (H : Heap) (locs : List Loc), lv_has ls 10 [(9, .int x9), (8, .int (nI (o_N o (a_k M) (a_Y M) xg 12))), (7, .int (nI k)), (6, .int (sI (coT M (25 + 6 * f)) k)), (4, .int (sI (clT M) (f + 1))), (3, .int (sI (afT M) (f + 1))), (5, .int (nI f)), (0, .ref si), (1, .ref (ad 0)), (2, .int 0)] → h_H D A C1 H → va_S A s.heap H locs → W p l e rm_h_isSame s m args below meth c H locs (9217 + f * 1165 + 3 + k * 15) (38688 + f * 6990 + 18 + k * 90) Q (F0 m 206 ls []) := by
                        intro x9 ls H locs hl hH hS
                        have hco : coT M (25 + 6 * f) k = if nI (o_N o (a_k M) (a_Y M) xg 12) = 1 then 1 else 0 := by
                          have h9 := fk_4 hW (i := k) (g := xg) hx9
                          have h8 : M (3 + 4) (M (25 + 6 * f + 2) k).toNatClampNeg = nI (o_N o (a_k M) (a_Y M) xg 12) := h9
                          unfold coT
                          rw [h8]
                        have at298 : ∀ (x9 : Int32) (ls : Array Slot) (H : Heap) (locs : List Loc), lv_has ls 10 [(6, .int (sI (coT M (25 + 6 * f)) (k + 1))), (9, .int x9), (8, .int (nI (o_N o (a_k M) (a_Y M) xg 12))), (7, .int (nI k)), (4, .int (sI (clT M) (f + 1))), (3, .int (sI (afT M) (f + 1))), (5, .int (nI f)), (0, .ref si), (1, .ref (ad 0)), (2, .int 0)] → h_H D A C1 H → va_S A s.heap H locs → W p l e rm_h_isSame s m args below meth c H locs (9217 + f * 1165 + 3 + k * 15 + 15) (38688 + f * 6990 + 18 + k * 90 + 90) Q (F0 m 298 ls []) := by
                          intro x9 ls H locs hl hH hS
                          refine lv_iinc (v := nI (k + 1)) (lv' := [(7, .int (nI (k + 1))), (6, .int (sI (coT M (25 + 6 * f)) (k + 1))), (9, .int x9), (8, .int (nI (o_N o (a_k M) (a_Y M) xg 12))), (4, .int (sI (clT M) (f + 1))), (3, .int (sI (afT M) (f + 1))), (5, .int (nI f)), (0, .ref si), (1, .ref (ad 0)), (2, .int 0)]) hx hb dX4_isSame_298 hl (k := 3) rfl (nI_1 k) (by decide) rfl (fun ls hl => ?_)
                          refine lv_goto (tgt := 126) hx hb dX4_isSame_301 (by decide) ?_
                          refine W.widen (k := 9217 + f * 1165 + 3 + (k + 1) * 15) (n := 38688 + f * 6990 + 18 + (k + 1) * 90) (by omega) (by omega) ?_
                          exact ih8 (k + 1) (by omega) ls H locs (lv_sub hl [0, 1, 4, 5, 6, 7, 8, 9] rfl) hH hS
                        have at222 : ∀ (x9 : Int32) (ls : Array Slot) (H : Heap) (locs : List Loc), lv_has ls 10 [(6, .int (sI (coT M (25 + 6 * f)) (k + 1))), (9, .int x9), (8, .int (nI (o_N o (a_k M) (a_Y M) xg 12))), (7, .int (nI k)), (4, .int (sI (clT M) (f + 1))), (3, .int (sI (afT M) (f + 1))), (5, .int (nI f)), (0, .ref si), (1, .ref (ad 0)), (2, .int 0)] → h_H D A C1 H → va_S A s.heap H locs → W p l e rm_h_isSame s m args below meth c H locs (9217 + f * 1165 + 3 + k * 15) (38688 + f * 6990 + 18 + k * 90) Q (F0 m 222 ls []) := by
                          intro x9 ls H locs hl hH hS
                          refine lv_iload_n hx hb dX4_isSame_222 rfl (lv_at hl 9 rfl) ?_
                          refine lv_if_ne (tgt := 236) hx hb dX4_isSame_223 (by decide) (fun c5 => ?_) (fun c5 => ?_)
                          · exact absurd rfl c5
                          · skip
                            refine lv_iload hx hb dX4_isSame_226 (lv_at hl 3 rfl) ?_
                            refine lv_iconst (v := 5) hx hb dX4_isSame_228 (by decide) ?_
                            refine lv_irem hx hb dX4_isSame_229 (by decide) ?_
                            refine lv_if_le (tgt := 236) hx hb dX4_isSame_230 (by decide) (fun c6 => ?_) (fun c6 => ?_)
                            · skip
                              refine lv_iconst (v := 0) hx hb dX4_isSame_236 (by decide) ?_
                              refine lv_istore (lv' := [(9, .int 0), (6, .int (sI (coT M (25 + 6 * f)) (k + 1))), (8, .int (nI (o_N o (a_k M) (a_Y M) xg 12))), (7, .int (nI k)), (4, .int (sI (clT M) (f + 1))), (3, .int (sI (afT M) (f + 1))), (5, .int (nI f)), (0, .ref si), (1, .ref (ad 0)), (2, .int 0)]) hx hb dX4_isSame_237 hl (by decide) rfl (fun ls hl => ?_)
                              have wl : ∀ r7 q9 : Nat, q9 + r7 = 4 → ∀ (ls : Array Slot) (H : Heap) (locs : List Loc), lv_has ls 10 [(9, .int (nI q9)), (6, .int (sI (coT M (25 + 6 * f)) (k + 1))), (8, .int (nI (o_N o (a_k M) (a_Y M) xg 12))), (7, .int (nI k)), (4, .int (sI (clT M) (f + 1))), (3, .int (sI (afT M) (f + 1))), (5, .int (nI f)), (0, .ref si), (1, .ref (ad 0)), (2, .int 0)] → h_H D A C1 H → va_S A s.heap H locs → W p l e rm_h_isSame s m args below meth c H locs (9217 + f * 1165 + 3 + k * 15 + q9 * 3) (38688 + f * 6990 + 18 + k * 90 + q9 * 18) Q (F0 m 239 ls []) := by
                                intro r7
                                induction r7 with
                                | zero =>
                                  intro q9 hq9 ls H locs hl hH hS
                                  obtain rfl : q9 = 4 := by omega
                                  refine lv_iload hx hb dX4_isSame_239 (lv_at hl 0 rfl) ?_
                                  refine lv_iconst (v := 4) hx hb dX4_isSame_241 (by decide) ?_
                                  refine lv_icmp_ge (tgt := 282) hx hb dX4_isSame_242 (by decide) (fun c7 => ?_) (fun c7 => ?_)
                                  · skip
                                    refine lv_aload_n hx hb dX4_isSame_282 rfl (lv_at hl 8 rfl) ?_
                                    refine lv_iload hx hb dX4_isSame_283 (lv_at hl 6 rfl) ?_
                                    refine lv_iload hx hb dX4_isSame_285 (lv_at hl 3 rfl) ?_
                                    refine lv_iconst (v := 4) hx hb dX4_isSame_287 (by decide) ?_
                                    refine kx_same (vx_runV (As := [.int (nI f), .int (nI k), .int (nI 4)]) (rest := []) ⟨hx, hb, hml, hown, hts⟩ (c_fork l hst D I Z F ad sa hI M H.size n9 hrs (nI f) (nI k) (nI 4)) (cwV 3 hts gX4_isSame_X2_fork rfl rfl rfl (by decide +kernel) ⟨Nat.le_of_ble_eq_true rfl, Nat.le_of_ble_eq_true rfl⟩) (k_preV hKc hNc hX hA hI hM1 hH hS) rfl rfl hl.1 rfl (lv_room (Nat.le_of_ble_eq_true rfl)) dX4_isSame_288 ⟨show 9217 + f * 1165 + 3 + k * 15 + 4 * 3 + 3 ≤ 23300 by omega, show 38688 + f * 6990 + 18 + k * 90 + 4 * 18 + 18 ≤ 122800 by omega⟩) hI hM1 hH hS hA (fk_no hSS hf12 hak hkl (by decide)) (fun r u h => (by obtain ⟨_, _, _, _, _, _, _, _, _, _, _, h9, _⟩ := h; exact h9)) (fun r H locs hp hH hS => ?_)
                                    have hr6 := fk_eq hf12 (by omega) (by decide) hp
                                    rw [hr6]
                                    rw [fk_4 hW (i := k) (g := xg) hx9]
                                    refine lv_iload hx hb dX4_isSame_291 (lv_at hl 2 rfl) ?_
                                    refine lv_icmp_eq (tgt := 298) hx hb dX4_isSame_293 (by decide) (fun c8 => ?_) (fun c8 => ?_)
                                    · skip
                                      exact at298 _ ls H locs (lv_sub hl [1, 0, 2, 3, 4, 5, 6, 7, 8, 9] rfl) hH hS
                                    · exact absurd rfl c8
                                  · exact absurd (nI_le (Nat.le_refl 4) (by decide)) c7
                                | succ r7 ih7 =>
                                  intro q9 hq9 ls H locs hl hH hS
                                  refine lv_iload hx hb dX4_isSame_239 (lv_at hl 0 rfl) ?_
                                  refine lv_iconst (v := 4) hx hb dX4_isSame_241 (by decide) ?_
                                  refine lv_icmp_ge (tgt := 282) hx hb dX4_isSame_242 (by decide) (fun c7 => ?_) (fun c7 => ?_)
                                  · exact absurd c7 (nI_ge (b := 4) (by omega) (by decide))
                                  · skip
                                    refine lv_aload_n hx hb dX4_isSame_245 rfl (lv_at hl 8 rfl) ?_
                                    refine lv_iload hx hb dX4_isSame_246 (lv_at hl 6 rfl) ?_
                                    refine lv_iload hx hb dX4_isSame_248 (lv_at hl 3 rfl) ?_
                                    refine lv_iload hx hb dX4_isSame_250 (lv_at hl 0 rfl) ?_
                                    refine kx_same (vx_runV (As := [.int (nI f), .int (nI k), .int (nI q9)]) (rest := []) ⟨hx, hb, hml, hown, hts⟩ (c_fork l hst D I Z F ad sa hI M H.size n9 hrs (nI f) (nI k) (nI q9)) (cwV 3 hts gX4_isSame_X2_fork rfl rfl rfl (by decide +kernel) ⟨Nat.le_of_ble_eq_true rfl, Nat.le_of_ble_eq_true rfl⟩) (k_preV hKc hNc hX hA hI hM1 hH hS) rfl rfl hl.1 rfl (lv_room (Nat.le_of_ble_eq_true rfl)) dX4_isSame_252 ⟨show 9217 + f * 1165 + 3 + k * 15 + q9 * 3 + 3 ≤ 23300 by omega, show 38688 + f * 6990 + 18 + k * 90 + q9 * 18 + 18 ≤ 122800 by omega⟩) hI hM1 hH hS hA (fk_no hSS hf12 hak hkl (by omega)) (fun r u h => (by obtain ⟨_, _, _, _, _, _, _, _, _, _, _, h9, _⟩ := h; exact h9)) (fun r H locs hp hH hS => ?_)
                                    have hr6 := fk_eq hf12 (by omega) (by omega) hp
                                    rw [hr6]
                                    rw [its_eq (cs := cs) (C := C1) hSS hf12 hak hx9 x0 x1 x2 x3 (show q9 < 4 by omega)]
                                    refine lv_aload_n hx hb dX4_isSame_255 rfl (lv_at hl 7 rfl) ?_
                                    refine h_get (v := .ref rw9) (C0 := RX4) (T := TX4) (N := 3) hx hb hts hin4 hown hK.1 hH hsi1 rfl 2 (by decide) rfl (by decide +kernel) rfl dX4_isSame_256 ?_
                                    refine lv_iload hx hb dX4_isSame_259 (lv_at hl 6 rfl) ?_
                                    refine h_aald hx hb hH (hK.1.2 2 _ rfl).1 rfl hrw1 f hf12 (by decide) rfl dX4_isSame_261 ?_
                                    rw [hq]
                                    refine h_get (v := .ref ia9) (C0 := RX3) (T := TX3) (N := 3) hx hb hts hin3 hown hK.1 hH vr rfl 2 (by decide) rfl (by decide +kernel) rfl dX4_isSame_262 ?_
                                    refine lv_iload hx hb dX4_isSame_265 (lv_at hl 3 rfl) ?_
                                    refine h_aald hx hb hH hK.2.2.1 rfl vi k (by omega) (by decide) rfl dX4_isSame_267 ?_
                                    rw [hIk]
                                    refine lv_iload hx hb dX4_isSame_268 (lv_at hl 0 rfl) ?_
                                    refine h_iald hx hb hK.1 hH hbX 0 rfl q9 (by omega) (by decide) rfl dX4_isSame_270 ?_
                                    refine lv_icmp_eq (tgt := 276) hx hb dX4_isSame_271 (by decide) (fun c8 => ?_) (fun c8 => ?_)
                                    · skip
                                      refine lv_iinc (v := nI (q9 + 1)) (lv' := [(9, .int (nI (q9 + 1))), (6, .int (sI (coT M (25 + 6 * f)) (k + 1))), (8, .int (nI (o_N o (a_k M) (a_Y M) xg 12))), (7, .int (nI k)), (4, .int (sI (clT M) (f + 1))), (3, .int (sI (afT M) (f + 1))), (5, .int (nI f)), (0, .ref si), (1, .ref (ad 0)), (2, .int 0)]) hx hb dX4_isSame_276 hl (k := 0) rfl (nI_1 q9) (by decide) rfl (fun ls hl => ?_)
                                      refine lv_goto (tgt := 239) hx hb dX4_isSame_279 (by decide) ?_
                                      refine W.widen (k := 9217 + f * 1165 + 3 + k * 15 + (q9 + 1) * 3) (n := 38688 + f * 6990 + 18 + k * 90 + (q9 + 1) * 18) (by omega) (by omega) ?_
                                      exact ih7 (q9 + 1) (by omega) ls H locs (lv_sub hl [0, 1, 2, 3, 4, 5, 6, 7, 8, 9] rfl) hH hS
                                    · exact absurd rfl c8
                              exact wl 4 0 rfl ls H locs (lv_sub hl [0, 1, 2, 3, 4, 5, 6, 7, 8, 9] rfl) hH hS
                            · skip
                              refine lv_goto (tgt := 298) hx hb dX4_isSame_233 (by decide) ?_
                              refine W.widen (k := 9217 + f * 1165 + 3 + k * 15 + 15) (n := 38688 + f * 6990 + 18 + k * 90 + 90) (by omega) (by omega) ?_
                              exact at298 _ ls H locs hl hH hS
                        refine lv_iload hx hb dX4_isSame_206 (lv_at hl 3 rfl) ?_
                        refine lv_iload hx hb dX4_isSame_208 (lv_at hl 1 rfl) ?_
                        refine lv_iconst (v := 1) hx hb dX4_isSame_210 (by decide) ?_
                        refine lv_icmp_ne (tgt := 218) hx hb dX4_isSame_211 (by decide) (fun c5 => ?_) (fun c5 => ?_)
                        · skip
                          refine lv_iconst (v := 0) hx hb dX4_isSame_218 (by decide) ?_
                          refine lv_iadd hx hb dX4_isSame_219 ?_
                          rw [sI_s (show coT M (25 + 6 * f) k = 0 by rw [hco, if_neg c5])]
                          refine lv_istore (lv' := [(6, .int (sI (coT M (25 + 6 * f)) (k + 1))), (9, .int x9), (8, .int (nI (o_N o (a_k M) (a_Y M) xg 12))), (7, .int (nI k)), (4, .int (sI (clT M) (f + 1))), (3, .int (sI (afT M) (f + 1))), (5, .int (nI f)), (0, .ref si), (1, .ref (ad 0)), (2, .int 0)]) hx hb dX4_isSame_220 hl (by decide) rfl (fun ls hl => ?_)
                          exact at222 _ ls H locs (lv_sub hl [0, 1, 2, 3, 4, 5, 6, 7, 8, 9] rfl) hH hS
                        · skip
                          refine lv_iconst (v := 1) hx hb dX4_isSame_214 (by decide) ?_
                          refine lv_goto (tgt := 219) hx hb dX4_isSame_215 (by decide) ?_
                          refine lv_iadd hx hb dX4_isSame_219 ?_
                          rw [sI_s (show coT M (25 + 6 * f) k = 1 by rw [hco, if_pos c5])]
                          refine lv_istore (lv' := [(6, .int (sI (coT M (25 + 6 * f)) (k + 1))), (9, .int x9), (8, .int (nI (o_N o (a_k M) (a_Y M) xg 12))), (7, .int (nI k)), (4, .int (sI (clT M) (f + 1))), (3, .int (sI (afT M) (f + 1))), (5, .int (nI f)), (0, .ref si), (1, .ref (ad 0)), (2, .int 0)]) hx hb dX4_isSame_220 hl (by decide) rfl (fun ls hl => ?_)
                          exact at222 _ ls H locs (lv_sub hl [0, 1, 2, 3, 4, 5, 6, 7, 8, 9] rfl) hH hS
                      have gl : ∀ r7 g9 : Nat, g9 + r7 = 12 → ∀ (ls : Array Slot) (H : Heap) (locs : List Loc), lv_has ls 10 [(9, .int (nI g9)), (8, .int (nI (o_N o (a_k M) (a_Y M) xg g9))), (7, .int (nI k)), (6, .int (sI (coT M (25 + 6 * f)) k)), (4, .int (sI (clT M) (f + 1))), (3, .int (sI (afT M) (f + 1))), (5, .int (nI f)), (0, .ref si), (1, .ref (ad 0)), (2, .int 0)] → h_H D A C1 H → va_S A s.heap H locs → W p l e rm_h_isSame s m args below meth c H locs (9217 + f * 1165 + 3 + k * 15) (38688 + f * 6990 + 18 + k * 90) Q (F0 m 147 ls []) := by
                        intro r7
                        induction r7 with
                        | zero =>
                          intro g9 hg9 ls H locs hl hH hS
                          obtain rfl : g9 = 12 := by omega
                          refine lv_iload hx hb dX4_isSame_147 (lv_at hl 0 rfl) ?_
                          refine lv_bipush (v := 12) hx hb dX4_isSame_149 (by decide) ?_
                          refine lv_icmp_ge (tgt := 206) hx hb dX4_isSame_151 (by decide) (fun c5 => ?_) (fun c5 => ?_)
                          · skip
                            exact back9 _ ls H locs hl hH hS
                          · exact absurd (nI_le (Nat.le_refl 12) (by decide)) c5
                        | succ r7 ih7 =>
                          intro g9 hg9 ls H locs hl hH hS
                          have hg12 : g9 < 12 := by omega
                          refine lv_iload hx hb dX4_isSame_147 (lv_at hl 0 rfl) ?_
                          refine lv_bipush (v := 12) hx hb dX4_isSame_149 (by decide) ?_
                          refine lv_icmp_ge (tgt := 206) hx hb dX4_isSame_151 (by decide) (fun c5 => ?_) (fun c5 => ?_)
                          · exact absurd c5 (nI_ge (b := 12) (by omega) (by decide))
                          · skip
                            refine lv_iload hx hb dX4_isSame_154 (lv_at hl 1 rfl) ?_
                            refine lv_aload_n hx hb dX4_isSame_156 rfl (lv_at hl 7 rfl) ?_
                            refine h_get (v := .ref rw9) (C0 := RX4) (T := TX4) (N := 3) hx hb hts hin4 hown hK.1 hH hsi1 rfl 2 (by decide) rfl (by decide +kernel) rfl dX4_isSame_157 ?_
                            refine lv_iload hx hb dX4_isSame_160 (lv_at hl 0 rfl) ?_
                            rcases Classical.em (a_k M g9) with hag | hag
                            · skip
                              obtain ⟨q2, sa2, ia2, S2, I2, hq2, hV2⟩ := (hrow g9 hg12).2 hag
                              refine h_aald hx hb hH (hK.1.2 2 _ rfl).1 rfl hrw1 g9 hg12 (by decide) rfl dX4_isSame_162 ?_
                              rw [hq2]
                              refine lv_ifnull hx hb dX4_isSame_163 ?_
                              refine lv_aload_n hx hb dX4_isSame_166 rfl (lv_at hl 7 rfl) ?_
                              refine h_get (v := .ref rw9) (C0 := RX4) (T := TX4) (N := 3) hx hb hts hin4 hown hK.1 hH hsi1 rfl 2 (by decide) rfl (by decide +kernel) rfl dX4_isSame_167 ?_
                              refine lv_iload hx hb dX4_isSame_170 (lv_at hl 0 rfl) ?_
                              refine h_aald hx hb hH (hK.1.2 2 _ rfl).1 rfl hrw1 g9 hg12 (by decide) rfl dX4_isSame_172 ?_
                              rw [hq2]
                              refine lv_aload_n hx hb dX4_isSame_173 rfl (lv_at hl 7 rfl) ?_
                              refine h_get (v := .ref rw9) (C0 := RX4) (T := TX4) (N := 3) hx hb hts hin4 hown hK.1 hH hsi1 rfl 2 (by decide) rfl (by decide +kernel) rfl dX4_isSame_174 ?_
                              refine lv_iload hx hb dX4_isSame_177 (lv_at hl 6 rfl) ?_
                              refine h_aald hx hb hH (hK.1.2 2 _ rfl).1 rfl hrw1 f hf12 (by decide) rfl dX4_isSame_179 ?_
                              rw [hq]
                              refine h_get (v := .ref sa9) (C0 := RX3) (T := TX3) (N := 3) hx hb hts hin3 hown hK.1 hH vr rfl 1 (by decide) rfl (by decide +kernel) rfl dX4_isSame_180 ?_
                              refine lv_iload hx hb dX4_isSame_183 (lv_at hl 2 rfl) ?_
                              refine h_aald hx hb hH hK.2.1.1 rfl vs k (by omega) (by decide) rfl dX4_isSame_185 ?_
                              rw [hSk]
                              refine h_calli (va_runS (As := [.ref q2, .ref a8]) (rest := [.int (nI (o_N o (a_k M) (a_Y M) xg g9))]) ⟨hx, hb, hml, hown, hts⟩ (c_h_has l D cs C1 H.size q2 sa2 ia2 S2 I2 _ hV2.1 a8 F7 xg ha8 hF7) (va_cwS 2 hts gX4_isSame_X4_has rfl rfl rfl (by decide +kernel) ⟨Nat.le_of_ble_eq_true rfl, Nat.le_of_ble_eq_true rfl⟩) (h_preS hK hN hH) rfl rfl hl.1 rfl (lv_room (Nat.le_of_ble_eq_true rfl)) dX4_isSame_186 ⟨show 9217 + f * 1165 + 3 + k * 15 + 0 ≤ 23300 by omega, show 38688 + f * 6990 + 18 + k * 90 + 0 ≤ 122800 by omega⟩) hH hS hA (fun r9 u8 H locs hp hH hS => ?_)
                              obtain ⟨hu, hr9⟩ := hp
                              rw [hu] at hH
                              rcases hr9 with ⟨rfl, hm⟩ | ⟨rfl, hm⟩
                              · skip
                                refine lv_if_eq (tgt := 196) hx hb dX4_isSame_189 (by decide) (fun c6 => ?_) (fun c6 => ?_)
                                · exact absurd c6 (by decide)
                                · skip
                                  refine lv_iconst (v := 1) hx hb dX4_isSame_192 (by decide) ?_
                                  refine lv_goto (tgt := 197) hx hb dX4_isSame_193 (by decide) ?_
                                  refine lv_iadd hx hb dX4_isSame_197 ?_
                                  rw [show nI (o_N o (a_k M) (a_Y M) xg g9) + 1 = nI (o_N o (a_k M) (a_Y M) xg (g9 + 1)) from by rw [o_N, cIf_pos ⟨hag, hm⟩]; exact nI_add _ 1]
                                  refine lv_istore (lv' := [(8, .int (nI (o_N o (a_k M) (a_Y M) xg (g9 + 1)))), (9, .int (nI g9)), (7, .int (nI k)), (6, .int (sI (coT M (25 + 6 * f)) k)), (4, .int (sI (clT M) (f + 1))), (3, .int (sI (afT M) (f + 1))), (5, .int (nI f)), (0, .ref si), (1, .ref (ad 0)), (2, .int 0)]) hx hb dX4_isSame_198 hl (by decide) rfl (fun ls hl => ?_)
                                  refine lv_iinc (v := nI (g9 + 1)) (lv' := [(9, .int (nI (g9 + 1))), (8, .int (nI (o_N o (a_k M) (a_Y M) xg (g9 + 1)))), (7, .int (nI k)), (6, .int (sI (coT M (25 + 6 * f)) k)), (4, .int (sI (clT M) (f + 1))), (3, .int (sI (afT M) (f + 1))), (5, .int (nI f)), (0, .ref si), (1, .ref (ad 0)), (2, .int 0)]) hx hb dX4_isSame_200 hl (k := 1) rfl (nI_1 g9) (by decide) rfl (fun ls hl => ?_)
                                  refine lv_goto (tgt := 147) hx hb dX4_isSame_203 (by decide) ?_
                                  exact ih7 (g9 + 1) (by omega) ls H locs (lv_sub hl [0, 1, 2, 3, 4, 5, 6, 7, 8, 9] rfl) hH hS
                              · skip
                                refine lv_if_eq (tgt := 196) hx hb dX4_isSame_189 (by decide) (fun c6 => ?_) (fun c6 => ?_)
                                · skip
                                  refine lv_iconst (v := 0) hx hb dX4_isSame_196 (by decide) ?_
                                  refine lv_iadd hx hb dX4_isSame_197 ?_
                                  rw [show nI (o_N o (a_k M) (a_Y M) xg g9) + 0 = nI (o_N o (a_k M) (a_Y M) xg (g9 + 1)) from by rw [o_N, cIf_neg (fun h9 => hm h9.2)]; exact Int32.add_zero _]
                                  refine lv_istore (lv' := [(8, .int (nI (o_N o (a_k M) (a_Y M) xg (g9 + 1)))), (9, .int (nI g9)), (7, .int (nI k)), (6, .int (sI (coT M (25 + 6 * f)) k)), (4, .int (sI (clT M) (f + 1))), (3, .int (sI (afT M) (f + 1))), (5, .int (nI f)), (0, .ref si), (1, .ref (ad 0)), (2, .int 0)]) hx hb dX4_isSame_198 hl (by decide) rfl (fun ls hl => ?_)
                                  refine lv_iinc (v := nI (g9 + 1)) (lv' := [(9, .int (nI (g9 + 1))), (8, .int (nI (o_N o (a_k M) (a_Y M) xg (g9 + 1)))), (7, .int (nI k)), (6, .int (sI (coT M (25 + 6 * f)) k)), (4, .int (sI (clT M) (f + 1))), (3, .int (sI (afT M) (f + 1))), (5, .int (nI f)), (0, .ref si), (1, .ref (ad 0)), (2, .int 0)]) hx hb dX4_isSame_200 hl (k := 1) rfl (nI_1 g9) (by decide) rfl (fun ls hl => ?_)
                                  refine lv_goto (tgt := 147) hx hb dX4_isSame_203 (by decide) ?_
                                  exact ih7 (g9 + 1) (by omega) ls H locs (lv_sub hl [0, 1, 2, 3, 4, 5, 6, 7, 8, 9] rfl) hH hS
                                · exact absurd rfl c6
                            · skip
                              refine h_aald hx hb hH (hK.1.2 2 _ rfl).1 rfl hrw1 g9 hg12 (by decide) rfl dX4_isSame_162 ?_
                              rw [(hrow g9 hg12).1 hag]
                              refine lv_ifnullN (tgt := 196) hx hb dX4_isSame_163 (by decide) ?_
                              refine lv_iconst (v := 0) hx hb dX4_isSame_196 (by decide) ?_
                              refine lv_iadd hx hb dX4_isSame_197 ?_
                              rw [show nI (o_N o (a_k M) (a_Y M) xg g9) + 0 = nI (o_N o (a_k M) (a_Y M) xg (g9 + 1)) from by rw [o_N, cIf_neg (fun h9 => hag h9.1)]; exact Int32.add_zero _]
                              refine lv_istore (lv' := [(8, .int (nI (o_N o (a_k M) (a_Y M) xg (g9 + 1)))), (9, .int (nI g9)), (7, .int (nI k)), (6, .int (sI (coT M (25 + 6 * f)) k)), (4, .int (sI (clT M) (f + 1))), (3, .int (sI (afT M) (f + 1))), (5, .int (nI f)), (0, .ref si), (1, .ref (ad 0)), (2, .int 0)]) hx hb dX4_isSame_198 hl (by decide) rfl (fun ls hl => ?_)
                              refine lv_iinc (v := nI (g9 + 1)) (lv' := [(9, .int (nI (g9 + 1))), (8, .int (nI (o_N o (a_k M) (a_Y M) xg (g9 + 1)))), (7, .int (nI k)), (6, .int (sI (coT M (25 + 6 * f)) k)), (4, .int (sI (clT M) (f + 1))), (3, .int (sI (afT M) (f + 1))), (5, .int (nI f)), (0, .ref si), (1, .ref (ad 0)), (2, .int 0)]) hx hb dX4_isSame_200 hl (k := 1) rfl (nI_1 g9) (by decide) rfl (fun ls hl => ?_)
                              refine lv_goto (tgt := 147) hx hb dX4_isSame_203 (by decide) ?_
                              exact ih7 (g9 + 1) (by omega) ls H locs (lv_sub hl [0, 1, 2, 3, 4, 5, 6, 7, 8, 9] rfl) hH hS
                      exact gl 12 0 rfl ls H locs (lv_sub hl [0, 1, 2, 3, 4, 5, 6, 7, 8, 9] rfl) hH hS
                exact kl (kR M o f).length 0 (by omega) ls H locs (lv_sub hl [0, 1, 2, 3, 4, 5, 6, 7] rfl) hH hS
              · exact absurd rfl c3
            refine lv_if_ne (tgt := 94) hx hb dX4_isSame_87 (by decide) (fun c3 => ?_) (fun c3 => ?_)
            · skip
              refine lv_iconst (v := 0) hx hb dX4_isSame_94 (by decide) ?_
              refine lv_iadd hx hb dX4_isSame_95 ?_
              rw [sI_s (show clT M f = 0 by rw [hcl, if_neg (fun h9 => c3 (by rw [h9]; rfl))])]
              refine lv_istore (lv' := [(4, .int (sI (clT M) (f + 1))), (3, .int (sI (afT M) (f + 1))), (5, .int (nI f)), (0, .ref si), (1, .ref (ad 0)), (2, .int 0)]) hx hb dX4_isSame_96 hl (by decide) rfl (fun ls hl => ?_)
              exact go98 ls H locs (lv_sub hl [0, 1, 2, 3, 4, 5] rfl) hH hS
            · skip
              refine lv_iconst (v := 1) hx hb dX4_isSame_90 (by decide) ?_
              refine lv_goto (tgt := 95) hx hb dX4_isSame_91 (by decide) ?_
              refine lv_iadd hx hb dX4_isSame_95 ?_
              rw [sI_s (show clT M f = 1 by rw [hcl, if_pos ((nI_eq (b := 0) (by omega) (by decide)).mp c3)])]
              refine lv_istore (lv' := [(4, .int (sI (clT M) (f + 1))), (3, .int (sI (afT M) (f + 1))), (5, .int (nI f)), (0, .ref si), (1, .ref (ad 0)), (2, .int 0)]) hx hb dX4_isSame_96 hl (by decide) rfl (fun ls hl => ?_)
              exact go98 ls H locs (lv_sub hl [0, 1, 2, 3, 4, 5] rfl) hH hS
          · exact absurd rfl c2
        · skip
          have hM0f : M (25 + 6 * f) 0 = 0 := Classical.not_not.mp hak
          rw [hM0f]
          refine h_aald hx hb hH hK.2.1.1 rfl hfd1 f hf12 (by decide) rfl dX4_isSame_35 ?_
          rw [(hk.off hf12).mpr hak]
          refine lv_ifnullN (tgt := 43) hx hb dX4_isSame_36 (by decide) ?_
          refine lv_iconst (v := 0) hx hb dX4_isSame_43 (by decide) ?_
          refine lv_icmp_eq (tgt := 49) hx hb dX4_isSame_44 (by decide) (fun c2 => ?_) (fun c2 => ?_)
          · skip
            refine lv_aload_n hx hb dX4_isSame_49 rfl (lv_at hl 3 rfl) ?_
            refine h_get (v := .ref fd) (C0 := RX4) (T := TX4) (N := 3) hx hb hts hin4 hown hK.1 hH hsi1 rfl 0 (by decide) rfl (by decide +kernel) rfl dX4_isSame_50 ?_
            refine lv_iload hx hb dX4_isSame_53 (lv_at hl 0 rfl) ?_
            refine h_aald hx hb hH hK.2.1.1 rfl hfd1 f hf12 (by decide) rfl dX4_isSame_55 ?_
            rw [(hk.off hf12).mpr hak]
            refine lv_ifnonnullN hx hb dX4_isSame_56 ?_
            refine lv_goto (tgt := 319) hx hb dX4_isSame_59 (by decide) ?_
            refine lv_iinc (v := nI (f + 1)) (lv' := [(5, .int (nI (f + 1))), (4, .int (sI (clT M) f)), (3, .int (sI (afT M) f)), (0, .ref si), (1, .ref (ad 0)), (2, .int 0)]) hx hb dX4_isSame_319 hl (k := 0) rfl (nI_1 f) (by decide) rfl (fun ls hl => ?_)
            refine lv_goto (tgt := 16) hx hb dX4_isSame_322 (by decide) ?_
            refine W.widen (k := 9217 + (f + 1) * 1165) (n := 38688 + (f + 1) * 6990) (by omega) (by omega) ?_
            have eaf : sI (afT M) (f + 1) = sI (afT M) f := by rw [sI]; unfold afT; rw [if_pos hM0f]; exact Int32.add_zero _
            have ecl : sI (clT M) (f + 1) = sI (clT M) f := by rw [sI]; unfold clT; rw [if_neg (fun h9 => h9.1 hM0f)]; exact Int32.add_zero _
            exact ih (f + 1) (by omega) ls H locs (by rw [eaf, ecl]; exact (lv_sub hl [0, 1, 2, 3, 4, 5] rfl)) hH hS
          · exact absurd rfl c2
  exact loop 12 0 rfl ls H locs (lv_sub hl [0, 1, 2, 3, 4, 5] rfl) hH hS
