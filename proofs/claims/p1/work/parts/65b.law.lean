set_option maxHeartbeats 4000000 in
set_option maxRecDepth 100000 in
theorem law_given {p : Program} {e : Env} {s : State} {m : MethodId} {below : List Frame} {meth : Method} {c : Code} (l : Launch) (hst : l.stackTraces = false) {b : Nat} {xs : Nat → Int32} (C0 : lw_At p s m meth c b 4 xs) {D : va_G} {I Z F J : ClassId} {ad am sa : Nat → Nat} {o od : Nat} {g : Nat → Int64} {H : Heap} {locs : List Loc} (hK : lK D I Z F J s) (hN : cN s) (hX : xE sa (lS9 s) s s.heap) (hI : cI ad) (hmI : mI am) (hd : lD ad am o s) (h9 : lH D I Z F J ad am o g s H locs) {ls : Array Slot} (hl : lv_has ls 10 [(0, .ref b), (1, .ref (ad 0)), (2, .ref (am 0)), (3, .ref o), (4, .ref od), (5, .int 0)]) (fin : ∀ (ls : Array Slot) (H : Heap) (locs : List Loc), lv_has ls 10 [(0, .ref b), (5, .int 0)] → va_S (lS9 s) s.heap H locs → W p l e room_1 s m #[Value.ref b] below meth c H locs 200 40000 (lw_Z below #[Value.ref b] s) (F0 m 1423 ls [])) : W p l e room_1 s m #[Value.ref b] below meth c H locs 120 30000 (lw_Z below #[Value.ref b] s) (F0 m 428 ls []) := by
  obtain ⟨hx, hb, hr, hml, hown, hts0, hXs, hbl, hlocks, hgv⟩ := C0
  have hts : ∀ w ∈ wsL_law, w.before #[Value.ref b] s = true := fun w h => hts0 w (wsL_law_in w h)
  have hbA : ¬ lS9 s b := Nat.not_le.mpr hbl
  have hKm : va_K D vwCl (mT I Z J) s := hK.sub (tys' := mT I Z J) [0, 1, 3] rfl
  have hKj : va_K D vwCl [(J, .long)] s := hK.sub (tys' := [(J, .long)]) [3] rfl
  have hKc : va_K D vwCl (cT I Z F) s := hK.sub (tys' := cT I Z F) [0, 1, 2] rfl
  have hA : ∀ q : Nat, s.heap.size ≤ q → lS9 s q := fun _ h => h
  have hDm := hd.m hmI
  have hDc := hd.c hI
  have hoH := h9.o
  have hPre := fun (av : List Value) => lU_mk (av := av) hK hN hX hd h9
  obtain ⟨hS, hc, hm, ho⟩ := h9
  refine lv_aload_n hx hb dL_law_428 rfl (lv_at hl 1 rfl) ?_
  refine lv_aload_n hx hb dL_law_429 rfl (lv_at hl 0 rfl) ?_
  refine lv_iload hx hb dL_law_430 (lv_at hl 5 rfl) ?_
  refine lv_iconst (v := 1) hx hb dL_law_432 (by decide) ?_
  refine lv_iadd hx hb dL_law_433 ?_
  rw [show (0 : Int32) + 1 = nI 1 from rfl]
  refine va_sld hx hb hXs hbl hbA hS (vp_in_nI (n := 1) (by decide) (by decide)) dL_law_434 ?_
  refine lv_aload_n hx hb dL_law_435 rfl (lv_at hl 0 rfl) ?_
  refine lv_iload hx hb dL_law_436 (lv_at hl 5 rfl) ?_
  refine lv_iconst (v := 2) hx hb dL_law_438 (by decide) ?_
  refine lv_iadd hx hb dL_law_439 ?_
  rw [show (0 : Int32) + 2 = nI 2 from rfl]
  refine va_sld hx hb hXs hbl hbA hS (vp_in_nI (n := 2) (by decide) (by decide)) dL_law_440 ?_
  refine lv_aload_n hx hb dL_law_441 rfl (lv_at hl 0 rfl) ?_
  refine lv_iload hx hb dL_law_442 (lv_at hl 5 rfl) ?_
  refine lv_iconst (v := 3) hx hb dL_law_444 (by decide) ?_
  refine lv_iadd hx hb dL_law_445 ?_
  rw [show (0 : Int32) + 3 = nI 3 from rfl]
  refine va_sld hx hb hXs hbl hbA hS (vp_in_nI (n := 3) (by decide) (by decide)) dL_law_446 ?_
  have go : ∀ y : Int32, (y = 0 ∨ y = 1) → W p l e room_1 s m #[Value.ref b] below meth c H locs 120 30000 (lw_Z below #[Value.ref b] s) (F0 m 455 ls [.int y, .int (xs (nI 2).toNatClampNeg), .int (xs (nI 1).toNatClampNeg), .ref (ad 0)]) := by
    intro y hy
    refine lv_aload_n hx hb dL_law_455 rfl (lv_at hl 3 rfl) ?_
    refine va_calli (vx_runSW (As := [.ref (ad 0), .int (xs (nI 1).toNatClampNeg), .int (xs (nI 2).toNatClampNeg), .int y, .ref o]) (rest := []) ⟨hx, hb, hml, hown, hts⟩ (c_l_given l hst D I Z F J ad sa o H.size g hI hd.2.2.1 hoH (xs (nI 1).toNatClampNeg) (xs (nI 2).toNatClampNeg) y) (vx_cwSW 5 hts gL_law_L_given rfl rfl rfl (by decide +kernel) ⟨Nat.le_of_ble_eq_true rfl, Nat.le_of_ble_eq_true rfl⟩) (hPre _) rfl rfl hl.1 rfl (lv_room (Nat.le_of_ble_eq_true rfl)) dL_law_456 ⟨Nat.le_of_ble_eq_true rfl, Nat.le_of_ble_eq_true rfl⟩) hS (fun q _ h => lA_in hd hS.1 q h) (lA_in hd hS.1) (fun r uo t H1 locs1 ht hvm hp hB hz1 hk1 hS1 => ?_)
    have hm1 := lA_m hd hm hk1
    rw [ht] at hB
    rw [show r = 1 from hp]
    refine lv_istore (lv' := [(6, .int 1), (0, .ref b), (1, .ref (ad 0)), (2, .ref (am 0)), (3, .ref o), (4, .ref od), (5, .int 0)]) hx hb dL_law_459 hl (by decide) rfl (fun ls hl => ?_)
    refine lv_aload_n hx hb dL_law_461 rfl (lv_at hl 3 rfl) ?_
    refine lv_aload_n hx hb dL_law_462 rfl (lv_at hl 1 rfl) ?_
    refine lv_iload hx hb dL_law_463 (lv_at hl 6 rfl) ?_
    refine lv_iconst (v := 1) hx hb dL_law_465 (by decide) ?_
    refine lv_iadd hx hb dL_law_466 ?_
    rw [show (0 : Int32) + 1 = nI 1 from rfl]
    refine va_sld hx hb hXs hbl hbA hS1 (vp_in_nI (n := 1) (by decide) (by decide)) dL_law_467 ?_
    refine lv_aload_n hx hb dL_law_468 rfl (lv_at hl 1 rfl) ?_
    refine lv_iload hx hb dL_law_469 (lv_at hl 6 rfl) ?_
    refine lv_iconst (v := 2) hx hb dL_law_471 (by decide) ?_
    refine lv_iadd hx hb dL_law_472 ?_
    rw [show (0 : Int32) + 2 = nI 2 from rfl]
    refine va_sld hx hb hXs hbl hbA hS1 (vp_in_nI (n := 2) (by decide) (by decide)) dL_law_473 ?_
    refine lv_aload_n hx hb dL_law_474 rfl (lv_at hl 1 rfl) ?_
    refine lv_iload hx hb dL_law_475 (lv_at hl 6 rfl) ?_
    refine lv_iconst (v := 3) hx hb dL_law_477 (by decide) ?_
    refine lv_iadd hx hb dL_law_478 ?_
    rw [show (0 : Int32) + 3 = nI 3 from rfl]
    refine va_sld hx hb hXs hbl hbA hS1 (vp_in_nI (n := 3) (by decide) (by decide)) dL_law_479 ?_
    have go : ∀ y : Int32, (y = 0 ∨ y = 1) → W p l e room_1 s m #[Value.ref b] below meth c H1 locs1 (120 + 3) (30000 + 18) (lw_Z below #[Value.ref b] s) (F0 m 488 ls [.int y, .int (xs (nI 2).toNatClampNeg), .int (xs (nI 1).toNatClampNeg), .ref (am 0)]) := by
      intro y hy
      refine mr_callik (va_runV (As := [.int (xs (nI 1).toNatClampNeg), .int (xs (nI 2).toNatClampNeg), .int y]) (rest := []) ⟨hx, hb, hml, hown, hts⟩ (c_m_given l D I Z J am hmI M3k L3k H1.size M3_z (xs (nI 1).toNatClampNeg) (xs (nI 2).toNatClampNeg) y) (cwV 3 hts gL_law_X3_given rfl rfl rfl (by decide +kernel) ⟨Nat.le_of_ble_eq_true rfl, Nat.le_of_ble_eq_true rfl⟩) (mr_preV hKm ⟨hm1, hS1⟩) rfl rfl hl.1 rfl (lv_room (Nat.le_of_ble_eq_true rfl)) dL_law_488 ⟨Nat.le_of_ble_eq_true rfl, Nat.le_of_ble_eq_true rfl⟩) hA hDm ⟨hm1, hS1⟩ (fun r2 u H2 locs2 hp2 hW hk2 => ?_)
      have ht2 : u.1 0 0 = 1 := hp2
      refine lv_istore (lv' := [(7, .int r2), (6, .int 1), (0, .ref b), (1, .ref (ad 0)), (2, .ref (am 0)), (3, .ref o), (4, .ref od), (5, .int 0)]) hx hb dL_law_491 hl (by decide) rfl (fun ls hl => ?_)
      refine lv_aload_n hx hb dL_law_493 rfl (lv_at hl 4 rfl) ?_
      refine mr_callik (va_runV (As := []) (rest := []) ⟨hx, hb, hml, hown, hts⟩ (c_m_thrown l D I Z J am hmI u.1 u.2 H2.size) (cwV 0 hts gL_law_X3_thrown rfl rfl rfl (by decide +kernel) ⟨Nat.le_of_ble_eq_true rfl, Nat.le_of_ble_eq_true rfl⟩) (mr_preV hKm hW) rfl rfl hl.1 rfl (lv_room (Nat.le_of_ble_eq_true rfl)) dL_law_494 ⟨Nat.le_of_ble_eq_true rfl, Nat.le_of_ble_eq_true rfl⟩) hA hDm hW (fun r3 u3 H3 locs3 hp3 hW3 hk3 => ?_)
      rw [hp3.2, ht2]
      refine lv_iload hx hb dL_law_497 (lv_at hl 1 rfl) ?_
      refine lv_icmp_eq (tgt := 504) hx hb dL_law_499 (by decide) (fun c1 => ?_) (fun c1 => ?_)
      · skip
        refine lv_iload hx hb dL_law_504 (lv_at hl 1 rfl) ?_
        refine lv_if_ne (tgt := 521) hx hb dL_law_506 (by decide) (fun c2 => ?_) (fun c2 => ?_)
        · skip
          refine lv_goto (tgt := 1423) hx hb dL_law_521 (by decide) ?_
          refine W.widen (k := 200) (n := 40000) (Nat.le_of_ble_eq_true rfl) (Nat.le_of_ble_eq_true rfl) ?_
          exact fin ls _ _ (lv_sub hl [2, 7] rfl) hW3.2
        · exact absurd c2 (by decide)
      · exact absurd rfl c1
    refine lv_if_eq (tgt := 487) hx hb dL_law_480 (by decide) (fun _ => ?_) (fun _ => ?_)
    · skip
      refine lv_iconst (v := 0) hx hb dL_law_487 (by decide) ?_
      exact go 0 (Or.inl rfl)
    · skip
      refine lv_iconst (v := 1) hx hb dL_law_483 (by decide) ?_
      refine lv_goto (tgt := 488) hx hb dL_law_484 (by decide) ?_
      exact go 1 (Or.inr rfl)
  refine lv_if_eq (tgt := 454) hx hb dL_law_447 (by decide) (fun _ => ?_) (fun _ => ?_)
  · skip
    refine lv_iconst (v := 0) hx hb dL_law_454 (by decide) ?_
    exact go 0 (Or.inl rfl)
  · skip
    refine lv_iconst (v := 1) hx hb dL_law_450 (by decide) ?_
    refine lv_goto (tgt := 455) hx hb dL_law_451 (by decide) ?_
    exact go 1 (Or.inr rfl)

set_option maxHeartbeats 4000000 in
set_option maxRecDepth 100000 in
theorem law_without {p : Program} {e : Env} {s : State} {m : MethodId} {below : List Frame} {meth : Method} {c : Code} (l : Launch) (hst : l.stackTraces = false) {b : Nat} {xs : Nat → Int32} (C0 : lw_At p s m meth c b 4 xs) {D : va_G} {I Z F J : ClassId} {ad am sa : Nat → Nat} {o od : Nat} {g : Nat → Int64} {H : Heap} {locs : List Loc} (hK : lK D I Z F J s) (hN : cN s) (hX : xE sa (lS9 s) s s.heap) (hI : cI ad) (hmI : mI am) (hd : lD ad am o s) (h9 : lH D I Z F J ad am o g s H locs) {ls : Array Slot} (hl : lv_has ls 10 [(0, .ref b), (1, .ref (ad 0)), (2, .ref (am 0)), (3, .ref o), (4, .ref od), (5, .int 0)]) (fin : ∀ (ls : Array Slot) (H : Heap) (locs : List Loc), lv_has ls 10 [(0, .ref b), (5, .int 0)] → va_S (lS9 s) s.heap H locs → W p l e room_1 s m #[Value.ref b] below meth c H locs 200 40000 (lw_Z below #[Value.ref b] s) (F0 m 1423 ls [])) : W p l e room_1 s m #[Value.ref b] below meth c H locs 120 30000 (lw_Z below #[Value.ref b] s) (F0 m 524 ls []) := by
  obtain ⟨hx, hb, hr, hml, hown, hts0, hXs, hbl, hlocks, hgv⟩ := C0
  have hts : ∀ w ∈ wsL_law, w.before #[Value.ref b] s = true := fun w h => hts0 w (wsL_law_in w h)
  have hbA : ¬ lS9 s b := Nat.not_le.mpr hbl
  have hKm : va_K D vwCl (mT I Z J) s := hK.sub (tys' := mT I Z J) [0, 1, 3] rfl
  have hKj : va_K D vwCl [(J, .long)] s := hK.sub (tys' := [(J, .long)]) [3] rfl
  have hKc : va_K D vwCl (cT I Z F) s := hK.sub (tys' := cT I Z F) [0, 1, 2] rfl
  have hA : ∀ q : Nat, s.heap.size ≤ q → lS9 s q := fun _ h => h
  have hDm := hd.m hmI
  have hDc := hd.c hI
  have hoH := h9.o
  have hPre := fun (av : List Value) => lU_mk (av := av) hK hN hX hd h9
  obtain ⟨hS, hc, hm, ho⟩ := h9
  refine lv_aload_n hx hb dL_law_524 rfl (lv_at hl 1 rfl) ?_
  refine lv_aload_n hx hb dL_law_525 rfl (lv_at hl 0 rfl) ?_
  refine lv_iload hx hb dL_law_526 (lv_at hl 5 rfl) ?_
  refine lv_iconst (v := 1) hx hb dL_law_528 (by decide) ?_
  refine lv_iadd hx hb dL_law_529 ?_
  rw [show (0 : Int32) + 1 = nI 1 from rfl]
  refine va_sld hx hb hXs hbl hbA hS (vp_in_nI (n := 1) (by decide) (by decide)) dL_law_530 ?_
  refine lv_aload_n hx hb dL_law_531 rfl (lv_at hl 0 rfl) ?_
  refine lv_iload hx hb dL_law_532 (lv_at hl 5 rfl) ?_
  refine lv_iconst (v := 2) hx hb dL_law_534 (by decide) ?_
  refine lv_iadd hx hb dL_law_535 ?_
  rw [show (0 : Int32) + 2 = nI 2 from rfl]
  refine va_sld hx hb hXs hbl hbA hS (vp_in_nI (n := 2) (by decide) (by decide)) dL_law_536 ?_
  refine lv_aload_n hx hb dL_law_537 rfl (lv_at hl 0 rfl) ?_
  refine lv_iload hx hb dL_law_538 (lv_at hl 5 rfl) ?_
  refine lv_iconst (v := 3) hx hb dL_law_540 (by decide) ?_
  refine lv_iadd hx hb dL_law_541 ?_
  rw [show (0 : Int32) + 3 = nI 3 from rfl]
  refine va_sld hx hb hXs hbl hbA hS (vp_in_nI (n := 3) (by decide) (by decide)) dL_law_542 ?_
  have go : ∀ y : Int32, (y = 0 ∨ y = 1) → W p l e room_1 s m #[Value.ref b] below meth c H locs 120 30000 (lw_Z below #[Value.ref b] s) (F0 m 551 ls [.int y, .int (xs (nI 2).toNatClampNeg), .int (xs (nI 1).toNatClampNeg), .ref (ad 0)]) := by
    intro y hy
    refine lv_aload_n hx hb dL_law_551 rfl (lv_at hl 3 rfl) ?_
    refine va_calli (vx_runSW (As := [.ref (ad 0), .int (xs (nI 1).toNatClampNeg), .int (xs (nI 2).toNatClampNeg), .int y, .ref o]) (rest := []) ⟨hx, hb, hml, hown, hts⟩ (c_l_without l hst D I Z F J ad sa o H.size g hI hd.2.2.1 hoH (xs (nI 1).toNatClampNeg) (xs (nI 2).toNatClampNeg) y) (vx_cwSW 5 hts gL_law_L_without rfl rfl rfl (by decide +kernel) ⟨Nat.le_of_ble_eq_true rfl, Nat.le_of_ble_eq_true rfl⟩) (hPre _) rfl rfl hl.1 rfl (lv_room (Nat.le_of_ble_eq_true rfl)) dL_law_552 ⟨Nat.le_of_ble_eq_true rfl, Nat.le_of_ble_eq_true rfl⟩) hS (fun q _ h => lA_in hd hS.1 q h) (lA_in hd hS.1) (fun r uo t H1 locs1 ht hvm hp hB hz1 hk1 hS1 => ?_)
    have hm1 := lA_m hd hm hk1
    rw [ht] at hB
    rw [show r = 1 from hp]
    refine lv_istore (lv' := [(6, .int 1), (0, .ref b), (1, .ref (ad 0)), (2, .ref (am 0)), (3, .ref o), (4, .ref od), (5, .int 0)]) hx hb dL_law_555 hl (by decide) rfl (fun ls hl => ?_)
    refine lv_aload_n hx hb dL_law_557 rfl (lv_at hl 3 rfl) ?_
    refine lv_aload_n hx hb dL_law_558 rfl (lv_at hl 1 rfl) ?_
    refine lv_iload hx hb dL_law_559 (lv_at hl 6 rfl) ?_
    refine lv_iconst (v := 1) hx hb dL_law_561 (by decide) ?_
    refine lv_iadd hx hb dL_law_562 ?_
    rw [show (0 : Int32) + 1 = nI 1 from rfl]
    refine va_sld hx hb hXs hbl hbA hS1 (vp_in_nI (n := 1) (by decide) (by decide)) dL_law_563 ?_
    refine lv_aload_n hx hb dL_law_564 rfl (lv_at hl 1 rfl) ?_
    refine lv_iload hx hb dL_law_565 (lv_at hl 6 rfl) ?_
    refine lv_iconst (v := 2) hx hb dL_law_567 (by decide) ?_
    refine lv_iadd hx hb dL_law_568 ?_
    rw [show (0 : Int32) + 2 = nI 2 from rfl]
    refine va_sld hx hb hXs hbl hbA hS1 (vp_in_nI (n := 2) (by decide) (by decide)) dL_law_569 ?_
    refine lv_aload_n hx hb dL_law_570 rfl (lv_at hl 1 rfl) ?_
    refine lv_iload hx hb dL_law_571 (lv_at hl 6 rfl) ?_
    refine lv_iconst (v := 3) hx hb dL_law_573 (by decide) ?_
    refine lv_iadd hx hb dL_law_574 ?_
    rw [show (0 : Int32) + 3 = nI 3 from rfl]
    refine va_sld hx hb hXs hbl hbA hS1 (vp_in_nI (n := 3) (by decide) (by decide)) dL_law_575 ?_
    have go : ∀ y : Int32, (y = 0 ∨ y = 1) → W p l e room_1 s m #[Value.ref b] below meth c H1 locs1 (120 + 3) (30000 + 18) (lw_Z below #[Value.ref b] s) (F0 m 584 ls [.int y, .int (xs (nI 2).toNatClampNeg), .int (xs (nI 1).toNatClampNeg), .ref (am 0)]) := by
      intro y hy
      refine mr_callik (va_runV (As := [.int (xs (nI 1).toNatClampNeg), .int (xs (nI 2).toNatClampNeg), .int y]) (rest := []) ⟨hx, hb, hml, hown, hts⟩ (c_m_without l D I Z J am hmI M3k L3k H1.size M3_z (xs (nI 1).toNatClampNeg) (xs (nI 2).toNatClampNeg) y) (cwV 3 hts gL_law_X3_without rfl rfl rfl (by decide +kernel) ⟨Nat.le_of_ble_eq_true rfl, Nat.le_of_ble_eq_true rfl⟩) (mr_preV hKm ⟨hm1, hS1⟩) rfl rfl hl.1 rfl (lv_room (Nat.le_of_ble_eq_true rfl)) dL_law_584 ⟨Nat.le_of_ble_eq_true rfl, Nat.le_of_ble_eq_true rfl⟩) hA hDm ⟨hm1, hS1⟩ (fun r2 u H2 locs2 hp2 hW hk2 => ?_)
      have ht2 : u.1 0 0 = 1 := hp2
      refine lv_istore (lv' := [(7, .int r2), (6, .int 1), (0, .ref b), (1, .ref (ad 0)), (2, .ref (am 0)), (3, .ref o), (4, .ref od), (5, .int 0)]) hx hb dL_law_587 hl (by decide) rfl (fun ls hl => ?_)
      refine lv_aload_n hx hb dL_law_589 rfl (lv_at hl 4 rfl) ?_
      refine mr_callik (va_runV (As := []) (rest := []) ⟨hx, hb, hml, hown, hts⟩ (c_m_thrown l D I Z J am hmI u.1 u.2 H2.size) (cwV 0 hts gL_law_X3_thrown rfl rfl rfl (by decide +kernel) ⟨Nat.le_of_ble_eq_true rfl, Nat.le_of_ble_eq_true rfl⟩) (mr_preV hKm hW) rfl rfl hl.1 rfl (lv_room (Nat.le_of_ble_eq_true rfl)) dL_law_590 ⟨Nat.le_of_ble_eq_true rfl, Nat.le_of_ble_eq_true rfl⟩) hA hDm hW (fun r3 u3 H3 locs3 hp3 hW3 hk3 => ?_)
      rw [hp3.2, ht2]
      refine lv_iload hx hb dL_law_593 (lv_at hl 1 rfl) ?_
      refine lv_icmp_eq (tgt := 600) hx hb dL_law_595 (by decide) (fun c1 => ?_) (fun c1 => ?_)
      · skip
        refine lv_iload hx hb dL_law_600 (lv_at hl 1 rfl) ?_
        refine lv_if_ne (tgt := 617) hx hb dL_law_602 (by decide) (fun c2 => ?_) (fun c2 => ?_)
        · skip
          refine lv_goto (tgt := 1423) hx hb dL_law_617 (by decide) ?_
          refine W.widen (k := 200) (n := 40000) (Nat.le_of_ble_eq_true rfl) (Nat.le_of_ble_eq_true rfl) ?_
          exact fin ls _ _ (lv_sub hl [2, 7] rfl) hW3.2
        · exact absurd c2 (by decide)
      · exact absurd rfl c1
    refine lv_if_eq (tgt := 583) hx hb dL_law_576 (by decide) (fun _ => ?_) (fun _ => ?_)
    · skip
      refine lv_iconst (v := 0) hx hb dL_law_583 (by decide) ?_
      exact go 0 (Or.inl rfl)
    · skip
      refine lv_iconst (v := 1) hx hb dL_law_579 (by decide) ?_
      refine lv_goto (tgt := 584) hx hb dL_law_580 (by decide) ?_
      exact go 1 (Or.inr rfl)
  refine lv_if_eq (tgt := 550) hx hb dL_law_543 (by decide) (fun _ => ?_) (fun _ => ?_)
  · skip
    refine lv_iconst (v := 0) hx hb dL_law_550 (by decide) ?_
    exact go 0 (Or.inl rfl)
  · skip
    refine lv_iconst (v := 1) hx hb dL_law_546 (by decide) ?_
    refine lv_goto (tgt := 551) hx hb dL_law_547 (by decide) ?_
    exact go 1 (Or.inr rfl)

set_option maxHeartbeats 4000000 in
set_option maxRecDepth 100000 in
theorem law_drop {p : Program} {e : Env} {s : State} {m : MethodId} {below : List Frame} {meth : Method} {c : Code} (l : Launch) (hst : l.stackTraces = false) {b : Nat} {xs : Nat → Int32} (C0 : lw_At p s m meth c b 4 xs) {D : va_G} {I Z F J : ClassId} {ad am sa : Nat → Nat} {o od : Nat} {g : Nat → Int64} {H : Heap} {locs : List Loc} (hK : lK D I Z F J s) (hN : cN s) (hX : xE sa (lS9 s) s s.heap) (hI : cI ad) (hmI : mI am) (hd : lD ad am o s) (h9 : lH D I Z F J ad am o g s H locs) {ls : Array Slot} (hl : lv_has ls 10 [(0, .ref b), (1, .ref (ad 0)), (2, .ref (am 0)), (3, .ref o), (4, .ref od), (5, .int 0)]) (fin : ∀ (ls : Array Slot) (H : Heap) (locs : List Loc), lv_has ls 10 [(0, .ref b), (5, .int 0)] → va_S (lS9 s) s.heap H locs → W p l e room_1 s m #[Value.ref b] below meth c H locs 200 40000 (lw_Z below #[Value.ref b] s) (F0 m 1423 ls [])) : W p l e room_1 s m #[Value.ref b] below meth c H locs 120 30000 (lw_Z below #[Value.ref b] s) (F0 m 620 ls []) := by
  obtain ⟨hx, hb, hr, hml, hown, hts0, hXs, hbl, hlocks, hgv⟩ := C0
  have hts : ∀ w ∈ wsL_law, w.before #[Value.ref b] s = true := fun w h => hts0 w (wsL_law_in w h)
  have hbA : ¬ lS9 s b := Nat.not_le.mpr hbl
  have hKm : va_K D vwCl (mT I Z J) s := hK.sub (tys' := mT I Z J) [0, 1, 3] rfl
  have hKj : va_K D vwCl [(J, .long)] s := hK.sub (tys' := [(J, .long)]) [3] rfl
  have hKc : va_K D vwCl (cT I Z F) s := hK.sub (tys' := cT I Z F) [0, 1, 2] rfl
  have hA : ∀ q : Nat, s.heap.size ≤ q → lS9 s q := fun _ h => h
  have hDm := hd.m hmI
  have hDc := hd.c hI
  have hoH := h9.o
  have hPre := fun (av : List Value) => lU_mk (av := av) hK hN hX hd h9
  obtain ⟨hS, hc, hm, ho⟩ := h9
  refine lv_aload_n hx hb dL_law_620 rfl (lv_at hl 1 rfl) ?_
  refine lv_aload_n hx hb dL_law_621 rfl (lv_at hl 0 rfl) ?_
  refine lv_iload hx hb dL_law_622 (lv_at hl 5 rfl) ?_
  refine lv_iconst (v := 1) hx hb dL_law_624 (by decide) ?_
  refine lv_iadd hx hb dL_law_625 ?_
  rw [show (0 : Int32) + 1 = nI 1 from rfl]
  refine va_sld hx hb hXs hbl hbA hS (vp_in_nI (n := 1) (by decide) (by decide)) dL_law_626 ?_
  refine lv_aload_n hx hb dL_law_627 rfl (lv_at hl 3 rfl) ?_
  refine va_calli (vx_runSW (As := [.ref (ad 0), .int (xs (nI 1).toNatClampNeg), .ref o]) (rest := []) ⟨hx, hb, hml, hown, hts⟩ (c_l_drop l hst D I Z F J ad sa o H.size g hI hd.2.2.1 hoH (xs (nI 1).toNatClampNeg)) (vx_cwSW 3 hts gL_law_L_drop rfl rfl rfl (by decide +kernel) ⟨Nat.le_of_ble_eq_true rfl, Nat.le_of_ble_eq_true rfl⟩) (hPre _) rfl rfl hl.1 rfl (lv_room (Nat.le_of_ble_eq_true rfl)) dL_law_628 ⟨Nat.le_of_ble_eq_true rfl, Nat.le_of_ble_eq_true rfl⟩) hS (fun q _ h => lA_in hd hS.1 q h) (lA_in hd hS.1) (fun r uo t H1 locs1 ht hvm hp hB hz1 hk1 hS1 => ?_)
  have hm1 := lA_m hd hm hk1
  rw [ht] at hB
  rw [show r = 1 from hp]
  refine lv_istore (lv' := [(6, .int 1), (0, .ref b), (1, .ref (ad 0)), (2, .ref (am 0)), (3, .ref o), (4, .ref od), (5, .int 0)]) hx hb dL_law_631 hl (by decide) rfl (fun ls hl => ?_)
  refine lv_aload_n hx hb dL_law_633 rfl (lv_at hl 3 rfl) ?_
  refine lv_aload_n hx hb dL_law_634 rfl (lv_at hl 1 rfl) ?_
  refine lv_iload hx hb dL_law_635 (lv_at hl 6 rfl) ?_
  refine lv_iconst (v := 1) hx hb dL_law_637 (by decide) ?_
  refine lv_iadd hx hb dL_law_638 ?_
  rw [show (0 : Int32) + 1 = nI 1 from rfl]
  refine va_sld hx hb hXs hbl hbA hS1 (vp_in_nI (n := 1) (by decide) (by decide)) dL_law_639 ?_
  refine mr_callik (va_runV (As := [.int (xs (nI 1).toNatClampNeg)]) (rest := []) ⟨hx, hb, hml, hown, hts⟩ (c_m_drop l D I Z J am hmI M3k L3k H1.size M3_z (xs (nI 1).toNatClampNeg)) (cwV 1 hts gL_law_X3_drop rfl rfl rfl (by decide +kernel) ⟨Nat.le_of_ble_eq_true rfl, Nat.le_of_ble_eq_true rfl⟩) (mr_preV hKm ⟨hm1, hS1⟩) rfl rfl hl.1 rfl (lv_room (Nat.le_of_ble_eq_true rfl)) dL_law_640 ⟨Nat.le_of_ble_eq_true rfl, Nat.le_of_ble_eq_true rfl⟩) hA hDm ⟨hm1, hS1⟩ (fun r2 u H2 locs2 hp2 hW hk2 => ?_)
  have ht2 : u.1 0 0 = 1 := hp2
  refine lv_istore (lv' := [(7, .int r2), (6, .int 1), (0, .ref b), (1, .ref (ad 0)), (2, .ref (am 0)), (3, .ref o), (4, .ref od), (5, .int 0)]) hx hb dL_law_643 hl (by decide) rfl (fun ls hl => ?_)
  refine lv_aload_n hx hb dL_law_645 rfl (lv_at hl 4 rfl) ?_
  refine mr_callik (va_runV (As := []) (rest := []) ⟨hx, hb, hml, hown, hts⟩ (c_m_thrown l D I Z J am hmI u.1 u.2 H2.size) (cwV 0 hts gL_law_X3_thrown rfl rfl rfl (by decide +kernel) ⟨Nat.le_of_ble_eq_true rfl, Nat.le_of_ble_eq_true rfl⟩) (mr_preV hKm hW) rfl rfl hl.1 rfl (lv_room (Nat.le_of_ble_eq_true rfl)) dL_law_646 ⟨Nat.le_of_ble_eq_true rfl, Nat.le_of_ble_eq_true rfl⟩) hA hDm hW (fun r3 u3 H3 locs3 hp3 hW3 hk3 => ?_)
  rw [hp3.2, ht2]
  refine lv_iload hx hb dL_law_649 (lv_at hl 1 rfl) ?_
  refine lv_icmp_eq (tgt := 656) hx hb dL_law_651 (by decide) (fun c1 => ?_) (fun c1 => ?_)
  · skip
    refine lv_iload hx hb dL_law_656 (lv_at hl 1 rfl) ?_
    refine lv_if_ne (tgt := 673) hx hb dL_law_658 (by decide) (fun c2 => ?_) (fun c2 => ?_)
    · skip
      refine lv_goto (tgt := 1423) hx hb dL_law_673 (by decide) ?_
      refine W.widen (k := 200) (n := 40000) (Nat.le_of_ble_eq_true rfl) (Nat.le_of_ble_eq_true rfl) ?_
      exact fin ls _ _ (lv_sub hl [2, 7] rfl) hW3.2
    · exact absurd c2 (by decide)
  · exact absurd rfl c1

set_option maxHeartbeats 4000000 in
set_option maxRecDepth 100000 in
theorem law_swap {p : Program} {e : Env} {s : State} {m : MethodId} {below : List Frame} {meth : Method} {c : Code} (l : Launch) (hst : l.stackTraces = false) {b : Nat} {xs : Nat → Int32} (C0 : lw_At p s m meth c b 4 xs) {D : va_G} {I Z F J : ClassId} {ad am sa : Nat → Nat} {o od : Nat} {g : Nat → Int64} {H : Heap} {locs : List Loc} (hK : lK D I Z F J s) (hN : cN s) (hX : xE sa (lS9 s) s s.heap) (hI : cI ad) (hmI : mI am) (hd : lD ad am o s) (h9 : lH D I Z F J ad am o g s H locs) {ls : Array Slot} (hl : lv_has ls 10 [(0, .ref b), (1, .ref (ad 0)), (2, .ref (am 0)), (3, .ref o), (4, .ref od), (5, .int 0)]) (fin : ∀ (ls : Array Slot) (H : Heap) (locs : List Loc), lv_has ls 10 [(0, .ref b), (5, .int 0)] → va_S (lS9 s) s.heap H locs → W p l e room_1 s m #[Value.ref b] below meth c H locs 200 40000 (lw_Z below #[Value.ref b] s) (F0 m 1423 ls [])) : W p l e room_1 s m #[Value.ref b] below meth c H locs 120 30000 (lw_Z below #[Value.ref b] s) (F0 m 676 ls []) := by
  obtain ⟨hx, hb, hr, hml, hown, hts0, hXs, hbl, hlocks, hgv⟩ := C0
  have hts : ∀ w ∈ wsL_law, w.before #[Value.ref b] s = true := fun w h => hts0 w (wsL_law_in w h)
  have hbA : ¬ lS9 s b := Nat.not_le.mpr hbl
  have hKm : va_K D vwCl (mT I Z J) s := hK.sub (tys' := mT I Z J) [0, 1, 3] rfl
  have hKj : va_K D vwCl [(J, .long)] s := hK.sub (tys' := [(J, .long)]) [3] rfl
  have hKc : va_K D vwCl (cT I Z F) s := hK.sub (tys' := cT I Z F) [0, 1, 2] rfl
  have hA : ∀ q : Nat, s.heap.size ≤ q → lS9 s q := fun _ h => h
  have hDm := hd.m hmI
  have hDc := hd.c hI
  have hoH := h9.o
  have hPre := fun (av : List Value) => lU_mk (av := av) hK hN hX hd h9
  obtain ⟨hS, hc, hm, ho⟩ := h9
  refine lv_aload_n hx hb dL_law_676 rfl (lv_at hl 1 rfl) ?_
  refine lv_aload_n hx hb dL_law_677 rfl (lv_at hl 0 rfl) ?_
  refine lv_iload hx hb dL_law_678 (lv_at hl 5 rfl) ?_
  refine lv_iconst (v := 1) hx hb dL_law_680 (by decide) ?_
  refine lv_iadd hx hb dL_law_681 ?_
  rw [show (0 : Int32) + 1 = nI 1 from rfl]
  refine va_sld hx hb hXs hbl hbA hS (vp_in_nI (n := 1) (by decide) (by decide)) dL_law_682 ?_
  refine lv_aload_n hx hb dL_law_683 rfl (lv_at hl 3 rfl) ?_
  refine va_calli (vx_runSW (As := [.ref (ad 0), .int (xs (nI 1).toNatClampNeg), .ref o]) (rest := []) ⟨hx, hb, hml, hown, hts⟩ (c_l_swap l hst D I Z F J ad sa o H.size g hI hd.2.2.1 hoH (xs (nI 1).toNatClampNeg)) (vx_cwSW 3 hts gL_law_L_swap rfl rfl rfl (by decide +kernel) ⟨Nat.le_of_ble_eq_true rfl, Nat.le_of_ble_eq_true rfl⟩) (hPre _) rfl rfl hl.1 rfl (lv_room (Nat.le_of_ble_eq_true rfl)) dL_law_684 ⟨Nat.le_of_ble_eq_true rfl, Nat.le_of_ble_eq_true rfl⟩) hS (fun q _ h => lA_in hd hS.1 q h) (lA_in hd hS.1) (fun r uo t H1 locs1 ht hvm hp hB hz1 hk1 hS1 => ?_)
  have hm1 := lA_m hd hm hk1
  rw [ht] at hB
  rcases Classical.em (inB (xs (nI 1).toNatClampNeg) 7) with hin | hin
  · skip
    obtain ⟨hr0, hu0⟩ := hp.1 hin
    rw [hr0]
    refine lv_istore (lv' := [(6, .int 0), (0, .ref b), (1, .ref (ad 0)), (2, .ref (am 0)), (3, .ref o), (4, .ref od), (5, .int 0)]) hx hb dL_law_687 hl (by decide) rfl (fun ls hl => ?_)
    refine lv_aload_n hx hb dL_law_689 rfl (lv_at hl 3 rfl) ?_
    refine lv_aload_n hx hb dL_law_690 rfl (lv_at hl 1 rfl) ?_
    refine lv_iload hx hb dL_law_691 (lv_at hl 6 rfl) ?_
    refine lv_iconst (v := 1) hx hb dL_law_693 (by decide) ?_
    refine lv_iadd hx hb dL_law_694 ?_
    rw [show (0 : Int32) + 1 = nI 1 from rfl]
    refine va_sld hx hb hXs hbl hbA hS1 (vp_in_nI (n := 1) (by decide) (by decide)) dL_law_695 ?_
    refine mr_callik (va_runV (As := [.int (xs (nI 1).toNatClampNeg)]) (rest := []) ⟨hx, hb, hml, hown, hts⟩ (c_m_swap l D I Z J am hmI M3k L3k H1.size M3_z (xs (nI 1).toNatClampNeg)) (cwV 1 hts gL_law_X3_swap rfl rfl rfl (by decide +kernel) ⟨Nat.le_of_ble_eq_true rfl, Nat.le_of_ble_eq_true rfl⟩) (mr_preV hKm ⟨hm1, hS1⟩) rfl rfl hl.1 rfl (lv_room (Nat.le_of_ble_eq_true rfl)) dL_law_696 ⟨Nat.le_of_ble_eq_true rfl, Nat.le_of_ble_eq_true rfl⟩) hA hDm ⟨hm1, hS1⟩ (fun r2 u H2 locs2 hp2 hW hk2 => ?_)
    have ho2 := mA_o hd hB hk2
    obtain ⟨hr2, ht2⟩ := hp2.1 hin
    rw [hr2]
    refine lv_istore (lv' := [(7, .int 0), (6, .int 0), (0, .ref b), (1, .ref (ad 0)), (2, .ref (am 0)), (3, .ref o), (4, .ref od), (5, .int 0)]) hx hb dL_law_699 hl (by decide) rfl (fun ls hl => ?_)
    refine lv_aload_n hx hb dL_law_701 rfl (lv_at hl 4 rfl) ?_
    refine mr_callik (va_runV (As := []) (rest := []) ⟨hx, hb, hml, hown, hts⟩ (c_m_thrown l D I Z J am hmI u.1 u.2 H2.size) (cwV 0 hts gL_law_X3_thrown rfl rfl rfl (by decide +kernel) ⟨Nat.le_of_ble_eq_true rfl, Nat.le_of_ble_eq_true rfl⟩) (mr_preV hKm hW) rfl rfl hl.1 rfl (lv_room (Nat.le_of_ble_eq_true rfl)) dL_law_702 ⟨Nat.le_of_ble_eq_true rfl, Nat.le_of_ble_eq_true rfl⟩) hA hDm hW (fun r3 u3 H3 locs3 hp3 hW3 hk3 => ?_)
    rw [hp3.2, ht2]
    refine lv_iload hx hb dL_law_705 (lv_at hl 1 rfl) ?_
    refine lv_icmp_eq (tgt := 712) hx hb dL_law_707 (by decide) (fun c1 => ?_) (fun c1 => ?_)
    · skip
      refine lv_iload hx hb dL_law_712 (lv_at hl 1 rfl) ?_
      refine lv_if_ne (tgt := 729) hx hb dL_law_714 (by decide) (fun c2 => ?_) (fun c2 => ?_)
      · exact absurd rfl c2
      · skip
        have ho3 := mA_o hd ho2 hk3
        refine lv_aload_n hx hb dL_law_717 rfl (lv_at hl 5 rfl) ?_
        refine lv_iconst (v := 0) hx hb dL_law_718 (by decide) ?_
        refine va_lald (ws := oW J o uo) hx hb hKj ho3 0 0 rfl rfl (show vp_in 0 1 from vp_in_nI (n := 0) (by decide) (by decide)) dL_law_719 ?_
        rw [show uo (0 : Int32).toNatClampNeg = 0 from hu0]
        refine lv_iload hx hb dL_law_720 (lv_at hl 0 rfl) ?_
        refine lv_i2l hx hb dL_law_722 rfl ?_
        refine W.lcmp hx hb dL_law_723 ?_
        rw [show lg_cmp (0 : Int64) (0 : Int32).toInt64 = 0 from lgc_0.mpr rfl]
        refine lv_if_eq (tgt := 729) hx hb dL_law_724 (by decide) (fun c4 => ?_) (fun c4 => ?_)
        · skip
          refine lv_goto (tgt := 1423) hx hb dL_law_729 (by decide) ?_
          refine W.widen (k := 200) (n := 40000) (Nat.le_of_ble_eq_true rfl) (Nat.le_of_ble_eq_true rfl) ?_
          exact fin ls _ _ (lv_sub hl [2, 7] rfl) hW3.2
        · exact absurd rfl c4
    · exact absurd rfl c1
  · skip
    rw [show r = 1 from hp.2 hin]
    refine lv_istore (lv' := [(6, .int 1), (0, .ref b), (1, .ref (ad 0)), (2, .ref (am 0)), (3, .ref o), (4, .ref od), (5, .int 0)]) hx hb dL_law_687 hl (by decide) rfl (fun ls hl => ?_)
    refine lv_aload_n hx hb dL_law_689 rfl (lv_at hl 3 rfl) ?_
    refine lv_aload_n hx hb dL_law_690 rfl (lv_at hl 1 rfl) ?_
    refine lv_iload hx hb dL_law_691 (lv_at hl 6 rfl) ?_
    refine lv_iconst (v := 1) hx hb dL_law_693 (by decide) ?_
    refine lv_iadd hx hb dL_law_694 ?_
    rw [show (0 : Int32) + 1 = nI 1 from rfl]
    refine va_sld hx hb hXs hbl hbA hS1 (vp_in_nI (n := 1) (by decide) (by decide)) dL_law_695 ?_
    refine mr_callik (va_runV (As := [.int (xs (nI 1).toNatClampNeg)]) (rest := []) ⟨hx, hb, hml, hown, hts⟩ (c_m_swap l D I Z J am hmI M3k L3k H1.size M3_z (xs (nI 1).toNatClampNeg)) (cwV 1 hts gL_law_X3_swap rfl rfl rfl (by decide +kernel) ⟨Nat.le_of_ble_eq_true rfl, Nat.le_of_ble_eq_true rfl⟩) (mr_preV hKm ⟨hm1, hS1⟩) rfl rfl hl.1 rfl (lv_room (Nat.le_of_ble_eq_true rfl)) dL_law_696 ⟨Nat.le_of_ble_eq_true rfl, Nat.le_of_ble_eq_true rfl⟩) hA hDm ⟨hm1, hS1⟩ (fun r2 u H2 locs2 hp2 hW hk2 => ?_)
    have ht2 : u.1 0 0 = 1 := hp2.2 hin
    refine lv_istore (lv' := [(7, .int r2), (6, .int 1), (0, .ref b), (1, .ref (ad 0)), (2, .ref (am 0)), (3, .ref o), (4, .ref od), (5, .int 0)]) hx hb dL_law_699 hl (by decide) rfl (fun ls hl => ?_)
    refine lv_aload_n hx hb dL_law_701 rfl (lv_at hl 4 rfl) ?_
    refine mr_callik (va_runV (As := []) (rest := []) ⟨hx, hb, hml, hown, hts⟩ (c_m_thrown l D I Z J am hmI u.1 u.2 H2.size) (cwV 0 hts gL_law_X3_thrown rfl rfl rfl (by decide +kernel) ⟨Nat.le_of_ble_eq_true rfl, Nat.le_of_ble_eq_true rfl⟩) (mr_preV hKm hW) rfl rfl hl.1 rfl (lv_room (Nat.le_of_ble_eq_true rfl)) dL_law_702 ⟨Nat.le_of_ble_eq_true rfl, Nat.le_of_ble_eq_true rfl⟩) hA hDm hW (fun r3 u3 H3 locs3 hp3 hW3 hk3 => ?_)
    rw [hp3.2, ht2]
    refine lv_iload hx hb dL_law_705 (lv_at hl 1 rfl) ?_
    refine lv_icmp_eq (tgt := 712) hx hb dL_law_707 (by decide) (fun c1 => ?_) (fun c1 => ?_)
    · skip
      refine lv_iload hx hb dL_law_712 (lv_at hl 1 rfl) ?_
      refine lv_if_ne (tgt := 729) hx hb dL_law_714 (by decide) (fun c2 => ?_) (fun c2 => ?_)
      · skip
        refine lv_goto (tgt := 1423) hx hb dL_law_729 (by decide) ?_
        refine W.widen (k := 200) (n := 40000) (Nat.le_of_ble_eq_true rfl) (Nat.le_of_ble_eq_true rfl) ?_
        exact fin ls _ _ (lv_sub hl [2, 7] rfl) hW3.2
      · exact absurd c2 (by decide)
    · exact absurd rfl c1
