set_option maxHeartbeats 4000000 in
set_option maxRecDepth 100000 in
theorem law_order {p : Program} {e : Env} {s : State} {m : MethodId} {below : List Frame} {meth : Method} {c : Code} (l : Launch) (hst : l.stackTraces = false) {b : Nat} {xs : Nat → Int32} (C0 : lw_At p s m meth c b 4 xs) {D : va_G} {I Z F J : ClassId} {ad am sa : Nat → Nat} {o od : Nat} {g : Nat → Int64} {H : Heap} {locs : List Loc} (hK : lK D I Z F J s) (hN : cN s) (hX : xE sa (lS9 s) s s.heap) (hI : cI ad) (hmI : mI am) (hd : lD ad am o s) (h9 : lH D I Z F J ad am o g s H locs) {ls : Array Slot} (hl : lv_has ls 10 [(0, .ref b), (1, .ref (ad 0)), (2, .ref (am 0)), (3, .ref o), (4, .ref od), (5, .int 0)]) (fin : ∀ (ls : Array Slot) (H : Heap) (locs : List Loc), lv_has ls 10 [(0, .ref b), (5, .int 0)] → va_S (lS9 s) s.heap H locs → W p l e room_1 s m #[Value.ref b] below meth c H locs 200 40000 (lw_Z below #[Value.ref b] s) (F0 m 1423 ls [])) : W p l e room_1 s m #[Value.ref b] below meth c H locs 120 30000 (lw_Z below #[Value.ref b] s) (F0 m 732 ls []) := by
  obtain ⟨hx, hb, hr, hml, hown, hts0, hXs, hbl, hlocks, hgv⟩ := C0
  have hts : ∀ w ∈ wsL_law, w.before #[Value.ref b] s = true := fun w h => hts0 w (wsL_law_in w h)
  have hbA : ¬ lS9 s b := Nat.not_le.mpr hbl
  have hKm : va_K D vwCl (mT I Z J) s := hK.sub (tys' := mT I Z J) [0, 1, 3] rfl
  have hKj : va_K D vwCl [(J, .long)] s := hK.sub (tys' := [(J, .long)]) [3] rfl
  have hKc : va_K D vwCl (cT I Z F) s := hK.sub (tys' := cT I Z F) [0, 1, 2] rfl
  have hA : ∀ q : Nat, s.heap.size ≤ q → lS9 s q := fun _ h => h
  have hDm := hd.m hmI
  have hDc := hd.c hI
  have hoH := h9.o
  have hPre := fun (av : List Value) => lU_mk (av := av) hK hN hX hd h9
  obtain ⟨hS, hc, hm, ho⟩ := h9
  refine lv_aload_n hx hb dL_law_732 rfl (lv_at hl 1 rfl) ?_
  refine lv_aload_n hx hb dL_law_733 rfl (lv_at hl 0 rfl) ?_
  refine lv_iload hx hb dL_law_734 (lv_at hl 5 rfl) ?_
  refine lv_iconst (v := 1) hx hb dL_law_736 (by decide) ?_
  refine lv_iadd hx hb dL_law_737 ?_
  rw [show (0 : Int32) + 1 = nI 1 from rfl]
  refine va_sld hx hb hXs hbl hbA hS (vp_in_nI (n := 1) (by decide) (by decide)) dL_law_738 ?_
  refine lv_aload_n hx hb dL_law_739 rfl (lv_at hl 3 rfl) ?_
  refine va_calli (vx_runSW (As := [.ref (ad 0), .int (xs (nI 1).toNatClampNeg), .ref o]) (rest := []) ⟨hx, hb, hml, hown, hts⟩ (c_l_order l hst D I Z F J ad sa o H.size g hI hd.2.2.1 hoH (xs (nI 1).toNatClampNeg)) (vx_cwSW 3 hts gL_law_L_order rfl rfl rfl (by decide +kernel) ⟨Nat.le_of_ble_eq_true rfl, Nat.le_of_ble_eq_true rfl⟩) (hPre _) rfl rfl hl.1 rfl (lv_room (Nat.le_of_ble_eq_true rfl)) dL_law_740 ⟨Nat.le_of_ble_eq_true rfl, Nat.le_of_ble_eq_true rfl⟩) hS (fun q _ h => lA_in hd hS.1 q h) (lA_in hd hS.1) (fun r uo t H1 locs1 ht hvm hp hB hz1 hk1 hS1 => ?_)
  have hm1 := lA_m hd hm hk1
  rw [ht] at hB
  rcases Classical.em (inB (xs (nI 1).toNatClampNeg) 8) with hin | hin
  · skip
    obtain ⟨p0, hp0, hpx⟩ := hin
    obtain ⟨hr0, hu0⟩ := hp.1 p0 hp0 hpx
    rw [hr0]
    refine lv_istore (lv' := [(6, .int 0), (0, .ref b), (1, .ref (ad 0)), (2, .ref (am 0)), (3, .ref o), (4, .ref od), (5, .int 0)]) hx hb dL_law_743 hl (by decide) rfl (fun ls hl => ?_)
    refine lv_aload_n hx hb dL_law_745 rfl (lv_at hl 3 rfl) ?_
    refine lv_aload_n hx hb dL_law_746 rfl (lv_at hl 1 rfl) ?_
    refine lv_iload hx hb dL_law_747 (lv_at hl 6 rfl) ?_
    refine lv_iconst (v := 1) hx hb dL_law_749 (by decide) ?_
    refine lv_iadd hx hb dL_law_750 ?_
    rw [show (0 : Int32) + 1 = nI 1 from rfl]
    refine va_sld hx hb hXs hbl hbA hS1 (vp_in_nI (n := 1) (by decide) (by decide)) dL_law_751 ?_
    refine mr_callik (va_runV (As := [.int (xs (nI 1).toNatClampNeg)]) (rest := []) ⟨hx, hb, hml, hown, hts⟩ (c_m_order l D I Z J am hmI M3k L3k H1.size  (xs (nI 1).toNatClampNeg)) (cwV 1 hts gL_law_X3_order rfl rfl rfl (by decide +kernel) ⟨Nat.le_of_ble_eq_true rfl, Nat.le_of_ble_eq_true rfl⟩) (mr_preV hKm ⟨hm1, hS1⟩) rfl rfl hl.1 rfl (lv_room (Nat.le_of_ble_eq_true rfl)) dL_law_752 ⟨Nat.le_of_ble_eq_true rfl, Nat.le_of_ble_eq_true rfl⟩) hA hDm ⟨hm1, hS1⟩ (fun r2 u H2 locs2 hp2 hW hk2 => ?_)
    have ho2 := mA_o hd hB hk2
    obtain ⟨hr2, ht2⟩ := hp2.1 p0 hp0 hpx
    rw [hr2]
    refine lv_istore (lv' := [(7, .int (M3k 3 p0)), (6, .int 0), (0, .ref b), (1, .ref (ad 0)), (2, .ref (am 0)), (3, .ref o), (4, .ref od), (5, .int 0)]) hx hb dL_law_755 hl (by decide) rfl (fun ls hl => ?_)
    refine lv_aload_n hx hb dL_law_757 rfl (lv_at hl 4 rfl) ?_
    refine mr_callik (va_runV (As := []) (rest := []) ⟨hx, hb, hml, hown, hts⟩ (c_m_thrown l D I Z J am hmI u.1 u.2 H2.size) (cwV 0 hts gL_law_X3_thrown rfl rfl rfl (by decide +kernel) ⟨Nat.le_of_ble_eq_true rfl, Nat.le_of_ble_eq_true rfl⟩) (mr_preV hKm hW) rfl rfl hl.1 rfl (lv_room (Nat.le_of_ble_eq_true rfl)) dL_law_758 ⟨Nat.le_of_ble_eq_true rfl, Nat.le_of_ble_eq_true rfl⟩) hA hDm hW (fun r3 u3 H3 locs3 hp3 hW3 hk3 => ?_)
    rw [hp3.2, ht2]
    refine lv_iload hx hb dL_law_761 (lv_at hl 1 rfl) ?_
    refine lv_icmp_eq (tgt := 768) hx hb dL_law_763 (by decide) (fun c1 => ?_) (fun c1 => ?_)
    · skip
      refine lv_iload hx hb dL_law_768 (lv_at hl 1 rfl) ?_
      refine lv_if_ne (tgt := 785) hx hb dL_law_770 (by decide) (fun c2 => ?_) (fun c2 => ?_)
      · exact absurd rfl c2
      · skip
        have ho3 := mA_o hd ho2 hk3
        refine lv_aload_n hx hb dL_law_773 rfl (lv_at hl 5 rfl) ?_
        refine lv_iconst (v := 0) hx hb dL_law_774 (by decide) ?_
        refine va_lald (ws := oW J o uo) hx hb hKj ho3 0 0 rfl rfl (show vp_in 0 1 from vp_in_nI (n := 0) (by decide) (by decide)) dL_law_775 ?_
        rw [show uo (0 : Int32).toNatClampNeg = (M3k 3 p0).toInt64 from hu0]
        refine lv_iload hx hb dL_law_776 (lv_at hl 0 rfl) ?_
        refine lv_i2l hx hb dL_law_778 rfl ?_
        refine W.lcmp hx hb dL_law_779 ?_
        rw [show lg_cmp (M3k 3 p0).toInt64 (M3k 3 p0).toInt64 = 0 from lgc_0.mpr rfl]
        refine lv_if_eq (tgt := 785) hx hb dL_law_780 (by decide) (fun c4 => ?_) (fun c4 => ?_)
        · skip
          refine lv_goto (tgt := 1423) hx hb dL_law_785 (by decide) ?_
          refine W.widen (k := 200) (n := 40000) (Nat.le_of_ble_eq_true rfl) (Nat.le_of_ble_eq_true rfl) ?_
          exact fin ls _ _ (lv_sub hl [2, 7] rfl) hW3.2
        · exact absurd rfl c4
    · exact absurd rfl c1
  · skip
    rw [show r = 1 from hp.2 hin]
    refine lv_istore (lv' := [(6, .int 1), (0, .ref b), (1, .ref (ad 0)), (2, .ref (am 0)), (3, .ref o), (4, .ref od), (5, .int 0)]) hx hb dL_law_743 hl (by decide) rfl (fun ls hl => ?_)
    refine lv_aload_n hx hb dL_law_745 rfl (lv_at hl 3 rfl) ?_
    refine lv_aload_n hx hb dL_law_746 rfl (lv_at hl 1 rfl) ?_
    refine lv_iload hx hb dL_law_747 (lv_at hl 6 rfl) ?_
    refine lv_iconst (v := 1) hx hb dL_law_749 (by decide) ?_
    refine lv_iadd hx hb dL_law_750 ?_
    rw [show (0 : Int32) + 1 = nI 1 from rfl]
    refine va_sld hx hb hXs hbl hbA hS1 (vp_in_nI (n := 1) (by decide) (by decide)) dL_law_751 ?_
    refine mr_callik (va_runV (As := [.int (xs (nI 1).toNatClampNeg)]) (rest := []) ⟨hx, hb, hml, hown, hts⟩ (c_m_order l D I Z J am hmI M3k L3k H1.size  (xs (nI 1).toNatClampNeg)) (cwV 1 hts gL_law_X3_order rfl rfl rfl (by decide +kernel) ⟨Nat.le_of_ble_eq_true rfl, Nat.le_of_ble_eq_true rfl⟩) (mr_preV hKm ⟨hm1, hS1⟩) rfl rfl hl.1 rfl (lv_room (Nat.le_of_ble_eq_true rfl)) dL_law_752 ⟨Nat.le_of_ble_eq_true rfl, Nat.le_of_ble_eq_true rfl⟩) hA hDm ⟨hm1, hS1⟩ (fun r2 u H2 locs2 hp2 hW hk2 => ?_)
    have ht2 : u.1 0 0 = 1 := hp2.2 hin
    refine lv_istore (lv' := [(7, .int r2), (6, .int 1), (0, .ref b), (1, .ref (ad 0)), (2, .ref (am 0)), (3, .ref o), (4, .ref od), (5, .int 0)]) hx hb dL_law_755 hl (by decide) rfl (fun ls hl => ?_)
    refine lv_aload_n hx hb dL_law_757 rfl (lv_at hl 4 rfl) ?_
    refine mr_callik (va_runV (As := []) (rest := []) ⟨hx, hb, hml, hown, hts⟩ (c_m_thrown l D I Z J am hmI u.1 u.2 H2.size) (cwV 0 hts gL_law_X3_thrown rfl rfl rfl (by decide +kernel) ⟨Nat.le_of_ble_eq_true rfl, Nat.le_of_ble_eq_true rfl⟩) (mr_preV hKm hW) rfl rfl hl.1 rfl (lv_room (Nat.le_of_ble_eq_true rfl)) dL_law_758 ⟨Nat.le_of_ble_eq_true rfl, Nat.le_of_ble_eq_true rfl⟩) hA hDm hW (fun r3 u3 H3 locs3 hp3 hW3 hk3 => ?_)
    rw [hp3.2, ht2]
    refine lv_iload hx hb dL_law_761 (lv_at hl 1 rfl) ?_
    refine lv_icmp_eq (tgt := 768) hx hb dL_law_763 (by decide) (fun c1 => ?_) (fun c1 => ?_)
    · skip
      refine lv_iload hx hb dL_law_768 (lv_at hl 1 rfl) ?_
      refine lv_if_ne (tgt := 785) hx hb dL_law_770 (by decide) (fun c2 => ?_) (fun c2 => ?_)
      · skip
        refine lv_goto (tgt := 1423) hx hb dL_law_785 (by decide) ?_
        refine W.widen (k := 200) (n := 40000) (Nat.le_of_ble_eq_true rfl) (Nat.le_of_ble_eq_true rfl) ?_
        exact fin ls _ _ (lv_sub hl [2, 7] rfl) hW3.2
      · exact absurd c2 (by decide)
    · exact absurd rfl c1

set_option maxHeartbeats 4000000 in
set_option maxRecDepth 100000 in
theorem law_says {p : Program} {e : Env} {s : State} {m : MethodId} {below : List Frame} {meth : Method} {c : Code} (l : Launch) (hst : l.stackTraces = false) {b : Nat} {xs : Nat → Int32} (C0 : lw_At p s m meth c b 4 xs) {D : va_G} {I Z F J : ClassId} {ad am sa : Nat → Nat} {o od : Nat} {g : Nat → Int64} {H : Heap} {locs : List Loc} (hK : lK D I Z F J s) (hN : cN s) (hX : xE sa (lS9 s) s s.heap) (hI : cI ad) (hmI : mI am) (hd : lD ad am o s) (h9 : lH D I Z F J ad am o g s H locs) {ls : Array Slot} (hl : lv_has ls 10 [(0, .ref b), (1, .ref (ad 0)), (2, .ref (am 0)), (3, .ref o), (4, .ref od), (5, .int 0)]) (fin : ∀ (ls : Array Slot) (H : Heap) (locs : List Loc), lv_has ls 10 [(0, .ref b), (5, .int 0)] → va_S (lS9 s) s.heap H locs → W p l e room_1 s m #[Value.ref b] below meth c H locs 200 40000 (lw_Z below #[Value.ref b] s) (F0 m 1423 ls [])) : W p l e room_1 s m #[Value.ref b] below meth c H locs 120 30000 (lw_Z below #[Value.ref b] s) (F0 m 788 ls []) := by
  obtain ⟨hx, hb, hr, hml, hown, hts0, hXs, hbl, hlocks, hgv⟩ := C0
  have hts : ∀ w ∈ wsL_law, w.before #[Value.ref b] s = true := fun w h => hts0 w (wsL_law_in w h)
  have hbA : ¬ lS9 s b := Nat.not_le.mpr hbl
  have hKm : va_K D vwCl (mT I Z J) s := hK.sub (tys' := mT I Z J) [0, 1, 3] rfl
  have hKj : va_K D vwCl [(J, .long)] s := hK.sub (tys' := [(J, .long)]) [3] rfl
  have hKc : va_K D vwCl (cT I Z F) s := hK.sub (tys' := cT I Z F) [0, 1, 2] rfl
  have hA : ∀ q : Nat, s.heap.size ≤ q → lS9 s q := fun _ h => h
  have hDm := hd.m hmI
  have hDc := hd.c hI
  have hoH := h9.o
  have hPre := fun (av : List Value) => lU_mk (av := av) hK hN hX hd h9
  obtain ⟨hS, hc, hm, ho⟩ := h9
  refine lv_aload_n hx hb dL_law_788 rfl (lv_at hl 1 rfl) ?_
  refine lv_aload_n hx hb dL_law_789 rfl (lv_at hl 0 rfl) ?_
  refine lv_iload hx hb dL_law_790 (lv_at hl 5 rfl) ?_
  refine lv_iconst (v := 1) hx hb dL_law_792 (by decide) ?_
  refine lv_iadd hx hb dL_law_793 ?_
  rw [show (0 : Int32) + 1 = nI 1 from rfl]
  refine va_sld hx hb hXs hbl hbA hS (vp_in_nI (n := 1) (by decide) (by decide)) dL_law_794 ?_
  refine lv_aload_n hx hb dL_law_795 rfl (lv_at hl 0 rfl) ?_
  refine lv_iload hx hb dL_law_796 (lv_at hl 5 rfl) ?_
  refine lv_iconst (v := 2) hx hb dL_law_798 (by decide) ?_
  refine lv_iadd hx hb dL_law_799 ?_
  rw [show (0 : Int32) + 2 = nI 2 from rfl]
  refine va_sld hx hb hXs hbl hbA hS (vp_in_nI (n := 2) (by decide) (by decide)) dL_law_800 ?_
  refine lv_aload_n hx hb dL_law_801 rfl (lv_at hl 3 rfl) ?_
  refine va_calli (vx_runSW (As := [.ref (ad 0), .int (xs (nI 1).toNatClampNeg), .int (xs (nI 2).toNatClampNeg), .ref o]) (rest := []) ⟨hx, hb, hml, hown, hts⟩ (c_l_says l hst D I Z F J ad sa o H.size g hI hd.2.2.1 hoH (xs (nI 1).toNatClampNeg) (xs (nI 2).toNatClampNeg)) (vx_cwSW 4 hts gL_law_L_says rfl rfl rfl (by decide +kernel) ⟨Nat.le_of_ble_eq_true rfl, Nat.le_of_ble_eq_true rfl⟩) (hPre _) rfl rfl hl.1 rfl (lv_room (Nat.le_of_ble_eq_true rfl)) dL_law_802 ⟨Nat.le_of_ble_eq_true rfl, Nat.le_of_ble_eq_true rfl⟩) hS (fun q _ h => lA_in hd hS.1 q h) (lA_in hd hS.1) (fun r uo t H1 locs1 ht hvm hp hB hz1 hk1 hS1 => ?_)
  have hm1 := lA_m hd hm hk1
  rw [ht] at hB
  rw [show r = 1 from hp]
  refine lv_istore (lv' := [(6, .int 1), (0, .ref b), (1, .ref (ad 0)), (2, .ref (am 0)), (3, .ref o), (4, .ref od), (5, .int 0)]) hx hb dL_law_805 hl (by decide) rfl (fun ls hl => ?_)
  refine lv_aload_n hx hb dL_law_807 rfl (lv_at hl 3 rfl) ?_
  refine lv_aload_n hx hb dL_law_808 rfl (lv_at hl 1 rfl) ?_
  refine lv_iload hx hb dL_law_809 (lv_at hl 6 rfl) ?_
  refine lv_iconst (v := 1) hx hb dL_law_811 (by decide) ?_
  refine lv_iadd hx hb dL_law_812 ?_
  rw [show (0 : Int32) + 1 = nI 1 from rfl]
  refine va_sld hx hb hXs hbl hbA hS1 (vp_in_nI (n := 1) (by decide) (by decide)) dL_law_813 ?_
  refine lv_aload_n hx hb dL_law_814 rfl (lv_at hl 1 rfl) ?_
  refine lv_iload hx hb dL_law_815 (lv_at hl 6 rfl) ?_
  refine lv_iconst (v := 2) hx hb dL_law_817 (by decide) ?_
  refine lv_iadd hx hb dL_law_818 ?_
  rw [show (0 : Int32) + 2 = nI 2 from rfl]
  refine va_sld hx hb hXs hbl hbA hS1 (vp_in_nI (n := 2) (by decide) (by decide)) dL_law_819 ?_
  refine mr_callik (va_runV (As := [.int (xs (nI 1).toNatClampNeg), .int (xs (nI 2).toNatClampNeg)]) (rest := []) ⟨hx, hb, hml, hown, hts⟩ (c_m_says l D I Z J am hmI M3k L3k H1.size M3_z (xs (nI 1).toNatClampNeg) (xs (nI 2).toNatClampNeg)) (cwV 2 hts gL_law_X3_says rfl rfl rfl (by decide +kernel) ⟨Nat.le_of_ble_eq_true rfl, Nat.le_of_ble_eq_true rfl⟩) (mr_preV hKm ⟨hm1, hS1⟩) rfl rfl hl.1 rfl (lv_room (Nat.le_of_ble_eq_true rfl)) dL_law_820 ⟨Nat.le_of_ble_eq_true rfl, Nat.le_of_ble_eq_true rfl⟩) hA hDm ⟨hm1, hS1⟩ (fun r2 u H2 locs2 hp2 hW hk2 => ?_)
  have ht2 : u.1 0 0 = 1 := hp2
  refine lv_istore (lv' := [(7, .int r2), (6, .int 1), (0, .ref b), (1, .ref (ad 0)), (2, .ref (am 0)), (3, .ref o), (4, .ref od), (5, .int 0)]) hx hb dL_law_823 hl (by decide) rfl (fun ls hl => ?_)
  refine lv_aload_n hx hb dL_law_825 rfl (lv_at hl 4 rfl) ?_
  refine mr_callik (va_runV (As := []) (rest := []) ⟨hx, hb, hml, hown, hts⟩ (c_m_thrown l D I Z J am hmI u.1 u.2 H2.size) (cwV 0 hts gL_law_X3_thrown rfl rfl rfl (by decide +kernel) ⟨Nat.le_of_ble_eq_true rfl, Nat.le_of_ble_eq_true rfl⟩) (mr_preV hKm hW) rfl rfl hl.1 rfl (lv_room (Nat.le_of_ble_eq_true rfl)) dL_law_826 ⟨Nat.le_of_ble_eq_true rfl, Nat.le_of_ble_eq_true rfl⟩) hA hDm hW (fun r3 u3 H3 locs3 hp3 hW3 hk3 => ?_)
  rw [hp3.2, ht2]
  refine lv_iload hx hb dL_law_829 (lv_at hl 1 rfl) ?_
  refine lv_icmp_eq (tgt := 836) hx hb dL_law_831 (by decide) (fun c1 => ?_) (fun c1 => ?_)
  · skip
    refine lv_iload hx hb dL_law_836 (lv_at hl 1 rfl) ?_
    refine lv_if_ne (tgt := 860) hx hb dL_law_838 (by decide) (fun c2 => ?_) (fun c2 => ?_)
    · skip
      refine lv_goto (tgt := 1423) hx hb dL_law_860 (by decide) ?_
      refine W.widen (k := 200) (n := 40000) (Nat.le_of_ble_eq_true rfl) (Nat.le_of_ble_eq_true rfl) ?_
      exact fin ls _ _ (lv_sub hl [2, 7] rfl) hW3.2
    · exact absurd c2 (by decide)
  · exact absurd rfl c1

set_option maxHeartbeats 4000000 in
set_option maxRecDepth 100000 in
theorem law_fork {p : Program} {e : Env} {s : State} {m : MethodId} {below : List Frame} {meth : Method} {c : Code} (l : Launch) (hst : l.stackTraces = false) {b : Nat} {xs : Nat → Int32} (C0 : lw_At p s m meth c b 4 xs) {D : va_G} {I Z F J : ClassId} {ad am sa : Nat → Nat} {o od : Nat} {g : Nat → Int64} {H : Heap} {locs : List Loc} (hK : lK D I Z F J s) (hN : cN s) (hX : xE sa (lS9 s) s s.heap) (hI : cI ad) (hmI : mI am) (hd : lD ad am o s) (h9 : lH D I Z F J ad am o g s H locs) {ls : Array Slot} (hl : lv_has ls 10 [(0, .ref b), (1, .ref (ad 0)), (2, .ref (am 0)), (3, .ref o), (4, .ref od), (5, .int 0)]) (fin : ∀ (ls : Array Slot) (H : Heap) (locs : List Loc), lv_has ls 10 [(0, .ref b), (5, .int 0)] → va_S (lS9 s) s.heap H locs → W p l e room_1 s m #[Value.ref b] below meth c H locs 200 40000 (lw_Z below #[Value.ref b] s) (F0 m 1423 ls [])) : W p l e room_1 s m #[Value.ref b] below meth c H locs 120 30000 (lw_Z below #[Value.ref b] s) (F0 m 863 ls []) := by
  obtain ⟨hx, hb, hr, hml, hown, hts0, hXs, hbl, hlocks, hgv⟩ := C0
  have hts : ∀ w ∈ wsL_law, w.before #[Value.ref b] s = true := fun w h => hts0 w (wsL_law_in w h)
  have hbA : ¬ lS9 s b := Nat.not_le.mpr hbl
  have hKm : va_K D vwCl (mT I Z J) s := hK.sub (tys' := mT I Z J) [0, 1, 3] rfl
  have hKj : va_K D vwCl [(J, .long)] s := hK.sub (tys' := [(J, .long)]) [3] rfl
  have hKc : va_K D vwCl (cT I Z F) s := hK.sub (tys' := cT I Z F) [0, 1, 2] rfl
  have hA : ∀ q : Nat, s.heap.size ≤ q → lS9 s q := fun _ h => h
  have hDm := hd.m hmI
  have hDc := hd.c hI
  have hoH := h9.o
  have hPre := fun (av : List Value) => lU_mk (av := av) hK hN hX hd h9
  obtain ⟨hS, hc, hm, ho⟩ := h9
  refine lv_aload_n hx hb dL_law_863 rfl (lv_at hl 1 rfl) ?_
  refine lv_aload_n hx hb dL_law_864 rfl (lv_at hl 0 rfl) ?_
  refine lv_iload hx hb dL_law_865 (lv_at hl 5 rfl) ?_
  refine lv_iconst (v := 1) hx hb dL_law_867 (by decide) ?_
  refine lv_iadd hx hb dL_law_868 ?_
  rw [show (0 : Int32) + 1 = nI 1 from rfl]
  refine va_sld hx hb hXs hbl hbA hS (vp_in_nI (n := 1) (by decide) (by decide)) dL_law_869 ?_
  refine lv_aload_n hx hb dL_law_870 rfl (lv_at hl 0 rfl) ?_
  refine lv_iload hx hb dL_law_871 (lv_at hl 5 rfl) ?_
  refine lv_iconst (v := 2) hx hb dL_law_873 (by decide) ?_
  refine lv_iadd hx hb dL_law_874 ?_
  rw [show (0 : Int32) + 2 = nI 2 from rfl]
  refine va_sld hx hb hXs hbl hbA hS (vp_in_nI (n := 2) (by decide) (by decide)) dL_law_875 ?_
  refine lv_aload_n hx hb dL_law_876 rfl (lv_at hl 0 rfl) ?_
  refine lv_iload hx hb dL_law_877 (lv_at hl 5 rfl) ?_
  refine lv_iconst (v := 3) hx hb dL_law_879 (by decide) ?_
  refine lv_iadd hx hb dL_law_880 ?_
  rw [show (0 : Int32) + 3 = nI 3 from rfl]
  refine va_sld hx hb hXs hbl hbA hS (vp_in_nI (n := 3) (by decide) (by decide)) dL_law_881 ?_
  refine lv_aload_n hx hb dL_law_882 rfl (lv_at hl 3 rfl) ?_
  refine va_calli (vx_runSW (As := [.ref (ad 0), .int (xs (nI 1).toNatClampNeg), .int (xs (nI 2).toNatClampNeg), .int (xs (nI 3).toNatClampNeg), .ref o]) (rest := []) ⟨hx, hb, hml, hown, hts⟩ (c_l_fork l hst D I Z F J ad sa o H.size g hI hd.2.2.1 hoH (xs (nI 1).toNatClampNeg) (xs (nI 2).toNatClampNeg) (xs (nI 3).toNatClampNeg)) (vx_cwSW 5 hts gL_law_L_fork rfl rfl rfl (by decide +kernel) ⟨Nat.le_of_ble_eq_true rfl, Nat.le_of_ble_eq_true rfl⟩) (hPre _) rfl rfl hl.1 rfl (lv_room (Nat.le_of_ble_eq_true rfl)) dL_law_883 ⟨Nat.le_of_ble_eq_true rfl, Nat.le_of_ble_eq_true rfl⟩) hS (fun q _ h => lA_in hd hS.1 q h) (lA_in hd hS.1) (fun r uo t H1 locs1 ht hvm hp hB hz1 hk1 hS1 => ?_)
  have hm1 := lA_m hd hm hk1
  rw [ht] at hB
  rw [show r = 1 from hp]
  refine lv_istore (lv' := [(6, .int 1), (0, .ref b), (1, .ref (ad 0)), (2, .ref (am 0)), (3, .ref o), (4, .ref od), (5, .int 0)]) hx hb dL_law_886 hl (by decide) rfl (fun ls hl => ?_)
  refine lv_aload_n hx hb dL_law_888 rfl (lv_at hl 3 rfl) ?_
  refine lv_aload_n hx hb dL_law_889 rfl (lv_at hl 1 rfl) ?_
  refine lv_iload hx hb dL_law_890 (lv_at hl 6 rfl) ?_
  refine lv_iconst (v := 1) hx hb dL_law_892 (by decide) ?_
  refine lv_iadd hx hb dL_law_893 ?_
  rw [show (0 : Int32) + 1 = nI 1 from rfl]
  refine va_sld hx hb hXs hbl hbA hS1 (vp_in_nI (n := 1) (by decide) (by decide)) dL_law_894 ?_
  refine lv_aload_n hx hb dL_law_895 rfl (lv_at hl 1 rfl) ?_
  refine lv_iload hx hb dL_law_896 (lv_at hl 6 rfl) ?_
  refine lv_iconst (v := 2) hx hb dL_law_898 (by decide) ?_
  refine lv_iadd hx hb dL_law_899 ?_
  rw [show (0 : Int32) + 2 = nI 2 from rfl]
  refine va_sld hx hb hXs hbl hbA hS1 (vp_in_nI (n := 2) (by decide) (by decide)) dL_law_900 ?_
  refine lv_aload_n hx hb dL_law_901 rfl (lv_at hl 1 rfl) ?_
  refine lv_iload hx hb dL_law_902 (lv_at hl 6 rfl) ?_
  refine lv_iconst (v := 3) hx hb dL_law_904 (by decide) ?_
  refine lv_iadd hx hb dL_law_905 ?_
  rw [show (0 : Int32) + 3 = nI 3 from rfl]
  refine va_sld hx hb hXs hbl hbA hS1 (vp_in_nI (n := 3) (by decide) (by decide)) dL_law_906 ?_
  refine mr_callik (va_runV (As := [.int (xs (nI 1).toNatClampNeg), .int (xs (nI 2).toNatClampNeg), .int (xs (nI 3).toNatClampNeg)]) (rest := []) ⟨hx, hb, hml, hown, hts⟩ (c_m_fork3 l D I Z J am hmI M3k L3k H1.size M3_z (xs (nI 1).toNatClampNeg) (xs (nI 2).toNatClampNeg) (xs (nI 3).toNatClampNeg)) (cwV 3 hts gL_law_X3_fork_ rfl rfl rfl (by decide +kernel) ⟨Nat.le_of_ble_eq_true rfl, Nat.le_of_ble_eq_true rfl⟩) (mr_preV hKm ⟨hm1, hS1⟩) rfl rfl hl.1 rfl (lv_room (Nat.le_of_ble_eq_true rfl)) dL_law_907 ⟨Nat.le_of_ble_eq_true rfl, Nat.le_of_ble_eq_true rfl⟩) hA hDm ⟨hm1, hS1⟩ (fun r2 u H2 locs2 hp2 hW hk2 => ?_)
  have ht2 : u.1 0 0 = 1 := hp2
  refine lv_istore (lv' := [(7, .int r2), (6, .int 1), (0, .ref b), (1, .ref (ad 0)), (2, .ref (am 0)), (3, .ref o), (4, .ref od), (5, .int 0)]) hx hb dL_law_910 hl (by decide) rfl (fun ls hl => ?_)
  refine lv_aload_n hx hb dL_law_912 rfl (lv_at hl 4 rfl) ?_
  refine mr_callik (va_runV (As := []) (rest := []) ⟨hx, hb, hml, hown, hts⟩ (c_m_thrown l D I Z J am hmI u.1 u.2 H2.size) (cwV 0 hts gL_law_X3_thrown rfl rfl rfl (by decide +kernel) ⟨Nat.le_of_ble_eq_true rfl, Nat.le_of_ble_eq_true rfl⟩) (mr_preV hKm hW) rfl rfl hl.1 rfl (lv_room (Nat.le_of_ble_eq_true rfl)) dL_law_913 ⟨Nat.le_of_ble_eq_true rfl, Nat.le_of_ble_eq_true rfl⟩) hA hDm hW (fun r3 u3 H3 locs3 hp3 hW3 hk3 => ?_)
  rw [hp3.2, ht2]
  refine lv_iload hx hb dL_law_916 (lv_at hl 1 rfl) ?_
  refine lv_icmp_eq (tgt := 923) hx hb dL_law_918 (by decide) (fun c1 => ?_) (fun c1 => ?_)
  · skip
    refine lv_iload hx hb dL_law_923 (lv_at hl 1 rfl) ?_
    refine lv_if_ne (tgt := 940) hx hb dL_law_925 (by decide) (fun c2 => ?_) (fun c2 => ?_)
    · skip
      refine lv_goto (tgt := 1423) hx hb dL_law_940 (by decide) ?_
      refine W.widen (k := 200) (n := 40000) (Nat.le_of_ble_eq_true rfl) (Nat.le_of_ble_eq_true rfl) ?_
      exact fin ls _ _ (lv_sub hl [2, 7] rfl) hW3.2
    · exact absurd c2 (by decide)
  · exact absurd rfl c1

set_option maxHeartbeats 4000000 in
set_option maxRecDepth 100000 in
theorem law_about {p : Program} {e : Env} {s : State} {m : MethodId} {below : List Frame} {meth : Method} {c : Code} (l : Launch) (hst : l.stackTraces = false) {b : Nat} {xs : Nat → Int32} (C0 : lw_At p s m meth c b 4 xs) {D : va_G} {I Z F J : ClassId} {ad am sa : Nat → Nat} {o od : Nat} {g : Nat → Int64} {H : Heap} {locs : List Loc} (hK : lK D I Z F J s) (hN : cN s) (hX : xE sa (lS9 s) s s.heap) (hI : cI ad) (hmI : mI am) (hd : lD ad am o s) (h9 : lH D I Z F J ad am o g s H locs) {ls : Array Slot} (hl : lv_has ls 10 [(0, .ref b), (1, .ref (ad 0)), (2, .ref (am 0)), (3, .ref o), (4, .ref od), (5, .int 0)]) (fin : ∀ (ls : Array Slot) (H : Heap) (locs : List Loc), lv_has ls 10 [(0, .ref b), (5, .int 0)] → va_S (lS9 s) s.heap H locs → W p l e room_1 s m #[Value.ref b] below meth c H locs 200 40000 (lw_Z below #[Value.ref b] s) (F0 m 1423 ls [])) : W p l e room_1 s m #[Value.ref b] below meth c H locs 120 30000 (lw_Z below #[Value.ref b] s) (F0 m 943 ls []) := by
  obtain ⟨hx, hb, hr, hml, hown, hts0, hXs, hbl, hlocks, hgv⟩ := C0
  have hts : ∀ w ∈ wsL_law, w.before #[Value.ref b] s = true := fun w h => hts0 w (wsL_law_in w h)
  have hbA : ¬ lS9 s b := Nat.not_le.mpr hbl
  have hKm : va_K D vwCl (mT I Z J) s := hK.sub (tys' := mT I Z J) [0, 1, 3] rfl
  have hKj : va_K D vwCl [(J, .long)] s := hK.sub (tys' := [(J, .long)]) [3] rfl
  have hKc : va_K D vwCl (cT I Z F) s := hK.sub (tys' := cT I Z F) [0, 1, 2] rfl
  have hA : ∀ q : Nat, s.heap.size ≤ q → lS9 s q := fun _ h => h
  have hDm := hd.m hmI
  have hDc := hd.c hI
  have hoH := h9.o
  have hPre := fun (av : List Value) => lU_mk (av := av) hK hN hX hd h9
  obtain ⟨hS, hc, hm, ho⟩ := h9
  refine lv_aload_n hx hb dL_law_943 rfl (lv_at hl 1 rfl) ?_
  refine lv_aload_n hx hb dL_law_944 rfl (lv_at hl 0 rfl) ?_
  refine lv_iload hx hb dL_law_945 (lv_at hl 5 rfl) ?_
  refine lv_iconst (v := 1) hx hb dL_law_947 (by decide) ?_
  refine lv_iadd hx hb dL_law_948 ?_
  rw [show (0 : Int32) + 1 = nI 1 from rfl]
  refine va_sld hx hb hXs hbl hbA hS (vp_in_nI (n := 1) (by decide) (by decide)) dL_law_949 ?_
  refine lv_aload_n hx hb dL_law_950 rfl (lv_at hl 0 rfl) ?_
  refine lv_iload hx hb dL_law_951 (lv_at hl 5 rfl) ?_
  refine lv_iconst (v := 2) hx hb dL_law_953 (by decide) ?_
  refine lv_iadd hx hb dL_law_954 ?_
  rw [show (0 : Int32) + 2 = nI 2 from rfl]
  refine va_sld hx hb hXs hbl hbA hS (vp_in_nI (n := 2) (by decide) (by decide)) dL_law_955 ?_
  refine lv_aload_n hx hb dL_law_956 rfl (lv_at hl 3 rfl) ?_
  refine va_calli (vx_runSW (As := [.ref (ad 0), .int (xs (nI 1).toNatClampNeg), .int (xs (nI 2).toNatClampNeg), .ref o]) (rest := []) ⟨hx, hb, hml, hown, hts⟩ (c_l_about l hst D I Z F J ad sa o H.size g hI hd.2.2.1 hoH (xs (nI 1).toNatClampNeg) (xs (nI 2).toNatClampNeg)) (vx_cwSW 4 hts gL_law_L_about rfl rfl rfl (by decide +kernel) ⟨Nat.le_of_ble_eq_true rfl, Nat.le_of_ble_eq_true rfl⟩) (hPre _) rfl rfl hl.1 rfl (lv_room (Nat.le_of_ble_eq_true rfl)) dL_law_957 ⟨Nat.le_of_ble_eq_true rfl, Nat.le_of_ble_eq_true rfl⟩) hS (fun q _ h => lA_in hd hS.1 q h) (lA_in hd hS.1) (fun r uo t H1 locs1 ht hvm hp hB hz1 hk1 hS1 => ?_)
  have hm1 := lA_m hd hm hk1
  rw [ht] at hB
  rw [show r = 1 from hp]
  refine lv_istore (lv' := [(6, .int 1), (0, .ref b), (1, .ref (ad 0)), (2, .ref (am 0)), (3, .ref o), (4, .ref od), (5, .int 0)]) hx hb dL_law_960 hl (by decide) rfl (fun ls hl => ?_)
  refine lv_aload_n hx hb dL_law_962 rfl (lv_at hl 3 rfl) ?_
  refine lv_aload_n hx hb dL_law_963 rfl (lv_at hl 1 rfl) ?_
  refine lv_iload hx hb dL_law_964 (lv_at hl 6 rfl) ?_
  refine lv_iconst (v := 1) hx hb dL_law_966 (by decide) ?_
  refine lv_iadd hx hb dL_law_967 ?_
  rw [show (0 : Int32) + 1 = nI 1 from rfl]
  refine va_sld hx hb hXs hbl hbA hS1 (vp_in_nI (n := 1) (by decide) (by decide)) dL_law_968 ?_
  refine lv_aload_n hx hb dL_law_969 rfl (lv_at hl 1 rfl) ?_
  refine lv_iload hx hb dL_law_970 (lv_at hl 6 rfl) ?_
  refine lv_iconst (v := 2) hx hb dL_law_972 (by decide) ?_
  refine lv_iadd hx hb dL_law_973 ?_
  rw [show (0 : Int32) + 2 = nI 2 from rfl]
  refine va_sld hx hb hXs hbl hbA hS1 (vp_in_nI (n := 2) (by decide) (by decide)) dL_law_974 ?_
  refine mr_callik (va_runV (As := [.int (xs (nI 1).toNatClampNeg), .int (xs (nI 2).toNatClampNeg)]) (rest := []) ⟨hx, hb, hml, hown, hts⟩ (c_m_about l D I Z J am hmI M3k L3k H1.size M3_z (xs (nI 1).toNatClampNeg) (xs (nI 2).toNatClampNeg)) (cwV 2 hts gL_law_X3_about rfl rfl rfl (by decide +kernel) ⟨Nat.le_of_ble_eq_true rfl, Nat.le_of_ble_eq_true rfl⟩) (mr_preV hKm ⟨hm1, hS1⟩) rfl rfl hl.1 rfl (lv_room (Nat.le_of_ble_eq_true rfl)) dL_law_975 ⟨Nat.le_of_ble_eq_true rfl, Nat.le_of_ble_eq_true rfl⟩) hA hDm ⟨hm1, hS1⟩ (fun r2 u H2 locs2 hp2 hW hk2 => ?_)
  have ht2 : u.1 0 0 = 1 := hp2
  refine lv_istore (lv' := [(7, .int r2), (6, .int 1), (0, .ref b), (1, .ref (ad 0)), (2, .ref (am 0)), (3, .ref o), (4, .ref od), (5, .int 0)]) hx hb dL_law_978 hl (by decide) rfl (fun ls hl => ?_)
  refine lv_aload_n hx hb dL_law_980 rfl (lv_at hl 4 rfl) ?_
  refine mr_callik (va_runV (As := []) (rest := []) ⟨hx, hb, hml, hown, hts⟩ (c_m_thrown l D I Z J am hmI u.1 u.2 H2.size) (cwV 0 hts gL_law_X3_thrown rfl rfl rfl (by decide +kernel) ⟨Nat.le_of_ble_eq_true rfl, Nat.le_of_ble_eq_true rfl⟩) (mr_preV hKm hW) rfl rfl hl.1 rfl (lv_room (Nat.le_of_ble_eq_true rfl)) dL_law_981 ⟨Nat.le_of_ble_eq_true rfl, Nat.le_of_ble_eq_true rfl⟩) hA hDm hW (fun r3 u3 H3 locs3 hp3 hW3 hk3 => ?_)
  rw [hp3.2, ht2]
  refine lv_iload hx hb dL_law_984 (lv_at hl 1 rfl) ?_
  refine lv_icmp_eq (tgt := 991) hx hb dL_law_986 (by decide) (fun c1 => ?_) (fun c1 => ?_)
  · skip
    refine lv_iload hx hb dL_law_991 (lv_at hl 1 rfl) ?_
    refine lv_if_ne (tgt := 1008) hx hb dL_law_993 (by decide) (fun c2 => ?_) (fun c2 => ?_)
    · skip
      refine lv_goto (tgt := 1423) hx hb dL_law_1008 (by decide) ?_
      refine W.widen (k := 200) (n := 40000) (Nat.le_of_ble_eq_true rfl) (Nat.le_of_ble_eq_true rfl) ?_
      exact fin ls _ _ (lv_sub hl [2, 7] rfl) hW3.2
    · exact absurd c2 (by decide)
  · exact absurd rfl c1
