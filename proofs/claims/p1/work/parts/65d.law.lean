set_option maxHeartbeats 4000000 in
set_option maxRecDepth 100000 in
theorem law_asked {p : Program} {e : Env} {s : State} {m : MethodId} {below : List Frame} {meth : Method} {c : Code} (l : Launch) (hst : l.stackTraces = false) {b : Nat} {xs : Nat → Int32} (C0 : lw_At p s m meth c b 4 xs) {D : va_G} {I Z F J : ClassId} {ad am sa : Nat → Nat} {o od : Nat} {g : Nat → Int64} {H : Heap} {locs : List Loc} (hK : lK D I Z F J s) (hN : cN s) (hX : xE sa (lS9 s) s s.heap) (hI : cI ad) (hmI : mI am) (hd : lD ad am o s) (h9 : lH D I Z F J ad am o g s H locs) {ls : Array Slot} (hl : lv_has ls 10 [(0, .ref b), (1, .ref (ad 0)), (2, .ref (am 0)), (3, .ref o), (4, .ref od), (5, .int 0)]) (fin : ∀ (ls : Array Slot) (H : Heap) (locs : List Loc), lv_has ls 10 [(0, .ref b), (5, .int 0)] → va_S (lS9 s) s.heap H locs → W p l e room_1 s m #[Value.ref b] below meth c H locs 200 40000 (lw_Z below #[Value.ref b] s) (F0 m 1423 ls [])) : W p l e room_1 s m #[Value.ref b] below meth c H locs 120 30000 (lw_Z below #[Value.ref b] s) (F0 m 1011 ls []) := by
  obtain ⟨hx, hb, hr, hml, hown, hts0, hXs, hbl, hlocks, hgv⟩ := C0
  have hts : ∀ w ∈ wsL_law, w.before #[Value.ref b] s = true := fun w h => hts0 w (wsL_law_in w h)
  have hbA : ¬ lS9 s b := Nat.not_le.mpr hbl
  have hKm : va_K D vwCl (mT I Z J) s := hK.sub (tys' := mT I Z J) [0, 1, 3] rfl
  have hKj : va_K D vwCl [(J, .long)] s := hK.sub (tys' := [(J, .long)]) [3] rfl
  have hKc : va_K D vwCl (cT I Z F) s := hK.sub (tys' := cT I Z F) [0, 1, 2] rfl
  have hA : ∀ q : Nat, s.heap.size ≤ q → lS9 s q := fun _ h => h
  have hDm := hd.m hmI
  have hDc := hd.c hI
  have hoH := h9.o
  have hPre := fun (av : List Value) => lU_mk (av := av) hK hN hX hd h9
  obtain ⟨hS, hc, hm, ho⟩ := h9
  refine lv_aload_n hx hb dL_law_1011 rfl (lv_at hl 1 rfl) ?_
  refine lv_aload_n hx hb dL_law_1012 rfl (lv_at hl 0 rfl) ?_
  refine lv_iload hx hb dL_law_1013 (lv_at hl 5 rfl) ?_
  refine lv_iconst (v := 1) hx hb dL_law_1015 (by decide) ?_
  refine lv_iadd hx hb dL_law_1016 ?_
  rw [show (0 : Int32) + 1 = nI 1 from rfl]
  refine va_sld hx hb hXs hbl hbA hS (vp_in_nI (n := 1) (by decide) (by decide)) dL_law_1017 ?_
  refine lv_aload hx hb dL_law_1018 (lv_at hl 4 rfl) ?_
  refine va_calli (vx_runSW (As := [.ref (ad 0), .int (xs (nI 1).toNatClampNeg), .ref od]) (rest := []) ⟨hx, hb, hml, hown, hts⟩ (c_l_asked l hst D I Z F J ad sa o H.size g hI hd.2.2.1 hoH (xs (nI 1).toNatClampNeg) od) (vx_cwSW 3 hts gL_law_L_asked rfl rfl rfl (by decide +kernel) ⟨Nat.le_of_ble_eq_true rfl, Nat.le_of_ble_eq_true rfl⟩) (hPre _) rfl rfl hl.1 rfl (lv_room (Nat.le_of_ble_eq_true rfl)) dL_law_1020 ⟨Nat.le_of_ble_eq_true rfl, Nat.le_of_ble_eq_true rfl⟩) hS (fun q _ h => lA_in hd hS.1 q h) (lA_in hd hS.1) (fun r uo t H1 locs1 ht hvm hp hB hz1 hk1 hS1 => ?_)
  have hm1 := lA_m hd hm hk1
  rw [ht] at hB
  rw [show r = 1 from hp]
  refine lv_istore (lv' := [(6, .int 1), (0, .ref b), (1, .ref (ad 0)), (2, .ref (am 0)), (3, .ref o), (4, .ref od), (5, .int 0)]) hx hb dL_law_1023 hl (by decide) rfl (fun ls hl => ?_)
  refine lv_aload_n hx hb dL_law_1025 rfl (lv_at hl 3 rfl) ?_
  refine lv_aload_n hx hb dL_law_1026 rfl (lv_at hl 1 rfl) ?_
  refine lv_iload hx hb dL_law_1027 (lv_at hl 6 rfl) ?_
  refine lv_iconst (v := 1) hx hb dL_law_1029 (by decide) ?_
  refine lv_iadd hx hb dL_law_1030 ?_
  rw [show (0 : Int32) + 1 = nI 1 from rfl]
  refine va_sld hx hb hXs hbl hbA hS1 (vp_in_nI (n := 1) (by decide) (by decide)) dL_law_1031 ?_
  refine mr_calld (va_runV (As := [.int (xs (nI 1).toNatClampNeg)]) (rest := []) ⟨hx, hb, hml, hown, hts⟩ (c_m_asked l D I Z J am hmI M3k L3k H1.size M3_z (xs (nI 1).toNatClampNeg)) (cwV 1 hts gL_law_X3_asked rfl rfl rfl (by decide +kernel) ⟨Nat.le_of_ble_eq_true rfl, Nat.le_of_ble_eq_true rfl⟩) (mr_preV hKm ⟨hm1, hS1⟩) rfl rfl hl.1 rfl (lv_room (Nat.le_of_ble_eq_true rfl)) dL_law_1032 ⟨Nat.le_of_ble_eq_true rfl, Nat.le_of_ble_eq_true rfl⟩) hA hDm ⟨hm1, hS1⟩ (fun r2 u H2 locs2 hp2 hW => ?_)
  have ht2 : u.1 0 0 = 1 := hp2
  refine lv_dstore (lv' := [(7, .double r2), (6, .int 1), (0, .ref b), (1, .ref (ad 0)), (2, .ref (am 0)), (3, .ref o), (4, .ref od), (5, .int 0)]) hx hb dL_law_1035 hl (by decide) rfl (fun ls hl => ?_)
  refine lv_aload_n hx hb dL_law_1037 rfl (lv_at hl 4 rfl) ?_
  refine mr_callik (va_runV (As := []) (rest := []) ⟨hx, hb, hml, hown, hts⟩ (c_m_thrown l D I Z J am hmI u.1 u.2 H2.size) (cwV 0 hts gL_law_X3_thrown rfl rfl rfl (by decide +kernel) ⟨Nat.le_of_ble_eq_true rfl, Nat.le_of_ble_eq_true rfl⟩) (mr_preV hKm hW) rfl rfl hl.1 rfl (lv_room (Nat.le_of_ble_eq_true rfl)) dL_law_1038 ⟨Nat.le_of_ble_eq_true rfl, Nat.le_of_ble_eq_true rfl⟩) hA hDm hW (fun r3 u3 H3 locs3 hp3 hW3 hk3 => ?_)
  rw [hp3.2, ht2]
  refine lv_iload hx hb dL_law_1041 (lv_at hl 1 rfl) ?_
  refine lv_icmp_eq (tgt := 1048) hx hb dL_law_1043 (by decide) (fun c1 => ?_) (fun c1 => ?_)
  · skip
    refine lv_iload hx hb dL_law_1048 (lv_at hl 1 rfl) ?_
    refine lv_if_ne (tgt := 1085) hx hb dL_law_1050 (by decide) (fun c2 => ?_) (fun c2 => ?_)
    · skip
      refine lv_goto (tgt := 1423) hx hb dL_law_1085 (by decide) ?_
      refine W.widen (k := 200) (n := 40000) (Nat.le_of_ble_eq_true rfl) (Nat.le_of_ble_eq_true rfl) ?_
      exact fin ls _ _ (lv_sub hl [2, 7] rfl) hW3.2
    · exact absurd c2 (by decide)
  · exact absurd rfl c1

set_option maxHeartbeats 4000000 in
set_option maxRecDepth 100000 in
theorem law_compare {p : Program} {e : Env} {s : State} {m : MethodId} {below : List Frame} {meth : Method} {c : Code} (l : Launch) (hst : l.stackTraces = false) {b : Nat} {xs : Nat → Int32} (C0 : lw_At p s m meth c b 4 xs) {D : va_G} {I Z F J : ClassId} {ad am sa : Nat → Nat} {o od : Nat} {g : Nat → Int64} {H : Heap} {locs : List Loc} (hK : lK D I Z F J s) (hN : cN s) (hX : xE sa (lS9 s) s s.heap) (hI : cI ad) (hmI : mI am) (hd : lD ad am o s) (h9 : lH D I Z F J ad am o g s H locs) {ls : Array Slot} (hl : lv_has ls 10 [(0, .ref b), (1, .ref (ad 0)), (2, .ref (am 0)), (3, .ref o), (4, .ref od), (5, .int 0)]) (fin : ∀ (ls : Array Slot) (H : Heap) (locs : List Loc), lv_has ls 10 [(0, .ref b), (5, .int 0)] → va_S (lS9 s) s.heap H locs → W p l e room_1 s m #[Value.ref b] below meth c H locs 200 40000 (lw_Z below #[Value.ref b] s) (F0 m 1423 ls [])) : W p l e room_1 s m #[Value.ref b] below meth c H locs 120 30000 (lw_Z below #[Value.ref b] s) (F0 m 1088 ls []) := by
  obtain ⟨hx, hb, hr, hml, hown, hts0, hXs, hbl, hlocks, hgv⟩ := C0
  have hts : ∀ w ∈ wsL_law, w.before #[Value.ref b] s = true := fun w h => hts0 w (wsL_law_in w h)
  have hbA : ¬ lS9 s b := Nat.not_le.mpr hbl
  have hKm : va_K D vwCl (mT I Z J) s := hK.sub (tys' := mT I Z J) [0, 1, 3] rfl
  have hKj : va_K D vwCl [(J, .long)] s := hK.sub (tys' := [(J, .long)]) [3] rfl
  have hKc : va_K D vwCl (cT I Z F) s := hK.sub (tys' := cT I Z F) [0, 1, 2] rfl
  have hA : ∀ q : Nat, s.heap.size ≤ q → lS9 s q := fun _ h => h
  have hDm := hd.m hmI
  have hDc := hd.c hI
  have hoH := h9.o
  have hPre := fun (av : List Value) => lU_mk (av := av) hK hN hX hd h9
  obtain ⟨hS, hc, hm, ho⟩ := h9
  refine lv_aload_n hx hb dL_law_1088 rfl (lv_at hl 1 rfl) ?_
  refine lv_aload_n hx hb dL_law_1089 rfl (lv_at hl 0 rfl) ?_
  refine lv_iload hx hb dL_law_1090 (lv_at hl 5 rfl) ?_
  refine lv_iconst (v := 1) hx hb dL_law_1092 (by decide) ?_
  refine lv_iadd hx hb dL_law_1093 ?_
  rw [show (0 : Int32) + 1 = nI 1 from rfl]
  refine va_sld hx hb hXs hbl hbA hS (vp_in_nI (n := 1) (by decide) (by decide)) dL_law_1094 ?_
  refine lv_aload_n hx hb dL_law_1095 rfl (lv_at hl 0 rfl) ?_
  refine lv_iload hx hb dL_law_1096 (lv_at hl 5 rfl) ?_
  refine lv_iconst (v := 2) hx hb dL_law_1098 (by decide) ?_
  refine lv_iadd hx hb dL_law_1099 ?_
  rw [show (0 : Int32) + 2 = nI 2 from rfl]
  refine va_sld hx hb hXs hbl hbA hS (vp_in_nI (n := 2) (by decide) (by decide)) dL_law_1100 ?_
  refine lv_aload_n hx hb dL_law_1101 rfl (lv_at hl 3 rfl) ?_
  refine va_calli (vx_runSW (As := [.ref (ad 0), .int (xs (nI 1).toNatClampNeg), .int (xs (nI 2).toNatClampNeg), .ref o]) (rest := []) ⟨hx, hb, hml, hown, hts⟩ (c_l_compare l hst D I Z F J ad sa o H.size g hI hd.2.2.1 hoH (xs (nI 1).toNatClampNeg) (xs (nI 2).toNatClampNeg)) (vx_cwSW 4 hts gL_law_L_compare rfl rfl rfl (by decide +kernel) ⟨Nat.le_of_ble_eq_true rfl, Nat.le_of_ble_eq_true rfl⟩) (hPre _) rfl rfl hl.1 rfl (lv_room (Nat.le_of_ble_eq_true rfl)) dL_law_1102 ⟨Nat.le_of_ble_eq_true rfl, Nat.le_of_ble_eq_true rfl⟩) hS (fun q _ h => lA_in hd hS.1 q h) (lA_in hd hS.1) (fun r uo t H1 locs1 ht hvm hp hB hz1 hk1 hS1 => ?_)
  have hm1 := lA_m hd hm hk1
  rw [ht] at hB
  rw [show r = 1 from hp]
  refine lv_istore (lv' := [(6, .int 1), (0, .ref b), (1, .ref (ad 0)), (2, .ref (am 0)), (3, .ref o), (4, .ref od), (5, .int 0)]) hx hb dL_law_1105 hl (by decide) rfl (fun ls hl => ?_)
  refine lv_aload_n hx hb dL_law_1107 rfl (lv_at hl 3 rfl) ?_
  refine lv_aload_n hx hb dL_law_1108 rfl (lv_at hl 1 rfl) ?_
  refine lv_iload hx hb dL_law_1109 (lv_at hl 6 rfl) ?_
  refine lv_iconst (v := 1) hx hb dL_law_1111 (by decide) ?_
  refine lv_iadd hx hb dL_law_1112 ?_
  rw [show (0 : Int32) + 1 = nI 1 from rfl]
  refine va_sld hx hb hXs hbl hbA hS1 (vp_in_nI (n := 1) (by decide) (by decide)) dL_law_1113 ?_
  refine lv_aload_n hx hb dL_law_1114 rfl (lv_at hl 1 rfl) ?_
  refine lv_iload hx hb dL_law_1115 (lv_at hl 6 rfl) ?_
  refine lv_iconst (v := 2) hx hb dL_law_1117 (by decide) ?_
  refine lv_iadd hx hb dL_law_1118 ?_
  rw [show (0 : Int32) + 2 = nI 2 from rfl]
  refine va_sld hx hb hXs hbl hbA hS1 (vp_in_nI (n := 2) (by decide) (by decide)) dL_law_1119 ?_
  refine mr_callik (va_runV (As := [.int (xs (nI 1).toNatClampNeg), .int (xs (nI 2).toNatClampNeg)]) (rest := []) ⟨hx, hb, hml, hown, hts⟩ (c_m_compare l D I Z J am hmI M3k L3k H1.size M3_z (xs (nI 1).toNatClampNeg) (xs (nI 2).toNatClampNeg)) (cwV 2 hts gL_law_X3_compare rfl rfl rfl (by decide +kernel) ⟨Nat.le_of_ble_eq_true rfl, Nat.le_of_ble_eq_true rfl⟩) (mr_preV hKm ⟨hm1, hS1⟩) rfl rfl hl.1 rfl (lv_room (Nat.le_of_ble_eq_true rfl)) dL_law_1120 ⟨Nat.le_of_ble_eq_true rfl, Nat.le_of_ble_eq_true rfl⟩) hA hDm ⟨hm1, hS1⟩ (fun r2 u H2 locs2 hp2 hW hk2 => ?_)
  have ht2 : u.1 0 0 = 1 := hp2
  refine lv_istore (lv' := [(7, .int r2), (6, .int 1), (0, .ref b), (1, .ref (ad 0)), (2, .ref (am 0)), (3, .ref o), (4, .ref od), (5, .int 0)]) hx hb dL_law_1123 hl (by decide) rfl (fun ls hl => ?_)
  refine lv_aload_n hx hb dL_law_1125 rfl (lv_at hl 4 rfl) ?_
  refine mr_callik (va_runV (As := []) (rest := []) ⟨hx, hb, hml, hown, hts⟩ (c_m_thrown l D I Z J am hmI u.1 u.2 H2.size) (cwV 0 hts gL_law_X3_thrown rfl rfl rfl (by decide +kernel) ⟨Nat.le_of_ble_eq_true rfl, Nat.le_of_ble_eq_true rfl⟩) (mr_preV hKm hW) rfl rfl hl.1 rfl (lv_room (Nat.le_of_ble_eq_true rfl)) dL_law_1126 ⟨Nat.le_of_ble_eq_true rfl, Nat.le_of_ble_eq_true rfl⟩) hA hDm hW (fun r3 u3 H3 locs3 hp3 hW3 hk3 => ?_)
  rw [hp3.2, ht2]
  refine lv_iload hx hb dL_law_1129 (lv_at hl 1 rfl) ?_
  refine lv_icmp_eq (tgt := 1136) hx hb dL_law_1131 (by decide) (fun c1 => ?_) (fun c1 => ?_)
  · skip
    refine lv_iload hx hb dL_law_1136 (lv_at hl 1 rfl) ?_
    refine lv_if_ne (tgt := 1153) hx hb dL_law_1138 (by decide) (fun c2 => ?_) (fun c2 => ?_)
    · skip
      refine lv_goto (tgt := 1423) hx hb dL_law_1153 (by decide) ?_
      refine W.widen (k := 200) (n := 40000) (Nat.le_of_ble_eq_true rfl) (Nat.le_of_ble_eq_true rfl) ?_
      exact fin ls _ _ (lv_sub hl [2, 7] rfl) hW3.2
    · exact absurd c2 (by decide)
  · exact absurd rfl c1

set_option maxHeartbeats 4000000 in
set_option maxRecDepth 100000 in
theorem law_count {p : Program} {e : Env} {s : State} {m : MethodId} {below : List Frame} {meth : Method} {c : Code} (l : Launch) (hst : l.stackTraces = false) {b : Nat} {xs : Nat → Int32} (C0 : lw_At p s m meth c b 4 xs) {D : va_G} {I Z F J : ClassId} {ad am sa : Nat → Nat} {o od : Nat} {g : Nat → Int64} {H : Heap} {locs : List Loc} (hK : lK D I Z F J s) (hN : cN s) (hX : xE sa (lS9 s) s s.heap) (hI : cI ad) (hmI : mI am) (hd : lD ad am o s) (h9 : lH D I Z F J ad am o g s H locs) {ls : Array Slot} (hl : lv_has ls 10 [(0, .ref b), (1, .ref (ad 0)), (2, .ref (am 0)), (3, .ref o), (4, .ref od), (5, .int 0)]) (fin : ∀ (ls : Array Slot) (H : Heap) (locs : List Loc), lv_has ls 10 [(0, .ref b), (5, .int 0)] → va_S (lS9 s) s.heap H locs → W p l e room_1 s m #[Value.ref b] below meth c H locs 200 40000 (lw_Z below #[Value.ref b] s) (F0 m 1423 ls [])) : W p l e room_1 s m #[Value.ref b] below meth c H locs 120 30000 (lw_Z below #[Value.ref b] s) (F0 m 1156 ls []) := by
  obtain ⟨hx, hb, hr, hml, hown, hts0, hXs, hbl, hlocks, hgv⟩ := C0
  have hts : ∀ w ∈ wsL_law, w.before #[Value.ref b] s = true := fun w h => hts0 w (wsL_law_in w h)
  have hbA : ¬ lS9 s b := Nat.not_le.mpr hbl
  have hKm : va_K D vwCl (mT I Z J) s := hK.sub (tys' := mT I Z J) [0, 1, 3] rfl
  have hKj : va_K D vwCl [(J, .long)] s := hK.sub (tys' := [(J, .long)]) [3] rfl
  have hKc : va_K D vwCl (cT I Z F) s := hK.sub (tys' := cT I Z F) [0, 1, 2] rfl
  have hA : ∀ q : Nat, s.heap.size ≤ q → lS9 s q := fun _ h => h
  have hDm := hd.m hmI
  have hDc := hd.c hI
  have hoH := h9.o
  have hPre := fun (av : List Value) => lU_mk (av := av) hK hN hX hd h9
  obtain ⟨hS, hc, hm, ho⟩ := h9
  refine lv_aload_n hx hb dL_law_1156 rfl (lv_at hl 1 rfl) ?_
  refine lv_aload_n hx hb dL_law_1157 rfl (lv_at hl 0 rfl) ?_
  refine lv_iload hx hb dL_law_1158 (lv_at hl 5 rfl) ?_
  refine lv_iconst (v := 1) hx hb dL_law_1160 (by decide) ?_
  refine lv_iadd hx hb dL_law_1161 ?_
  rw [show (0 : Int32) + 1 = nI 1 from rfl]
  refine va_sld hx hb hXs hbl hbA hS (vp_in_nI (n := 1) (by decide) (by decide)) dL_law_1162 ?_
  refine lv_aload_n hx hb dL_law_1163 rfl (lv_at hl 3 rfl) ?_
  refine va_calli (vx_runSW (As := [.ref (ad 0), .int (xs (nI 1).toNatClampNeg), .ref o]) (rest := []) ⟨hx, hb, hml, hown, hts⟩ (c_l_count l hst D I Z F J ad sa o H.size g hI hd.2.2.1 hoH (xs (nI 1).toNatClampNeg)) (vx_cwSW 3 hts gL_law_L_count rfl rfl rfl (by decide +kernel) ⟨Nat.le_of_ble_eq_true rfl, Nat.le_of_ble_eq_true rfl⟩) (hPre _) rfl rfl hl.1 rfl (lv_room (Nat.le_of_ble_eq_true rfl)) dL_law_1164 ⟨Nat.le_of_ble_eq_true rfl, Nat.le_of_ble_eq_true rfl⟩) hS (fun q _ h => lA_in hd hS.1 q h) (lA_in hd hS.1) (fun r uo t H1 locs1 ht hvm hp hB hz1 hk1 hS1 => ?_)
  have hm1 := lA_m hd hm hk1
  rw [ht] at hB
  rcases Classical.em (inB (xs (nI 1).toNatClampNeg) 5) with hin | hin
  · skip
    obtain ⟨hr0, hu0⟩ := hp.1 hin
    rw [hr0]
    refine lv_istore (lv' := [(6, .int 0), (0, .ref b), (1, .ref (ad 0)), (2, .ref (am 0)), (3, .ref o), (4, .ref od), (5, .int 0)]) hx hb dL_law_1167 hl (by decide) rfl (fun ls hl => ?_)
    refine lv_aload_n hx hb dL_law_1169 rfl (lv_at hl 3 rfl) ?_
    refine lv_aload_n hx hb dL_law_1170 rfl (lv_at hl 1 rfl) ?_
    refine lv_iload hx hb dL_law_1171 (lv_at hl 6 rfl) ?_
    refine lv_iconst (v := 1) hx hb dL_law_1173 (by decide) ?_
    refine lv_iadd hx hb dL_law_1174 ?_
    rw [show (0 : Int32) + 1 = nI 1 from rfl]
    refine va_sld hx hb hXs hbl hbA hS1 (vp_in_nI (n := 1) (by decide) (by decide)) dL_law_1175 ?_
    refine mr_callik (va_runV (As := [.int (xs (nI 1).toNatClampNeg)]) (rest := []) ⟨hx, hb, hml, hown, hts⟩ (c_m_count l D I Z J am hmI M3k L3k H1.size M3_z rfl (xs (nI 1).toNatClampNeg)) (cwV 1 hts gL_law_X3_count rfl rfl rfl (by decide +kernel) ⟨Nat.le_of_ble_eq_true rfl, Nat.le_of_ble_eq_true rfl⟩) (mr_preV hKm ⟨hm1, hS1⟩) rfl rfl hl.1 rfl (lv_room (Nat.le_of_ble_eq_true rfl)) dL_law_1176 ⟨Nat.le_of_ble_eq_true rfl, Nat.le_of_ble_eq_true rfl⟩) hA hDm ⟨hm1, hS1⟩ (fun r2 u H2 locs2 hp2 hW hk2 => ?_)
    have ho2 := mA_o hd hB hk2
    obtain ⟨hr2, ht2⟩ := hp2.1 hin
    rw [hr2]
    refine lv_istore (lv' := [(7, .int 0), (6, .int 0), (0, .ref b), (1, .ref (ad 0)), (2, .ref (am 0)), (3, .ref o), (4, .ref od), (5, .int 0)]) hx hb dL_law_1179 hl (by decide) rfl (fun ls hl => ?_)
    refine lv_aload_n hx hb dL_law_1181 rfl (lv_at hl 4 rfl) ?_
    refine mr_callik (va_runV (As := []) (rest := []) ⟨hx, hb, hml, hown, hts⟩ (c_m_thrown l D I Z J am hmI u.1 u.2 H2.size) (cwV 0 hts gL_law_X3_thrown rfl rfl rfl (by decide +kernel) ⟨Nat.le_of_ble_eq_true rfl, Nat.le_of_ble_eq_true rfl⟩) (mr_preV hKm hW) rfl rfl hl.1 rfl (lv_room (Nat.le_of_ble_eq_true rfl)) dL_law_1182 ⟨Nat.le_of_ble_eq_true rfl, Nat.le_of_ble_eq_true rfl⟩) hA hDm hW (fun r3 u3 H3 locs3 hp3 hW3 hk3 => ?_)
    rw [hp3.2, ht2]
    refine lv_iload hx hb dL_law_1185 (lv_at hl 1 rfl) ?_
    refine lv_icmp_eq (tgt := 1192) hx hb dL_law_1187 (by decide) (fun c1 => ?_) (fun c1 => ?_)
    · skip
      refine lv_iload hx hb dL_law_1192 (lv_at hl 1 rfl) ?_
      refine lv_if_ne (tgt := 1209) hx hb dL_law_1194 (by decide) (fun c2 => ?_) (fun c2 => ?_)
      · exact absurd rfl c2
      · skip
        have ho3 := mA_o hd ho2 hk3
        refine lv_aload_n hx hb dL_law_1197 rfl (lv_at hl 5 rfl) ?_
        refine lv_iconst (v := 0) hx hb dL_law_1198 (by decide) ?_
        refine va_lald (ws := oW J o uo) hx hb hKj ho3 0 0 rfl rfl (show vp_in 0 1 from vp_in_nI (n := 0) (by decide) (by decide)) dL_law_1199 ?_
        rw [show uo (0 : Int32).toNatClampNeg = 0 from hu0]
        refine lv_iload hx hb dL_law_1200 (lv_at hl 0 rfl) ?_
        refine lv_i2l hx hb dL_law_1202 rfl ?_
        refine W.lcmp hx hb dL_law_1203 ?_
        rw [show lg_cmp (0 : Int64) (0 : Int32).toInt64 = 0 from lgc_0.mpr rfl]
        refine lv_if_eq (tgt := 1209) hx hb dL_law_1204 (by decide) (fun c4 => ?_) (fun c4 => ?_)
        · skip
          refine lv_goto (tgt := 1423) hx hb dL_law_1209 (by decide) ?_
          refine W.widen (k := 200) (n := 40000) (Nat.le_of_ble_eq_true rfl) (Nat.le_of_ble_eq_true rfl) ?_
          exact fin ls _ _ (lv_sub hl [2, 7] rfl) hW3.2
        · exact absurd rfl c4
    · exact absurd rfl c1
  · skip
    rw [show r = 1 from hp.2 hin]
    refine lv_istore (lv' := [(6, .int 1), (0, .ref b), (1, .ref (ad 0)), (2, .ref (am 0)), (3, .ref o), (4, .ref od), (5, .int 0)]) hx hb dL_law_1167 hl (by decide) rfl (fun ls hl => ?_)
    refine lv_aload_n hx hb dL_law_1169 rfl (lv_at hl 3 rfl) ?_
    refine lv_aload_n hx hb dL_law_1170 rfl (lv_at hl 1 rfl) ?_
    refine lv_iload hx hb dL_law_1171 (lv_at hl 6 rfl) ?_
    refine lv_iconst (v := 1) hx hb dL_law_1173 (by decide) ?_
    refine lv_iadd hx hb dL_law_1174 ?_
    rw [show (0 : Int32) + 1 = nI 1 from rfl]
    refine va_sld hx hb hXs hbl hbA hS1 (vp_in_nI (n := 1) (by decide) (by decide)) dL_law_1175 ?_
    refine mr_callik (va_runV (As := [.int (xs (nI 1).toNatClampNeg)]) (rest := []) ⟨hx, hb, hml, hown, hts⟩ (c_m_count l D I Z J am hmI M3k L3k H1.size M3_z rfl (xs (nI 1).toNatClampNeg)) (cwV 1 hts gL_law_X3_count rfl rfl rfl (by decide +kernel) ⟨Nat.le_of_ble_eq_true rfl, Nat.le_of_ble_eq_true rfl⟩) (mr_preV hKm ⟨hm1, hS1⟩) rfl rfl hl.1 rfl (lv_room (Nat.le_of_ble_eq_true rfl)) dL_law_1176 ⟨Nat.le_of_ble_eq_true rfl, Nat.le_of_ble_eq_true rfl⟩) hA hDm ⟨hm1, hS1⟩ (fun r2 u H2 locs2 hp2 hW hk2 => ?_)
    have ht2 : u.1 0 0 = 1 := hp2.2 hin
    refine lv_istore (lv' := [(7, .int r2), (6, .int 1), (0, .ref b), (1, .ref (ad 0)), (2, .ref (am 0)), (3, .ref o), (4, .ref od), (5, .int 0)]) hx hb dL_law_1179 hl (by decide) rfl (fun ls hl => ?_)
    refine lv_aload_n hx hb dL_law_1181 rfl (lv_at hl 4 rfl) ?_
    refine mr_callik (va_runV (As := []) (rest := []) ⟨hx, hb, hml, hown, hts⟩ (c_m_thrown l D I Z J am hmI u.1 u.2 H2.size) (cwV 0 hts gL_law_X3_thrown rfl rfl rfl (by decide +kernel) ⟨Nat.le_of_ble_eq_true rfl, Nat.le_of_ble_eq_true rfl⟩) (mr_preV hKm hW) rfl rfl hl.1 rfl (lv_room (Nat.le_of_ble_eq_true rfl)) dL_law_1182 ⟨Nat.le_of_ble_eq_true rfl, Nat.le_of_ble_eq_true rfl⟩) hA hDm hW (fun r3 u3 H3 locs3 hp3 hW3 hk3 => ?_)
    rw [hp3.2, ht2]
    refine lv_iload hx hb dL_law_1185 (lv_at hl 1 rfl) ?_
    refine lv_icmp_eq (tgt := 1192) hx hb dL_law_1187 (by decide) (fun c1 => ?_) (fun c1 => ?_)
    · skip
      refine lv_iload hx hb dL_law_1192 (lv_at hl 1 rfl) ?_
      refine lv_if_ne (tgt := 1209) hx hb dL_law_1194 (by decide) (fun c2 => ?_) (fun c2 => ?_)
      · skip
        refine lv_goto (tgt := 1423) hx hb dL_law_1209 (by decide) ?_
        refine W.widen (k := 200) (n := 40000) (Nat.le_of_ble_eq_true rfl) (Nat.le_of_ble_eq_true rfl) ?_
        exact fin ls _ _ (lv_sub hl [2, 7] rfl) hW3.2
      · exact absurd c2 (by decide)
    · exact absurd rfl c1

set_option maxHeartbeats 4000000 in
set_option maxRecDepth 100000 in
theorem law_has {p : Program} {e : Env} {s : State} {m : MethodId} {below : List Frame} {meth : Method} {c : Code} (l : Launch) (hst : l.stackTraces = false) {b : Nat} {xs : Nat → Int32} (C0 : lw_At p s m meth c b 4 xs) {D : va_G} {I Z F J : ClassId} {ad am sa : Nat → Nat} {o od : Nat} {g : Nat → Int64} {H : Heap} {locs : List Loc} (hK : lK D I Z F J s) (hN : cN s) (hX : xE sa (lS9 s) s s.heap) (hI : cI ad) (hmI : mI am) (hd : lD ad am o s) (h9 : lH D I Z F J ad am o g s H locs) {ls : Array Slot} (hl : lv_has ls 10 [(0, .ref b), (1, .ref (ad 0)), (2, .ref (am 0)), (3, .ref o), (4, .ref od), (5, .int 0)]) (fin : ∀ (ls : Array Slot) (H : Heap) (locs : List Loc), lv_has ls 10 [(0, .ref b), (5, .int 0)] → va_S (lS9 s) s.heap H locs → W p l e room_1 s m #[Value.ref b] below meth c H locs 200 40000 (lw_Z below #[Value.ref b] s) (F0 m 1423 ls [])) : W p l e room_1 s m #[Value.ref b] below meth c H locs 120 30000 (lw_Z below #[Value.ref b] s) (F0 m 1212 ls []) := by
  obtain ⟨hx, hb, hr, hml, hown, hts0, hXs, hbl, hlocks, hgv⟩ := C0
  have hts : ∀ w ∈ wsL_law, w.before #[Value.ref b] s = true := fun w h => hts0 w (wsL_law_in w h)
  have hbA : ¬ lS9 s b := Nat.not_le.mpr hbl
  have hKm : va_K D vwCl (mT I Z J) s := hK.sub (tys' := mT I Z J) [0, 1, 3] rfl
  have hKj : va_K D vwCl [(J, .long)] s := hK.sub (tys' := [(J, .long)]) [3] rfl
  have hKc : va_K D vwCl (cT I Z F) s := hK.sub (tys' := cT I Z F) [0, 1, 2] rfl
  have hA : ∀ q : Nat, s.heap.size ≤ q → lS9 s q := fun _ h => h
  have hDm := hd.m hmI
  have hDc := hd.c hI
  have hoH := h9.o
  have hPre := fun (av : List Value) => lU_mk (av := av) hK hN hX hd h9
  obtain ⟨hS, hc, hm, ho⟩ := h9
  refine lv_aload_n hx hb dL_law_1212 rfl (lv_at hl 1 rfl) ?_
  refine lv_aload_n hx hb dL_law_1213 rfl (lv_at hl 0 rfl) ?_
  refine lv_iload hx hb dL_law_1214 (lv_at hl 5 rfl) ?_
  refine lv_iconst (v := 1) hx hb dL_law_1216 (by decide) ?_
  refine lv_iadd hx hb dL_law_1217 ?_
  rw [show (0 : Int32) + 1 = nI 1 from rfl]
  refine va_sld hx hb hXs hbl hbA hS (vp_in_nI (n := 1) (by decide) (by decide)) dL_law_1218 ?_
  refine lv_aload_n hx hb dL_law_1219 rfl (lv_at hl 3 rfl) ?_
  refine va_calli (vx_runSW (As := [.ref (ad 0), .int (xs (nI 1).toNatClampNeg), .ref o]) (rest := []) ⟨hx, hb, hml, hown, hts⟩ (c_l_has l hst D I Z F J ad sa o H.size g hI hd.2.2.1 hoH (xs (nI 1).toNatClampNeg)) (vx_cwSW 3 hts gL_law_L_has rfl rfl rfl (by decide +kernel) ⟨Nat.le_of_ble_eq_true rfl, Nat.le_of_ble_eq_true rfl⟩) (hPre _) rfl rfl hl.1 rfl (lv_room (Nat.le_of_ble_eq_true rfl)) dL_law_1220 ⟨Nat.le_of_ble_eq_true rfl, Nat.le_of_ble_eq_true rfl⟩) hS (fun q _ h => lA_in hd hS.1 q h) (lA_in hd hS.1) (fun r uo t H1 locs1 ht hvm hp hB hz1 hk1 hS1 => ?_)
  have hm1 := lA_m hd hm hk1
  rw [ht] at hB
  rcases Classical.em (inB (xs (nI 1).toNatClampNeg) 12) with hin | hin
  · skip
    obtain ⟨hr0, hu0⟩ := hp.1 hin
    rw [hr0]
    refine lv_istore (lv' := [(6, .int 0), (0, .ref b), (1, .ref (ad 0)), (2, .ref (am 0)), (3, .ref o), (4, .ref od), (5, .int 0)]) hx hb dL_law_1223 hl (by decide) rfl (fun ls hl => ?_)
    refine lv_aload_n hx hb dL_law_1225 rfl (lv_at hl 3 rfl) ?_
    refine lv_aload_n hx hb dL_law_1226 rfl (lv_at hl 1 rfl) ?_
    refine lv_iload hx hb dL_law_1227 (lv_at hl 6 rfl) ?_
    refine lv_iconst (v := 1) hx hb dL_law_1229 (by decide) ?_
    refine lv_iadd hx hb dL_law_1230 ?_
    rw [show (0 : Int32) + 1 = nI 1 from rfl]
    refine va_sld hx hb hXs hbl hbA hS1 (vp_in_nI (n := 1) (by decide) (by decide)) dL_law_1231 ?_
    refine mr_callik (va_runV (As := [.int (xs (nI 1).toNatClampNeg)]) (rest := []) ⟨hx, hb, hml, hown, hts⟩ (c_m_has l D I Z J am hmI M3k L3k H1.size M3_z (xs (nI 1).toNatClampNeg)) (cwV 1 hts gL_law_X3_has rfl rfl rfl (by decide +kernel) ⟨Nat.le_of_ble_eq_true rfl, Nat.le_of_ble_eq_true rfl⟩) (mr_preV hKm ⟨hm1, hS1⟩) rfl rfl hl.1 rfl (lv_room (Nat.le_of_ble_eq_true rfl)) dL_law_1232 ⟨Nat.le_of_ble_eq_true rfl, Nat.le_of_ble_eq_true rfl⟩) hA hDm ⟨hm1, hS1⟩ (fun r2 u H2 locs2 hp2 hW hk2 => ?_)
    have ho2 := mA_o hd hB hk2
    obtain ⟨hr2, ht2⟩ := hp2.1 hin
    rw [hr2]
    refine lv_istore (lv' := [(7, .int 0), (6, .int 0), (0, .ref b), (1, .ref (ad 0)), (2, .ref (am 0)), (3, .ref o), (4, .ref od), (5, .int 0)]) hx hb dL_law_1235 hl (by decide) rfl (fun ls hl => ?_)
    refine lv_aload_n hx hb dL_law_1237 rfl (lv_at hl 4 rfl) ?_
    refine mr_callik (va_runV (As := []) (rest := []) ⟨hx, hb, hml, hown, hts⟩ (c_m_thrown l D I Z J am hmI u.1 u.2 H2.size) (cwV 0 hts gL_law_X3_thrown rfl rfl rfl (by decide +kernel) ⟨Nat.le_of_ble_eq_true rfl, Nat.le_of_ble_eq_true rfl⟩) (mr_preV hKm hW) rfl rfl hl.1 rfl (lv_room (Nat.le_of_ble_eq_true rfl)) dL_law_1238 ⟨Nat.le_of_ble_eq_true rfl, Nat.le_of_ble_eq_true rfl⟩) hA hDm hW (fun r3 u3 H3 locs3 hp3 hW3 hk3 => ?_)
    rw [hp3.2, ht2]
    refine lv_iload hx hb dL_law_1241 (lv_at hl 1 rfl) ?_
    refine lv_icmp_eq (tgt := 1248) hx hb dL_law_1243 (by decide) (fun c1 => ?_) (fun c1 => ?_)
    · skip
      refine lv_iload hx hb dL_law_1248 (lv_at hl 1 rfl) ?_
      refine lv_if_ne (tgt := 1272) hx hb dL_law_1250 (by decide) (fun c2 => ?_) (fun c2 => ?_)
      · exact absurd rfl c2
      · skip
        have ho3 := mA_o hd ho2 hk3
        refine lv_aload_n hx hb dL_law_1253 rfl (lv_at hl 5 rfl) ?_
        refine lv_iconst (v := 0) hx hb dL_law_1254 (by decide) ?_
        refine va_lald (ws := oW J o uo) hx hb hKj ho3 0 0 rfl rfl (show vp_in 0 1 from vp_in_nI (n := 0) (by decide) (by decide)) dL_law_1255 ?_
        rw [show uo (0 : Int32).toNatClampNeg = 0 from hu0]
        refine lv_iload hx hb dL_law_1256 (lv_at hl 0 rfl) ?_
        refine lv_if_eq (tgt := 1265) hx hb dL_law_1258 (by decide) (fun c3 => ?_) (fun c3 => ?_)
        · skip
          refine lv_lconst (v := 0) hx hb dL_law_1265 (by decide) ?_
          refine W.lcmp hx hb dL_law_1266 ?_
          rw [show lg_cmp (0 : Int64) 0 = 0 from lgc_0.mpr rfl]
          refine lv_if_eq (tgt := 1272) hx hb dL_law_1267 (by decide) (fun c4 => ?_) (fun c4 => ?_)
          · skip
            refine lv_goto (tgt := 1423) hx hb dL_law_1272 (by decide) ?_
            refine W.widen (k := 200) (n := 40000) (Nat.le_of_ble_eq_true rfl) (Nat.le_of_ble_eq_true rfl) ?_
            exact fin ls _ _ (lv_sub hl [2, 7] rfl) hW3.2
          · exact absurd rfl c4
        · exact absurd rfl c3
    · exact absurd rfl c1
  · skip
    rw [show r = 1 from hp.2 hin]
    refine lv_istore (lv' := [(6, .int 1), (0, .ref b), (1, .ref (ad 0)), (2, .ref (am 0)), (3, .ref o), (4, .ref od), (5, .int 0)]) hx hb dL_law_1223 hl (by decide) rfl (fun ls hl => ?_)
    refine lv_aload_n hx hb dL_law_1225 rfl (lv_at hl 3 rfl) ?_
    refine lv_aload_n hx hb dL_law_1226 rfl (lv_at hl 1 rfl) ?_
    refine lv_iload hx hb dL_law_1227 (lv_at hl 6 rfl) ?_
    refine lv_iconst (v := 1) hx hb dL_law_1229 (by decide) ?_
    refine lv_iadd hx hb dL_law_1230 ?_
    rw [show (0 : Int32) + 1 = nI 1 from rfl]
    refine va_sld hx hb hXs hbl hbA hS1 (vp_in_nI (n := 1) (by decide) (by decide)) dL_law_1231 ?_
    refine mr_callik (va_runV (As := [.int (xs (nI 1).toNatClampNeg)]) (rest := []) ⟨hx, hb, hml, hown, hts⟩ (c_m_has l D I Z J am hmI M3k L3k H1.size M3_z (xs (nI 1).toNatClampNeg)) (cwV 1 hts gL_law_X3_has rfl rfl rfl (by decide +kernel) ⟨Nat.le_of_ble_eq_true rfl, Nat.le_of_ble_eq_true rfl⟩) (mr_preV hKm ⟨hm1, hS1⟩) rfl rfl hl.1 rfl (lv_room (Nat.le_of_ble_eq_true rfl)) dL_law_1232 ⟨Nat.le_of_ble_eq_true rfl, Nat.le_of_ble_eq_true rfl⟩) hA hDm ⟨hm1, hS1⟩ (fun r2 u H2 locs2 hp2 hW hk2 => ?_)
    have ht2 : u.1 0 0 = 1 := hp2.2 hin
    refine lv_istore (lv' := [(7, .int r2), (6, .int 1), (0, .ref b), (1, .ref (ad 0)), (2, .ref (am 0)), (3, .ref o), (4, .ref od), (5, .int 0)]) hx hb dL_law_1235 hl (by decide) rfl (fun ls hl => ?_)
    refine lv_aload_n hx hb dL_law_1237 rfl (lv_at hl 4 rfl) ?_
    refine mr_callik (va_runV (As := []) (rest := []) ⟨hx, hb, hml, hown, hts⟩ (c_m_thrown l D I Z J am hmI u.1 u.2 H2.size) (cwV 0 hts gL_law_X3_thrown rfl rfl rfl (by decide +kernel) ⟨Nat.le_of_ble_eq_true rfl, Nat.le_of_ble_eq_true rfl⟩) (mr_preV hKm hW) rfl rfl hl.1 rfl (lv_room (Nat.le_of_ble_eq_true rfl)) dL_law_1238 ⟨Nat.le_of_ble_eq_true rfl, Nat.le_of_ble_eq_true rfl⟩) hA hDm hW (fun r3 u3 H3 locs3 hp3 hW3 hk3 => ?_)
    rw [hp3.2, ht2]
    refine lv_iload hx hb dL_law_1241 (lv_at hl 1 rfl) ?_
    refine lv_icmp_eq (tgt := 1248) hx hb dL_law_1243 (by decide) (fun c1 => ?_) (fun c1 => ?_)
    · skip
      refine lv_iload hx hb dL_law_1248 (lv_at hl 1 rfl) ?_
      refine lv_if_ne (tgt := 1272) hx hb dL_law_1250 (by decide) (fun c2 => ?_) (fun c2 => ?_)
      · skip
        refine lv_goto (tgt := 1423) hx hb dL_law_1272 (by decide) ?_
        refine W.widen (k := 200) (n := 40000) (Nat.le_of_ble_eq_true rfl) (Nat.le_of_ble_eq_true rfl) ?_
        exact fin ls _ _ (lv_sub hl [2, 7] rfl) hW3.2
      · exact absurd c2 (by decide)
    · exact absurd rfl c1
