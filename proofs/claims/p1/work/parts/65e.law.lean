set_option maxHeartbeats 4000000 in
set_option maxRecDepth 100000 in
theorem law_advise {p : Program} {e : Env} {s : State} {m : MethodId} {below : List Frame} {meth : Method} {c : Code} (l : Launch) (hst : l.stackTraces = false) {b : Nat} {xs : Nat → Int32} (C0 : lw_At p s m meth c b 4 xs) {D : va_G} {I Z F J : ClassId} {ad am sa : Nat → Nat} {o od : Nat} {g : Nat → Int64} {H : Heap} {locs : List Loc} (hK : lK D I Z F J s) (hN : cN s) (hX : xE sa (lS9 s) s s.heap) (hI : cI ad) (hmI : mI am) (hd : lD ad am o s) (h9 : lH D I Z F J ad am o g s H locs) {ls : Array Slot} (hl : lv_has ls 10 [(0, .ref b), (1, .ref (ad 0)), (2, .ref (am 0)), (3, .ref o), (4, .ref od), (5, .int 0)]) (fin : ∀ (ls : Array Slot) (H : Heap) (locs : List Loc), lv_has ls 10 [(0, .ref b), (5, .int 0)] → va_S (lS9 s) s.heap H locs → W p l e room_1 s m #[Value.ref b] below meth c H locs 200 40000 (lw_Z below #[Value.ref b] s) (F0 m 1423 ls [])) : W p l e room_1 s m #[Value.ref b] below meth c H locs 120 30000 (lw_Z below #[Value.ref b] s) (F0 m 1275 ls []) := by
  obtain ⟨hx, hb, hr, hml, hown, hts0, hXs, hbl, hlocks, hgv⟩ := C0
  have hts : ∀ w ∈ wsL_law, w.before #[Value.ref b] s = true := fun w h => hts0 w (wsL_law_in w h)
  have hbA : ¬ lS9 s b := Nat.not_le.mpr hbl
  have hKm : va_K D vwCl (mT I Z J) s := hK.sub (tys' := mT I Z J) [0, 1, 3] rfl
  have hKj : va_K D vwCl [(J, .long)] s := hK.sub (tys' := [(J, .long)]) [3] rfl
  have hKc : va_K D vwCl (cT I Z F) s := hK.sub (tys' := cT I Z F) [0, 1, 2] rfl
  have hA : ∀ q : Nat, s.heap.size ≤ q → lS9 s q := fun _ h => h
  have hDm := hd.m hmI
  have hDc := hd.c hI
  have hoH := h9.o
  have hPre := fun (av : List Value) => lU_mk (av := av) hK hN hX hd h9
  obtain ⟨hS, hc, hm, ho⟩ := h9
  refine lv_aload_n hx hb dL_law_1275 rfl (lv_at hl 1 rfl) ?_
  refine va_calli (va_runV (As := []) (rest := []) ⟨hx, hb, hml, hown, hts⟩ (c_advise l D I Z F ad hI (M0k 8) H.size ) (cwV 0 hts gL_law_X2_advise rfl rfl rfl (by decide +kernel) ⟨Nat.le_of_ble_eq_true rfl, Nat.le_of_ble_eq_true rfl⟩) (cr_preV hKc hN ⟨hc, hS⟩ 0 (by decide) (cE_x I Z F ad (M0k 8)) rfl) rfl rfl hl.1 rfl (lv_room (Nat.le_of_ble_eq_true rfl)) dL_law_1276 ⟨Nat.le_of_ble_eq_true rfl, Nat.le_of_ble_eq_true rfl⟩) hS (fun q _ h => hS.sub hA hDc q h) (hS.sub hA hDc) (fun r u t H1 locs1 ht hvm hp hB hz1 hk1 hS1 => ?_)
  have hm1 := cA_m hd hm hk1
  rw [show r = (-1) from by rw [hp.2, z_ad]]
  refine lv_aload_n hx hb dL_law_1279 rfl (lv_at hl 2 rfl) ?_
  refine mr_calli (va_runV (As := []) (rest := [.int (-1)]) ⟨hx, hb, hml, hown, hts⟩ (c_m_advise l D I Z J am hmI M3k L3k H1.size M3_z rfl) (cwV 0 hts gL_law_X3_advise rfl rfl rfl (by decide +kernel) ⟨Nat.le_of_ble_eq_true rfl, Nat.le_of_ble_eq_true rfl⟩) (mr_preV hKm ⟨hm1, hS1⟩) rfl rfl hl.1 rfl (lv_room (Nat.le_of_ble_eq_true rfl)) dL_law_1280 ⟨Nat.le_of_ble_eq_true rfl, Nat.le_of_ble_eq_true rfl⟩) hA hDm ⟨hm1, hS1⟩ (fun r2 u2 H2 locs2 hp2 hW => ?_)
  rw [show r2 = (-1) from hp2]
  refine lv_icmp_eq (tgt := 1423) hx hb dL_law_1283 (by decide) (fun c1 => ?_) (fun c1 => ?_)
  · skip
    refine W.widen (k := 200) (n := 40000) (Nat.le_of_ble_eq_true rfl) (Nat.le_of_ble_eq_true rfl) ?_
    exact fin ls _ _ (lv_sub hl [0, 5] rfl) hW.2
  · exact absurd rfl c1

set_option maxHeartbeats 4000000 in
set_option maxRecDepth 100000 in
theorem law_would {p : Program} {e : Env} {s : State} {m : MethodId} {below : List Frame} {meth : Method} {c : Code} (l : Launch) (hst : l.stackTraces = false) {b : Nat} {xs : Nat → Int32} (C0 : lw_At p s m meth c b 4 xs) {D : va_G} {I Z F J : ClassId} {ad am sa : Nat → Nat} {o od : Nat} {g : Nat → Int64} {H : Heap} {locs : List Loc} (hK : lK D I Z F J s) (hN : cN s) (hX : xE sa (lS9 s) s s.heap) (hI : cI ad) (hmI : mI am) (hd : lD ad am o s) (h9 : lH D I Z F J ad am o g s H locs) {ls : Array Slot} (hl : lv_has ls 10 [(0, .ref b), (1, .ref (ad 0)), (2, .ref (am 0)), (3, .ref o), (4, .ref od), (5, .int 0)]) (fin : ∀ (ls : Array Slot) (H : Heap) (locs : List Loc), lv_has ls 10 [(0, .ref b), (5, .int 0)] → va_S (lS9 s) s.heap H locs → W p l e room_1 s m #[Value.ref b] below meth c H locs 200 40000 (lw_Z below #[Value.ref b] s) (F0 m 1423 ls [])) : W p l e room_1 s m #[Value.ref b] below meth c H locs 120 30000 (lw_Z below #[Value.ref b] s) (F0 m 1288 ls []) := by
  obtain ⟨hx, hb, hr, hml, hown, hts0, hXs, hbl, hlocks, hgv⟩ := C0
  have hts : ∀ w ∈ wsL_law, w.before #[Value.ref b] s = true := fun w h => hts0 w (wsL_law_in w h)
  have hbA : ¬ lS9 s b := Nat.not_le.mpr hbl
  have hKm : va_K D vwCl (mT I Z J) s := hK.sub (tys' := mT I Z J) [0, 1, 3] rfl
  have hKj : va_K D vwCl [(J, .long)] s := hK.sub (tys' := [(J, .long)]) [3] rfl
  have hKc : va_K D vwCl (cT I Z F) s := hK.sub (tys' := cT I Z F) [0, 1, 2] rfl
  have hA : ∀ q : Nat, s.heap.size ≤ q → lS9 s q := fun _ h => h
  have hDm := hd.m hmI
  have hDc := hd.c hI
  have hoH := h9.o
  have hPre := fun (av : List Value) => lU_mk (av := av) hK hN hX hd h9
  obtain ⟨hS, hc, hm, ho⟩ := h9
  refine lv_aload_n hx hb dL_law_1288 rfl (lv_at hl 1 rfl) ?_
  refine lv_aload_n hx hb dL_law_1289 rfl (lv_at hl 0 rfl) ?_
  refine lv_iload hx hb dL_law_1290 (lv_at hl 5 rfl) ?_
  refine lv_iconst (v := 1) hx hb dL_law_1292 (by decide) ?_
  refine lv_iadd hx hb dL_law_1293 ?_
  rw [show (0 : Int32) + 1 = nI 1 from rfl]
  refine va_sld hx hb hXs hbl hbA hS (vp_in_nI (n := 1) (by decide) (by decide)) dL_law_1294 ?_
  refine lv_aload_n hx hb dL_law_1295 rfl (lv_at hl 0 rfl) ?_
  refine lv_iload hx hb dL_law_1296 (lv_at hl 5 rfl) ?_
  refine lv_iconst (v := 2) hx hb dL_law_1298 (by decide) ?_
  refine lv_iadd hx hb dL_law_1299 ?_
  rw [show (0 : Int32) + 2 = nI 2 from rfl]
  refine va_sld hx hb hXs hbl hbA hS (vp_in_nI (n := 2) (by decide) (by decide)) dL_law_1300 ?_
  refine lv_aload_n hx hb dL_law_1301 rfl (lv_at hl 0 rfl) ?_
  refine lv_iload hx hb dL_law_1302 (lv_at hl 5 rfl) ?_
  refine lv_iconst (v := 3) hx hb dL_law_1304 (by decide) ?_
  refine lv_iadd hx hb dL_law_1305 ?_
  rw [show (0 : Int32) + 3 = nI 3 from rfl]
  refine va_sld hx hb hXs hbl hbA hS (vp_in_nI (n := 3) (by decide) (by decide)) dL_law_1306 ?_
  refine lv_aload_n hx hb dL_law_1307 rfl (lv_at hl 3 rfl) ?_
  refine va_calli (vx_runSW (As := [.ref (ad 0), .int (xs (nI 1).toNatClampNeg), .int (xs (nI 2).toNatClampNeg), .int (xs (nI 3).toNatClampNeg), .ref o]) (rest := []) ⟨hx, hb, hml, hown, hts⟩ (c_l_would l hst D I Z F J ad sa o H.size g hI hd.2.2.1 hoH (xs (nI 1).toNatClampNeg) (xs (nI 2).toNatClampNeg) (xs (nI 3).toNatClampNeg)) (vx_cwSW 5 hts gL_law_L_would rfl rfl rfl (by decide +kernel) ⟨Nat.le_of_ble_eq_true rfl, Nat.le_of_ble_eq_true rfl⟩) (hPre _) rfl rfl hl.1 rfl (lv_room (Nat.le_of_ble_eq_true rfl)) dL_law_1308 ⟨Nat.le_of_ble_eq_true rfl, Nat.le_of_ble_eq_true rfl⟩) hS (fun q _ h => lA_in hd hS.1 q h) (lA_in hd hS.1) (fun r uo t H1 locs1 ht hvm hp hB hz1 hk1 hS1 => ?_)
  have hm1 := lA_m hd hm hk1
  rw [ht] at hB
  rw [show r = 1 from hp]
  refine lv_istore (lv' := [(6, .int 1), (0, .ref b), (1, .ref (ad 0)), (2, .ref (am 0)), (3, .ref o), (4, .ref od), (5, .int 0)]) hx hb dL_law_1311 hl (by decide) rfl (fun ls hl => ?_)
  refine lv_aload_n hx hb dL_law_1313 rfl (lv_at hl 3 rfl) ?_
  refine lv_aload_n hx hb dL_law_1314 rfl (lv_at hl 1 rfl) ?_
  refine lv_iload hx hb dL_law_1315 (lv_at hl 6 rfl) ?_
  refine lv_iconst (v := 1) hx hb dL_law_1317 (by decide) ?_
  refine lv_iadd hx hb dL_law_1318 ?_
  rw [show (0 : Int32) + 1 = nI 1 from rfl]
  refine va_sld hx hb hXs hbl hbA hS1 (vp_in_nI (n := 1) (by decide) (by decide)) dL_law_1319 ?_
  refine lv_aload_n hx hb dL_law_1320 rfl (lv_at hl 1 rfl) ?_
  refine lv_iload hx hb dL_law_1321 (lv_at hl 6 rfl) ?_
  refine lv_iconst (v := 2) hx hb dL_law_1323 (by decide) ?_
  refine lv_iadd hx hb dL_law_1324 ?_
  rw [show (0 : Int32) + 2 = nI 2 from rfl]
  refine va_sld hx hb hXs hbl hbA hS1 (vp_in_nI (n := 2) (by decide) (by decide)) dL_law_1325 ?_
  refine lv_aload_n hx hb dL_law_1326 rfl (lv_at hl 1 rfl) ?_
  refine lv_iload hx hb dL_law_1327 (lv_at hl 6 rfl) ?_
  refine lv_iconst (v := 3) hx hb dL_law_1329 (by decide) ?_
  refine lv_iadd hx hb dL_law_1330 ?_
  rw [show (0 : Int32) + 3 = nI 3 from rfl]
  refine va_sld hx hb hXs hbl hbA hS1 (vp_in_nI (n := 3) (by decide) (by decide)) dL_law_1331 ?_
  refine mr_callik (va_runV (As := [.int (xs (nI 1).toNatClampNeg), .int (xs (nI 2).toNatClampNeg), .int (xs (nI 3).toNatClampNeg)]) (rest := []) ⟨hx, hb, hml, hown, hts⟩ (c_m_would l D I Z J am hmI M3k L3k H1.size M3_z (xs (nI 1).toNatClampNeg) (xs (nI 2).toNatClampNeg) (xs (nI 3).toNatClampNeg)) (cwV 3 hts gL_law_X3_would rfl rfl rfl (by decide +kernel) ⟨Nat.le_of_ble_eq_true rfl, Nat.le_of_ble_eq_true rfl⟩) (mr_preV hKm ⟨hm1, hS1⟩) rfl rfl hl.1 rfl (lv_room (Nat.le_of_ble_eq_true rfl)) dL_law_1332 ⟨Nat.le_of_ble_eq_true rfl, Nat.le_of_ble_eq_true rfl⟩) hA hDm ⟨hm1, hS1⟩ (fun r2 u H2 locs2 hp2 hW hk2 => ?_)
  have ht2 : u.1 0 0 = 1 := hp2
  refine lv_istore (lv' := [(7, .int r2), (6, .int 1), (0, .ref b), (1, .ref (ad 0)), (2, .ref (am 0)), (3, .ref o), (4, .ref od), (5, .int 0)]) hx hb dL_law_1335 hl (by decide) rfl (fun ls hl => ?_)
  refine lv_aload_n hx hb dL_law_1337 rfl (lv_at hl 4 rfl) ?_
  refine mr_callik (va_runV (As := []) (rest := []) ⟨hx, hb, hml, hown, hts⟩ (c_m_thrown l D I Z J am hmI u.1 u.2 H2.size) (cwV 0 hts gL_law_X3_thrown rfl rfl rfl (by decide +kernel) ⟨Nat.le_of_ble_eq_true rfl, Nat.le_of_ble_eq_true rfl⟩) (mr_preV hKm hW) rfl rfl hl.1 rfl (lv_room (Nat.le_of_ble_eq_true rfl)) dL_law_1338 ⟨Nat.le_of_ble_eq_true rfl, Nat.le_of_ble_eq_true rfl⟩) hA hDm hW (fun r3 u3 H3 locs3 hp3 hW3 hk3 => ?_)
  rw [hp3.2, ht2]
  refine lv_iload hx hb dL_law_1341 (lv_at hl 1 rfl) ?_
  refine lv_icmp_eq (tgt := 1348) hx hb dL_law_1343 (by decide) (fun c1 => ?_) (fun c1 => ?_)
  · skip
    refine lv_iload hx hb dL_law_1348 (lv_at hl 1 rfl) ?_
    refine lv_if_ne (tgt := 1365) hx hb dL_law_1350 (by decide) (fun c2 => ?_) (fun c2 => ?_)
    · skip
      refine lv_goto (tgt := 1423) hx hb dL_law_1365 (by decide) ?_
      refine W.widen (k := 200) (n := 40000) (Nat.le_of_ble_eq_true rfl) (Nat.le_of_ble_eq_true rfl) ?_
      exact fin ls _ _ (lv_sub hl [2, 7] rfl) hW3.2
    · exact absurd c2 (by decide)
  · exact absurd rfl c1

set_option maxHeartbeats 4000000 in
set_option maxRecDepth 100000 in
theorem law_mean {p : Program} {e : Env} {s : State} {m : MethodId} {below : List Frame} {meth : Method} {c : Code} (l : Launch) (hst : l.stackTraces = false) {b : Nat} {xs : Nat → Int32} (C0 : lw_At p s m meth c b 4 xs) {D : va_G} {I Z F J : ClassId} {ad am sa : Nat → Nat} {o od : Nat} {g : Nat → Int64} {H : Heap} {locs : List Loc} (hK : lK D I Z F J s) (hN : cN s) (hX : xE sa (lS9 s) s s.heap) (hI : cI ad) (hmI : mI am) (hd : lD ad am o s) (h9 : lH D I Z F J ad am o g s H locs) {ls : Array Slot} (hl : lv_has ls 10 [(0, .ref b), (1, .ref (ad 0)), (2, .ref (am 0)), (3, .ref o), (4, .ref od), (5, .int 0)]) (fin : ∀ (ls : Array Slot) (H : Heap) (locs : List Loc), lv_has ls 10 [(0, .ref b), (5, .int 0)] → va_S (lS9 s) s.heap H locs → W p l e room_1 s m #[Value.ref b] below meth c H locs 200 40000 (lw_Z below #[Value.ref b] s) (F0 m 1423 ls [])) : W p l e room_1 s m #[Value.ref b] below meth c H locs 120 30000 (lw_Z below #[Value.ref b] s) (F0 m 1368 ls []) := by
  obtain ⟨hx, hb, hr, hml, hown, hts0, hXs, hbl, hlocks, hgv⟩ := C0
  have hts : ∀ w ∈ wsL_law, w.before #[Value.ref b] s = true := fun w h => hts0 w (wsL_law_in w h)
  have hbA : ¬ lS9 s b := Nat.not_le.mpr hbl
  have hKm : va_K D vwCl (mT I Z J) s := hK.sub (tys' := mT I Z J) [0, 1, 3] rfl
  have hKj : va_K D vwCl [(J, .long)] s := hK.sub (tys' := [(J, .long)]) [3] rfl
  have hKc : va_K D vwCl (cT I Z F) s := hK.sub (tys' := cT I Z F) [0, 1, 2] rfl
  have hA : ∀ q : Nat, s.heap.size ≤ q → lS9 s q := fun _ h => h
  have hDm := hd.m hmI
  have hDc := hd.c hI
  have hoH := h9.o
  have hPre := fun (av : List Value) => lU_mk (av := av) hK hN hX hd h9
  obtain ⟨hS, hc, hm, ho⟩ := h9
  refine lv_aload_n hx hb dL_law_1368 rfl (lv_at hl 1 rfl) ?_
  refine va_calld (va_runV (As := []) (rest := []) ⟨hx, hb, hml, hown, hts⟩ (c_mean l D I Z F ad hI (M0k 8) H.size 0 z_rs) (cwV 0 hts gL_law_X2_mean rfl rfl rfl (by decide +kernel) ⟨Nat.le_of_ble_eq_true rfl, Nat.le_of_ble_eq_true rfl⟩) (cr_preV hKc hN ⟨hc, hS⟩ 0 (by decide) (cE_x I Z F ad (M0k 8)) rfl) rfl rfl hl.1 rfl (lv_room (Nat.le_of_ble_eq_true rfl)) dL_law_1369 ⟨Nat.le_of_ble_eq_true rfl, Nat.le_of_ble_eq_true rfl⟩) hS (fun q _ h => hS.sub hA hDc q h) (hS.sub hA hDc) (fun r u t H1 locs1 ht hvm hp hB hz1 hk1 hS1 => ?_)
  have hm1 := cA_m hd hm hk1
  rw [show r = FP.dconst0 from by rw [hp.2, z_me]]
  refine lv_dstore (lv' := [(6, .double FP.dconst0), (0, .ref b), (1, .ref (ad 0)), (2, .ref (am 0)), (3, .ref o), (4, .ref od), (5, .int 0)]) hx hb dL_law_1372 hl (by decide) rfl (fun ls hl => ?_)
  refine lv_aload_n hx hb dL_law_1374 rfl (lv_at hl 3 rfl) ?_
  refine mr_calld (va_runV (As := []) (rest := []) ⟨hx, hb, hml, hown, hts⟩ (c_m_mean l D I Z J am hmI M3k L3k H1.size M3_z) (cwV 0 hts gL_law_X3_mean rfl rfl rfl (by decide +kernel) ⟨Nat.le_of_ble_eq_true rfl, Nat.le_of_ble_eq_true rfl⟩) (mr_preV hKm ⟨hm1, hS1⟩) rfl rfl hl.1 rfl (lv_room (Nat.le_of_ble_eq_true rfl)) dL_law_1375 ⟨Nat.le_of_ble_eq_true rfl, Nat.le_of_ble_eq_true rfl⟩) hA hDm ⟨hm1, hS1⟩ (fun r2 u2 H2 locs2 hp2 hW => ?_)
  rw [show r2 = FP.dconst0 from hp2]
  refine lv_dstore (lv' := [(8, .double FP.dconst0), (6, .double FP.dconst0), (0, .ref b), (1, .ref (ad 0)), (2, .ref (am 0)), (3, .ref o), (4, .ref od), (5, .int 0)]) hx hb dL_law_1378 hl (by decide) rfl (fun ls hl => ?_)
  refine lv_dload hx hb dL_law_1380 (lv_at hl 1 rfl) ?_
  refine lv_dload hx hb dL_law_1382 (lv_at hl 0 rfl) ?_
  refine lv_dcmp hx hb dL_law_1384 ?_
  rw [show Op.cmpValue (FP.dcmp FP.dconst0 FP.dconst0) CmpOp.l = 0 from by decide +kernel]
  refine lv_if_eq (tgt := 1406) hx hb dL_law_1385 (by decide) (fun c1 => ?_) (fun c1 => ?_)
  · skip
    refine lv_goto (tgt := 1423) hx hb dL_law_1406 (by decide) ?_
    refine W.widen (k := 200) (n := 40000) (Nat.le_of_ble_eq_true rfl) (Nat.le_of_ble_eq_true rfl) ?_
    exact fin ls _ _ (lv_sub hl [2, 7] rfl) hW.2
  · exact absurd rfl c1

set_option maxHeartbeats 4000000 in
set_option maxRecDepth 100000 in
theorem law_digest {p : Program} {e : Env} {s : State} {m : MethodId} {below : List Frame} {meth : Method} {c : Code} (l : Launch) (hst : l.stackTraces = false) {b : Nat} {xs : Nat → Int32} (C0 : lw_At p s m meth c b 4 xs) {D : va_G} {I Z F J : ClassId} {ad am sa : Nat → Nat} {o od : Nat} {g : Nat → Int64} {H : Heap} {locs : List Loc} (hK : lK D I Z F J s) (hN : cN s) (hX : xE sa (lS9 s) s s.heap) (hI : cI ad) (hmI : mI am) (hd : lD ad am o s) (h9 : lH D I Z F J ad am o g s H locs) {ls : Array Slot} (hl : lv_has ls 10 [(0, .ref b), (1, .ref (ad 0)), (2, .ref (am 0)), (3, .ref o), (4, .ref od), (5, .int 0)]) (fin : ∀ (ls : Array Slot) (H : Heap) (locs : List Loc), lv_has ls 10 [(0, .ref b), (5, .int 0)] → va_S (lS9 s) s.heap H locs → W p l e room_1 s m #[Value.ref b] below meth c H locs 200 40000 (lw_Z below #[Value.ref b] s) (F0 m 1423 ls [])) : W p l e room_1 s m #[Value.ref b] below meth c H locs 120 30000 (lw_Z below #[Value.ref b] s) (F0 m 1409 ls []) := by
  obtain ⟨hx, hb, hr, hml, hown, hts0, hXs, hbl, hlocks, hgv⟩ := C0
  have hts : ∀ w ∈ wsL_law, w.before #[Value.ref b] s = true := fun w h => hts0 w (wsL_law_in w h)
  have hbA : ¬ lS9 s b := Nat.not_le.mpr hbl
  have hKm : va_K D vwCl (mT I Z J) s := hK.sub (tys' := mT I Z J) [0, 1, 3] rfl
  have hKj : va_K D vwCl [(J, .long)] s := hK.sub (tys' := [(J, .long)]) [3] rfl
  have hKc : va_K D vwCl (cT I Z F) s := hK.sub (tys' := cT I Z F) [0, 1, 2] rfl
  have hA : ∀ q : Nat, s.heap.size ≤ q → lS9 s q := fun _ h => h
  have hDm := hd.m hmI
  have hDc := hd.c hI
  have hoH := h9.o
  have hPre := fun (av : List Value) => lU_mk (av := av) hK hN hX hd h9
  obtain ⟨hS, hc, hm, ho⟩ := h9
  refine lv_aload_n hx hb dL_law_1409 rfl (lv_at hl 1 rfl) ?_
  refine va_calll (va_runV (As := []) (rest := []) ⟨hx, hb, hml, hown, hts⟩ (c_digest l D I Z F ad hI (M0k 8) H.size 0 z_rs) (cwV 0 hts gL_law_X2_digest rfl rfl rfl (by decide +kernel) ⟨Nat.le_of_ble_eq_true rfl, Nat.le_of_ble_eq_true rfl⟩) (cr_preV hKc hN ⟨hc, hS⟩ 0 (by decide) (cE_x I Z F ad (M0k 8)) rfl) rfl rfl hl.1 rfl (lv_room (Nat.le_of_ble_eq_true rfl)) dL_law_1410 ⟨Nat.le_of_ble_eq_true rfl, Nat.le_of_ble_eq_true rfl⟩) hS (fun q _ h => hS.sub hA hDc q h) (hS.sub hA hDc) (fun r u t H1 locs1 ht hvm hp hB hz1 hk1 hS1 => ?_)
  have hm1 := cA_m hd hm hk1
  obtain ⟨dv, hdv⟩ : ∃ x : Int64, x = dgA (dgA (dgA 1709 (fun _ => 0) 5) (M3k 3) 8) (fun _ => 0) 12 := ⟨_, rfl⟩
  rw [show r = dv from by rw [hp.2, z_dg, hdv]]
  refine lv_aload_n hx hb dL_law_1413 rfl (lv_at hl 2 rfl) ?_
  refine mr_calll (va_runV (As := []) (rest := [.long dv]) ⟨hx, hb, hml, hown, hts⟩ (c_m_digest l D I Z J am hmI M3k L3k H1.size M3_z rfl) (cwV 0 hts gL_law_X3_digest rfl rfl rfl (by decide +kernel) ⟨Nat.le_of_ble_eq_true rfl, Nat.le_of_ble_eq_true rfl⟩) (mr_preV hKm ⟨hm1, hS1⟩) rfl rfl hl.1 rfl (lv_room (Nat.le_of_ble_eq_true rfl)) dL_law_1414 ⟨Nat.le_of_ble_eq_true rfl, Nat.le_of_ble_eq_true rfl⟩) hA hDm ⟨hm1, hS1⟩ (fun r2 u2 H2 locs2 hp2 hW => ?_)
  rw [show r2 = dv from hp2.trans hdv.symm]
  refine W.lcmp hx hb dL_law_1417 ?_
  rw [show lg_cmp dv dv = 0 from lgc_0.mpr rfl]
  refine lv_if_eq (tgt := 1423) hx hb dL_law_1418 (by decide) (fun c1 => ?_) (fun c1 => ?_)
  · skip
    refine W.widen (k := 200) (n := 40000) (Nat.le_of_ble_eq_true rfl) (Nat.le_of_ble_eq_true rfl) ?_
    exact fin ls _ _ (lv_sub hl [0, 5] rfl) hW.2
  · exact absurd rfl c1
