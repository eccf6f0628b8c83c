abbrev rm_l_leaf : Room := { frames := 100, cells := 1, slots := 6, locals := 20000 }
set_option maxHeartbeats 4000000 in
set_option maxRecDepth 100000 in
theorem c_l_leaf (l : Launch) (hst : l.stackTraces = false) (D : va_G) (I Z F J : ClassId) (ad sa : Nat → Nat) (o sz : Nat) (g : Nat → Int64) (hI : cI ad) (hoa : ∀ k : Nat, k < 97 → o ≠ ad k) (hosz : o < sz) (y0 : Int32) (hy0 : y0 = 0 ∨ y0 = 1) : Met l yL_leaf wsL_leaf rm_l_leaf (va_Pc [.ref (ad 0), .int y0, .ref o] (lU D I Z F J ad sa o sz (M0k 8) g)) (va_Qi (fun (r : Int32) (u : Nat → Int64) => r = 0 ∧ u 0 = 0) (fun (u : Nat → Int64) t => va_P D vwCl (oW J o u) t.heap) (lA ad o sz)) 1 6 (lA ad o sz) := by
  refine lMet (cc := cL_leaf) (maxL := 4) (hh := [(0, 9, 12, 13)]) hI (by decide) rfl rfl (Nat.le_of_ble_eq_true rfl) (lv := [(0, .ref (ad 0)), (1, .int y0), (2, .ref o)]) rfl ?_
  intro p e s m args below meth c Q A ls hsz hA9 hx hb hml hts hown htab hK hJ hN hX hDa hAo hA hW hO hl hret
  refine lv_aload_n hx hb dL_leaf_0 rfl (lv_at hl 2 rfl) ?_
  refine lv_iconst (v := 0) hx hb dL_leaf_1 (by decide) ?_
  refine lv_aload_n hx hb dL_leaf_2 rfl (lv_at hl 0 rfl) ?_
  refine lv_iload_n hx hb dL_leaf_3 rfl (lv_at hl 1 rfl) ?_
  refine vx_calli (vx_runV (As := [.int y0]) (rest := [.int 0, .ref o]) ⟨hx, hb, hml, hown, hts⟩ (c_leaf l hst D I Z F ad sa hI (M0k 8) s.heap.size y0 hy0) (cwV 1 hts gL_leaf_X2_leaf rfl rfl rfl (by decide +kernel) ⟨Nat.le_of_ble_eq_true rfl, Nat.le_of_ble_eq_true rfl⟩) (cx_preV hK hN hX hA hDa hW 0 (by decide) (cE_x I Z F ad (M0k 8)) rfl) rfl rfl hl.1 rfl (lv_room (Nat.le_of_ble_eq_true rfl)) dL_leaf_4 ⟨Nat.le_of_ble_eq_true rfl, Nat.le_of_ble_eq_true rfl⟩) hW.2 (fun q _ h => hW.2.sub hA hDa q h) (hW.2.sub hA hDa) (fun q _ h => hW.2.sub hA hDa q h) (fun E ce q9 u t H1 locs1 ht hvm hpx hB hz1 hk1 hS h1 h2 h3 => ?_) (fun r u t H1 locs1 ht hvm hp hB hz1 hk1 hS => ?_)
  · skip
    obtain ⟨hXP, -⟩ := hB
    exact absurd hXP.2 z_no
  · skip
    have hO1 : va_P D vwCl (oW J o g) H1 := hO.keep (fun k q hq _ => by rw [oW_of hq]; exact hk1 o (by rw [hsz]; exact hosz) (fun h => h.elim (fun ⟨k, hk, h⟩ => hoa k hk h) (fun h => absurd (hsz ▸ h) (Nat.not_le.mpr hosz))))
    obtain ⟨f, h9, h8, -⟩ := hp
    rw [z_fr h9] at h8
    subst h8
    refine lv_i2l hx hb dL_leaf_7 rfl ?_
    refine va_last (ws := oW J o g) hx hb hJ hO1 (oW_d hAo) hS 0 0 rfl rfl (show vp_in 0 1 from vp_in_nI (n := 0) (by decide) (by decide)) dL_leaf_8 (fun H2 locs2 hP2 _ hS2 => ?_)
    refine lv_goto (tgt := 15) hx hb dL_leaf_9 (by decide) ?_
    refine lv_iconst (v := 0) hx hb dL_leaf_15 (by decide) ?_
    exact hret 16 ls H2 locs2 _ _ _ (vp_updL g (0 : Int32).toNatClampNeg ((nI 0).toInt64)) dL_leaf_16 (by decide) (by decide) (⟨rfl, by show vp_updL g 0 _ 0 = _; rw [pk_uLs]; rfl⟩) hP2 hS2

abbrev rm_l_ask : Room := { frames := 100, cells := 2, slots := 12, locals := 20000 }
set_option maxHeartbeats 4000000 in
set_option maxRecDepth 100000 in
theorem c_l_ask (l : Launch) (hst : l.stackTraces = false) (D : va_G) (I Z F J : ClassId) (ad sa : Nat → Nat) (o sz : Nat) (g : Nat → Int64) (hI : cI ad) (hoa : ∀ k : Nat, k < 97 → o ≠ ad k) (hosz : o < sz) (a1 : Int32) : Met l yL_ask wsL_ask rm_l_ask (va_Pc [.ref (ad 0), .int a1, .ref o] (lU D I Z F J ad sa o sz (M0k 8) g)) (va_Qi (fun (r : Int32) (u : Nat → Int64) => (inB a1 8 → r = 0 ∧ u 0 = 0) ∧ (¬ inB a1 8 → r = 1)) (fun (u : Nat → Int64) t => va_P D vwCl (oW J o u) t.heap) (lA ad o sz)) 2 12 (lA ad o sz) := by
  refine lMet (cc := cL_ask) (maxL := 4) (hh := [(0, 9, 12, 19), (0, 9, 15, 13)]) hI (by decide) rfl rfl (Nat.le_of_ble_eq_true rfl) (lv := [(0, .ref (ad 0)), (1, .int a1), (2, .ref o)]) rfl ?_
  intro p e s m args below meth c Q A ls hsz hA9 hx hb hml hts hown htab hK hJ hN hX hDa hAo hA hW hO hl hret
  refine lv_aload_n hx hb dL_ask_0 rfl (lv_at hl 2 rfl) ?_
  refine lv_iconst (v := 0) hx hb dL_ask_1 (by decide) ?_
  refine lv_aload_n hx hb dL_ask_2 rfl (lv_at hl 0 rfl) ?_
  refine lv_iload_n hx hb dL_ask_3 rfl (lv_at hl 1 rfl) ?_
  refine vx_calli (vx_runV (As := [.int a1]) (rest := [.int 0, .ref o]) ⟨hx, hb, hml, hown, hts⟩ (c_ask l hst D I Z F ad sa hI (M0k 8) s.heap.size  a1) (cwV 1 hts gL_ask_X2_ask rfl rfl rfl (by decide +kernel) ⟨Nat.le_of_ble_eq_true rfl, Nat.le_of_ble_eq_true rfl⟩) (cx_preV hK hN hX hA hDa hW 0 (by decide) (cE_x I Z F ad (M0k 8)) rfl) rfl rfl hl.1 rfl (lv_room (Nat.le_of_ble_eq_true rfl)) dL_ask_4 ⟨Nat.le_of_ble_eq_true rfl, Nat.le_of_ble_eq_true rfl⟩) hW.2 (fun q _ h => hW.2.sub hA hDa q h) (hW.2.sub hA hDa) (fun q _ h => hW.2.sub hA hDa q h) (fun E ce q9 u t H1 locs1 ht hvm hpx hB hz1 hk1 hS h1 h2 h3 => ?_) (fun r u t H1 locs1 ht hvm hp hB hz1 hk1 hS => ?_)
  · skip
    obtain ⟨hXP, -⟩ := hB
    obtain ⟨hE, hno⟩ : E = xIO ∧ ¬ inB a1 8 := hXP.resolve_right (fun h => z_no h.2.2)
    subst hE
    have hO1 : va_P D vwCl (oW J o g) H1 := hO.keep (fun k q hq _ => by rw [oW_of hq]; exact hk1 o (by rw [hsz]; exact hosz) (fun h => h.elim (fun ⟨k, hk, h⟩ => hoa k hk h) (fun h => absurd (hsz ▸ h) (Nat.not_le.mpr hosz))))
    refine vx_catch (own := RL) (name := xIO) hown [] ⟨0, 9, 12, 19⟩ (tableOf [(0, 9, 12, 19), (0, 9, 15, 13)]).tail htab (fun z hz => by cases hz) (by decide) (by decide) (hts (.classLink RL 19 xIO) (by decide +kernel)) (va_Nw.use rfl (hX.1 (.castable xIO xIO) (by decide +kernel))) h1 h2 h3 ?_
    refine lv_astore_n (lv' := [(3, .ref q9), (0, .ref (ad 0)), (1, .int a1), (2, .ref o)]) hx hb dL_ask_12 rfl hl (by decide) rfl (fun ls hl => ?_)
    refine lv_iconst (v := 1) hx hb dL_ask_13 (by decide) ?_
    exact hret 14 ls H1 locs1 _ _ _ g dL_ask_14 (by decide) (by decide) (⟨fun h => absurd h hno, fun _ => rfl⟩) hO1 hS
  · skip
    have hO1 : va_P D vwCl (oW J o g) H1 := hO.keep (fun k q hq _ => by rw [oW_of hq]; exact hk1 o (by rw [hsz]; exact hosz) (fun h => h.elim (fun ⟨k, hk, h⟩ => hoa k hk h) (fun h => absurd (hsz ▸ h) (Nat.not_le.mpr hosz))))
    obtain ⟨f, hin, h9, h8, -⟩ := hp
    rw [z_fr h9] at h8
    subst h8
    refine lv_i2l hx hb dL_ask_7 rfl ?_
    refine va_last (ws := oW J o g) hx hb hJ hO1 (oW_d hAo) hS 0 0 rfl rfl (show vp_in 0 1 from vp_in_nI (n := 0) (by decide) (by decide)) dL_ask_8 (fun H2 locs2 hP2 _ hS2 => ?_)
    refine lv_goto (tgt := 18) hx hb dL_ask_9 (by decide) ?_
    refine lv_iconst (v := 0) hx hb dL_ask_18 (by decide) ?_
    exact hret 19 ls H2 locs2 _ _ _ (vp_updL g (0 : Int32).toNatClampNeg ((nI 0).toInt64)) dL_ask_19 (by decide) (by decide) (⟨fun _ => ⟨rfl, by show vp_updL g 0 _ 0 = _; rw [pk_uLs]; rfl⟩, fun h => absurd hin h⟩) hP2 hS2

abbrev rm_l_join : Room := { frames := 100, cells := 4, slots := 24, locals := 20000 }
set_option maxHeartbeats 4000000 in
set_option maxRecDepth 100000 in
theorem c_l_join (l : Launch) (hst : l.stackTraces = false) (D : va_G) (I Z F J : ClassId) (ad sa : Nat → Nat) (o sz : Nat) (g : Nat → Int64) (hI : cI ad) (hoa : ∀ k : Nat, k < 97 → o ≠ ad k) (hosz : o < sz) (a1 b1 c9 : Int32) : Met l yL_join wsL_join rm_l_join (va_Pc [.ref (ad 0), .int a1, .int b1, .int c9, .ref o] (lU D I Z F J ad sa o sz (M0k 8) g)) (va_Qi (fun (r : Int32) (u : Nat → Int64) => r = 1) (fun (u : Nat → Int64) t => va_P D vwCl (oW J o u) t.heap) (lA ad o sz)) 4 24 (lA ad o sz) := by
  refine lMet (cc := cL_join) (maxL := 6) (hh := [(0, 12, 15, 19), (0, 12, 19, 13)]) hI (by decide) rfl rfl (Nat.le_of_ble_eq_true rfl) (lv := [(0, .ref (ad 0)), (1, .int a1), (2, .int b1), (3, .int c9), (4, .ref o)]) rfl ?_
  intro p e s m args below meth c Q A ls hsz hA9 hx hb hml hts hown htab hK hJ hN hX hDa hAo hA hW hO hl hret
  refine lv_aload hx hb dL_join_0 (lv_at hl 4 rfl) ?_
  refine lv_iconst (v := 0) hx hb dL_join_2 (by decide) ?_
  refine lv_aload_n hx hb dL_join_3 rfl (lv_at hl 0 rfl) ?_
  refine lv_iload_n hx hb dL_join_4 rfl (lv_at hl 1 rfl) ?_
  refine lv_iload_n hx hb dL_join_5 rfl (lv_at hl 2 rfl) ?_
  refine lv_iload_n hx hb dL_join_6 rfl (lv_at hl 3 rfl) ?_
  refine vx_calli (vx_runV (As := [.int a1, .int b1, .int c9]) (rest := [.int 0, .ref o]) ⟨hx, hb, hml, hown, hts⟩ (c_join l hst D I Z F ad sa hI (M0k 8) s.heap.size  a1 b1 c9) (cwV 3 hts gL_join_X2_join rfl rfl rfl (by decide +kernel) ⟨Nat.le_of_ble_eq_true rfl, Nat.le_of_ble_eq_true rfl⟩) (cx_preV hK hN hX hA hDa hW 0 (by decide) (cE_x I Z F ad (M0k 8)) rfl) rfl rfl hl.1 rfl (lv_room (Nat.le_of_ble_eq_true rfl)) dL_join_7 ⟨Nat.le_of_ble_eq_true rfl, Nat.le_of_ble_eq_true rfl⟩) hW.2 (fun q _ h => hW.2.sub hA hDa q h) (hW.2.sub hA hDa) (fun q _ h => hW.2.sub hA hDa q h) (fun E ce q9 u t H1 locs1 ht hvm hpx hB hz1 hk1 hS h1 h2 h3 => ?_) (fun r u t H1 locs1 ht hvm hp hB hz1 hk1 hS => ?_)
  · skip
    obtain ⟨hXP, -⟩ := hB
    have hE : E = xIO := (hXP.resolve_right (fun h => z_no h.2.2)).1
    subst hE
    have hO1 : va_P D vwCl (oW J o g) H1 := hO.keep (fun k q hq _ => by rw [oW_of hq]; exact hk1 o (by rw [hsz]; exact hosz) (fun h => h.elim (fun ⟨k, hk, h⟩ => hoa k hk h) (fun h => absurd (hsz ▸ h) (Nat.not_le.mpr hosz))))
    refine vx_catch (own := RL) (name := xIO) hown [] ⟨0, 12, 15, 19⟩ (tableOf [(0, 12, 15, 19), (0, 12, 19, 13)]).tail htab (fun z hz => by cases hz) (by decide) (by decide) (hts (.classLink RL 19 xIO) (by decide +kernel)) (va_Nw.use rfl (hX.1 (.castable xIO xIO) (by decide +kernel))) h1 h2 h3 ?_
    refine lv_astore (lv' := [(5, .ref q9), (0, .ref (ad 0)), (1, .int a1), (2, .int b1), (3, .int c9), (4, .ref o)]) hx hb dL_join_15 hl (by decide) rfl (fun ls hl => ?_)
    refine lv_iconst (v := 1) hx hb dL_join_17 (by decide) ?_
    exact hret 18 ls H1 locs1 _ _ _ g dL_join_18 (by decide) (by decide) (rfl) hO1 hS
  · skip
    obtain ⟨ka, kb, wh, f, h9, -⟩ := hp
    exact absurd ⟨ka, h9⟩ (z_fd _)

abbrev rm_l_choose : Room := { frames := 100, cells := 4, slots := 24, locals := 20000 }
set_option maxHeartbeats 4000000 in
set_option maxRecDepth 100000 in
theorem c_l_choose (l : Launch) (hst : l.stackTraces = false) (D : va_G) (I Z F J : ClassId) (ad sa : Nat → Nat) (o sz : Nat) (g : Nat → Int64) (hI : cI ad) (hoa : ∀ k : Nat, k < 97 → o ≠ ad k) (hosz : o < sz) (a1 b1 c9 : Int32) : Met l yL_choose wsL_choose rm_l_choose (va_Pc [.ref (ad 0), .int a1, .int b1, .int c9, .ref o] (lU D I Z F J ad sa o sz (M0k 8) g)) (va_Qi (fun (r : Int32) (u : Nat → Int64) => r = 1) (fun (u : Nat → Int64) t => va_P D vwCl (oW J o u) t.heap) (lA ad o sz)) 4 24 (lA ad o sz) := by
  refine lMet (cc := cL_choose) (maxL := 6) (hh := [(0, 12, 15, 19), (0, 12, 19, 13)]) hI (by decide) rfl rfl (Nat.le_of_ble_eq_true rfl) (lv := [(0, .ref (ad 0)), (1, .int a1), (2, .int b1), (3, .int c9), (4, .ref o)]) rfl ?_
  intro p e s m args below meth c Q A ls hsz hA9 hx hb hml hts hown htab hK hJ hN hX hDa hAo hA hW hO hl hret
  refine lv_aload hx hb dL_choose_0 (lv_at hl 4 rfl) ?_
  refine lv_iconst (v := 0) hx hb dL_choose_2 (by decide) ?_
  refine lv_aload_n hx hb dL_choose_3 rfl (lv_at hl 0 rfl) ?_
  refine lv_iload_n hx hb dL_choose_4 rfl (lv_at hl 1 rfl) ?_
  refine lv_iload_n hx hb dL_choose_5 rfl (lv_at hl 2 rfl) ?_
  refine lv_iload_n hx hb dL_choose_6 rfl (lv_at hl 3 rfl) ?_
  refine vx_calli (vx_runV (As := [.int a1, .int b1, .int c9]) (rest := [.int 0, .ref o]) ⟨hx, hb, hml, hown, hts⟩ (c_choose l hst D I Z F ad sa hI (M0k 8) s.heap.size z_ys a1 b1 c9) (cwV 3 hts gL_choose_X2_choose rfl rfl rfl (by decide +kernel) ⟨Nat.le_of_ble_eq_true rfl, Nat.le_of_ble_eq_true rfl⟩) (cx_preV hK hN hX hA hDa hW 0 (by decide) (cE_x I Z F ad (M0k 8)) rfl) rfl rfl hl.1 rfl (lv_room (Nat.le_of_ble_eq_true rfl)) dL_choose_7 ⟨Nat.le_of_ble_eq_true rfl, Nat.le_of_ble_eq_true rfl⟩) hW.2 (fun q _ h => hW.2.sub hA hDa q h) (hW.2.sub hA hDa) (fun q _ h => hW.2.sub hA hDa q h) (fun E ce q9 u t H1 locs1 ht hvm hpx hB hz1 hk1 hS h1 h2 h3 => ?_) (fun r u t H1 locs1 ht hvm hp hB hz1 hk1 hS => ?_)
  · skip
    obtain ⟨hXP, -⟩ := hB
    have hE : E = xIO := (hXP.resolve_right (fun h => z_no h.2.2)).1
    subst hE
    have hO1 : va_P D vwCl (oW J o g) H1 := hO.keep (fun k q hq _ => by rw [oW_of hq]; exact hk1 o (by rw [hsz]; exact hosz) (fun h => h.elim (fun ⟨k, hk, h⟩ => hoa k hk h) (fun h => absurd (hsz ▸ h) (Nat.not_le.mpr hosz))))
    refine vx_catch (own := RL) (name := xIO) hown [] ⟨0, 12, 15, 19⟩ (tableOf [(0, 12, 15, 19), (0, 12, 19, 13)]).tail htab (fun z hz => by cases hz) (by decide) (by decide) (hts (.classLink RL 19 xIO) (by decide +kernel)) (va_Nw.use rfl (hX.1 (.castable xIO xIO) (by decide +kernel))) h1 h2 h3 ?_
    refine lv_astore (lv' := [(5, .ref q9), (0, .ref (ad 0)), (1, .int a1), (2, .int b1), (3, .int c9), (4, .ref o)]) hx hb dL_choose_15 hl (by decide) rfl (fun ls hl => ?_)
    refine lv_iconst (v := 1) hx hb dL_choose_17 (by decide) ?_
    exact hret 18 ls H1 locs1 _ _ _ g dL_choose_18 (by decide) (by decide) (rfl) hO1 hS
  · skip
    obtain ⟨ka, kb, kc, f, h9, -⟩ := hp
    exact absurd ⟨ka, h9⟩ (z_fd _)

abbrev rm_l_given : Room := { frames := 100, cells := 3, slots := 18, locals := 20000 }
set_option maxHeartbeats 4000000 in
set_option maxRecDepth 100000 in
theorem c_l_given (l : Launch) (hst : l.stackTraces = false) (D : va_G) (I Z F J : ClassId) (ad sa : Nat → Nat) (o sz : Nat) (g : Nat → Int64) (hI : cI ad) (hoa : ∀ k : Nat, k < 97 → o ≠ ad k) (hosz : o < sz) (a1 b1 c9 : Int32) : Met l yL_given wsL_given rm_l_given (va_Pc [.ref (ad 0), .int a1, .int b1, .int c9, .ref o] (lU D I Z F J ad sa o sz (M0k 8) g)) (va_Qi (fun (r : Int32) (u : Nat → Int64) => r = 1) (fun (u : Nat → Int64) t => va_P D vwCl (oW J o u) t.heap) (lA ad o sz)) 3 18 (lA ad o sz) := by
  refine lMet (cc := cL_given) (maxL := 6) (hh := [(0, 12, 15, 19), (0, 12, 19, 13)]) hI (by decide) rfl rfl (Nat.le_of_ble_eq_true rfl) (lv := [(0, .ref (ad 0)), (1, .int a1), (2, .int b1), (3, .int c9), (4, .ref o)]) rfl ?_
  intro p e s m args below meth c Q A ls hsz hA9 hx hb hml hts hown htab hK hJ hN hX hDa hAo hA hW hO hl hret
  refine lv_aload hx hb dL_given_0 (lv_at hl 4 rfl) ?_
  refine lv_iconst (v := 0) hx hb dL_given_2 (by decide) ?_
  refine lv_aload_n hx hb dL_given_3 rfl (lv_at hl 0 rfl) ?_
  refine lv_iload_n hx hb dL_given_4 rfl (lv_at hl 1 rfl) ?_
  refine lv_iload_n hx hb dL_given_5 rfl (lv_at hl 2 rfl) ?_
  refine lv_iload_n hx hb dL_given_6 rfl (lv_at hl 3 rfl) ?_
  refine vx_calli (vx_runV (As := [.int a1, .int b1, .int c9]) (rest := [.int 0, .ref o]) ⟨hx, hb, hml, hown, hts⟩ (c_given l hst D I Z F ad sa hI (M0k 8) s.heap.size z_ys a1 b1 c9) (cwV 3 hts gL_given_X2_given rfl rfl rfl (by decide +kernel) ⟨Nat.le_of_ble_eq_true rfl, Nat.le_of_ble_eq_true rfl⟩) (cx_preV hK hN hX hA hDa hW 0 (by decide) (cE_x I Z F ad (M0k 8)) rfl) rfl rfl hl.1 rfl (lv_room (Nat.le_of_ble_eq_true rfl)) dL_given_7 ⟨Nat.le_of_ble_eq_true rfl, Nat.le_of_ble_eq_true rfl⟩) hW.2 (fun q _ h => hW.2.sub hA hDa q h) (hW.2.sub hA hDa) (fun q _ h => hW.2.sub hA hDa q h) (fun E ce q9 u t H1 locs1 ht hvm hpx hB hz1 hk1 hS h1 h2 h3 => ?_) (fun r u t H1 locs1 ht hvm hp hB hz1 hk1 hS => ?_)
  · skip
    obtain ⟨hXP, -⟩ := hB
    have hE : E = xIO := (hXP.resolve_right (fun h => z_no h.2.2)).1
    subst hE
    have hO1 : va_P D vwCl (oW J o g) H1 := hO.keep (fun k q hq _ => by rw [oW_of hq]; exact hk1 o (by rw [hsz]; exact hosz) (fun h => h.elim (fun ⟨k, hk, h⟩ => hoa k hk h) (fun h => absurd (hsz ▸ h) (Nat.not_le.mpr hosz))))
    refine vx_catch (own := RL) (name := xIO) hown [] ⟨0, 12, 15, 19⟩ (tableOf [(0, 12, 15, 19), (0, 12, 19, 13)]).tail htab (fun z hz => by cases hz) (by decide) (by decide) (hts (.classLink RL 19 xIO) (by decide +kernel)) (va_Nw.use rfl (hX.1 (.castable xIO xIO) (by decide +kernel))) h1 h2 h3 ?_
    refine lv_astore (lv' := [(5, .ref q9), (0, .ref (ad 0)), (1, .int a1), (2, .int b1), (3, .int c9), (4, .ref o)]) hx hb dL_given_15 hl (by decide) rfl (fun ls hl => ?_)
    refine lv_iconst (v := 1) hx hb dL_given_17 (by decide) ?_
    exact hret 18 ls H1 locs1 _ _ _ g dL_given_18 (by decide) (by decide) (rfl) hO1 hS
  · skip
    obtain ⟨ka, q0, f, h9, -⟩ := hp
    exact absurd ⟨ka, h9⟩ (z_fd _)

abbrev rm_l_without : Room := { frames := 100, cells := 3, slots := 18, locals := 20000 }
set_option maxHeartbeats 4000000 in
set_option maxRecDepth 100000 in
theorem c_l_without (l : Launch) (hst : l.stackTraces = false) (D : va_G) (I Z F J : ClassId) (ad sa : Nat → Nat) (o sz : Nat) (g : Nat → Int64) (hI : cI ad) (hoa : ∀ k : Nat, k < 97 → o ≠ ad k) (hosz : o < sz) (a1 b1 c9 : Int32) : Met l yL_without wsL_without rm_l_without (va_Pc [.ref (ad 0), .int a1, .int b1, .int c9, .ref o] (lU D I Z F J ad sa o sz (M0k 8) g)) (va_Qi (fun (r : Int32) (u : Nat → Int64) => r = 1) (fun (u : Nat → Int64) t => va_P D vwCl (oW J o u) t.heap) (lA ad o sz)) 3 18 (lA ad o sz) := by
  refine lMet (cc := cL_without) (maxL := 6) (hh := [(0, 12, 15, 19), (0, 12, 19, 13)]) hI (by decide) rfl rfl (Nat.le_of_ble_eq_true rfl) (lv := [(0, .ref (ad 0)), (1, .int a1), (2, .int b1), (3, .int c9), (4, .ref o)]) rfl ?_
  intro p e s m args below meth c Q A ls hsz hA9 hx hb hml hts hown htab hK hJ hN hX hDa hAo hA hW hO hl hret
  refine lv_aload hx hb dL_without_0 (lv_at hl 4 rfl) ?_
  refine lv_iconst (v := 0) hx hb dL_without_2 (by decide) ?_
  refine lv_aload_n hx hb dL_without_3 rfl (lv_at hl 0 rfl) ?_
  refine lv_iload_n hx hb dL_without_4 rfl (lv_at hl 1 rfl) ?_
  refine lv_iload_n hx hb dL_without_5 rfl (lv_at hl 2 rfl) ?_
  refine lv_iload_n hx hb dL_without_6 rfl (lv_at hl 3 rfl) ?_
  refine vx_calli (vx_runV (As := [.int a1, .int b1, .int c9]) (rest := [.int 0, .ref o]) ⟨hx, hb, hml, hown, hts⟩ (c_without l hst D I Z F ad sa hI (M0k 8) s.heap.size z_ys a1 b1 c9) (cwV 3 hts gL_without_X2_without rfl rfl rfl (by decide +kernel) ⟨Nat.le_of_ble_eq_true rfl, Nat.le_of_ble_eq_true rfl⟩) (cx_preV hK hN hX hA hDa hW 0 (by decide) (cE_x I Z F ad (M0k 8)) rfl) rfl rfl hl.1 rfl (lv_room (Nat.le_of_ble_eq_true rfl)) dL_without_7 ⟨Nat.le_of_ble_eq_true rfl, Nat.le_of_ble_eq_true rfl⟩) hW.2 (fun q _ h => hW.2.sub hA hDa q h) (hW.2.sub hA hDa) (fun q _ h => hW.2.sub hA hDa q h) (fun E ce q9 u t H1 locs1 ht hvm hpx hB hz1 hk1 hS h1 h2 h3 => ?_) (fun r u t H1 locs1 ht hvm hp hB hz1 hk1 hS => ?_)
  · skip
    obtain ⟨hXP, -⟩ := hB
    have hE : E = xIO := (hXP.resolve_right (fun h => z_no h.2.2)).1
    subst hE
    have hO1 : va_P D vwCl (oW J o g) H1 := hO.keep (fun k q hq _ => by rw [oW_of hq]; exact hk1 o (by rw [hsz]; exact hosz) (fun h => h.elim (fun ⟨k, hk, h⟩ => hoa k hk h) (fun h => absurd (hsz ▸ h) (Nat.not_le.mpr hosz))))
    refine vx_catch (own := RL) (name := xIO) hown [] ⟨0, 12, 15, 19⟩ (tableOf [(0, 12, 15, 19), (0, 12, 19, 13)]).tail htab (fun z hz => by cases hz) (by decide) (by decide) (hts (.classLink RL 19 xIO) (by decide +kernel)) (va_Nw.use rfl (hX.1 (.castable xIO xIO) (by decide +kernel))) h1 h2 h3 ?_
    refine lv_astore (lv' := [(5, .ref q9), (0, .ref (ad 0)), (1, .int a1), (2, .int b1), (3, .int c9), (4, .ref o)]) hx hb dL_without_15 hl (by decide) rfl (fun ls hl => ?_)
    refine lv_iconst (v := 1) hx hb dL_without_17 (by decide) ?_
    exact hret 18 ls H1 locs1 _ _ _ g dL_without_18 (by decide) (by decide) (rfl) hO1 hS
  · skip
    obtain ⟨ka, q0, f, h9, -⟩ := hp
    exact absurd ⟨ka, h9⟩ (z_fd _)

abbrev rm_l_drop : Room := { frames := 100, cells := 1, slots := 6, locals := 20000 }
set_option maxHeartbeats 4000000 in
set_option maxRecDepth 100000 in
theorem c_l_drop (l : Launch) (hst : l.stackTraces = false) (D : va_G) (I Z F J : ClassId) (ad sa : Nat → Nat) (o sz : Nat) (g : Nat → Int64) (hI : cI ad) (hoa : ∀ k : Nat, k < 97 → o ≠ ad k) (hosz : o < sz) (a1 : Int32) : Met l yL_drop wsL_drop rm_l_drop (va_Pc [.ref (ad 0), .int a1, .ref o] (lU D I Z F J ad sa o sz (M0k 8) g)) (va_Qi (fun (r : Int32) (u : Nat → Int64) => r = 1) (fun (u : Nat → Int64) t => va_P D vwCl (oW J o u) t.heap) (lA ad o sz)) 1 6 (lA ad o sz) := by
  refine lMet (cc := cL_drop) (maxL := 4) (hh := [(0, 9, 12, 19)]) hI (by decide) rfl rfl (Nat.le_of_ble_eq_true rfl) (lv := [(0, .ref (ad 0)), (1, .int a1), (2, .ref o)]) rfl ?_
  intro p e s m args below meth c Q A ls hsz hA9 hx hb hml hts hown htab hK hJ hN hX hDa hAo hA hW hO hl hret
  refine lv_aload_n hx hb dL_drop_0 rfl (lv_at hl 2 rfl) ?_
  refine lv_iconst (v := 0) hx hb dL_drop_1 (by decide) ?_
  refine lv_aload_n hx hb dL_drop_2 rfl (lv_at hl 0 rfl) ?_
  refine lv_iload_n hx hb dL_drop_3 rfl (lv_at hl 1 rfl) ?_
  refine vx_calli (vx_runV (As := [.int a1]) (rest := [.int 0, .ref o]) ⟨hx, hb, hml, hown, hts⟩ (c_drop l hst D I Z F ad sa hI (M0k 8) s.heap.size  a1) (cwV 1 hts gL_drop_X2_drop rfl rfl rfl (by decide +kernel) ⟨Nat.le_of_ble_eq_true rfl, Nat.le_of_ble_eq_true rfl⟩) (cx_preV hK hN hX hA hDa hW 0 (by decide) (cE_x I Z F ad (M0k 8)) rfl) rfl rfl hl.1 rfl (lv_room (Nat.le_of_ble_eq_true rfl)) dL_drop_4 ⟨Nat.le_of_ble_eq_true rfl, Nat.le_of_ble_eq_true rfl⟩) hW.2 (fun q _ h => hW.2.sub hA hDa q h) (hW.2.sub hA hDa) (fun q _ h => hW.2.sub hA hDa q h) (fun E ce q9 u t H1 locs1 ht hvm hpx hB hz1 hk1 hS h1 h2 h3 => ?_) (fun r u t H1 locs1 ht hvm hp hB hz1 hk1 hS => ?_)
  · skip
    obtain ⟨hXP, -⟩ := hB
    have hE : E = xIO := hXP.1
    subst hE
    have hO1 : va_P D vwCl (oW J o g) H1 := hO.keep (fun k q hq _ => by rw [oW_of hq]; exact hk1 o (by rw [hsz]; exact hosz) (fun h => h.elim (fun ⟨k, hk, h⟩ => hoa k hk h) (fun h => absurd (hsz ▸ h) (Nat.not_le.mpr hosz))))
    refine vx_catch (own := RL) (name := xIO) hown [] ⟨0, 9, 12, 19⟩ (tableOf [(0, 9, 12, 19)]).tail htab (fun z hz => by cases hz) (by decide) (by decide) (hts (.classLink RL 19 xIO) (by decide +kernel)) (va_Nw.use rfl (hX.1 (.castable xIO xIO) (by decide +kernel))) h1 h2 h3 ?_
    refine lv_astore_n (lv' := [(3, .ref q9), (0, .ref (ad 0)), (1, .int a1), (2, .ref o)]) hx hb dL_drop_12 rfl hl (by decide) rfl (fun ls hl => ?_)
    refine lv_iconst (v := 1) hx hb dL_drop_13 (by decide) ?_
    exact hret 14 ls H1 locs1 _ _ _ g dL_drop_14 (by decide) (by decide) (rfl) hO1 hS
  · skip
    obtain ⟨ka, h9, -⟩ := hp
    exact absurd ⟨ka, h9⟩ (z_fd _)

abbrev rm_l_swap : Room := { frames := 100, cells := 1, slots := 6, locals := 20000 }
set_option maxHeartbeats 4000000 in
set_option maxRecDepth 100000 in
theorem c_l_swap (l : Launch) (hst : l.stackTraces = false) (D : va_G) (I Z F J : ClassId) (ad sa : Nat → Nat) (o sz : Nat) (g : Nat → Int64) (hI : cI ad) (hoa : ∀ k : Nat, k < 97 → o ≠ ad k) (hosz : o < sz) (a1 : Int32) : Met l yL_swap wsL_swap rm_l_swap (va_Pc [.ref (ad 0), .int a1, .ref o] (lU D I Z F J ad sa o sz (M0k 8) g)) (va_Qi (fun (r : Int32) (u : Nat → Int64) => (inB a1 7 → r = 0 ∧ u 0 = 0) ∧ (¬ inB a1 7 → r = 1)) (fun (u : Nat → Int64) t => va_P D vwCl (oW J o u) t.heap) (lA ad o sz)) 1 6 (lA ad o sz) := by
  refine lMet (cc := cL_swap) (maxL := 4) (hh := [(0, 9, 12, 19)]) hI (by decide) rfl rfl (Nat.le_of_ble_eq_true rfl) (lv := [(0, .ref (ad 0)), (1, .int a1), (2, .ref o)]) rfl ?_
  intro p e s m args below meth c Q A ls hsz hA9 hx hb hml hts hown htab hK hJ hN hX hDa hAo hA hW hO hl hret
  refine lv_aload_n hx hb dL_swap_0 rfl (lv_at hl 2 rfl) ?_
  refine lv_iconst (v := 0) hx hb dL_swap_1 (by decide) ?_
  refine lv_aload_n hx hb dL_swap_2 rfl (lv_at hl 0 rfl) ?_
  refine lv_iload_n hx hb dL_swap_3 rfl (lv_at hl 1 rfl) ?_
  refine vx_calli (vx_runV (As := [.int a1]) (rest := [.int 0, .ref o]) ⟨hx, hb, hml, hown, hts⟩ (c_swap l hst D I Z F ad sa hI (M0k 8) s.heap.size  a1) (cwV 1 hts gL_swap_X2_swap rfl rfl rfl (by decide +kernel) ⟨Nat.le_of_ble_eq_true rfl, Nat.le_of_ble_eq_true rfl⟩) (cx_preV hK hN hX hA hDa hW 0 (by decide) (cE_x I Z F ad (M0k 8)) rfl) rfl rfl hl.1 rfl (lv_room (Nat.le_of_ble_eq_true rfl)) dL_swap_4 ⟨Nat.le_of_ble_eq_true rfl, Nat.le_of_ble_eq_true rfl⟩) hW.2 (fun q _ h => hW.2.sub hA hDa q h) (hW.2.sub hA hDa) (fun q _ h => hW.2.sub hA hDa q h) (fun E ce q9 u t H1 locs1 ht hvm hpx hB hz1 hk1 hS h1 h2 h3 => ?_) (fun r u t H1 locs1 ht hvm hp hB hz1 hk1 hS => ?_)
  · skip
    obtain ⟨hXP, -⟩ := hB
    obtain ⟨hE, hno⟩ := hXP
    subst hE
    have hO1 : va_P D vwCl (oW J o g) H1 := hO.keep (fun k q hq _ => by rw [oW_of hq]; exact hk1 o (by rw [hsz]; exact hosz) (fun h => h.elim (fun ⟨k, hk, h⟩ => hoa k hk h) (fun h => absurd (hsz ▸ h) (Nat.not_le.mpr hosz))))
    refine vx_catch (own := RL) (name := xIO) hown [] ⟨0, 9, 12, 19⟩ (tableOf [(0, 9, 12, 19)]).tail htab (fun z hz => by cases hz) (by decide) (by decide) (hts (.classLink RL 19 xIO) (by decide +kernel)) (va_Nw.use rfl (hX.1 (.castable xIO xIO) (by decide +kernel))) h1 h2 h3 ?_
    refine lv_astore_n (lv' := [(3, .ref q9), (0, .ref (ad 0)), (1, .int a1), (2, .ref o)]) hx hb dL_swap_12 rfl hl (by decide) rfl (fun ls hl => ?_)
    refine lv_iconst (v := 1) hx hb dL_swap_13 (by decide) ?_
    exact hret 14 ls H1 locs1 _ _ _ g dL_swap_14 (by decide) (by decide) (⟨fun h => absurd h hno, fun _ => rfl⟩) hO1 hS
  · skip
    have hO1 : va_P D vwCl (oW J o g) H1 := hO.keep (fun k q hq _ => by rw [oW_of hq]; exact hk1 o (by rw [hsz]; exact hosz) (fun h => h.elim (fun ⟨k, hk, h⟩ => hoa k hk h) (fun h => absurd (hsz ▸ h) (Nat.not_le.mpr hosz))))
    obtain ⟨p0, hp0, h9, h7, h8⟩ := hp
    rw [h7, z_sw] at h8
    subst h8
    have hin : inB a1 7 := ⟨p0, hp0, h9⟩
    refine lv_i2l hx hb dL_swap_7 rfl ?_
    refine va_last (ws := oW J o g) hx hb hJ hO1 (oW_d hAo) hS 0 0 rfl rfl (show vp_in 0 1 from vp_in_nI (n := 0) (by decide) (by decide)) dL_swap_8 (fun H2 locs2 hP2 _ hS2 => ?_)
    refine lv_goto (tgt := 15) hx hb dL_swap_9 (by decide) ?_
    refine lv_iconst (v := 0) hx hb dL_swap_15 (by decide) ?_
    exact hret 16 ls H2 locs2 _ _ _ (vp_updL g (0 : Int32).toNatClampNeg ((0 : Int32).toInt64)) dL_swap_16 (by decide) (by decide) (⟨fun _ => ⟨rfl, by show vp_updL g 0 _ 0 = _; rw [pk_uLs]; rfl⟩, fun h => absurd hin h⟩) hP2 hS2

abbrev rm_l_order : Room := { frames := 100, cells := 1, slots := 6, locals := 20000 }
set_option maxHeartbeats 4000000 in
set_option maxRecDepth 100000 in
theorem c_l_order (l : Launch) (hst : l.stackTraces = false) (D : va_G) (I Z F J : ClassId) (ad sa : Nat → Nat) (o sz : Nat) (g : Nat → Int64) (hI : cI ad) (hoa : ∀ k : Nat, k < 97 → o ≠ ad k) (hosz : o < sz) (a1 : Int32) : Met l yL_order wsL_order rm_l_order (va_Pc [.ref (ad 0), .int a1, .ref o] (lU D I Z F J ad sa o sz (M0k 8) g)) (va_Qi (fun (r : Int32) (u : Nat → Int64) => (∀ p0 : Nat, p0 < 8 → a1 = nI p0 → r = 0 ∧ u 0 = (M3k 3 p0).toInt64) ∧ (¬ inB a1 8 → r = 1)) (fun (u : Nat → Int64) t => va_P D vwCl (oW J o u) t.heap) (lA ad o sz)) 1 6 (lA ad o sz) := by
  refine lMet (cc := cL_order) (maxL := 4) (hh := [(0, 9, 12, 19)]) hI (by decide) rfl rfl (Nat.le_of_ble_eq_true rfl) (lv := [(0, .ref (ad 0)), (1, .int a1), (2, .ref o)]) rfl ?_
  intro p e s m args below meth c Q A ls hsz hA9 hx hb hml hts hown htab hK hJ hN hX hDa hAo hA hW hO hl hret
  refine lv_aload_n hx hb dL_order_0 rfl (lv_at hl 2 rfl) ?_
  refine lv_iconst (v := 0) hx hb dL_order_1 (by decide) ?_
  refine lv_aload_n hx hb dL_order_2 rfl (lv_at hl 0 rfl) ?_
  refine lv_iload_n hx hb dL_order_3 rfl (lv_at hl 1 rfl) ?_
  refine vx_calli (vx_runV (As := [.int a1]) (rest := [.int 0, .ref o]) ⟨hx, hb, hml, hown, hts⟩ (c_order l hst D I Z F ad sa hI (M0k 8) s.heap.size  a1) (cwV 1 hts gL_order_X2_order rfl rfl rfl (by decide +kernel) ⟨Nat.le_of_ble_eq_true rfl, Nat.le_of_ble_eq_true rfl⟩) (cx_preV hK hN hX hA hDa hW 0 (by decide) (cE_x I Z F ad (M0k 8)) rfl) rfl rfl hl.1 rfl (lv_room (Nat.le_of_ble_eq_true rfl)) dL_order_4 ⟨Nat.le_of_ble_eq_true rfl, Nat.le_of_ble_eq_true rfl⟩) hW.2 (fun q _ h => hW.2.sub hA hDa q h) (hW.2.sub hA hDa) (fun q _ h => hW.2.sub hA hDa q h) (fun E ce q9 u t H1 locs1 ht hvm hpx hB hz1 hk1 hS h1 h2 h3 => ?_) (fun r u t H1 locs1 ht hvm hp hB hz1 hk1 hS => ?_)
  · skip
    obtain ⟨hXP, -⟩ := hB
    obtain ⟨hE, hno⟩ := hXP
    subst hE
    have hO1 : va_P D vwCl (oW J o g) H1 := hO.keep (fun k q hq _ => by rw [oW_of hq]; exact hk1 o (by rw [hsz]; exact hosz) (fun h => h.elim (fun ⟨k, hk, h⟩ => hoa k hk h) (fun h => absurd (hsz ▸ h) (Nat.not_le.mpr hosz))))
    refine vx_catch (own := RL) (name := xIO) hown [] ⟨0, 9, 12, 19⟩ (tableOf [(0, 9, 12, 19)]).tail htab (fun z hz => by cases hz) (by decide) (by decide) (hts (.classLink RL 19 xIO) (by decide +kernel)) (va_Nw.use rfl (hX.1 (.castable xIO xIO) (by decide +kernel))) h1 h2 h3 ?_
    refine lv_astore_n (lv' := [(3, .ref q9), (0, .ref (ad 0)), (1, .int a1), (2, .ref o)]) hx hb dL_order_12 rfl hl (by decide) rfl (fun ls hl => ?_)
    refine lv_iconst (v := 1) hx hb dL_order_13 (by decide) ?_
    exact hret 14 ls H1 locs1 _ _ _ g dL_order_14 (by decide) (by decide) (⟨fun p0 h1 h2 => absurd ⟨p0, h1, h2⟩ hno, fun _ => rfl⟩) hO1 hS
  · skip
    have hO1 : va_P D vwCl (oW J o g) H1 := hO.keep (fun k q hq _ => by rw [oW_of hq]; exact hk1 o (by rw [hsz]; exact hosz) (fun h => h.elim (fun ⟨k, hk, h⟩ => hoa k hk h) (fun h => absurd (hsz ▸ h) (Nat.not_le.mpr hosz))))
    obtain ⟨p0, hp0, h9, -, h8⟩ := hp
    rw [z_or] at h8
    subst h8
    refine lv_i2l hx hb dL_order_7 rfl ?_
    refine va_last (ws := oW J o g) hx hb hJ hO1 (oW_d hAo) hS 0 0 rfl rfl (show vp_in 0 1 from vp_in_nI (n := 0) (by decide) (by decide)) dL_order_8 (fun H2 locs2 hP2 _ hS2 => ?_)
    refine lv_goto (tgt := 15) hx hb dL_order_9 (by decide) ?_
    refine lv_iconst (v := 0) hx hb dL_order_15 (by decide) ?_
    exact hret 16 ls H2 locs2 _ _ _ (vp_updL g (0 : Int32).toNatClampNeg ((M3k 3 p0).toInt64)) dL_order_16 (by decide) (by decide) (⟨fun q0 h1 h2 => ⟨rfl, by obtain rfl : p0 = q0 := (nI_eq (by omega) (by omega)).mp (h9.symm.trans h2); show vp_updL g 0 _ 0 = _; rw [pk_uLs]⟩, fun h => absurd ⟨p0, hp0, h9⟩ h⟩) hP2 hS2

abbrev rm_l_says : Room := { frames := 100, cells := 2, slots := 12, locals := 20000 }
set_option maxHeartbeats 4000000 in
set_option maxRecDepth 100000 in
theorem c_l_says (l : Launch) (hst : l.stackTraces = false) (D : va_G) (I Z F J : ClassId) (ad sa : Nat → Nat) (o sz : Nat) (g : Nat → Int64) (hI : cI ad) (hoa : ∀ k : Nat, k < 97 → o ≠ ad k) (hosz : o < sz) (a1 b1 : Int32) : Met l yL_says wsL_says rm_l_says (va_Pc [.ref (ad 0), .int a1, .int b1, .ref o] (lU D I Z F J ad sa o sz (M0k 8) g)) (va_Qi (fun (r : Int32) (u : Nat → Int64) => r = 1) (fun (u : Nat → Int64) t => va_P D vwCl (oW J o u) t.heap) (lA ad o sz)) 2 12 (lA ad o sz) := by
  refine lMet (cc := cL_says) (maxL := 5) (hh := [(0, 17, 20, 19), (0, 17, 24, 48)]) hI (by decide) rfl rfl (Nat.le_of_ble_eq_true rfl) (lv := [(0, .ref (ad 0)), (1, .int a1), (2, .int b1), (3, .ref o)]) rfl ?_
  intro p e s m args below meth c Q A ls hsz hA9 hx hb hml hts hown htab hK hJ hN hX hDa hAo hA hW hO hl hret
  refine lv_aload_n hx hb dL_says_0 rfl (lv_at hl 3 rfl) ?_
  refine lv_iconst (v := 0) hx hb dL_says_1 (by decide) ?_
  refine lv_aload_n hx hb dL_says_2 rfl (lv_at hl 0 rfl) ?_
  refine lv_iload_n hx hb dL_says_3 rfl (lv_at hl 1 rfl) ?_
  refine lv_iload_n hx hb dL_says_4 rfl (lv_at hl 2 rfl) ?_
  refine vx_calli (vx_runV (As := [.int a1, .int b1]) (rest := [.int 0, .ref o]) ⟨hx, hb, hml, hown, hts⟩ (c_says l hst D I Z F ad sa hI (M0k 8) s.heap.size z_ys a1 b1) (cwV 2 hts gL_says_X2_says rfl rfl rfl (by decide +kernel) ⟨Nat.le_of_ble_eq_true rfl, Nat.le_of_ble_eq_true rfl⟩) (cx_preV hK hN hX hA hDa hW 0 (by decide) (cE_x I Z F ad (M0k 8)) rfl) rfl rfl hl.1 rfl (lv_room (Nat.le_of_ble_eq_true rfl)) dL_says_5 ⟨Nat.le_of_ble_eq_true rfl, Nat.le_of_ble_eq_true rfl⟩) hW.2 (fun q _ h => hW.2.sub hA hDa q h) (hW.2.sub hA hDa) (fun q _ h => hW.2.sub hA hDa q h) (fun E ce q9 u t H1 locs1 ht hvm hpx hB hz1 hk1 hS h1 h2 h3 => ?_) (fun r u t H1 locs1 ht hvm hp hB hz1 hk1 hS => ?_)
  · skip
    obtain ⟨hXP, -⟩ := hB
    have hE : E = xIO := (hXP.resolve_right (fun h => z_fd _ h.2.1)).1
    subst hE
    have hO1 : va_P D vwCl (oW J o g) H1 := hO.keep (fun k q hq _ => by rw [oW_of hq]; exact hk1 o (by rw [hsz]; exact hosz) (fun h => h.elim (fun ⟨k, hk, h⟩ => hoa k hk h) (fun h => absurd (hsz ▸ h) (Nat.not_le.mpr hosz))))
    refine vx_catch (own := RL) (name := xIO) hown [] ⟨0, 17, 20, 19⟩ (tableOf [(0, 17, 20, 19), (0, 17, 24, 48)]).tail htab (fun z hz => by cases hz) (by decide) (by decide) (hts (.classLink RL 19 xIO) (by decide +kernel)) (va_Nw.use rfl (hX.1 (.castable xIO xIO) (by decide +kernel))) h1 h2 h3 ?_
    refine lv_astore (lv' := [(4, .ref q9), (0, .ref (ad 0)), (1, .int a1), (2, .int b1), (3, .ref o)]) hx hb dL_says_20 hl (by decide) rfl (fun ls hl => ?_)
    refine lv_iconst (v := 1) hx hb dL_says_22 (by decide) ?_
    exact hret 23 ls H1 locs1 _ _ _ g dL_says_23 (by decide) (by decide) (rfl) hO1 hS
  · skip
    obtain ⟨ka, j, h9, -⟩ := hp
    exact absurd ⟨ka, h9⟩ (z_fd _)

abbrev rm_l_fork : Room := { frames := 100, cells := 3, slots := 18, locals := 20000 }
set_option maxHeartbeats 4000000 in
set_option maxRecDepth 100000 in
theorem c_l_fork (l : Launch) (hst : l.stackTraces = false) (D : va_G) (I Z F J : ClassId) (ad sa : Nat → Nat) (o sz : Nat) (g : Nat → Int64) (hI : cI ad) (hoa : ∀ k : Nat, k < 97 → o ≠ ad k) (hosz : o < sz) (a1 b1 c9 : Int32) : Met l yL_fork wsL_fork rm_l_fork (va_Pc [.ref (ad 0), .int a1, .int b1, .int c9, .ref o] (lU D I Z F J ad sa o sz (M0k 8) g)) (va_Qi (fun (r : Int32) (u : Nat → Int64) => r = 1) (fun (u : Nat → Int64) t => va_P D vwCl (oW J o u) t.heap) (lA ad o sz)) 3 18 (lA ad o sz) := by
  refine lMet (cc := cL_fork) (maxL := 6) (hh := [(0, 12, 15, 19)]) hI (by decide) rfl rfl (Nat.le_of_ble_eq_true rfl) (lv := [(0, .ref (ad 0)), (1, .int a1), (2, .int b1), (3, .int c9), (4, .ref o)]) rfl ?_
  intro p e s m args below meth c Q A ls hsz hA9 hx hb hml hts hown htab hK hJ hN hX hDa hAo hA hW hO hl hret
  refine lv_aload hx hb dL_fork_0 (lv_at hl 4 rfl) ?_
  refine lv_iconst (v := 0) hx hb dL_fork_2 (by decide) ?_
  refine lv_aload_n hx hb dL_fork_3 rfl (lv_at hl 0 rfl) ?_
  refine lv_iload_n hx hb dL_fork_4 rfl (lv_at hl 1 rfl) ?_
  refine lv_iload_n hx hb dL_fork_5 rfl (lv_at hl 2 rfl) ?_
  refine lv_iload_n hx hb dL_fork_6 rfl (lv_at hl 3 rfl) ?_
  refine vx_calli (vx_runV (As := [.int a1, .int b1, .int c9]) (rest := [.int 0, .ref o]) ⟨hx, hb, hml, hown, hts⟩ (c_fork l hst D I Z F ad sa hI (M0k 8) s.heap.size 0 z_rs a1 b1 c9) (cwV 3 hts gL_fork_X2_fork rfl rfl rfl (by decide +kernel) ⟨Nat.le_of_ble_eq_true rfl, Nat.le_of_ble_eq_true rfl⟩) (cx_preV hK hN hX hA hDa hW 0 (by decide) (cE_x I Z F ad (M0k 8)) rfl) rfl rfl hl.1 rfl (lv_room (Nat.le_of_ble_eq_true rfl)) dL_fork_7 ⟨Nat.le_of_ble_eq_true rfl, Nat.le_of_ble_eq_true rfl⟩) hW.2 (fun q _ h => hW.2.sub hA hDa q h) (hW.2.sub hA hDa) (fun q _ h => hW.2.sub hA hDa q h) (fun E ce q9 u t H1 locs1 ht hvm hpx hB hz1 hk1 hS h1 h2 h3 => ?_) (fun r u t H1 locs1 ht hvm hp hB hz1 hk1 hS => ?_)
  · skip
    obtain ⟨hXP, -⟩ := hB
    have hE : E = xIO := hXP.1
    subst hE
    have hO1 : va_P D vwCl (oW J o g) H1 := hO.keep (fun k q hq _ => by rw [oW_of hq]; exact hk1 o (by rw [hsz]; exact hosz) (fun h => h.elim (fun ⟨k, hk, h⟩ => hoa k hk h) (fun h => absurd (hsz ▸ h) (Nat.not_le.mpr hosz))))
    refine vx_catch (own := RL) (name := xIO) hown [] ⟨0, 12, 15, 19⟩ (tableOf [(0, 12, 15, 19)]).tail htab (fun z hz => by cases hz) (by decide) (by decide) (hts (.classLink RL 19 xIO) (by decide +kernel)) (va_Nw.use rfl (hX.1 (.castable xIO xIO) (by decide +kernel))) h1 h2 h3 ?_
    refine lv_astore (lv' := [(5, .ref q9), (0, .ref (ad 0)), (1, .int a1), (2, .int b1), (3, .int c9), (4, .ref o)]) hx hb dL_fork_15 hl (by decide) rfl (fun ls hl => ?_)
    refine lv_iconst (v := 1) hx hb dL_fork_17 (by decide) ?_
    exact hret 18 ls H1 locs1 _ _ _ g dL_fork_18 (by decide) (by decide) (rfl) hO1 hS
  · skip
    obtain ⟨ka, z, i, wh, h9, -⟩ := hp
    exact absurd ⟨ka, h9⟩ (z_fd _)

abbrev rm_l_about : Room := { frames := 100, cells := 2, slots := 12, locals := 20000 }
set_option maxHeartbeats 4000000 in
set_option maxRecDepth 100000 in
theorem c_l_about (l : Launch) (hst : l.stackTraces = false) (D : va_G) (I Z F J : ClassId) (ad sa : Nat → Nat) (o sz : Nat) (g : Nat → Int64) (hI : cI ad) (hoa : ∀ k : Nat, k < 97 → o ≠ ad k) (hosz : o < sz) (a1 b1 : Int32) : Met l yL_about wsL_about rm_l_about (va_Pc [.ref (ad 0), .int a1, .int b1, .ref o] (lU D I Z F J ad sa o sz (M0k 8) g)) (va_Qi (fun (r : Int32) (u : Nat → Int64) => r = 1) (fun (u : Nat → Int64) t => va_P D vwCl (oW J o u) t.heap) (lA ad o sz)) 2 12 (lA ad o sz) := by
  refine lMet (cc := cL_about) (maxL := 5) (hh := [(0, 10, 13, 19)]) hI (by decide) rfl rfl (Nat.le_of_ble_eq_true rfl) (lv := [(0, .ref (ad 0)), (1, .int a1), (2, .int b1), (3, .ref o)]) rfl ?_
  intro p e s m args below meth c Q A ls hsz hA9 hx hb hml hts hown htab hK hJ hN hX hDa hAo hA hW hO hl hret
  refine lv_aload_n hx hb dL_about_0 rfl (lv_at hl 3 rfl) ?_
  refine lv_iconst (v := 0) hx hb dL_about_1 (by decide) ?_
  refine lv_aload_n hx hb dL_about_2 rfl (lv_at hl 0 rfl) ?_
  refine lv_iload_n hx hb dL_about_3 rfl (lv_at hl 1 rfl) ?_
  refine lv_iload_n hx hb dL_about_4 rfl (lv_at hl 2 rfl) ?_
  refine vx_calli (vx_runV (As := [.int a1, .int b1]) (rest := [.int 0, .ref o]) ⟨hx, hb, hml, hown, hts⟩ (c_about l hst D I Z F ad sa hI (M0k 8) s.heap.size 0 z_rs a1 b1) (cwV 2 hts gL_about_X2_about rfl rfl rfl (by decide +kernel) ⟨Nat.le_of_ble_eq_true rfl, Nat.le_of_ble_eq_true rfl⟩) (cx_preV hK hN hX hA hDa hW 0 (by decide) (cE_x I Z F ad (M0k 8)) rfl) rfl rfl hl.1 rfl (lv_room (Nat.le_of_ble_eq_true rfl)) dL_about_5 ⟨Nat.le_of_ble_eq_true rfl, Nat.le_of_ble_eq_true rfl⟩) hW.2 (fun q _ h => hW.2.sub hA hDa q h) (hW.2.sub hA hDa) (fun q _ h => hW.2.sub hA hDa q h) (fun E ce q9 u t H1 locs1 ht hvm hpx hB hz1 hk1 hS h1 h2 h3 => ?_) (fun r u t H1 locs1 ht hvm hp hB hz1 hk1 hS => ?_)
  · skip
    obtain ⟨hXP, -⟩ := hB
    have hE : E = xIO := hXP.1
    subst hE
    have hO1 : va_P D vwCl (oW J o g) H1 := hO.keep (fun k q hq _ => by rw [oW_of hq]; exact hk1 o (by rw [hsz]; exact hosz) (fun h => h.elim (fun ⟨k, hk, h⟩ => hoa k hk h) (fun h => absurd (hsz ▸ h) (Nat.not_le.mpr hosz))))
    refine vx_catch (own := RL) (name := xIO) hown [] ⟨0, 10, 13, 19⟩ (tableOf [(0, 10, 13, 19)]).tail htab (fun z hz => by cases hz) (by decide) (by decide) (hts (.classLink RL 19 xIO) (by decide +kernel)) (va_Nw.use rfl (hX.1 (.castable xIO xIO) (by decide +kernel))) h1 h2 h3 ?_
    refine lv_astore (lv' := [(4, .ref q9), (0, .ref (ad 0)), (1, .int a1), (2, .int b1), (3, .ref o)]) hx hb dL_about_13 hl (by decide) rfl (fun ls hl => ?_)
    refine lv_iconst (v := 1) hx hb dL_about_15 (by decide) ?_
    exact hret 16 ls H1 locs1 _ _ _ g dL_about_16 (by decide) (by decide) (rfl) hO1 hS
  · skip
    obtain ⟨ka, z, wh, h9, -⟩ := hp
    exact absurd ⟨ka, h9⟩ (z_fd _)

abbrev rm_l_asked : Room := { frames := 100, cells := 1, slots := 6, locals := 20000 }
set_option maxHeartbeats 4000000 in
set_option maxRecDepth 100000 in
theorem c_l_asked (l : Launch) (hst : l.stackTraces = false) (D : va_G) (I Z F J : ClassId) (ad sa : Nat → Nat) (o sz : Nat) (g : Nat → Int64) (hI : cI ad) (hoa : ∀ k : Nat, k < 97 → o ≠ ad k) (hosz : o < sz) (a1 : Int32) (w : Nat) : Met l yL_asked wsL_asked rm_l_asked (va_Pc [.ref (ad 0), .int a1, .ref w] (lU D I Z F J ad sa o sz (M0k 8) g)) (va_Qi (fun (r : Int32) (u : Nat → Int64) => r = 1) (fun (u : Nat → Int64) t => va_P D vwCl (oW J o u) t.heap) (lA ad o sz)) 1 6 (lA ad o sz) := by
  refine lMet (cc := cL_asked) (maxL := 4) (hh := [(0, 8, 11, 19)]) hI (by decide) rfl rfl (Nat.le_of_ble_eq_true rfl) (lv := [(0, .ref (ad 0)), (1, .int a1), (2, .ref w)]) rfl ?_
  intro p e s m args below meth c Q A ls hsz hA9 hx hb hml hts hown htab hK hJ hN hX hDa hAo hA hW hO hl hret
  refine lv_aload_n hx hb dL_asked_0 rfl (lv_at hl 2 rfl) ?_
  refine lv_iconst (v := 0) hx hb dL_asked_1 (by decide) ?_
  refine lv_aload_n hx hb dL_asked_2 rfl (lv_at hl 0 rfl) ?_
  refine lv_iload_n hx hb dL_asked_3 rfl (lv_at hl 1 rfl) ?_
  refine vx_calld (vx_runV (As := [.int a1]) (rest := [.int 0, .ref w]) ⟨hx, hb, hml, hown, hts⟩ (c_asked l hst D I Z F ad sa hI (M0k 8) s.heap.size 0 z_rs a1) (cwV 1 hts gL_asked_X2_asked rfl rfl rfl (by decide +kernel) ⟨Nat.le_of_ble_eq_true rfl, Nat.le_of_ble_eq_true rfl⟩) (cx_preV hK hN hX hA hDa hW 0 (by decide) (cE_x I Z F ad (M0k 8)) rfl) rfl rfl hl.1 rfl (lv_room (Nat.le_of_ble_eq_true rfl)) dL_asked_4 ⟨Nat.le_of_ble_eq_true rfl, Nat.le_of_ble_eq_true rfl⟩) hW.2 (fun q _ h => hW.2.sub hA hDa q h) (hW.2.sub hA hDa) (fun q _ h => hW.2.sub hA hDa q h) (fun E ce q9 u t H1 locs1 ht hvm hpx hB hz1 hk1 hS h1 h2 h3 => ?_) (fun r u t H1 locs1 ht hvm hp hB hz1 hk1 hS => ?_)
  · skip
    obtain ⟨hXP, -⟩ := hB
    have hE : E = xIO := hXP.1
    subst hE
    have hO1 : va_P D vwCl (oW J o g) H1 := hO.keep (fun k q hq _ => by rw [oW_of hq]; exact hk1 o (by rw [hsz]; exact hosz) (fun h => h.elim (fun ⟨k, hk, h⟩ => hoa k hk h) (fun h => absurd (hsz ▸ h) (Nat.not_le.mpr hosz))))
    refine vx_catch (own := RL) (name := xIO) hown [] ⟨0, 8, 11, 19⟩ (tableOf [(0, 8, 11, 19)]).tail htab (fun z hz => by cases hz) (by decide) (by decide) (hts (.classLink RL 19 xIO) (by decide +kernel)) (va_Nw.use rfl (hX.1 (.castable xIO xIO) (by decide +kernel))) h1 h2 h3 ?_
    refine lv_astore_n (lv' := [(3, .ref q9), (0, .ref (ad 0)), (1, .int a1), (2, .ref w)]) hx hb dL_asked_11 rfl hl (by decide) rfl (fun ls hl => ?_)
    refine lv_iconst (v := 1) hx hb dL_asked_12 (by decide) ?_
    exact hret 13 ls H1 locs1 _ _ _ g dL_asked_13 (by decide) (by decide) (rfl) hO1 hS
  · skip
    obtain ⟨ka, h9, -⟩ := hp
    exact absurd ⟨ka, h9⟩ (z_fd _)

abbrev rm_l_compare : Room := { frames := 100, cells := 2, slots := 12, locals := 20000 }
set_option maxHeartbeats 4000000 in
set_option maxRecDepth 100000 in
theorem c_l_compare (l : Launch) (hst : l.stackTraces = false) (D : va_G) (I Z F J : ClassId) (ad sa : Nat → Nat) (o sz : Nat) (g : Nat → Int64) (hI : cI ad) (hoa : ∀ k : Nat, k < 97 → o ≠ ad k) (hosz : o < sz) (a1 b1 : Int32) : Met l yL_compare wsL_compare rm_l_compare (va_Pc [.ref (ad 0), .int a1, .int b1, .ref o] (lU D I Z F J ad sa o sz (M0k 8) g)) (va_Qi (fun (r : Int32) (u : Nat → Int64) => r = 1) (fun (u : Nat → Int64) t => va_P D vwCl (oW J o u) t.heap) (lA ad o sz)) 2 12 (lA ad o sz) := by
  refine lMet (cc := cL_compare) (maxL := 5) (hh := [(0, 10, 13, 19)]) hI (by decide) rfl rfl (Nat.le_of_ble_eq_true rfl) (lv := [(0, .ref (ad 0)), (1, .int a1), (2, .int b1), (3, .ref o)]) rfl ?_
  intro p e s m args below meth c Q A ls hsz hA9 hx hb hml hts hown htab hK hJ hN hX hDa hAo hA hW hO hl hret
  refine lv_aload_n hx hb dL_compare_0 rfl (lv_at hl 3 rfl) ?_
  refine lv_iconst (v := 0) hx hb dL_compare_1 (by decide) ?_
  refine lv_aload_n hx hb dL_compare_2 rfl (lv_at hl 0 rfl) ?_
  refine lv_iload_n hx hb dL_compare_3 rfl (lv_at hl 1 rfl) ?_
  refine lv_iload_n hx hb dL_compare_4 rfl (lv_at hl 2 rfl) ?_
  refine vx_calli (vx_runV (As := [.int a1, .int b1]) (rest := [.int 0, .ref o]) ⟨hx, hb, hml, hown, hts⟩ (c_compare l hst D I Z F ad sa hI (M0k 8) s.heap.size  a1 b1) (cwV 2 hts gL_compare_X2_compare rfl rfl rfl (by decide +kernel) ⟨Nat.le_of_ble_eq_true rfl, Nat.le_of_ble_eq_true rfl⟩) (cx_preV hK hN hX hA hDa hW 0 (by decide) (cE_x I Z F ad (M0k 8)) rfl) rfl rfl hl.1 rfl (lv_room (Nat.le_of_ble_eq_true rfl)) dL_compare_5 ⟨Nat.le_of_ble_eq_true rfl, Nat.le_of_ble_eq_true rfl⟩) hW.2 (fun q _ h => hW.2.sub hA hDa q h) (hW.2.sub hA hDa) (fun q _ h => hW.2.sub hA hDa q h) (fun E ce q9 u t H1 locs1 ht hvm hpx hB hz1 hk1 hS h1 h2 h3 => ?_) (fun r u t H1 locs1 ht hvm hp hB hz1 hk1 hS => ?_)
  · skip
    obtain ⟨hXP, -⟩ := hB
    have hE : E = xIO := hXP.1
    subst hE
    have hO1 : va_P D vwCl (oW J o g) H1 := hO.keep (fun k q hq _ => by rw [oW_of hq]; exact hk1 o (by rw [hsz]; exact hosz) (fun h => h.elim (fun ⟨k, hk, h⟩ => hoa k hk h) (fun h => absurd (hsz ▸ h) (Nat.not_le.mpr hosz))))
    refine vx_catch (own := RL) (name := xIO) hown [] ⟨0, 10, 13, 19⟩ (tableOf [(0, 10, 13, 19)]).tail htab (fun z hz => by cases hz) (by decide) (by decide) (hts (.classLink RL 19 xIO) (by decide +kernel)) (va_Nw.use rfl (hX.1 (.castable xIO xIO) (by decide +kernel))) h1 h2 h3 ?_
    refine lv_astore (lv' := [(4, .ref q9), (0, .ref (ad 0)), (1, .int a1), (2, .int b1), (3, .ref o)]) hx hb dL_compare_13 hl (by decide) rfl (fun ls hl => ?_)
    refine lv_iconst (v := 1) hx hb dL_compare_15 (by decide) ?_
    exact hret 16 ls H1 locs1 _ _ _ g dL_compare_16 (by decide) (by decide) (rfl) hO1 hS
  · skip
    obtain ⟨ka, kb, h9, -⟩ := hp
    exact absurd ⟨ka, h9⟩ (z_fd _)

abbrev rm_l_count : Room := { frames := 100, cells := 1, slots := 6, locals := 20000 }
set_option maxHeartbeats 4000000 in
set_option maxRecDepth 100000 in
theorem c_l_count (l : Launch) (hst : l.stackTraces = false) (D : va_G) (I Z F J : ClassId) (ad sa : Nat → Nat) (o sz : Nat) (g : Nat → Int64) (hI : cI ad) (hoa : ∀ k : Nat, k < 97 → o ≠ ad k) (hosz : o < sz) (a1 : Int32) : Met l yL_count wsL_count rm_l_count (va_Pc [.ref (ad 0), .int a1, .ref o] (lU D I Z F J ad sa o sz (M0k 8) g)) (va_Qi (fun (r : Int32) (u : Nat → Int64) => (inB a1 5 → r = 0 ∧ u 0 = 0) ∧ (¬ inB a1 5 → r = 1)) (fun (u : Nat → Int64) t => va_P D vwCl (oW J o u) t.heap) (lA ad o sz)) 1 6 (lA ad o sz) := by
  refine lMet (cc := cL_count) (maxL := 4) (hh := [(0, 9, 12, 19)]) hI (by decide) rfl rfl (Nat.le_of_ble_eq_true rfl) (lv := [(0, .ref (ad 0)), (1, .int a1), (2, .ref o)]) rfl ?_
  intro p e s m args below meth c Q A ls hsz hA9 hx hb hml hts hown htab hK hJ hN hX hDa hAo hA hW hO hl hret
  refine lv_aload_n hx hb dL_count_0 rfl (lv_at hl 2 rfl) ?_
  refine lv_iconst (v := 0) hx hb dL_count_1 (by decide) ?_
  refine lv_aload_n hx hb dL_count_2 rfl (lv_at hl 0 rfl) ?_
  refine lv_iload_n hx hb dL_count_3 rfl (lv_at hl 1 rfl) ?_
  refine vx_calli (vx_runV (As := [.int a1]) (rest := [.int 0, .ref o]) ⟨hx, hb, hml, hown, hts⟩ (c_count l hst D I Z F ad sa hI (M0k 8) s.heap.size 0 z_rs a1) (cwV 1 hts gL_count_X2_count rfl rfl rfl (by decide +kernel) ⟨Nat.le_of_ble_eq_true rfl, Nat.le_of_ble_eq_true rfl⟩) (cx_preV hK hN hX hA hDa hW 0 (by decide) (cE_x I Z F ad (M0k 8)) rfl) rfl rfl hl.1 rfl (lv_room (Nat.le_of_ble_eq_true rfl)) dL_count_4 ⟨Nat.le_of_ble_eq_true rfl, Nat.le_of_ble_eq_true rfl⟩) hW.2 (fun q _ h => hW.2.sub hA hDa q h) (hW.2.sub hA hDa) (fun q _ h => hW.2.sub hA hDa q h) (fun E ce q9 u t H1 locs1 ht hvm hpx hB hz1 hk1 hS h1 h2 h3 => ?_) (fun r u t H1 locs1 ht hvm hp hB hz1 hk1 hS => ?_)
  · skip
    obtain ⟨hXP, -⟩ := hB
    obtain ⟨hE, hno⟩ := hXP
    subst hE
    have hO1 : va_P D vwCl (oW J o g) H1 := hO.keep (fun k q hq _ => by rw [oW_of hq]; exact hk1 o (by rw [hsz]; exact hosz) (fun h => h.elim (fun ⟨k, hk, h⟩ => hoa k hk h) (fun h => absurd (hsz ▸ h) (Nat.not_le.mpr hosz))))
    refine vx_catch (own := RL) (name := xIO) hown [] ⟨0, 9, 12, 19⟩ (tableOf [(0, 9, 12, 19)]).tail htab (fun z hz => by cases hz) (by decide) (by decide) (hts (.classLink RL 19 xIO) (by decide +kernel)) (va_Nw.use rfl (hX.1 (.castable xIO xIO) (by decide +kernel))) h1 h2 h3 ?_
    refine lv_astore_n (lv' := [(3, .ref q9), (0, .ref (ad 0)), (1, .int a1), (2, .ref o)]) hx hb dL_count_12 rfl hl (by decide) rfl (fun ls hl => ?_)
    refine lv_iconst (v := 1) hx hb dL_count_13 (by decide) ?_
    exact hret 14 ls H1 locs1 _ _ _ g dL_count_14 (by decide) (by decide) (⟨fun h => absurd h hno, fun _ => rfl⟩) hO1 hS
  · skip
    have hO1 : va_P D vwCl (oW J o g) H1 := hO.keep (fun k q hq _ => by rw [oW_of hq]; exact hk1 o (by rw [hsz]; exact hosz) (fun h => h.elim (fun ⟨k, hk, h⟩ => hoa k hk h) (fun h => absurd (hsz ▸ h) (Nat.not_le.mpr hosz))))
    obtain ⟨wh, hwh, h9, -, h8⟩ := hp
    rw [z_tc hwh] at h8
    subst h8
    have hin : inB a1 5 := ⟨wh, hwh, h9⟩
    refine lv_i2l hx hb dL_count_7 rfl ?_
    refine va_last (ws := oW J o g) hx hb hJ hO1 (oW_d hAo) hS 0 0 rfl rfl (show vp_in 0 1 from vp_in_nI (n := 0) (by decide) (by decide)) dL_count_8 (fun H2 locs2 hP2 _ hS2 => ?_)
    refine lv_goto (tgt := 15) hx hb dL_count_9 (by decide) ?_
    refine lv_iconst (v := 0) hx hb dL_count_15 (by decide) ?_
    exact hret 16 ls H2 locs2 _ _ _ (vp_updL g (0 : Int32).toNatClampNeg ((0 : Int32).toInt64)) dL_count_16 (by decide) (by decide) (⟨fun _ => ⟨rfl, by show vp_updL g 0 _ 0 = _; rw [pk_uLs]; rfl⟩, fun h => absurd hin h⟩) hP2 hS2

abbrev rm_l_has : Room := { frames := 100, cells := 1, slots := 6, locals := 20000 }
set_option maxHeartbeats 4000000 in
set_option maxRecDepth 100000 in
theorem c_l_has (l : Launch) (hst : l.stackTraces = false) (D : va_G) (I Z F J : ClassId) (ad sa : Nat → Nat) (o sz : Nat) (g : Nat → Int64) (hI : cI ad) (hoa : ∀ k : Nat, k < 97 → o ≠ ad k) (hosz : o < sz) (a1 : Int32) : Met l yL_has wsL_has rm_l_has (va_Pc [.ref (ad 0), .int a1, .ref o] (lU D I Z F J ad sa o sz (M0k 8) g)) (va_Qi (fun (r : Int32) (u : Nat → Int64) => (inB a1 12 → r = 0 ∧ u 0 = 0) ∧ (¬ inB a1 12 → r = 1)) (fun (u : Nat → Int64) t => va_P D vwCl (oW J o u) t.heap) (lA ad o sz)) 1 6 (lA ad o sz) := by
  refine lMet (cc := cL_has) (maxL := 4) (hh := [(0, 16, 19, 19)]) hI (by decide) rfl rfl (Nat.le_of_ble_eq_true rfl) (lv := [(0, .ref (ad 0)), (1, .int a1), (2, .ref o)]) rfl ?_
  intro p e s m args below meth c Q A ls hsz hA9 hx hb hml hts hown htab hK hJ hN hX hDa hAo hA hW hO hl hret
  refine lv_aload_n hx hb dL_has_0 rfl (lv_at hl 2 rfl) ?_
  refine lv_iconst (v := 0) hx hb dL_has_1 (by decide) ?_
  refine lv_aload_n hx hb dL_has_2 rfl (lv_at hl 0 rfl) ?_
  refine lv_iload_n hx hb dL_has_3 rfl (lv_at hl 1 rfl) ?_
  refine vx_calli (vx_runV (As := [.int a1]) (rest := [.int 0, .ref o]) ⟨hx, hb, hml, hown, hts⟩ (c_has l hst D I Z F ad sa hI (M0k 8) s.heap.size z_ks a1) (cwV 1 hts gL_has_X2_has rfl rfl rfl (by decide +kernel) ⟨Nat.le_of_ble_eq_true rfl, Nat.le_of_ble_eq_true rfl⟩) (cx_preV hK hN hX hA hDa hW 0 (by decide) (cE_x I Z F ad (M0k 8)) rfl) rfl rfl hl.1 rfl (lv_room (Nat.le_of_ble_eq_true rfl)) dL_has_4 ⟨Nat.le_of_ble_eq_true rfl, Nat.le_of_ble_eq_true rfl⟩) hW.2 (fun q _ h => hW.2.sub hA hDa q h) (hW.2.sub hA hDa) (fun q _ h => hW.2.sub hA hDa q h) (fun E ce q9 u t H1 locs1 ht hvm hpx hB hz1 hk1 hS h1 h2 h3 => ?_) (fun r u t H1 locs1 ht hvm hp hB hz1 hk1 hS => ?_)
  · skip
    obtain ⟨hXP, -⟩ := hB
    obtain ⟨hE, hno⟩ := hXP
    subst hE
    have hO1 : va_P D vwCl (oW J o g) H1 := hO.keep (fun k q hq _ => by rw [oW_of hq]; exact hk1 o (by rw [hsz]; exact hosz) (fun h => h.elim (fun ⟨k, hk, h⟩ => hoa k hk h) (fun h => absurd (hsz ▸ h) (Nat.not_le.mpr hosz))))
    refine vx_catch (own := RL) (name := xIO) hown [] ⟨0, 16, 19, 19⟩ (tableOf [(0, 16, 19, 19)]).tail htab (fun z hz => by cases hz) (by decide) (by decide) (hts (.classLink RL 19 xIO) (by decide +kernel)) (va_Nw.use rfl (hX.1 (.castable xIO xIO) (by decide +kernel))) h1 h2 h3 ?_
    refine lv_astore_n (lv' := [(3, .ref q9), (0, .ref (ad 0)), (1, .int a1), (2, .ref o)]) hx hb dL_has_19 rfl hl (by decide) rfl (fun ls hl => ?_)
    refine lv_iconst (v := 1) hx hb dL_has_20 (by decide) ?_
    exact hret 21 ls H1 locs1 _ _ _ g dL_has_21 (by decide) (by decide) (⟨fun h => absurd h hno, fun _ => rfl⟩) hO1 hS
  · skip
    have hO1 : va_P D vwCl (oW J o g) H1 := hO.keep (fun k q hq _ => by rw [oW_of hq]; exact hk1 o (by rw [hsz]; exact hosz) (fun h => h.elim (fun ⟨k, hk, h⟩ => hoa k hk h) (fun h => absurd (hsz ▸ h) (Nat.not_le.mpr hosz))))
    obtain ⟨f, hf, h9, -, h8⟩ := hp
    rw [z_k] at h8
    subst h8
    have hin : inB a1 12 := ⟨f, hf, h9⟩
    refine lv_if_eq (tgt := 14) hx hb dL_has_7 (by decide) (fun c1 => ?_) (fun c1 => ?_)
    · skip
      refine lv_lconst (v := 0) hx hb dL_has_14 (by decide) ?_
      refine va_last (ws := oW J o g) hx hb hJ hO1 (oW_d hAo) hS 0 0 rfl rfl (show vp_in 0 1 from vp_in_nI (n := 0) (by decide) (by decide)) dL_has_15 (fun H2 locs2 hP2 _ hS2 => ?_)
      refine lv_goto (tgt := 22) hx hb dL_has_16 (by decide) ?_
      refine lv_iconst (v := 0) hx hb dL_has_22 (by decide) ?_
      exact hret 23 ls H2 locs2 _ _ _ (vp_updL g (0 : Int32).toNatClampNeg (0)) dL_has_23 (by decide) (by decide) (⟨fun _ => ⟨rfl, by show vp_updL g 0 _ 0 = _; rw [pk_uLs]⟩, fun h => absurd hin h⟩) hP2 hS2
    · exact absurd rfl c1

abbrev rm_l_would : Room := { frames := 100, cells := 3, slots := 18, locals := 20000 }
set_option maxHeartbeats 4000000 in
set_option maxRecDepth 100000 in
theorem c_l_would (l : Launch) (hst : l.stackTraces = false) (D : va_G) (I Z F J : ClassId) (ad sa : Nat → Nat) (o sz : Nat) (g : Nat → Int64) (hI : cI ad) (hoa : ∀ k : Nat, k < 97 → o ≠ ad k) (hosz : o < sz) (a1 b1 c9 : Int32) : Met l yL_would wsL_would rm_l_would (va_Pc [.ref (ad 0), .int a1, .int b1, .int c9, .ref o] (lU D I Z F J ad sa o sz (M0k 8) g)) (va_Qi (fun (r : Int32) (u : Nat → Int64) => r = 1) (fun (u : Nat → Int64) t => va_P D vwCl (oW J o u) t.heap) (lA ad o sz)) 3 18 (lA ad o sz) := by
  refine lMet (cc := cL_would) (maxL := 6) (hh := [(0, 12, 15, 19)]) hI (by decide) rfl rfl (Nat.le_of_ble_eq_true rfl) (lv := [(0, .ref (ad 0)), (1, .int a1), (2, .int b1), (3, .int c9), (4, .ref o)]) rfl ?_
  intro p e s m args below meth c Q A ls hsz hA9 hx hb hml hts hown htab hK hJ hN hX hDa hAo hA hW hO hl hret
  refine lv_aload hx hb dL_would_0 (lv_at hl 4 rfl) ?_
  refine lv_iconst (v := 0) hx hb dL_would_2 (by decide) ?_
  refine lv_aload_n hx hb dL_would_3 rfl (lv_at hl 0 rfl) ?_
  refine lv_iload_n hx hb dL_would_4 rfl (lv_at hl 1 rfl) ?_
  refine lv_iload_n hx hb dL_would_5 rfl (lv_at hl 2 rfl) ?_
  refine lv_iload_n hx hb dL_would_6 rfl (lv_at hl 3 rfl) ?_
  refine vx_calli (vx_runV (As := [.int a1, .int b1, .int c9]) (rest := [.int 0, .ref o]) ⟨hx, hb, hml, hown, hts⟩ (c_would l hst D I Z F ad sa hI (M0k 8) s.heap.size  a1 b1 c9) (cwV 3 hts gL_would_X2_would rfl rfl rfl (by decide +kernel) ⟨Nat.le_of_ble_eq_true rfl, Nat.le_of_ble_eq_true rfl⟩) (cx_preV hK hN hX hA hDa hW 0 (by decide) (cE_x I Z F ad (M0k 8)) rfl) rfl rfl hl.1 rfl (lv_room (Nat.le_of_ble_eq_true rfl)) dL_would_7 ⟨Nat.le_of_ble_eq_true rfl, Nat.le_of_ble_eq_true rfl⟩) hW.2 (fun q _ h => hW.2.sub hA hDa q h) (hW.2.sub hA hDa) (fun q _ h => hW.2.sub hA hDa q h) (fun E ce q9 u t H1 locs1 ht hvm hpx hB hz1 hk1 hS h1 h2 h3 => ?_) (fun r u t H1 locs1 ht hvm hp hB hz1 hk1 hS => ?_)
  · skip
    obtain ⟨hXP, -⟩ := hB
    have hE : E = xIO := hXP.1
    subst hE
    have hO1 : va_P D vwCl (oW J o g) H1 := hO.keep (fun k q hq _ => by rw [oW_of hq]; exact hk1 o (by rw [hsz]; exact hosz) (fun h => h.elim (fun ⟨k, hk, h⟩ => hoa k hk h) (fun h => absurd (hsz ▸ h) (Nat.not_le.mpr hosz))))
    refine vx_catch (own := RL) (name := xIO) hown [] ⟨0, 12, 15, 19⟩ (tableOf [(0, 12, 15, 19)]).tail htab (fun z hz => by cases hz) (by decide) (by decide) (hts (.classLink RL 19 xIO) (by decide +kernel)) (va_Nw.use rfl (hX.1 (.castable xIO xIO) (by decide +kernel))) h1 h2 h3 ?_
    refine lv_astore (lv' := [(5, .ref q9), (0, .ref (ad 0)), (1, .int a1), (2, .int b1), (3, .int c9), (4, .ref o)]) hx hb dL_would_15 hl (by decide) rfl (fun ls hl => ?_)
    refine lv_iconst (v := 1) hx hb dL_would_17 (by decide) ?_
    exact hret 18 ls H1 locs1 _ _ _ g dL_would_18 (by decide) (by decide) (rfl) hO1 hS
  · skip
    obtain ⟨ka, kb, wh, h9, -⟩ := hp
    exact absurd ⟨ka, h9⟩ (z_fd _)
