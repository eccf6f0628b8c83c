theorem cWn_app {ad : Nat → Nat} {E : Nat → va_E} {n i : Nat} {w : va_W} (h : i < n) : (cWn ad E n ++ w)[i]? = some (ad i, E i) := by
  rw [List.getElem?_append_left (by rw [cWn_len]; exact h), cWn_get ad E h]
theorem va_Pl {D : va_G} {cl : List vw_C} {w1 w2 : va_W} {H : Heap} (h : va_P D cl (w1 ++ w2) H) : va_P D cl w1 H := fun k q hq => h k q (by rw [List.getElem?_append_left (List.getElem?_eq_some_iff.mp hq).1]; exact hq)
theorem va_Pr {D : va_G} {cl : List vw_C} {w1 w2 : va_W} {H : Heap} (h : va_P D cl (w1 ++ w2) H) : va_P D cl w2 H := fun k q hq => h (w1.length + k) q (by rw [List.getElem?_append_right (Nat.le_add_right _ _), Nat.add_sub_cancel_left]; exact hq)
theorem va_Dl {A : Nat → Prop} {w1 w2 : va_W} (h : va_D A (w1 ++ w2)) : va_D A w1 := by
  have left : ∀ (k : Nat) (q : Nat × va_E), w1[k]? = some q → (w1 ++ w2)[k]? = some q := fun k q hq => by
    rw [List.getElem?_append_left (List.getElem?_eq_some_iff.mp hq).1]; exact hq
  exact ⟨fun i j x y hx hy hxy => h.1 i j x y (left i x hx) (left j y hy) hxy, fun k q hq => h.2 k q (left k q hq)⟩
/-- three worlds that are apart -/
theorem lD_of {E1 E2 : Nat → va_E} {ad am : Nat → Nat} {o : Nat} {x : va_E} {s : State} (h : va_D (lS9 s) (cWn ad E1 97 ++ cWn am E2 13 ++ [(o, x)])) : lD ad am o s := by
  have g1 : ∀ k : Nat, k < 97 → (cWn ad E1 97 ++ cWn am E2 13 ++ [(o, x)])[k]? = some (ad k, E1 k) := fun k hk => by
    rw [List.append_assoc, cWn_app hk]
  have g2 : ∀ j : Nat, j < 13 → (cWn ad E1 97 ++ cWn am E2 13 ++ [(o, x)])[97 + j]? = some (am j, E2 j) := fun j hj => by
    rw [List.append_assoc, List.getElem?_append_right (by rw [cWn_len]; omega), cWn_len, Nat.add_sub_cancel_left, cWn_app hj]
  have g3 : (cWn ad E1 97 ++ cWn am E2 13 ++ [(o, x)])[110]? = some (o, x) := by
    rw [List.getElem?_append_right (by rw [List.length_append, cWn_len, cWn_len]; decide), List.length_append, cWn_len, cWn_len]; rfl
  refine ⟨fun k hk => h.2 k _ (g1 k hk), h.2 110 _ g3, fun k hk e => ?_, fun j hj => ⟨h.2 (97 + j) _ (g2 j hj), fun e => ?_, fun k hk e => ?_⟩⟩
  · have := h.1 110 k _ _ g3 (g1 k hk) e; omega
  · have := h.1 (97 + j) 110 _ _ (g2 j hj) g3 e; omega
  · have := h.1 (97 + j) k _ _ (g2 j hj) (g1 k hk) e; omega
set_option maxHeartbeats 8000000 in
set_option maxRecDepth 100000 in
/-- the law from the head of its loop on -/
theorem law_turn {p : Program} {e : Env} {s : State} {m : MethodId} {below : List Frame} {meth : Method} {c : Code} (l : Launch) (hst : l.stackTraces = false) {b L : Nat} {xs : Nat → Int32} (hL : L ≤ 4) (C0 : lw_At p s m meth c b L xs) {D : va_G} {I Z F J : ClassId} {ad am sa : Nat → Nat} {o od : Nat} {g : Nat → Int64} {H : Heap} {locs : List Loc} (hK : lK D I Z F J s) (hN : cN s) (hX : xE sa (lS9 s) s s.heap) (hI : cI ad) (hmI : mI am) (hd : lD ad am o s) (h9 : lH D I Z F J ad am o g s H locs) {ls : Array Slot} (hl : lv_has ls 10 [(0, .ref b), (1, .ref (ad 0)), (2, .ref (am 0)), (3, .ref o), (4, .ref od), (5, .int 0)]) : W p l e room_1 s m #[Value.ref b] below meth c H locs 120 30000 (lw_Z below #[Value.ref b] s) (F0 m 28 ls []) := by
  obtain ⟨hx, hb, hr, hml, hown, hts0, hXs, hbl, hlocks, hgv⟩ := id C0
  have hbA : ¬ lS9 s b := Nat.not_le.mpr hbl
  have hd0 := Drawn.sameBut.refl s.drawn lw_cs
  have lend : ∀ (ls : Array Slot) (H : Heap) (locs : List Loc) (k n : Nat), k ≤ 600002 → n ≤ 7302232 → va_S (lS9 s) s.heap H locs → W p l e room_1 s m #[Value.ref b] below meth c H locs k n (lw_Z below #[Value.ref b] s) (F0 m 1429 ls []) := by
    intro ls H locs k n hk hn hS
    refine lv_iconst (v := 1) hx hb dL_law_1429 (by decide) ?_
    refine va_forget (fun q hq => hS.2.2 q hq) ?_
    refine W.widen (k := 600002) (n := 7302232) hk hn ?_
    exact W.base (lw_ret hd0 hx hb hr hlocks dL_law_1430)
  have hS := h9.1
  refine lv_iload hx hb dL_law_28 (lv_at hl 5 rfl) ?_
  refine lv_aload_n hx hb dL_law_30 rfl (lv_at hl 0 rfl) ?_
  refine va_slen hx hb hXs hbl hbA hS dL_law_31 ?_
  refine lv_iconst (v := 4) hx hb dL_law_32 (by decide) ?_
  refine lv_isub hx hb dL_law_33 ?_
  refine lv_icmp_gt (tgt := 1429) hx hb dL_law_34 (by decide) (fun c1 => ?_) (fun c1 => ?_)
  · exact lend ls H locs _ _ (Nat.le_of_ble_eq_true rfl) (Nat.le_of_ble_eq_true rfl) hS
  · have hL4 : L = 4 := by
      rcases (show L = 0 ∨ L = 1 ∨ L = 2 ∨ L = 3 ∨ L = 4 by omega) with h | h | h | h | h
      · rw [h] at c1; exact absurd c1 (by decide)
      · rw [h] at c1; exact absurd c1 (by decide)
      · rw [h] at c1; exact absurd c1 (by decide)
      · rw [h] at c1; exact absurd c1 (by decide)
      · exact h
    rw [hL4] at C0 hXs
    have fin : ∀ (ls : Array Slot) (H : Heap) (locs : List Loc), lv_has ls 10 [(0, .ref b), (5, .int 0)] → va_S (lS9 s) s.heap H locs → W p l e room_1 s m #[Value.ref b] below meth c H locs 200 40000 (lw_Z below #[Value.ref b] s) (F0 m 1423 ls []) := by
      intro ls H locs hl hS
      refine lv_iinc (v := 4) (lv' := [(5, .int 4), (0, .ref b)]) hx hb dL_law_1423 hl (k := 1) rfl rfl (by decide) rfl (fun ls hl => ?_)
      refine lv_goto (tgt := 28) hx hb dL_law_1426 (by decide) ?_
      refine lv_iload hx hb dL_law_28 (lv_at hl 0 rfl) ?_
      refine lv_aload_n hx hb dL_law_30 rfl (lv_at hl 1 rfl) ?_
      refine va_slen hx hb hXs hbl hbA hS dL_law_31 ?_
      refine lv_iconst (v := 4) hx hb dL_law_32 (by decide) ?_
      refine lv_isub hx hb dL_law_33 ?_
      refine lv_icmp_gt (tgt := 1429) hx hb dL_law_34 (by decide) (fun c1 => ?_) (fun c1 => ?_)
      · exact lend ls H locs _ _ (Nat.le_of_ble_eq_true rfl) (Nat.le_of_ble_eq_true rfl) hS
      · exact absurd (by decide) c1
    refine lv_aload_n hx hb dL_law_37 rfl (lv_at hl 0 rfl) ?_
    refine lv_iload hx hb dL_law_38 (lv_at hl 5 rfl) ?_
    refine va_sld hx hb hXs hbl hbA hS (show vp_in 0 4 from vp_in_nI (n := 0) (by decide) (by decide)) dL_law_40 ?_
    refine lv_bipush (v := 31) hx hb dL_law_41 (by decide) ?_
    refine lv_iand hx hb dL_law_43 ?_
    obtain ⟨a, ha, hv⟩ := pk_andE (xs (0 : Int32).toNatClampNeg) (m := 31) 5 (by decide)
    rw [show xs (0 : Int32).toNatClampNeg &&& 31 = nI a from hv]
    by_cases ha20 : a < 20
    · rcases (show a = 0 ∨ a = 1 ∨ a = 2 ∨ a = 3 ∨ a = 4 ∨ a = 5 ∨ a = 6 ∨ a = 7 ∨ a = 8 ∨ a = 9 ∨ a = 10 ∨ a = 11 ∨ a = 12 ∨ a = 13 ∨ a = 14 ∨ a = 15 ∨ a = 16 ∨ a = 17 ∨ a = 18 ∨ a = 19 by omega) with rfl | rfl | rfl | rfl | rfl | rfl | rfl | rfl | rfl | rfl | rfl | rfl | rfl | rfl | rfl | rfl | rfl | rfl | rfl | rfl
      · refine lv_tableIn (off := 96) (tgt := 140) hx hb dL_law_44 (by decide) (by decide) rfl (by decide) ?_
        exact law_leaf l hst C0 hK hN hX hI hmI hd h9 hl fin
      · refine lv_tableIn (off := 168) (tgt := 212) hx hb dL_law_44 (by decide) (by decide) rfl (by decide) ?_
        exact law_ask l hst C0 hK hN hX hI hmI hd h9 hl fin
      · refine lv_tableIn (off := 224) (tgt := 268) hx hb dL_law_44 (by decide) (by decide) rfl (by decide) ?_
        exact law_join l hst C0 hK hN hX hI hmI hd h9 hl fin
      · refine lv_tableIn (off := 304) (tgt := 348) hx hb dL_law_44 (by decide) (by decide) rfl (by decide) ?_
        exact law_choose l hst C0 hK hN hX hI hmI hd h9 hl fin
      · refine lv_tableIn (off := 384) (tgt := 428) hx hb dL_law_44 (by decide) (by decide) rfl (by decide) ?_
        exact law_given l hst C0 hK hN hX hI hmI hd h9 hl fin
      · refine lv_tableIn (off := 480) (tgt := 524) hx hb dL_law_44 (by decide) (by decide) rfl (by decide) ?_
        exact law_without l hst C0 hK hN hX hI hmI hd h9 hl fin
      · refine lv_tableIn (off := 576) (tgt := 620) hx hb dL_law_44 (by decide) (by decide) rfl (by decide) ?_
        exact law_drop l hst C0 hK hN hX hI hmI hd h9 hl fin
      · refine lv_tableIn (off := 632) (tgt := 676) hx hb dL_law_44 (by decide) (by decide) rfl (by decide) ?_
        exact law_swap l hst C0 hK hN hX hI hmI hd h9 hl fin
      · refine lv_tableIn (off := 688) (tgt := 732) hx hb dL_law_44 (by decide) (by decide) rfl (by decide) ?_
        exact law_order l hst C0 hK hN hX hI hmI hd h9 hl fin
      · refine lv_tableIn (off := 744) (tgt := 788) hx hb dL_law_44 (by decide) (by decide) rfl (by decide) ?_
        exact law_says l hst C0 hK hN hX hI hmI hd h9 hl fin
      · refine lv_tableIn (off := 819) (tgt := 863) hx hb dL_law_44 (by decide) (by decide) rfl (by decide) ?_
        exact law_fork l hst C0 hK hN hX hI hmI hd h9 hl fin
      · refine lv_tableIn (off := 899) (tgt := 943) hx hb dL_law_44 (by decide) (by decide) rfl (by decide) ?_
        exact law_about l hst C0 hK hN hX hI hmI hd h9 hl fin
      · refine lv_tableIn (off := 967) (tgt := 1011) hx hb dL_law_44 (by decide) (by decide) rfl (by decide) ?_
        exact law_asked l hst C0 hK hN hX hI hmI hd h9 hl fin
      · refine lv_tableIn (off := 1044) (tgt := 1088) hx hb dL_law_44 (by decide) (by decide) rfl (by decide) ?_
        exact law_compare l hst C0 hK hN hX hI hmI hd h9 hl fin
      · refine lv_tableIn (off := 1112) (tgt := 1156) hx hb dL_law_44 (by decide) (by decide) rfl (by decide) ?_
        exact law_count l hst C0 hK hN hX hI hmI hd h9 hl fin
      · refine lv_tableIn (off := 1168) (tgt := 1212) hx hb dL_law_44 (by decide) (by decide) rfl (by decide) ?_
        exact law_has l hst C0 hK hN hX hI hmI hd h9 hl fin
      · refine lv_tableIn (off := 1231) (tgt := 1275) hx hb dL_law_44 (by decide) (by decide) rfl (by decide) ?_
        exact law_advise l hst C0 hK hN hX hI hmI hd h9 hl fin
      · refine lv_tableIn (off := 1244) (tgt := 1288) hx hb dL_law_44 (by decide) (by decide) rfl (by decide) ?_
        exact law_would l hst C0 hK hN hX hI hmI hd h9 hl fin
      · refine lv_tableIn (off := 1324) (tgt := 1368) hx hb dL_law_44 (by decide) (by decide) rfl (by decide) ?_
        exact law_mean l hst C0 hK hN hX hI hmI hd h9 hl fin
      · refine lv_tableIn (off := 1365) (tgt := 1409) hx hb dL_law_44 (by decide) (by decide) rfl (by decide) ?_
        exact law_digest l hst C0 hK hN hX hI hmI hd h9 hl fin
    · refine lv_tableOut (tgt := 1423) hx hb dL_law_44 (Or.inr (by rw [nI_toInt (by omega)]; omega)) (by decide) ?_
      refine W.widen (k := 200) (n := 40000) (Nat.le_of_ble_eq_true rfl) (Nat.le_of_ble_eq_true rfl) ?_
      exact fin ls _ _ (lv_sub hl [0, 5] rfl) hS
