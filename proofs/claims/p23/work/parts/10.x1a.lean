/-- a row whose first k places hold v -/
def flF (v : Int32) (k : Nat) (f : Nat → Int32) : Nat → Int32 := fun j => if j < k then v else f j
theorem flF_0 (v : Int32) (f : Nat → Int32) : flF v 0 f = f := by funext j; simp [flF]
theorem flF_s (v : Int32) (k : Nat) (f : Nat → Int32) : upd (flF v k f) k v = flF v (k + 1) f := by
  funext j
  by_cases h : j = k
  · subst h; rw [pk_us]; simp [flF]
  · rw [pk_un h]; simp only [flF]; by_cases h2 : j < k
    · rw [if_pos h2, if_pos (by omega)]
    · rw [if_neg h2, if_neg (by omega)]
theorem mrow_id (M : Nat → Nat → Int32) (i : Nat) : mrow M i (M i) = M := by
  funext a; by_cases h : a = i
  · subst h; rw [mrow_same]
  · rw [mrow_ne h]
theorem mst_mrow (M : Nat → Nat → Int32) (i j : Nat) (f : Nat → Int32) (x : Int32) : mst (mrow M i f) i j x = mrow M i (upd f j x) := by
  funext a; by_cases h : a = i
  · subst h; rw [mst_same, mrow_same, mrow_same]
  · rw [mst_ne h, mrow_ne h, mrow_ne h]
abbrev rm_fill : Room := { frames := 0, cells := 0, slots := 0, locals := 0 }
set_option maxHeartbeats 4000000 in
set_option maxRecDepth 100000 in
/-- Arrays.fill of an int array among the cells -/
theorem c_fill (l : Launch) (D : va_G) (I Z F : ClassId) (ad : Nat → Nat) (hI : cI ad) (M : Nat → Nat → Int32) (sz : Nat) (i n : Nat) (hi : i < 97) (hn : n < 2 ^ 31) (he : cE I Z F ad M i = .inl (I, n, .inl (M i))) (v : Int32) : Met l yJ7_fill_53178 wsJ7_fill_53178 rm_fill (va_Pc [.ref (ad i), .int v] (cU D I Z F ad sz M)) (va_Qv (fun (u : Nat → Nat → Int32) => u = mrow M i (flF v n (M i))) (fun u t => cP D I Z F ad u t.heap) (cA ad sz)) 0 0 (cA ad sz) := by
  refine cMet_v (cc := cJ7_fill_53178) (maxL := 4) hI (by decide) rfl ⟨rfl, rfl⟩ RJ7 rfl (Nat.le_of_ble_eq_true rfl) (lv := [(0, .ref (ad i)), (1, .int v)]) rfl ?_
  intro p e s m args below meth c Q A ls hsz C0 hW hl hret
  obtain ⟨hx, hb, hml, hts, hown, hlocks, hK, hN, hDa, hA, hargs⟩ := C0
  refine lv_iconst (v := 0) hx hb dJ7_fill_53178_0 (by decide) ?_
  refine lv_istore_n (lv' := [(2, .int 0), (0, .ref (ad i)), (1, .int v)]) hx hb dJ7_fill_53178_1 rfl hl (by decide) rfl (fun ls hl => ?_)
  refine lv_aload_n hx hb dJ7_fill_53178_2 rfl (lv_at hl 1 rfl) ?_
  refine cr_alenI hx hb hK hW i hi he dJ7_fill_53178_3 ?_
  refine lv_istore_n (lv' := [(3, .int (nI n)), (2, .int 0), (0, .ref (ad i)), (1, .int v)]) hx hb dJ7_fill_53178_4 rfl hl (by decide) rfl (fun ls hl => ?_)
  have loop : ∀ k r : Nat, k + r = n → ∀ (ls : Array Slot) (H : Heap) (locs : List Loc), lv_has ls 4 [(3, .int (nI n)), (2, .int (nI k)), (0, .ref (ad i)), (1, .int v)] → cB9 D I Z F ad A s.heap (mrow M i (flF v k (M i))) H locs → W p l e rm_fill s m args below meth c H locs 0 0 Q (F0 m 5 ls []) := by
    intro k r
    induction r generalizing k with
    | zero =>
      intro hk ls H locs hl hW
      refine lv_iload_n hx hb dJ7_fill_53178_5 rfl (lv_at hl 1 rfl) ?_
      refine lv_iload_n hx hb dJ7_fill_53178_6 rfl (lv_at hl 0 rfl) ?_
      refine lv_icmp_ge (tgt := 20) hx hb dJ7_fill_53178_7 (by decide) (fun c1 => ?_) (fun c1 => ?_)
      · obtain rfl : k = n := by omega
        exact hret 20 ls H locs _ dJ7_fill_53178_20 rfl hW
      · exact absurd (nI_le (by omega) (by omega)) c1
    | succ r ih =>
      intro hk ls H locs hl hW
      refine lv_iload_n hx hb dJ7_fill_53178_5 rfl (lv_at hl 1 rfl) ?_
      refine lv_iload_n hx hb dJ7_fill_53178_6 rfl (lv_at hl 0 rfl) ?_
      refine lv_icmp_ge (tgt := 20) hx hb dJ7_fill_53178_7 (by decide) (fun c1 => ?_) (fun c1 => ?_)
      · exact absurd c1 (nI_ge (by omega) hn)
      · skip
        refine lv_aload_n hx hb dJ7_fill_53178_10 rfl (lv_at hl 2 rfl) ?_
        refine lv_iload_n hx hb dJ7_fill_53178_11 rfl (lv_at hl 1 rfl) ?_
        refine lv_iload_n hx hb dJ7_fill_53178_12 rfl (lv_at hl 3 rfl) ?_
        refine cr_iast hx hb hK hDa hW i hi (cE_arr he _) k (by omega) hn rfl dJ7_fill_53178_13 (fun H locs hW => ?_)
        rw [mst_mrow, flF_s] at hW
        refine lv_iinc (v := nI (k + 1)) (lv' := [(2, .int (nI (k + 1))), (3, .int (nI n)), (0, .ref (ad i)), (1, .int v)]) hx hb dJ7_fill_53178_14 hl (k := 1) rfl (nI_1 k) (by decide) rfl (fun ls hl => ?_)
        refine lv_goto (tgt := 5) hx hb dJ7_fill_53178_17 (by decide) ?_
        exact ih (k + 1) (by omega) ls H locs (lv_sub hl [1, 0, 2, 3] rfl) hW
  exact loop 0 n (by omega) ls _ _ (lv_sub hl [0, 1, 2, 3] rfl) (by rw [flF_0, mrow_id]; exact hW)

def aoL (f : Nat → Int32) (way : Int32) : Nat → Int32
  | 0 => 0
  | k + 1 => aoL f way k ||| ((way >>> ((7 - nI k) &&& 31) &&& 1) <<< (f k &&& 31))
def aoF (f : Nat → Int32) (way : Int32) : Int32 := aoL f way 8 &&& 255
abbrev rm_answersOf : Room := { frames := 0, cells := 0, slots := 0, locals := 0 }
set_option maxHeartbeats 4000000 in
set_option maxRecDepth 100000 in
/-- the answers of a way -/
theorem c_answersOf (l : Launch) (D : va_G) (I Z F : ClassId) (ad : Nat → Nat) (hI : cI ad) (M : Nat → Nat → Int32) (sz : Nat) (g : Nat) (hg : g = 3 ∨ g = 15) (way : Int32) : Met l yX1_answersOf wsX1_answersOf rm_answersOf (va_Pc [.ref (ad g), .int way] (cU D I Z F ad sz M)) (va_Qi (fun (r : Int32) (u : Nat → Nat → Int32) => r = aoF (M (g + 6)) way ∧ u = M) (fun u t => cP D I Z F ad u t.heap) (cA ad sz)) 0 0 (cA ad sz) := by
  refine cMet_i (cc := cX1_answersOf) (maxL := 5) hI (by decide) rfl ⟨rfl, rfl⟩ RX1 rfl (Nat.le_of_ble_eq_true rfl) (lv := [(0, .ref (ad g)), (1, .int way)]) rfl ?_
  intro p e s m args below meth c Q A ls hsz C0 hW hl hret
  obtain ⟨hx, hb, hml, hts, hown, hlocks, hK, hN, hDa, hA, hargs⟩ := C0
  have hin1 : ∀ w ∈ u_ws RX1 TX1 10, w ∈ wsX1_answersOf := by decide +kernel
  have hgl : g < 16 := by omega
  refine lv_iconst (v := 0) hx hb dX1_answersOf_0 (by decide) ?_
  refine lv_istore_n (lv' := [(2, .int 0), (0, .ref (ad g)), (1, .int way)]) hx hb dX1_answersOf_1 rfl hl (by decide) rfl (fun ls hl => ?_)
  refine lv_iconst (v := 0) hx hb dX1_answersOf_2 (by decide) ?_
  refine lv_istore_n (lv' := [(3, .int 0), (2, .int 0), (0, .ref (ad g)), (1, .int way)]) hx hb dX1_answersOf_3 rfl hl (by decide) rfl (fun ls hl => ?_)
  have loop : ∀ r k : Nat, k + r = 8 → ∀ (ls : Array Slot), lv_has ls 5 [(3, .int (nI k)), (2, .int (aoL (M (g + 6)) way k)), (0, .ref (ad g)), (1, .int way)] → W p l e rm_answersOf s m args below meth c s.heap [] 0 0 Q (F0 m 4 ls []) := by
    intro r
    induction r with
    | zero =>
      intro k hk ls hl
      obtain rfl : k = 8 := by omega
      refine lv_iload_n hx hb dX1_answersOf_4 rfl (lv_at hl 0 rfl) ?_
      refine lv_bipush (v := 8) hx hb dX1_answersOf_5 (by decide) ?_
      refine lv_icmp_ge (tgt := 38) hx hb dX1_answersOf_7 (by decide) (fun c1 => ?_) (fun c1 => ?_)
      · skip
        refine lv_iload_n hx hb dX1_answersOf_38 rfl (lv_at hl 1 rfl) ?_
        refine lv_sipush (v := 255) hx hb dX1_answersOf_39 (by decide) ?_
        refine lv_iand hx hb dX1_answersOf_42 ?_
        exact hret 43 ls _ _ _ _ dX1_answersOf_43 ⟨rfl, rfl⟩ hW
      · exact absurd (nI_le (by decide) (by decide)) c1
    | succ r ih =>
      intro k hk ls hl
      refine lv_iload_n hx hb dX1_answersOf_4 rfl (lv_at hl 0 rfl) ?_
      refine lv_bipush (v := 8) hx hb dX1_answersOf_5 (by decide) ?_
      refine lv_icmp_ge (tgt := 38) hx hb dX1_answersOf_7 (by decide) (fun c1 => ?_) (fun c1 => ?_)
      · exact absurd c1 (nI_ge (b := 8) (by omega) (by decide))
      · skip
        refine lv_iload_n hx hb dX1_answersOf_10 rfl (lv_at hl 3 rfl) ?_
        refine lv_bipush (v := 7) hx hb dX1_answersOf_11 (by decide) ?_
        refine lv_iload_n hx hb dX1_answersOf_13 rfl (lv_at hl 0 rfl) ?_
        refine lv_isub hx hb dX1_answersOf_14 ?_
        refine lv_ishr hx hb dX1_answersOf_15 ?_
        refine lv_iconst (v := 1) hx hb dX1_answersOf_16 (by decide) ?_
        refine lv_iand hx hb dX1_answersOf_17 ?_
        refine lv_istore (lv' := [(4, .int ((way >>> ((7 - (nI k)) &&& 31)) &&& 1)), (3, .int (nI k)), (2, .int (aoL (M (g + 6)) way k)), (0, .ref (ad g)), (1, .int way)]) hx hb dX1_answersOf_18 hl (by decide) rfl (fun ls hl => ?_)
        refine lv_iload_n hx hb dX1_answersOf_20 rfl (lv_at hl 2 rfl) ?_
        refine lv_iload hx hb dX1_answersOf_21 (lv_at hl 0 rfl) ?_
        refine lv_aload_n hx hb dX1_answersOf_23 rfl (lv_at hl 3 rfl) ?_
        refine cr_get (v := .ref (ad (g + 6))) hx hb hts hin1 hown hK hW g (by omega) (cE_f0 I Z F ad M hg) rfl 6 (by decide) rfl (by decide +kernel) rfl dX1_answersOf_24 ?_
        refine lv_iload_n hx hb dX1_answersOf_27 rfl (lv_at hl 1 rfl) ?_
        refine cr_iald hx hb hK hW (g + 6) (by omega) (cE_f6 I Z F ad M hg) k (by omega) (by decide) rfl dX1_answersOf_28 ?_
        refine lv_ishl hx hb dX1_answersOf_29 ?_
        refine lv_ior hx hb dX1_answersOf_30 ?_
        refine lv_istore_n (lv' := [(2, .int (aoL (M (g + 6)) way (k + 1))), (4, .int ((way >>> ((7 - (nI k)) &&& 31)) &&& 1)), (3, .int (nI k)), (0, .ref (ad g)), (1, .int way)]) hx hb dX1_answersOf_31 rfl hl (by decide) rfl (fun ls hl => ?_)
        refine lv_iinc (v := nI (k + 1)) (lv' := [(3, .int (nI (k + 1))), (2, .int (aoL (M (g + 6)) way (k + 1))), (4, .int ((way >>> ((7 - (nI k)) &&& 31)) &&& 1)), (0, .ref (ad g)), (1, .int way)]) hx hb dX1_answersOf_32 hl (k := 2) rfl (nI_1 k) (by decide) rfl (fun ls hl => ?_)
        refine lv_goto (tgt := 4) hx hb dX1_answersOf_35 (by decide) ?_
        exact ih (k + 1) (by omega) ls (lv_sub hl [0, 1, 3, 4] rfl)
  exact loop 8 0 (by decide) ls (lv_sub hl [0, 1, 2, 3] rfl)
