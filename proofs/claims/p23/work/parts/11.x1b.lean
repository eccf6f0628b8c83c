/-- the first k ways' answers -/
def aoR (f : Nat → Int32) (k : Nat) (r : Nat → Int32) : Nat → Int32 := fun j => if j < k then aoF f (nI j) else r j
theorem aoR_0 (f r : Nat → Int32) : aoR f 0 r = r := by funext j; simp [aoR]
theorem aoR_s (f : Nat → Int32) (k : Nat) (r : Nat → Int32) : upd (aoR f k r) k (aoF f (nI k)) = aoR f (k + 1) r := by
  funext j
  by_cases h : j = k
  · subst h; rw [pk_us]; simp [aoR]
  · rw [pk_un h]; simp only [aoR]; by_cases h2 : j < k
    · rw [if_pos h2, if_pos (by omega)]
    · rw [if_neg h2, if_neg (by omega)]
def so1 (M : Nat → Nat → Int32) (g : Nat) : Nat → Nat → Int32 := mst M g 0 0
def so2 (M : Nat → Nat → Int32) (g : Nat) : Nat → Nat → Int32 := mrow (so1 M g) (g + 5) (flF (-1) 1024 (so1 M g (g + 5)))
def so3 (M : Nat → Nat → Int32) (g qi : Nat) : Nat → Nat → Int32 := mrow (so2 M g) (g + 6) (va_cpy (so2 M g qi) (so2 M g (g + 6)) 0 0 8)
def soL (M : Nat → Nat → Int32) (g qi k : Nat) : Nat → Nat → Int32 := mrow (so3 M g qi) (g + 7) (aoR (so3 M g qi (g + 6)) k (so3 M g qi (g + 7)))
def soF (M : Nat → Nat → Int32) (g qi : Nat) : Nat → Nat → Int32 := soL M g qi 256
theorem soL_6 (M : Nat → Nat → Int32) (g qi k : Nat) : soL M g qi k (g + 6) = so3 M g qi (g + 6) := mrow_ne (by omega)
abbrev rm_startOver : Room := { frames := 1, cells := 0, slots := 0, locals := 400 }
set_option maxHeartbeats 4000000 in
set_option maxRecDepth 100000 in
/-- the forks are started over, in an order that lies in the cell qi -/
theorem c_startOver (l : Launch) (D : va_G) (I Z F : ClassId) (ad : Nat → Nat) (hI : cI ad) (M : Nat → Nat → Int32) (sz : Nat) (g : Nat) (hg : g = 3 ∨ g = 15) (qi : Nat) (hqi : qi < 97) (hne : qi ≠ g ∧ qi ≠ g + 5 ∧ qi ≠ g + 6) (hq : cE I Z F ad M qi = .inl (I, 8, .inl (M qi))) : Met l yX1_startOver wsX1_startOver rm_startOver (va_Pc [.ref (ad g), .ref (ad qi)] (cU D I Z F ad sz M)) (va_Qv (fun (u : Nat → Nat → Int32) => u = soF M g qi) (fun u t => cP D I Z F ad u t.heap) (cA ad sz)) 0 0 (cA ad sz) := by
  refine cMet_v (cc := cX1_startOver) (maxL := 3) hI (by decide) rfl ⟨rfl, rfl⟩ RX1 rfl (Nat.le_of_ble_eq_true rfl) (lv := [(0, .ref (ad g)), (1, .ref (ad qi))]) rfl ?_
  intro p e s m args below meth c Q A ls hsz C0 hW hl hret
  obtain ⟨hx, hb, hml, hts, hown, hlocks, hK, hN, hDa, hA, hargs⟩ := C0
  have hin1 : ∀ w ∈ u_ws RX1 TX1 10, w ∈ wsX1_startOver := by decide +kernel
  have hgl : g < 16 := by omega
  refine lv_aload_n hx hb dX1_startOver_0 rfl (lv_at hl 0 rfl) ?_
  refine lv_iconst (v := 0) hx hb dX1_startOver_1 (by decide) ?_
  refine cr_put hx hb hts hin1 tyX1 tyX1_ok nmX1 hown hK hDa hW g (by omega) (cE_f0 I Z F ad M hg) rfl 0 (by decide) rfl (by decide +kernel) (ty := .int) (by decide +kernel) rfl rfl (Nat.le_of_ble_eq_true rfl) (cS_f0p hg _ _) dX1_startOver_2 (fun H locs hW => ?_)
  rw [show mst M g 0 0 = so1 M g from rfl] at hW
  refine lv_aload_n hx hb dX1_startOver_5 rfl (lv_at hl 0 rfl) ?_
  refine cr_get (v := .ref (ad (g + 5))) hx hb hts hin1 hown hK hW g (by omega) (cE_f0 I Z F ad (so1 M g) hg) rfl 5 (by decide) rfl (by decide +kernel) rfl dX1_startOver_6 ?_
  refine lv_iconst (v := -1) hx hb dX1_startOver_9 (by decide) ?_
  refine cr_callv (va_runS (As := [.ref (ad (g + 5)), .int (-1)]) (rest := []) ⟨hx, hb, hml, hown, hts⟩ (c_fill l D I Z F ad hI (so1 M g) H.size (g + 5) 1024 (by omega) (by decide) (cE_f5 I Z F ad _ hg) (-1)) (va_cwS 2 hts gX1_startOver_J7_fill_53178 rfl rfl rfl (by decide +kernel) ⟨Nat.le_of_ble_eq_true rfl, Nat.le_of_ble_eq_true rfl⟩) (cr_preS hK hN hW) rfl rfl hl.1 rfl (lv_room (Nat.le_of_ble_eq_true rfl)) dX1_startOver_10 ⟨Nat.le_refl _, Nat.le_refl _⟩) hA hDa hW (fun u H locs hp hW => ?_)
  obtain rfl := hp
  rw [show mrow (so1 M g) (g + 5) (flF (-1) 1024 (so1 M g (g + 5))) = so2 M g from rfl] at hW
  refine lv_aload_n hx hb dX1_startOver_13 rfl (lv_at hl 1 rfl) ?_
  refine lv_iconst (v := 0) hx hb dX1_startOver_14 (by decide) ?_
  refine lv_aload_n hx hb dX1_startOver_15 rfl (lv_at hl 0 rfl) ?_
  refine cr_get (v := .ref (ad (g + 6))) hx hb hts hin1 hown hK hW g (by omega) (cE_f0 I Z F ad (so2 M g) hg) rfl 6 (by decide) rfl (by decide +kernel) rfl dX1_startOver_16 ?_
  refine lv_iconst (v := 0) hx hb dX1_startOver_19 (by decide) ?_
  refine lv_bipush (v := 8) hx hb dX1_startOver_20 (by decide) ?_
  refine cr_copy hx hb (hml.trans hl.1.symm) hts hown (by decide +kernel) (by decide +kernel) (by decide +kernel) (by decide +kernel) hK hDa hW qi (g + 6) hqi (by omega) (cE_arr hq _) (cE_f6 I Z F ad _ hg) 8 rfl (by decide) (by decide) (by decide) (by decide) (by decide) dX1_startOver_22 (fun H locs hW => ?_)
  rw [show mrow (so2 M g) (g + 6) (va_cpy (so2 M g qi) (so2 M g (g + 6)) 0 0 8) = so3 M g qi from rfl] at hW
  refine lv_iconst (v := 0) hx hb dX1_startOver_25 (by decide) ?_
  refine lv_istore_n (lv' := [(2, .int 0), (0, .ref (ad g)), (1, .ref (ad qi))]) hx hb dX1_startOver_26 rfl hl (by decide) rfl (fun ls hl => ?_)
  have loop : ∀ r k : Nat, k + r = 256 → ∀ (ls : Array Slot) (H : Heap) (locs : List Loc), lv_has ls 3 [(2, .int (nI k)), (0, .ref (ad g)), (1, .ref (ad qi))] → cB9 D I Z F ad A s.heap (soL M g qi k) H locs → W p l e rm_startOver s m args below meth c H locs 0 0 Q (F0 m 27 ls []) := by
    intro r
    induction r with
    | zero =>
      intro k hk ls H locs hl hW
      obtain rfl : k = 256 := by omega
      refine lv_iload_n hx hb dX1_startOver_27 rfl (lv_at hl 0 rfl) ?_
      refine lv_sipush (v := 256) hx hb dX1_startOver_28 (by decide) ?_
      refine lv_icmp_ge (tgt := 51) hx hb dX1_startOver_31 (by decide) (fun c1 => ?_) (fun c1 => ?_)
      · skip
        exact hret 51 ls H locs _ dX1_startOver_51 rfl hW
      · exact absurd (nI_le (by decide) (by decide)) c1
    | succ r ih =>
      intro k hk ls H locs hl hW
      refine lv_iload_n hx hb dX1_startOver_27 rfl (lv_at hl 0 rfl) ?_
      refine lv_sipush (v := 256) hx hb dX1_startOver_28 (by decide) ?_
      refine lv_icmp_ge (tgt := 51) hx hb dX1_startOver_31 (by decide) (fun c1 => ?_) (fun c1 => ?_)
      · exact absurd c1 (nI_ge (b := 256) (by omega) (by decide))
      · skip
        refine lv_aload_n hx hb dX1_startOver_34 rfl (lv_at hl 1 rfl) ?_
        refine cr_get (v := .ref (ad (g + 7))) hx hb hts hin1 hown hK hW g (by omega) (cE_f0 I Z F ad (soL M g qi k) hg) rfl 7 (by decide) rfl (by decide +kernel) rfl dX1_startOver_35 ?_
        refine lv_iload_n hx hb dX1_startOver_38 rfl (lv_at hl 0 rfl) ?_
        refine lv_aload_n hx hb dX1_startOver_39 rfl (lv_at hl 1 rfl) ?_
        refine lv_iload_n hx hb dX1_startOver_40 rfl (lv_at hl 0 rfl) ?_
        refine cr_calli (va_runV (As := [.int (nI k)]) (rest := [.int (nI k), .ref (ad (g + 7))]) ⟨hx, hb, hml, hown, hts⟩ (c_answersOf l D I Z F ad hI (soL M g qi k) H.size g hg (nI k)) (cwV 1 hts gX1_startOver_X1_answersOf rfl rfl rfl (by decide +kernel) ⟨Nat.le_of_ble_eq_true rfl, Nat.le_of_ble_eq_true rfl⟩) (cr_preV hK hN hW g (by omega) (cE_f0 I Z F ad (soL M g qi k) hg) rfl) rfl rfl hl.1 rfl (lv_room (Nat.le_of_ble_eq_true rfl)) dX1_startOver_41 ⟨Nat.le_refl _, Nat.le_refl _⟩) hA hDa hW (fun r u H locs hp hW => ?_)
        obtain ⟨rfl, rfl⟩ := hp
        rw [soL_6]
        refine cr_iast hx hb hK hDa hW (g + 7) (by omega) (cE_f7 I Z F ad (soL M g qi k) hg) k (by omega) (by decide) rfl dX1_startOver_44 (fun H locs hW => ?_)
        rw [show mst (soL M g qi k) (g + 7) k (aoF (so3 M g qi (g + 6)) (nI k)) = soL M g qi (k + 1) from by rw [soL, mst_mrow, aoR_s]; rfl] at hW
        refine lv_iinc (v := nI (k + 1)) (lv' := [(2, .int (nI (k + 1))), (0, .ref (ad g)), (1, .ref (ad qi))]) hx hb dX1_startOver_45 hl (k := 0) rfl (nI_1 k) (by decide) rfl (fun ls hl => ?_)
        refine lv_goto (tgt := 27) hx hb dX1_startOver_48 (by decide) ?_
        exact ih (k + 1) (by omega) ls H locs (lv_sub hl [0, 1, 2] rfl) hW
  exact loop 256 0 (by decide) ls H locs (lv_sub hl [0, 1, 2] rfl) (by rw [soL, aoR_0, mrow_id]; exact hW)

/-- a fork made: the next number, in the slot j -/
def mkM (M : Nat → Nat → Int32) (g n j : Nat) (a no yes : Int32) : Nat → Nat → Int32 := mst (mst (mst (mst (mst (mst M g 0 (nI (n + 1))) (g + 5) j (nI n)) (g + 1) n a) (g + 2) n no) (g + 3) n yes) (g + 4) n 0
def szF (M : Nat → Nat → Int32) (g : Nat) : Nat := (M g 0).toNatClampNeg
def mkF (M : Nat → Nat → Int32) (g j : Nat) (a no yes : Int32) : (Nat → Nat → Int32) × Int32 := if szF M g < 626 then (mkM M g (szF M g) j a no yes, nI (szF M g)) else (M, -1)
theorem szF_of {M : Nat → Nat → Int32} {g n : Nat} (h : M g 0 = nI n) (hn : n ≤ 626) : szF M g = n := by rw [szF, h, nI_clamp (by omega)]
abbrev rm_make : Room := { frames := 0, cells := 0, slots := 0, locals := 0 }
set_option maxHeartbeats 4000000 in
set_option maxRecDepth 100000 in
/-- a fork is made -/
theorem c_make (l : Launch) (D : va_G) (I Z F : ClassId) (ad : Nat → Nat) (hI : cI ad) (M : Nat → Nat → Int32) (sz : Nat) (g : Nat) (hg : g = 3 ∨ g = 15) (n : Nat) (hn : M g 0 = nI n) (hn6 : n ≤ 626) (j : Nat) (hj : j < 1024) (a no yes : Int32) : Met l yX1_make wsX1_make rm_make (va_Pc [.ref (ad g), .int (nI j), .int a, .int no, .int yes] (cU D I Z F ad sz M)) (va_Qi (fun (r : Int32) (u : Nat → Nat → Int32) => u = (mkF M g j a no yes).1 ∧ r = (mkF M g j a no yes).2) (fun u t => cP D I Z F ad u t.heap) (cA ad sz)) 0 0 (cA ad sz) := by
  refine cMet_i (cc := cX1_make) (maxL := 6) hI (by decide) rfl ⟨rfl, rfl⟩ RX1 rfl (Nat.le_of_ble_eq_true rfl) (lv := [(0, .ref (ad g)), (1, .int (nI j)), (2, .int a), (3, .int no), (4, .int yes)]) rfl ?_
  intro p e s m args below meth c Q A ls hsz C0 hW hl hret
  obtain ⟨hx, hb, hml, hts, hown, hlocks, hK, hN, hDa, hA, hargs⟩ := C0
  have hin1 : ∀ w ∈ u_ws RX1 TX1 10, w ∈ wsX1_make := by decide +kernel
  have hgl : g < 16 := by omega
  have hsz6 := szF_of hn hn6
  refine lv_aload_n hx hb dX1_make_0 rfl (lv_at hl 0 rfl) ?_
  refine cr_get (v := .int (M g 0)) hx hb hts hin1 hown hK hW g (by omega) (cE_f0 I Z F ad M hg) rfl 0 (by decide) rfl (by decide +kernel) rfl dX1_make_1 ?_
  rw [hn]
  refine lv_sipush (v := 626) hx hb dX1_make_4 (by decide) ?_
  refine lv_icmp_lt (tgt := 12) hx hb dX1_make_7 (by decide) (fun c1 => ?_) (fun c1 => ?_)
  · skip
    have hlt : n < 626 := (nI_ltI (by omega) (by decide)).mp c1
    refine lv_aload_n hx hb dX1_make_12 rfl (lv_at hl 0 rfl) ?_
    refine cr_get (v := .int (M g 0)) hx hb hts hin1 hown hK hW g (by omega) (cE_f0 I Z F ad M hg) rfl 0 (by decide) rfl (by decide +kernel) rfl dX1_make_13 ?_
    rw [hn]
    refine lv_istore (lv' := [(5, .int (nI n)), (0, .ref (ad g)), (1, .int (nI j)), (2, .int a), (3, .int no), (4, .int yes)]) hx hb dX1_make_16 hl (by decide) rfl (fun ls hl => ?_)
    refine lv_aload_n hx hb dX1_make_18 rfl (lv_at hl 1 rfl) ?_
    refine lv_dup hx hb dX1_make_19 rfl ?_
    refine cr_get (v := .int (M g 0)) hx hb hts hin1 hown hK hW g (by omega) (cE_f0 I Z F ad M hg) rfl 0 (by decide) rfl (by decide +kernel) rfl dX1_make_20 ?_
    rw [hn]
    refine lv_iconst (v := 1) hx hb dX1_make_23 (by decide) ?_
    refine lv_iadd hx hb dX1_make_24 ?_
    rw [nI_1]
    refine cr_put hx hb hts hin1 tyX1 tyX1_ok nmX1 hown hK hDa hW g (by omega) (cE_f0 I Z F ad M hg) rfl 0 (by decide) rfl (by decide +kernel) (ty := .int) (by decide +kernel) rfl rfl (Nat.le_of_ble_eq_true rfl) (cS_f0p hg _ _) dX1_make_25 (fun H locs hW => ?_)
    refine lv_aload_n hx hb dX1_make_28 rfl (lv_at hl 1 rfl) ?_
    refine cr_get (v := .ref (ad (g + 5))) hx hb hts hin1 hown hK hW g (by omega) (cE_f0 I Z F ad (mst M g 0 (nI (n + 1))) hg) rfl 5 (by decide) rfl (by decide +kernel) rfl dX1_make_29 ?_
    refine lv_iload_n hx hb dX1_make_32 rfl (lv_at hl 2 rfl) ?_
    refine lv_iload hx hb dX1_make_33 (lv_at hl 0 rfl) ?_
    refine cr_iast hx hb hK hDa hW (g + 5) (by omega) (cE_f5 I Z F ad (mst M g 0 (nI (n + 1))) hg) j hj (by decide) rfl dX1_make_35 (fun H locs hW => ?_)
    refine lv_aload_n hx hb dX1_make_36 rfl (lv_at hl 1 rfl) ?_
    refine cr_get (v := .ref (ad (g + 1))) hx hb hts hin1 hown hK hW g (by omega) (cE_f0 I Z F ad (mst (mst M g 0 (nI (n + 1))) (g + 5) j (nI n)) hg) rfl 1 (by decide) rfl (by decide +kernel) rfl dX1_make_37 ?_
    refine lv_iload hx hb dX1_make_40 (lv_at hl 0 rfl) ?_
    refine lv_iload_n hx hb dX1_make_42 rfl (lv_at hl 3 rfl) ?_
    refine cr_iast hx hb hK hDa hW (g + 1) (by omega) (cE_f1 I Z F ad (mst (mst M g 0 (nI (n + 1))) (g + 5) j (nI n)) hg) n hlt (by decide) rfl dX1_make_43 (fun H locs hW => ?_)
    refine lv_aload_n hx hb dX1_make_44 rfl (lv_at hl 1 rfl) ?_
    refine cr_get (v := .ref (ad (g + 2))) hx hb hts hin1 hown hK hW g (by omega) (cE_f0 I Z F ad (mst (mst (mst M g 0 (nI (n + 1))) (g + 5) j (nI n)) (g + 1) n a) hg) rfl 2 (by decide) rfl (by decide +kernel) rfl dX1_make_45 ?_
    refine lv_iload hx hb dX1_make_48 (lv_at hl 0 rfl) ?_
    refine lv_iload_n hx hb dX1_make_50 rfl (lv_at hl 4 rfl) ?_
    refine cr_iast hx hb hK hDa hW (g + 2) (by omega) (cE_f2 I Z F ad (mst (mst (mst M g 0 (nI (n + 1))) (g + 5) j (nI n)) (g + 1) n a) hg) n hlt (by decide) rfl dX1_make_51 (fun H locs hW => ?_)
    refine lv_aload_n hx hb dX1_make_52 rfl (lv_at hl 1 rfl) ?_
    refine cr_get (v := .ref (ad (g + 3))) hx hb hts hin1 hown hK hW g (by omega) (cE_f0 I Z F ad (mst (mst (mst (mst M g 0 (nI (n + 1))) (g + 5) j (nI n)) (g + 1) n a) (g + 2) n no) hg) rfl 3 (by decide) rfl (by decide +kernel) rfl dX1_make_53 ?_
    refine lv_iload hx hb dX1_make_56 (lv_at hl 0 rfl) ?_
    refine lv_iload hx hb dX1_make_58 (lv_at hl 5 rfl) ?_
    refine cr_iast hx hb hK hDa hW (g + 3) (by omega) (cE_f3 I Z F ad (mst (mst (mst (mst M g 0 (nI (n + 1))) (g + 5) j (nI n)) (g + 1) n a) (g + 2) n no) hg) n hlt (by decide) rfl dX1_make_60 (fun H locs hW => ?_)
    refine lv_aload_n hx hb dX1_make_61 rfl (lv_at hl 1 rfl) ?_
    refine cr_get (v := .ref (ad (g + 4))) hx hb hts hin1 hown hK hW g (by omega) (cE_f0 I Z F ad (mst (mst (mst (mst (mst M g 0 (nI (n + 1))) (g + 5) j (nI n)) (g + 1) n a) (g + 2) n no) (g + 3) n yes) hg) rfl 4 (by decide) rfl (by decide +kernel) rfl dX1_make_62 ?_
    refine lv_iload hx hb dX1_make_65 (lv_at hl 0 rfl) ?_
    refine lv_iconst (v := 0) hx hb dX1_make_67 (by decide) ?_
    refine cr_iast hx hb hK hDa hW (g + 4) (by omega) (cE_f4 I Z F ad (mst (mst (mst (mst (mst M g 0 (nI (n + 1))) (g + 5) j (nI n)) (g + 1) n a) (g + 2) n no) (g + 3) n yes) hg) n hlt (by decide) rfl dX1_make_68 (fun H locs hW => ?_)
    refine lv_iload hx hb dX1_make_69 (lv_at hl 0 rfl) ?_
    exact hret 71 ls H locs _ _ dX1_make_71 (by rw [mkF, hsz6, if_pos hlt]; exact ⟨rfl, rfl⟩) hW
  · skip
    refine lv_iconst (v := -1) hx hb dX1_make_10 (by decide) ?_
    have hge : ¬ n < 626 := fun h => c1 ((nI_ltI (by omega) (by decide)).mpr h)
    exact hret 11 ls _ _ _ _ dX1_make_11 (by rw [mkF, hsz6, if_neg hge]; exact ⟨rfl, rfl⟩) hW
