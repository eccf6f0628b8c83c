set_option maxHeartbeats 40000000 in
set_option maxRecDepth 100000 in
/-- advice, and a fold joined to itself -/
theorem law_rest {p : Program} {e : Env} {s : State} {m : MethodId} {below : List Frame} {meth : Method} {c : Code} (l : Launch) (hst : l.stackTraces = false) {b L : Nat} {xs : Nat → Int32} (hL : L ≤ 260) (C0 : lw_At p s m meth c b L xs) {D : va_G} {cs : Nat → ClassId} {I Z F : ClassId} {ad sa : Nat → Nat} (hI : cI ad) (hK : h_K D cs s) (hKc : va_K D vwCl (cT I Z F) s) (hN : h_N s) (hNc : cN s) (hX : xE sa (lS9 s) s s.heap) {si fd oa : Nat} {t : Nat} (ht : t < 6) (kk : ∀ (C : hC) (M : Nat → Nat → Int32) (o : Nat → Nat) (Fd : Nat → Option Nat) (O : Nat → Int32) (ls : Array Slot) (H : Heap) (locs : List Loc), k_I cs I Z F ad si fd oa C M o Fd O → 2 ≤ k_N M → lv_has ls 16 [(3, .int (nI (t + 1))), (2, .ref si), (1, .ref (ad 0)), (0, .ref b)] → h_H D (lS9 s) C H → va_S (lS9 s) s.heap H locs → W p l e room_1 s m #[Value.ref b] below meth c H locs (212500 + (t + 1) * 13000) (908200 + (t + 1) * 61400) (lw_Z below #[Value.ref b] s) (F0 m 22 ls []))
    {C : hC} {M : Nat → Nat → Int32} {o : Nat → Nat} {Fd : Nat → Option Nat} {O : Nat → Int32} (hk : k_I cs I Z F ad si fd oa C M o Fd O) (h2 : 2 ≤ k_N M) {x4 : Int32} {n9 : Nat} (en9 : n9 = (u_L o (a_k M) (a_Y M) 12).length) (hn0 : M 3 0 = nI n9) (hrs : rwsOk M n9) {f0 mo : Nat} (hf0 : f0 < 12) (ha0 : a_k M f0) (hmo : mo ≤ n9)
    {ls : Array Slot} {H : Heap} {locs : List Loc} (hl : lv_has ls 16 [(9, .int (nI f0)), (8, .int (nI (u_sum (a_k M) (fun e => (u_own o (a_k M) (a_Y M) e).length) 12))), (7, .int (sI (clT M) 12)), (6, .int (nI mo)), (5, .int (sI (afT M) 12)), (4, .int x4), (3, .int (nI t)), (2, .ref si), (1, .ref (ad 0)), (0, .ref b)]) (hH : h_H D (lS9 s) C H) (hS : va_S (lS9 s) s.heap H locs) : W p l e room_1 s m #[Value.ref b] below meth c H locs (212500 + t * 13000 + 9230 + 12 * 310) (908200 + t * 61400 + 38760 + 12 * 1860) (lw_Z below #[Value.ref b] s) (F0 m 545 ls []) := by
  obtain ⟨hx, hb, hr9, hml, hown, hts0, hXs0, hbl, hlocks, hgv⟩ := id C0
  have hts : ∀ w ∈ wsL_law, w.before #[Value.ref b] s = true := fun w h => hts0 w (wsL_law_in w h)
  have hown : s.vm.findClass RL = some m.cls := hown
  have hA : ∀ q : Nat, s.heap.size ≤ q → lS9 s q := fun _ h => h
  have hbA : ¬ lS9 s b := Nat.not_le.mpr hbl
  have hXs : sX b L xs s := hXs0
  have hin4 : ∀ w ∈ u_ws RX4 TX4 3, w ∈ wsL_law := by decide +kernel
  obtain ⟨hM1, hsi1, hfd1, hoa1, -, hO, -, hSS⟩ := id hk
  have hle := k_N_le M
  obtain ⟨ho, hord⟩ := hSS.o
  have hn6 := hrs.1
  obtain ⟨hsum, hsum2⟩ := af_sum hSS 12 (Nat.le_refl _)
  have hadd : n9 ≤ u_sum (a_k M) (fun e => (kR M o e).length) 12 := by rw [en9]; exact u_add 12
  have hmine : u_sum (a_k M) (fun e => (u_own o (a_k M) (a_Y M) e).length) 12 ≤ n9 := by rw [en9]; exact u_mine
  refine lv_aload_n hx hb dL_law_545 rfl (lv_at hl 8 rfl) ?_
  refine lv_iconst (v := 2) hx hb dL_law_546 (by decide) ?_
  refine kx_same (vx_runV (As := [.int (nI 2)]) (rest := []) ⟨hx, hb, hml, hown, hts⟩ (c_count l hst D I Z F ad sa hI M H.size n9 hrs (nI 2)) (cwV 1 hts gL_law_X2_count rfl rfl rfl (by decide +kernel) ⟨Nat.le_of_ble_eq_true rfl, Nat.le_of_ble_eq_true rfl⟩) (k_preV hKc hNc hX hA hI hM1 hH hS) rfl rfl hl.1 rfl (lv_room (Nat.le_of_ble_eq_true rfl)) dL_law_547 ⟨show 212500 + t * 13000 + 9230 + 12 * 310 + 1 ≤ 600130 by omega, show 908200 + t * 61400 + 38760 + 12 * 1860 + 6 ≤ 7301080 by omega⟩) hI hM1 hH hS hA (fun E h => h.2 ⟨2, by decide, rfl⟩) (fun r u h => (by obtain ⟨_, _, _, h9, _⟩ := h; exact h9)) (fun r H locs hp hH hS => ?_)
  obtain ⟨k1, hk1, ek1, -, hr8⟩ := hp
  have ek2 : k1 = 2 := ((nI_eq (by omega) (by omega)).mp ek1).symm
  rw [hr8, ek2]
  clear ek1 ek2 hk1 hr8
  refine lv_iload hx hb dL_law_550 (lv_at hl 4 rfl) ?_
  refine lv_icmp_ne (tgt := 608) hx hb dL_law_552 (by decide) (fun c1 => ?_) (fun c1 => ?_)
  · exact absurd rfl c1
  · skip
    refine lv_aload_n hx hb dL_law_555 rfl (lv_at hl 8 rfl) ?_
    refine lv_iconst (v := 1) hx hb dL_law_556 (by decide) ?_
    refine kx_same (vx_runV (As := [.int (nI 1)]) (rest := []) ⟨hx, hb, hml, hown, hts⟩ (c_count l hst D I Z F ad sa hI M H.size n9 hrs (nI 1)) (cwV 1 hts gL_law_X2_count rfl rfl rfl (by decide +kernel) ⟨Nat.le_of_ble_eq_true rfl, Nat.le_of_ble_eq_true rfl⟩) (k_preV hKc hNc hX hA hI hM1 hH hS) rfl rfl hl.1 rfl (lv_room (Nat.le_of_ble_eq_true rfl)) dL_law_557 ⟨show 212500 + t * 13000 + 9230 + 12 * 310 + 2 ≤ 600130 by omega, show 908200 + t * 61400 + 38760 + 12 * 1860 + 12 ≤ 7301080 by omega⟩) hI hM1 hH hS hA (fun E h => h.2 ⟨1, by decide, rfl⟩) (fun r u h => (by obtain ⟨_, _, _, h9, _⟩ := h; exact h9)) (fun r H locs hp hH hS => ?_)
    obtain ⟨k1, hk1, ek1, -, hr8⟩ := hp
    have ek2 : k1 = 1 := ((nI_eq (by omega) (by omega)).mp ek1).symm
    rw [hr8, ek2]
    clear ek1 ek2 hk1 hr8
    rw [show (tcF M n9 1) = nI n9 from rfl]
    refine lv_iload hx hb dL_law_560 (lv_at hl 4 rfl) ?_
    refine lv_icmp_gt (tgt := 608) hx hb dL_law_562 (by decide) (fun c2 => ?_) (fun c2 => ?_)
    · exact absurd c2 (by rw [hsum]; exact nI_nlt hadd (by omega))
    · skip
      refine lv_aload_n hx hb dL_law_565 rfl (lv_at hl 8 rfl) ?_
      refine lv_iconst (v := 1) hx hb dL_law_566 (by decide) ?_
      refine kx_same (vx_runV (As := [.int (nI 1)]) (rest := []) ⟨hx, hb, hml, hown, hts⟩ (c_count l hst D I Z F ad sa hI M H.size n9 hrs (nI 1)) (cwV 1 hts gL_law_X2_count rfl rfl rfl (by decide +kernel) ⟨Nat.le_of_ble_eq_true rfl, Nat.le_of_ble_eq_true rfl⟩) (k_preV hKc hNc hX hA hI hM1 hH hS) rfl rfl hl.1 rfl (lv_room (Nat.le_of_ble_eq_true rfl)) dL_law_567 ⟨show 212500 + t * 13000 + 9230 + 12 * 310 + 3 ≤ 600130 by omega, show 908200 + t * 61400 + 38760 + 12 * 1860 + 18 ≤ 7301080 by omega⟩) hI hM1 hH hS hA (fun E h => h.2 ⟨1, by decide, rfl⟩) (fun r u h => (by obtain ⟨_, _, _, h9, _⟩ := h; exact h9)) (fun r H locs hp hH hS => ?_)
      obtain ⟨k1, hk1, ek1, -, hr8⟩ := hp
      have ek2 : k1 = 1 := ((nI_eq (by omega) (by omega)).mp ek1).symm
      rw [hr8, ek2]
      clear ek1 ek2 hk1 hr8
      rw [show (tcF M n9 1) = nI n9 from rfl]
      refine lv_iload hx hb dL_law_570 (lv_at hl 3 rfl) ?_
      refine lv_icmp_lt (tgt := 608) hx hb dL_law_572 (by decide) (fun c3 => ?_) (fun c3 => ?_)
      · exact absurd c3 (nI_nlt hmo (by omega))
      · skip
        refine lv_aload_n hx hb dL_law_575 rfl (lv_at hl 8 rfl) ?_
        refine lv_iconst (v := 1) hx hb dL_law_576 (by decide) ?_
        refine kx_same (vx_runV (As := [.int (nI 1)]) (rest := []) ⟨hx, hb, hml, hown, hts⟩ (c_count l hst D I Z F ad sa hI M H.size n9 hrs (nI 1)) (cwV 1 hts gL_law_X2_count rfl rfl rfl (by decide +kernel) ⟨Nat.le_of_ble_eq_true rfl, Nat.le_of_ble_eq_true rfl⟩) (k_preV hKc hNc hX hA hI hM1 hH hS) rfl rfl hl.1 rfl (lv_room (Nat.le_of_ble_eq_true rfl)) dL_law_577 ⟨show 212500 + t * 13000 + 9230 + 12 * 310 + 4 ≤ 600130 by omega, show 908200 + t * 61400 + 38760 + 12 * 1860 + 24 ≤ 7301080 by omega⟩) hI hM1 hH hS hA (fun E h => h.2 ⟨1, by decide, rfl⟩) (fun r u h => (by obtain ⟨_, _, _, h9, _⟩ := h; exact h9)) (fun r H locs hp hH hS => ?_)
        obtain ⟨k1, hk1, ek1, -, hr8⟩ := hp
        have ek2 : k1 = 1 := ((nI_eq (by omega) (by omega)).mp ek1).symm
        rw [hr8, ek2]
        clear ek1 ek2 hk1 hr8
        rw [show (tcF M n9 1) = nI n9 from rfl]
        refine lv_iload hx hb dL_law_580 (lv_at hl 1 rfl) ?_
        refine lv_icmp_lt (tgt := 608) hx hb dL_law_582 (by decide) (fun c4 => ?_) (fun c4 => ?_)
        · exact absurd c4 (nI_nlt hmine (by omega))
        · skip
          refine lv_aload_n hx hb dL_law_585 rfl (lv_at hl 8 rfl) ?_
          refine lv_iconst (v := 4) hx hb dL_law_586 (by decide) ?_
          refine kx_same (vx_runV (As := [.int (nI 4)]) (rest := []) ⟨hx, hb, hml, hown, hts⟩ (c_count l hst D I Z F ad sa hI M H.size n9 hrs (nI 4)) (cwV 1 hts gL_law_X2_count rfl rfl rfl (by decide +kernel) ⟨Nat.le_of_ble_eq_true rfl, Nat.le_of_ble_eq_true rfl⟩) (k_preV hKc hNc hX hA hI hM1 hH hS) rfl rfl hl.1 rfl (lv_room (Nat.le_of_ble_eq_true rfl)) dL_law_587 ⟨show 212500 + t * 13000 + 9230 + 12 * 310 + 5 ≤ 600130 by omega, show 908200 + t * 61400 + 38760 + 12 * 1860 + 30 ≤ 7301080 by omega⟩) hI hM1 hH hS hA (fun E h => h.2 ⟨4, by decide, rfl⟩) (fun r u h => (by obtain ⟨_, _, _, h9, _⟩ := h; exact h9)) (fun r H locs hp hH hS => ?_)
          obtain ⟨k1, hk1, ek1, -, hr8⟩ := hp
          have ek2 : k1 = 4 := ((nI_eq (by omega) (by omega)).mp ek1).symm
          rw [hr8, ek2]
          clear ek1 ek2 hk1 hr8
          refine lv_iload hx hb dL_law_590 (lv_at hl 2 rfl) ?_
          refine lv_icmp_ne (tgt := 608) hx hb dL_law_592 (by decide) (fun c5 => ?_) (fun c5 => ?_)
          · exact absurd rfl c5
          · skip
            obtain ⟨kc, hkc, ekc⟩ := cf_le (M := M) n9 (by omega)
            refine lv_aload_n hx hb dL_law_595 rfl (lv_at hl 8 rfl) ?_
            refine lv_iconst (v := 3) hx hb dL_law_596 (by decide) ?_
            refine kx_same (vx_runV (As := [.int (nI 3)]) (rest := []) ⟨hx, hb, hml, hown, hts⟩ (c_count l hst D I Z F ad sa hI M H.size n9 hrs (nI 3)) (cwV 1 hts gL_law_X2_count rfl rfl rfl (by decide +kernel) ⟨Nat.le_of_ble_eq_true rfl, Nat.le_of_ble_eq_true rfl⟩) (k_preV hKc hNc hX hA hI hM1 hH hS) rfl rfl hl.1 rfl (lv_room (Nat.le_of_ble_eq_true rfl)) dL_law_597 ⟨show 212500 + t * 13000 + 9230 + 12 * 310 + 6 ≤ 600130 by omega, show 908200 + t * 61400 + 38760 + 12 * 1860 + 36 ≤ 7301080 by omega⟩) hI hM1 hH hS hA (fun E h => h.2 ⟨3, by decide, rfl⟩) (fun r u h => (by obtain ⟨_, _, _, h9, _⟩ := h; exact h9)) (fun r H locs hp hH hS => ?_)
            obtain ⟨k1, hk1, ek1, -, hr8⟩ := hp
            have ek2 : k1 = 3 := ((nI_eq (by omega) (by omega)).mp ek1).symm
            rw [hr8, ek2]
            clear ek1 ek2 hk1 hr8
            rw [show (tcF M n9 3) = nI kc from ekc]
            refine lv_aload_n hx hb dL_law_600 rfl (lv_at hl 8 rfl) ?_
            refine lv_iconst (v := 1) hx hb dL_law_601 (by decide) ?_
            refine kx_same (vx_runV (As := [.int (nI 1)]) (rest := [.int (nI kc)]) ⟨hx, hb, hml, hown, hts⟩ (c_count l hst D I Z F ad sa hI M H.size n9 hrs (nI 1)) (cwV 1 hts gL_law_X2_count rfl rfl rfl (by decide +kernel) ⟨Nat.le_of_ble_eq_true rfl, Nat.le_of_ble_eq_true rfl⟩) (k_preV hKc hNc hX hA hI hM1 hH hS) rfl rfl hl.1 rfl (lv_room (Nat.le_of_ble_eq_true rfl)) dL_law_602 ⟨show 212500 + t * 13000 + 9230 + 12 * 310 + 7 ≤ 600130 by omega, show 908200 + t * 61400 + 38760 + 12 * 1860 + 42 ≤ 7301080 by omega⟩) hI hM1 hH hS hA (fun E h => h.2 ⟨1, by decide, rfl⟩) (fun r u h => (by obtain ⟨_, _, _, h9, _⟩ := h; exact h9)) (fun r H locs hp hH hS => ?_)
            obtain ⟨k1, hk1, ek1, -, hr8⟩ := hp
            have ek2 : k1 = 1 := ((nI_eq (by omega) (by omega)).mp ek1).symm
            rw [hr8, ek2]
            clear ek1 ek2 hk1 hr8
            rw [show (tcF M n9 1) = nI n9 from rfl]
            refine lv_icmp_le (tgt := 610) hx hb dL_law_605 (by decide) (fun c6 => ?_) (fun c6 => ?_)
            · skip
              have at666 : ∀ (C1 : hC) (M1 : Nat → Nat → Int32) (ls : Array Slot) (H : Heap) (locs : List Loc), k_I cs I Z F ad si fd oa C1 M1 o Fd O → n9 = (u_L o (a_k M1) (a_Y M1) 12).length → 2 ≤ k_N M1 → a_k M1 f0 → lv_has ls 16 [(9, .int (nI f0)), (11, .int (nI n9)), (4, .int x4), (3, .int (nI t)), (2, .ref si), (1, .ref (ad 0)), (0, .ref b)] → h_H D (lS9 s) C1 H → va_S (lS9 s) s.heap H locs → W p l e room_1 s m #[Value.ref b] below meth c H locs (212500 + t * 13000 + 9230 + 12 * 310 + 12) (908200 + t * 61400 + 38760 + 12 * 1860 + 72) (lw_Z below #[Value.ref b] s) (F0 m 666 ls []) := by
                intro C1 M1 ls H locs hk1 en1 h21 ha1 hl hH hS
                obtain ⟨hMa, hsia, hfda, hoaa, -, -, -, hS1⟩ := id hk1
                obtain ⟨n1, e1, hn01, hrs1⟩ := hS1.rws
                have e2 : n1 = n9 := e1.trans en1.symm
                subst e2
                have hle1 := k_N_le M1
                refine lv_aload_n hx hb dL_law_666 rfl (lv_at hl 5 rfl) ?_
                refine lv_iconst (v := 0) hx hb dL_law_667 (by decide) ?_
                refine kx_same (vx_runV (As := [.int (nI 0)]) (rest := []) ⟨hx, hb, hml, hown, hts⟩ (c_count l hst D I Z F ad sa hI M1 H.size n1 hrs1 (nI 0)) (cwV 1 hts gL_law_X2_count rfl rfl rfl (by decide +kernel) ⟨Nat.le_of_ble_eq_true rfl, Nat.le_of_ble_eq_true rfl⟩) (k_preV hKc hNc hX hA hI hMa hH hS) rfl rfl hl.1 rfl (lv_room (Nat.le_of_ble_eq_true rfl)) dL_law_668 ⟨show 212500 + t * 13000 + 9230 + 12 * 310 + 12 + 1 ≤ 600130 by omega, show 908200 + t * 61400 + 38760 + 12 * 1860 + 72 + 6 ≤ 7301080 by omega⟩) hI hMa hH hS hA (fun E h => h.2 ⟨0, by decide, rfl⟩) (fun r u h => (by obtain ⟨_, _, _, h9, _⟩ := h; exact h9)) (fun r H locs hp hH hS => ?_)
                obtain ⟨k1, hk1, ek1, -, hr8⟩ := hp
                have ek2 : k1 = 0 := ((nI_eq (by omega) (by omega)).mp ek1).symm
                rw [hr8, ek2]
                clear ek1 ek2 hk1 hr8
                rw [show (tcF M1 n1 0) = nI (k_N M1) from k_N_ck]
                refine lv_istore (lv' := [(12, .int (nI (k_N M1))), (9, .int (nI f0)), (11, .int (nI n1)), (4, .int x4), (3, .int (nI t)), (2, .ref si), (1, .ref (ad 0)), (0, .ref b)]) hx hb dL_law_671 hl (by decide) rfl (fun ls hl => ?_)
                refine lv_iload hx hb dL_law_673 (lv_at hl 0 rfl) ?_
                refine lv_bipush (v := 12) hx hb dL_law_675 (by decide) ?_
                refine lv_icmp_ne (tgt := 683) hx hb dL_law_677 (by decide) (fun d1 => ?_) (fun d1 => ?_)
                · skip
                  obtain ⟨fr, hfr⟩ := fr_ex (M := M1) (fun h9 => d1 (by rw [h9]; rfl))
                  have hfr12 := hfr.1
                  have hnk : ¬ a_k M1 fr := fun h9 => h9 hfr.2.1
                  have hne : f0 ≠ fr := fun h9 => hnk (by rw [← h9]; exact ha1)
                  refine lv_iload hx hb dL_law_683 (lv_at hl 3 rfl) ?_
                  refine lv_iconst (v := 2) hx hb dL_law_685 (by decide) ?_
                  refine lv_ishr hx hb dL_law_686 ?_
                  refine lv_iconst (v := 2) hx hb dL_law_687 (by decide) ?_
                  refine h_calli (va_runS (As := [.int (x4 >>> (2 &&& 31)), .int (nI 2)]) (rest := []) ⟨hx, hb, hml, hown, hts⟩ (c_l_below l D cs _ H.size _ 2 (by decide) (by decide)) (va_cwS 2 hts gL_law_L_below rfl rfl rfl (by decide +kernel) ⟨Nat.le_of_ble_eq_true rfl, Nat.le_of_ble_eq_true rfl⟩) (h_preS hK hN hH) rfl rfl hl.1 rfl (lv_room (Nat.le_of_ble_eq_true rfl)) dL_law_688 ⟨show 212500 + t * 13000 + 9230 + 12 * 310 + 12 + 1 + 0 ≤ 600130 by omega, show 908200 + t * 61400 + 38760 + 12 * 1860 + 72 + 6 + 0 ≤ 7301080 by omega⟩) hH hS hA (fun r8 u9 H locs hp hH hS => ?_)
                  obtain ⟨hu, wh, hwh, hr8⟩ := hp
                  rw [hu] at hH
                  rw [hr8]
                  clear hr8 hu
                  refine lv_istore (lv' := [(13, .int (nI wh)), (12, .int (nI (k_N M1))), (9, .int (nI f0)), (11, .int (nI n1)), (4, .int x4), (3, .int (nI t)), (2, .ref si), (1, .ref (ad 0)), (0, .ref b)]) hx hb dL_law_691 hl (by decide) rfl (fun ls hl => ?_)
                  refine lv_aload_n hx hb dL_law_693 rfl (lv_at hl 7 rfl) ?_
                  refine lv_iload hx hb dL_law_694 (lv_at hl 2 rfl) ?_
                  refine lv_iload hx hb dL_law_696 (lv_at hl 2 rfl) ?_
                  refine lv_iload hx hb dL_law_698 (lv_at hl 0 rfl) ?_
                  refine kx_calli (vx_runV (As := [.int (nI f0), .int (nI f0), .int (nI wh)]) (rest := []) ⟨hx, hb, hml, hown, hts⟩ (c_would l hst D I Z F ad sa hI M1 H.size (nI f0) (nI f0) (nI wh)) (cwV 3 hts gL_law_X2_would rfl rfl rfl (by decide +kernel) ⟨Nat.le_of_ble_eq_true rfl, Nat.le_of_ble_eq_true rfl⟩) (k_preV hKc hNc hX hA hI hMa hH hS) rfl rfl hl.1 rfl (lv_room (Nat.le_of_ble_eq_true rfl)) dL_law_700 ⟨show 212500 + t * 13000 + 9230 + 12 * 310 + 12 + 4 ≤ 600130 by omega, show 908200 + t * 61400 + 38760 + 12 * 1860 + 72 + 24 ≤ 7301080 by omega⟩) hI hMa hH hS hA (fun E h => h.2 ⟨⟨f0, fdOk_of hf0 ha1⟩, ⟨f0, fdOk_of hf0 ha1⟩, wh, by omega, rfl⟩) (fun r u H locs hp hH hM9 hS => ?_)
                  obtain ⟨ka, kb, wh2, hka, hkb, hwh2, ewh, hu, hrk⟩ := hp
                  have e_a := fd_one hf0 hka
                  subst e_a
                  have e_b := fd_one hka.1 hkb
                  subst e_b
                  have e_w : wh2 = wh := ((nI_eq (by omega) (by omega)).mp ewh).symm
                  subst e_w
                  rw [hu] at hH hM9 hrk
                  rw [hrk, ta_would hS1.o.1 hS1.o.2 hS1.2.1 hkb.1 hwh]
                  clear hu hrk ewh
                  obtain ⟨M4, hM4⟩ : ∃ M4 : Nat → Nat → Int32, M4 = wdF M1 kb kb wh2 := ⟨_, rfl⟩
                  have hs4 : ∀ i : Nat, i < 13 ∨ 24 < i → M4 i = M1 i := fun i hi => by rw [hM4]; exact wd_row hi
                  rw [← hM4] at hH hM9
                  clear hM4
                  have hMw := hM9
                  have ek4 := sa_k hs4
                  have eY4 := sa_Y hs4
                  have hS4 := hS1.same hs4
                  have hkb12 := hkb.1
                  have hak4 : a_k M4 kb := by rw [ek4]; exact ha1
                  have hfr4 : frOk M4 fr := ⟨hfr12, by rw [hs4 _ (by omega)]; exact hfr.2.1, fun g hg => by rw [hs4 _ (by omega)]; exact hfr.2.2 g hg⟩
                  have hN4 : k_N M4 = k_N M1 := k_N_eq (fun k _ => by rw [ek4])
                  refine lv_istore (lv' := [(14, .int (nI (r_R o (a_Y M1 kb)).length)), (13, .int (nI wh2)), (12, .int (nI (k_N M1))), (9, .int (nI kb)), (11, .int (nI n1)), (4, .int x4), (3, .int (nI t)), (2, .ref si), (1, .ref (ad 0)), (0, .ref b)]) hx hb dL_law_703 hl (by decide) rfl (fun ls hl => ?_)
                  refine lv_aload_n hx hb dL_law_705 rfl (lv_at hl 8 rfl) ?_
                  refine lv_iload hx hb dL_law_706 (lv_at hl 3 rfl) ?_
                  refine lv_iload hx hb dL_law_708 (lv_at hl 3 rfl) ?_
                  refine lv_iload hx hb dL_law_710 (lv_at hl 1 rfl) ?_
                  refine kx_calli (vx_runV (As := [.int (nI kb), .int (nI kb), .int (nI wh2)]) (rest := []) ⟨hx, hb, hml, hown, hts⟩ (c_join l hst D I Z F ad sa hI M4 H.size (nI kb) (nI kb) (nI wh2)) (cwV 3 hts gL_law_X2_join rfl rfl rfl (by decide +kernel) ⟨Nat.le_of_ble_eq_true rfl, Nat.le_of_ble_eq_true rfl⟩) (k_preV hKc hNc hX hA hI hMw hH hS) rfl rfl hl.1 rfl (lv_room (Nat.le_of_ble_eq_true rfl)) dL_law_712 ⟨show 212500 + t * 13000 + 9230 + 12 * 310 + 12 + 8 ≤ 600130 by omega, show 908200 + t * 61400 + 38760 + 12 * 1860 + 72 + 48 ≤ 7301080 by omega⟩) hI hMw hH hS hA (xpN_no ⟨⟨kb, fdOk_of hkb12 hak4⟩, ⟨kb, fdOk_of hkb12 hak4⟩, wh2, by omega, rfl⟩ hfr4) (fun r u H locs hp hH hM9 hS => ?_)
                  obtain ⟨k1, k2, w2, f9, hk1a, hk2a, hw2, ew2, hf9, hrk, hu⟩ := hp
                  have g_a := fd_one hkb12 hk1a
                  have g_b := fd_one hkb12 hk2a
                  have g_w : w2 = wh2 := ((nI_eq (by omega) (by omega)).mp ew2).symm
                  have g_f := fr_one hfr4 hf9
                  rw [hrk, ← g_f]
                  rw [g_a, g_b, g_w, ← g_f] at hu
                  rw [hu] at hH
                  obtain ⟨T, hTd⟩ : ∃ T : Nat → Int32, T = sjT M4 kb kb wh2 := ⟨_, rfl⟩
                  have hTY : y_f T = a_Y M4 kb := by rw [hTd]; exact sj_selfY hS4.2.1 hkb12 hwh
                  have hT01 : ∀ j : Nat, j < 256 → T j = 0 ∨ T j = 1 := by rw [hTd]; exact sj_T
                  have hTj : ∀ j : Nat, j < 256 → T j = M4 (25 + 6 * kb + 1) j := fun j hj => by rw [hTd]; exact sj_self hS4.2.1 hkb12 hwh hj
                  rw [← hTd] at hu hH
                  clear hTd
                  have hS5 : k_S (nwF M4 fr T) o := hS4.new hT01
                  have hnk4 : ¬ a_k M4 fr := fun h9 => h9 hfr4.2.1
                  obtain ⟨hY5, hY50⟩ := tw_Y (M := M4) (f := fr) (f0 := kb) hne hTY
                  have hown5 := tw_own (o := o) hfr12 hkb12 hak4 hne hTY
                  have hn5 := tw_n (o := o) hfr12 hkb12 hak4 hnk4 hne hTY
                  have hN5 : k_N (nwF M4 fr T) = k_N M4 + 1 := k_N_new hfr12 hfr4.2.1
                  have ha5 : a_k (nwF M4 fr T) kb := nw_k.mpr (Or.inr hak4)
                  have haf5 : a_k (nwF M4 fr T) fr := nw_k.mpr (Or.inl rfl)
                  have hcm : ∀ j : Nat, j < 256 → nwF M4 fr T (25 + 6 * fr + 1) j = nwF M4 fr T (25 + 6 * kb + 1) j := fun j hj => by rw [nw_yes hj, nw_yes hj, if_pos rfl, if_neg hne]; exact hTj j hj
                  have h6k : ∀ k : Nat, k < 12 → (a_k (laF (mst (nwF M4 fr T) (25 + 6 * fr) 0 0)) k ↔ a_k M1 k) := fun k _ => by rw [tw_k hnk4, ek4]
                  have h6Y : ∀ k : Nat, k < 12 → a_k M1 k → a_Y (laF (mst (nwF M4 fr T) (25 + 6 * fr) 0 0)) k = a_Y M1 k := fun k _ hk9 => by rw [tw_Yk hnk4 (by rw [ek4]; exact hk9), eY4]
                  have hM5 : kM I Z F ad (nwF M4 fr T) (kC I Z F ad (nwF M4 fr T) (kC I Z F ad M4 C1)) := kC_M hI hMw
                  obtain ⟨M5, hM5d⟩ : ∃ M5 : Nat → Nat → Int32, M5 = nwF M4 fr T := ⟨_, rfl⟩
                  rw [← hM5d] at hH hS5 hY5 hY50 hown5 hn5 hN5 ha5 haf5 hcm h6k h6Y hM5
                  clear hM5d hu hrk
                  obtain ⟨n5, e5, hn05, hrs5⟩ := hS5.rws
                  have e6 : n5 = n1 := by rw [e5, hn5, ek4, eY4]; exact en1.symm
                  rw [e6] at hn05 hrs5
                  refine lv_istore (lv' := [(15, .int (nI fr)), (14, .int (nI (r_R o (a_Y M1 kb)).length)), (13, .int (nI wh2)), (12, .int (nI (k_N M1))), (9, .int (nI kb)), (11, .int (nI n1)), (4, .int x4), (3, .int (nI t)), (2, .ref si), (1, .ref (ad 0)), (0, .ref b)]) hx hb dL_law_715 hl (by decide) rfl (fun ls hl => ?_)
                  refine lv_aload_n hx hb dL_law_717 rfl (lv_at hl 9 rfl) ?_
                  refine lv_iload hx hb dL_law_718 (lv_at hl 0 rfl) ?_
                  refine lv_iload hx hb dL_law_720 (lv_at hl 4 rfl) ?_
                  refine kx_same (vx_runV (As := [.int (nI fr), .int (nI kb)]) (rest := []) ⟨hx, hb, hml, hown, hts⟩ (c_compare l hst D I Z F ad sa hI M5 H.size (nI fr) (nI kb)) (cwV 2 hts gL_law_X2_compare rfl rfl rfl (by decide +kernel) ⟨Nat.le_of_ble_eq_true rfl, Nat.le_of_ble_eq_true rfl⟩) (k_preV hKc hNc hX hA hI hM5 hH hS) rfl rfl hl.1 rfl (lv_room (Nat.le_of_ble_eq_true rfl)) dL_law_722 ⟨show 212500 + t * 13000 + 9230 + 12 * 310 + 12 + 10 ≤ 600130 by omega, show 908200 + t * 61400 + 38760 + 12 * 1860 + 72 + 60 ≤ 7301080 by omega⟩) hI hM5 hH hS hA (fun E h => h.2 ⟨⟨fr, fdOk_of hfr12 haf5⟩, kb, fdOk_of hkb12 ha5⟩) (fun r u h => (by obtain ⟨_, _, _, _, h9, _⟩ := h; exact h9)) (fun r H locs hp hH hS => ?_)
                  obtain ⟨k3, k4, hk3a, hk4a, -, hrk⟩ := hp
                  rw [hrk, fd_one hfr12 hk3a, fd_one hkb12 hk4a, cm_0 hcm]
                  clear hrk hk3a hk4a
                  refine lv_if_ne (tgt := 801) hx hb dL_law_725 (by decide) (fun d2 => ?_) (fun d2 => ?_)
                  · exact absurd rfl d2
                  · skip
                    have hl5 : (kR M5 o fr).length = (r_R o (a_Y M1 kb)).length := by show (r_R o (a_Y M5 fr)).length = _; rw [hY5, eY4]
                    have hl6 : (kR M5 o kb).length = (r_R o (a_Y M1 kb)).length := by show (r_R o (a_Y M5 kb)).length = _; rw [hY50, eY4]
                    refine lv_aload_n hx hb dL_law_728 rfl (lv_at hl 9 rfl) ?_
                    refine lv_iload hx hb dL_law_729 (lv_at hl 0 rfl) ?_
                    refine lv_iconst (v := 0) hx hb dL_law_731 (by decide) ?_
                    refine kx_same (vx_runV (As := [.int (nI fr), .int (nI 0)]) (rest := []) ⟨hx, hb, hml, hown, hts⟩ (c_about l hst D I Z F ad sa hI M5 H.size n1 hrs5 (nI fr) (nI 0)) (cwV 2 hts gL_law_X2_about rfl rfl rfl (by decide +kernel) ⟨Nat.le_of_ble_eq_true rfl, Nat.le_of_ble_eq_true rfl⟩) (k_preV hKc hNc hX hA hI hM5 hH hS) rfl rfl hl.1 rfl (lv_room (Nat.le_of_ble_eq_true rfl)) dL_law_732 ⟨show 212500 + t * 13000 + 9230 + 12 * 310 + 12 + 12 ≤ 600130 by omega, show 908200 + t * 61400 + 38760 + 12 * 1860 + 72 + 72 ≤ 7301080 by omega⟩) hI hM5 hH hS hA (ab_no hfr12 haf5 (by decide)) (fun r u h => (by obtain ⟨_, _, _, _, _, _, _, _, h9, _⟩ := h; exact h9)) (fun r H locs hp hH hS => ?_)
                    rw [ab_eq hS5 hfr12 haf5 (by decide) hp]
                    rw [show tdF M5 (25 + 6 * fr) (kR M5 o fr).length 0 = nI (r_R o (a_Y M1 kb)).length from by rw [hl5]; rfl]
                    refine lv_iload hx hb dL_law_735 (lv_at hl 1 rfl) ?_
                    refine lv_icmp_ne (tgt := 801) hx hb dL_law_737 (by decide) (fun d3 => ?_) (fun d3 => ?_)
                    · exact absurd rfl d3
                    · skip
                      refine lv_aload_n hx hb dL_law_740 rfl (lv_at hl 9 rfl) ?_
                      refine lv_iload hx hb dL_law_741 (lv_at hl 0 rfl) ?_
                      refine lv_iconst (v := 0) hx hb dL_law_743 (by decide) ?_
                      refine kx_same (vx_runV (As := [.int (nI fr), .int (nI 0)]) (rest := []) ⟨hx, hb, hml, hown, hts⟩ (c_about l hst D I Z F ad sa hI M5 H.size n1 hrs5 (nI fr) (nI 0)) (cwV 2 hts gL_law_X2_about rfl rfl rfl (by decide +kernel) ⟨Nat.le_of_ble_eq_true rfl, Nat.le_of_ble_eq_true rfl⟩) (k_preV hKc hNc hX hA hI hM5 hH hS) rfl rfl hl.1 rfl (lv_room (Nat.le_of_ble_eq_true rfl)) dL_law_744 ⟨show 212500 + t * 13000 + 9230 + 12 * 310 + 12 + 14 ≤ 600130 by omega, show 908200 + t * 61400 + 38760 + 12 * 1860 + 72 + 84 ≤ 7301080 by omega⟩) hI hM5 hH hS hA (ab_no hfr12 haf5 (by decide)) (fun r u h => (by obtain ⟨_, _, _, _, _, _, _, _, h9, _⟩ := h; exact h9)) (fun r H locs hp hH hS => ?_)
                      rw [ab_eq hS5 hfr12 haf5 (by decide) hp]
                      rw [show tdF M5 (25 + 6 * fr) (kR M5 o fr).length 0 = nI (r_R o (a_Y M1 kb)).length from by rw [hl5]; rfl]
                      refine lv_aload_n hx hb dL_law_747 rfl (lv_at hl 9 rfl) ?_
                      refine lv_iload hx hb dL_law_748 (lv_at hl 4 rfl) ?_
                      refine lv_iconst (v := 0) hx hb dL_law_750 (by decide) ?_
                      refine kx_same (vx_runV (As := [.int (nI kb), .int (nI 0)]) (rest := [.int (nI (r_R o (a_Y M1 kb)).length)]) ⟨hx, hb, hml, hown, hts⟩ (c_about l hst D I Z F ad sa hI M5 H.size n1 hrs5 (nI kb) (nI 0)) (cwV 2 hts gL_law_X2_about rfl rfl rfl (by decide +kernel) ⟨Nat.le_of_ble_eq_true rfl, Nat.le_of_ble_eq_true rfl⟩) (k_preV hKc hNc hX hA hI hM5 hH hS) rfl rfl hl.1 rfl (lv_room (Nat.le_of_ble_eq_true rfl)) dL_law_751 ⟨show 212500 + t * 13000 + 9230 + 12 * 310 + 12 + 16 ≤ 600130 by omega, show 908200 + t * 61400 + 38760 + 12 * 1860 + 72 + 96 ≤ 7301080 by omega⟩) hI hM5 hH hS hA (ab_no hkb12 ha5 (by decide)) (fun r u h => (by obtain ⟨_, _, _, _, _, _, _, _, h9, _⟩ := h; exact h9)) (fun r H locs hp hH hS => ?_)
                      rw [ab_eq hS5 hkb12 ha5 (by decide) hp]
                      rw [show tdF M5 (25 + 6 * kb) (kR M5 o kb).length 0 = nI (r_R o (a_Y M1 kb)).length from by rw [hl6]; rfl]
                      refine lv_icmp_ne (tgt := 801) hx hb dL_law_754 (by decide) (fun d4 => ?_) (fun d4 => ?_)
                      · exact absurd rfl d4
                      · skip
                        have hW5 := (hS5.tW hfr12 haf5).1
                        refine lv_aload_n hx hb dL_law_757 rfl (lv_at hl 9 rfl) ?_
                        refine lv_iload hx hb dL_law_758 (lv_at hl 0 rfl) ?_
                        refine lv_bipush (v := 7) hx hb dL_law_760 (by decide) ?_
                        refine kx_same (vx_runV (As := [.int (nI fr), .int (nI 7)]) (rest := []) ⟨hx, hb, hml, hown, hts⟩ (c_about l hst D I Z F ad sa hI M5 H.size n1 hrs5 (nI fr) (nI 7)) (cwV 2 hts gL_law_X2_about rfl rfl rfl (by decide +kernel) ⟨Nat.le_of_ble_eq_true rfl, Nat.le_of_ble_eq_true rfl⟩) (k_preV hKc hNc hX hA hI hM5 hH hS) rfl rfl hl.1 rfl (lv_room (Nat.le_of_ble_eq_true rfl)) dL_law_762 ⟨show 212500 + t * 13000 + 9230 + 12 * 310 + 12 + 18 ≤ 600130 by omega, show 908200 + t * 61400 + 38760 + 12 * 1860 + 72 + 108 ≤ 7301080 by omega⟩) hI hM5 hH hS hA (ab_no hfr12 haf5 (by decide)) (fun r u h => (by obtain ⟨_, _, _, _, _, _, _, _, h9, _⟩ := h; exact h9)) (fun r H locs hp hH hS => ?_)
                        rw [ab_eq hS5 hfr12 haf5 (by decide) hp]
                        rw [show tdF M5 (25 + 6 * fr) (kR M5 o fr).length 7 = 0 from (co_row hW5).trans (congrArg nI hown5)]
                        refine lv_if_ne (tgt := 801) hx hb dL_law_765 (by decide) (fun d5 => ?_) (fun d5 => ?_)
                        · exact absurd rfl d5
                        · skip
                          refine lv_aload_n hx hb dL_law_768 rfl (lv_at hl 9 rfl) ?_
                          refine lv_iconst (v := 1) hx hb dL_law_769 (by decide) ?_
                          refine kx_same (vx_runV (As := [.int (nI 1)]) (rest := []) ⟨hx, hb, hml, hown, hts⟩ (c_count l hst D I Z F ad sa hI M5 H.size n1 hrs5 (nI 1)) (cwV 1 hts gL_law_X2_count rfl rfl rfl (by decide +kernel) ⟨Nat.le_of_ble_eq_true rfl, Nat.le_of_ble_eq_true rfl⟩) (k_preV hKc hNc hX hA hI hM5 hH hS) rfl rfl hl.1 rfl (lv_room (Nat.le_of_ble_eq_true rfl)) dL_law_770 ⟨show 212500 + t * 13000 + 9230 + 12 * 310 + 12 + 19 ≤ 600130 by omega, show 908200 + t * 61400 + 38760 + 12 * 1860 + 72 + 114 ≤ 7301080 by omega⟩) hI hM5 hH hS hA (fun E h => h.2 ⟨1, by decide, rfl⟩) (fun r u h => (by obtain ⟨_, _, _, h9, _⟩ := h; exact h9)) (fun r H locs hp hH hS => ?_)
                          obtain ⟨k1, hk1, ek1, -, hr8⟩ := hp
                          have ek2 : k1 = 1 := ((nI_eq (by omega) (by omega)).mp ek1).symm
                          rw [hr8, ek2]
                          clear ek1 ek2 hk1 hr8
                          rw [show (tcF M5 n1 1) = nI n1 from rfl]
                          refine lv_iload hx hb dL_law_773 (lv_at hl 5 rfl) ?_
                          refine lv_icmp_ne (tgt := 801) hx hb dL_law_775 (by decide) (fun d6 => ?_) (fun d6 => ?_)
                          · exact absurd rfl d6
                          · skip
                            refine lv_aload_n hx hb dL_law_778 rfl (lv_at hl 9 rfl) ?_
                            refine lv_iconst (v := 0) hx hb dL_law_779 (by decide) ?_
                            refine kx_same (vx_runV (As := [.int (nI 0)]) (rest := []) ⟨hx, hb, hml, hown, hts⟩ (c_count l hst D I Z F ad sa hI M5 H.size n1 hrs5 (nI 0)) (cwV 1 hts gL_law_X2_count rfl rfl rfl (by decide +kernel) ⟨Nat.le_of_ble_eq_true rfl, Nat.le_of_ble_eq_true rfl⟩) (k_preV hKc hNc hX hA hI hM5 hH hS) rfl rfl hl.1 rfl (lv_room (Nat.le_of_ble_eq_true rfl)) dL_law_780 ⟨show 212500 + t * 13000 + 9230 + 12 * 310 + 12 + 20 ≤ 600130 by omega, show 908200 + t * 61400 + 38760 + 12 * 1860 + 72 + 120 ≤ 7301080 by omega⟩) hI hM5 hH hS hA (fun E h => h.2 ⟨0, by decide, rfl⟩) (fun r u h => (by obtain ⟨_, _, _, h9, _⟩ := h; exact h9)) (fun r H locs hp hH hS => ?_)
                            obtain ⟨k1, hk1, ek1, -, hr8⟩ := hp
                            have ek2 : k1 = 0 := ((nI_eq (by omega) (by omega)).mp ek1).symm
                            rw [hr8, ek2]
                            clear ek1 ek2 hk1 hr8
                            rw [show (tcF M5 n1 0) = nI (k_N M5) from k_N_ck]
                            refine lv_iload hx hb dL_law_783 (lv_at hl 3 rfl) ?_
                            refine lv_iconst (v := 1) hx hb dL_law_785 (by decide) ?_
                            refine lv_iadd hx hb dL_law_786 ?_
                            rw [nI_1, hN5, hN4]
                            refine lv_icmp_ne (tgt := 801) hx hb dL_law_787 (by decide) (fun d7 => ?_) (fun d7 => ?_)
                            · exact absurd rfl d7
                            · skip
                              refine lv_aload_n hx hb dL_law_790 rfl (lv_at hl 9 rfl) ?_
                              refine lv_iload hx hb dL_law_791 (lv_at hl 0 rfl) ?_
                              refine kx_calli (vx_runV (As := [.int (nI fr)]) (rest := []) ⟨hx, hb, hml, hown, hts⟩ (c_drop l hst D I Z F ad sa hI M5 H.size (nI fr)) (cwV 1 hts gL_law_X2_drop rfl rfl rfl (by decide +kernel) ⟨Nat.le_of_ble_eq_true rfl, Nat.le_of_ble_eq_true rfl⟩) (k_preV hKc hNc hX hA hI hM5 hH hS) rfl rfl hl.1 rfl (lv_room (Nat.le_of_ble_eq_true rfl)) dL_law_793 ⟨show 212500 + t * 13000 + 9230 + 12 * 310 + 12 + 21 ≤ 600130 by omega, show 908200 + t * 61400 + 38760 + 12 * 1860 + 72 + 126 ≤ 7301080 by omega⟩) hI hM5 hH hS hA (fun E h => h.2 ⟨fr, fdOk_of hfr12 haf5⟩) (fun r u H locs hp hH hM9 hS => ?_)
                              obtain ⟨k5, hk5a, hu, hrk⟩ := hp
                              rw [fd_one hfr12 hk5a] at hu
                              rw [hu] at hH
                              rw [hrk, hu, k_N_ck]
                              clear hu hrk hk5a
                              have hN6 : k_N (laF (mst M5 (25 + 6 * fr) 0 0)) = k_N M1 := k_N_eq h6k
                              rw [hN6]
                              have hk6 := hk1.moved hI h6k h6Y (hS5.drop (k := fr))
                              rw [kC_kC hI, kC_kC hI] at hH
                              refine lv_iload hx hb dL_law_796 (lv_at hl 3 rfl) ?_
                              refine lv_icmp_eq (tgt := 803) hx hb dL_law_798 (by decide) (fun d8 => ?_) (fun d8 => ?_)
                              · skip
                                refine lv_iinc (v := nI (t + 1)) (lv' := [(3, .int (nI (t + 1))), (15, .int (nI fr)), (14, .int (nI (r_R o (a_Y M1 kb)).length)), (13, .int (nI wh2)), (12, .int (nI (k_N M1))), (9, .int (nI kb)), (11, .int (nI n1)), (4, .int x4), (2, .ref si), (1, .ref (ad 0)), (0, .ref b)]) hx hb dL_law_803 hl (k := 7) rfl (nI_1 t) (by decide) rfl (fun ls hl => ?_)
                                refine lv_goto (tgt := 22) hx hb dL_law_806 (by decide) ?_
                                refine W.widen (k := 212500 + (t + 1) * 13000) (n := 908200 + (t + 1) * 61400) (by omega) (by omega) ?_
                                exact kk _ _ o Fd O ls H locs hk6 (by rw [hN6]; exact h21) (lv_sub hl [0, 8, 9, 10] rfl) hH hS
                              · exact absurd rfl d8
                · skip
                  refine lv_goto (tgt := 803) hx hb dL_law_680 (by decide) ?_
                  refine lv_iinc (v := nI (t + 1)) (lv' := [(3, .int (nI (t + 1))), (12, .int (nI (k_N M1))), (9, .int (nI f0)), (11, .int (nI n1)), (4, .int x4), (2, .ref si), (1, .ref (ad 0)), (0, .ref b)]) hx hb dL_law_803 hl (k := 4) rfl (nI_1 t) (by decide) rfl (fun ls hl => ?_)
                  refine lv_goto (tgt := 22) hx hb dL_law_806 (by decide) ?_
                  refine W.widen (k := 212500 + (t + 1) * 13000) (n := 908200 + (t + 1) * 61400) (by omega) (by omega) ?_
                  exact kk C1 M1 o Fd O ls H locs hk1 h21 (lv_sub hl [0, 5, 6, 7] rfl) hH hS
              refine lv_aload_n hx hb dL_law_610 rfl (lv_at hl 8 rfl) ?_
              refine kr_calli (va_runV (As := []) (rest := []) ⟨hx, hb, hml, hown, hts⟩ (c_advise l D I Z F ad hI M H.size) (cwV 0 hts gL_law_X2_advise rfl rfl rfl (by decide +kernel) ⟨Nat.le_of_ble_eq_true rfl, Nat.le_of_ble_eq_true rfl⟩) (k_preV0 hKc hNc hM1 hH hS) rfl rfl hl.1 rfl (lv_room (Nat.le_of_ble_eq_true rfl)) dL_law_611 ⟨show 212500 + t * 13000 + 9230 + 12 * 310 + 7 ≤ 600130 by omega, show 908200 + t * 61400 + 38760 + 12 * 1860 + 42 ≤ 7301080 by omega⟩) hI hM1 hH hS hA (fun r u H locs hp hH hM9 hS => ?_)
              obtain ⟨hu, hrk⟩ := hp
              obtain ⟨hs7, hadv⟩ := ad_ok hSS en9 hn0 hn6 7 (Nat.le_refl _)
              rw [hu] at hH
              rw [hrk]
              obtain ⟨M7, hM7⟩ : ∃ M7 : Nat → Nat → Int32, M7 = (adL M 7).1 := ⟨_, rfl⟩
              obtain ⟨pl, hpl⟩ : ∃ pl : Int32, pl = (adL M 7).2.2 := ⟨_, rfl⟩
              obtain ⟨pm, hpm⟩ : ∃ pm : Int32, pm = (adL M 7).2.1 := ⟨_, rfl⟩
              rw [← hM7] at hH hs7
              rw [← hpl]
              rw [← hpl, ← hpm] at hadv
              clear hu hrk hM7 hpl hpm hM9
              have ek7 := sa_k hs7
              have eY7 := sa_Y hs7
              have hS7 := hSS.same hs7
              have hk7 := hk.moved hI (M' := M7) (fun k _ => by rw [ek7]) (fun k _ _ => by rw [eY7]) hS7
              have en7 : n9 = (u_L o (a_k M7) (a_Y M7) 12).length := by rw [ek7, eY7]; exact en9
              have h27 : 2 ≤ k_N M7 := by rw [k_N_eq (M := M) (M' := M7) (fun k _ => by rw [ek7])]; exact h2
              have ha7 : a_k M7 f0 := by rw [ek7]; exact ha0
              have hMc : kM I Z F ad M7 (kC I Z F ad M7 C) := hk7.1
              obtain ⟨n7, e7, hn07, hrs7⟩ := hS7.rws
              have e8 : n7 = n9 := e7.trans en7.symm
              rw [e8] at hn07 hrs7
              refine lv_istore (lv' := [(10, .int pl), (9, .int (nI f0)), (8, .int (nI (u_sum (a_k M) (fun e => (u_own o (a_k M) (a_Y M) e).length) 12))), (7, .int (sI (clT M) 12)), (6, .int (nI mo)), (5, .int (sI (afT M) 12)), (4, .int x4), (3, .int (nI t)), (2, .ref si), (1, .ref (ad 0)), (0, .ref b)]) hx hb dL_law_614 hl (by decide) rfl (fun ls hl => ?_)
              refine lv_aload_n hx hb dL_law_616 rfl (lv_at hl 9 rfl) ?_
              refine lv_iconst (v := 1) hx hb dL_law_617 (by decide) ?_
              refine kx_same (vx_runV (As := [.int (nI 1)]) (rest := []) ⟨hx, hb, hml, hown, hts⟩ (c_count l hst D I Z F ad sa hI M7 H.size n9 hrs7 (nI 1)) (cwV 1 hts gL_law_X2_count rfl rfl rfl (by decide +kernel) ⟨Nat.le_of_ble_eq_true rfl, Nat.le_of_ble_eq_true rfl⟩) (k_preV hKc hNc hX hA hI hMc hH hS) rfl rfl hl.1 rfl (lv_room (Nat.le_of_ble_eq_true rfl)) dL_law_618 ⟨show 212500 + t * 13000 + 9230 + 12 * 310 + 8 ≤ 600130 by omega, show 908200 + t * 61400 + 38760 + 12 * 1860 + 48 ≤ 7301080 by omega⟩) hI hMc hH hS hA (fun E h => h.2 ⟨1, by decide, rfl⟩) (fun r u h => (by obtain ⟨_, _, _, h9, _⟩ := h; exact h9)) (fun r H locs hp hH hS => ?_)
              obtain ⟨k1, hk1, ek1, -, hr8⟩ := hp
              have ek2 : k1 = 1 := ((nI_eq (by omega) (by omega)).mp ek1).symm
              rw [hr8, ek2]
              clear ek1 ek2 hk1 hr8
              rw [show (tcF M7 n9 1) = nI n9 from rfl]
              refine lv_istore (lv' := [(11, .int (nI n9)), (10, .int pl), (9, .int (nI f0)), (8, .int (nI (u_sum (a_k M) (fun e => (u_own o (a_k M) (a_Y M) e).length) 12))), (7, .int (sI (clT M) 12)), (6, .int (nI mo)), (5, .int (sI (afT M) 12)), (4, .int x4), (3, .int (nI t)), (2, .ref si), (1, .ref (ad 0)), (0, .ref b)]) hx hb dL_law_621 hl (by decide) rfl (fun ls hl => ?_)
              rcases hadv with ⟨-, hpl⟩ | ⟨p9, m9, hp9, hm9, -, hpl, em9⟩
              · skip
                rw [hpl] at hl
                refine lv_iload hx hb dL_law_623 (lv_at hl 1 rfl) ?_
                refine lv_if_lt (tgt := 666) hx hb dL_law_625 (by decide) (fun c7 => ?_) (fun c7 => ?_)
                · skip
                  refine W.widen (k := 212500 + t * 13000 + 9230 + 12 * 310 + 12) (n := 908200 + t * 61400 + 38760 + 12 * 1860 + 72) (by omega) (by omega) ?_
                  exact at666 _ M7 ls H locs hk7 en7 h27 ha7 (lv_sub hl [2, 0, 7, 8, 9, 10, 11] rfl) hH hS
                · exact absurd (by decide) c7
              · skip
                rw [hpl] at hl
                refine lv_iload hx hb dL_law_623 (lv_at hl 1 rfl) ?_
                refine lv_if_lt (tgt := 666) hx hb dL_law_625 (by decide) (fun c7 => ?_) (fun c7 => ?_)
                · exact absurd c7 (nI_pos (by omega))
                · skip
                  refine lv_aload_n hx hb dL_law_628 rfl (lv_at hl 10 rfl) ?_
                  refine lv_iload hx hb dL_law_629 (lv_at hl 1 rfl) ?_
                  have hS8 := hS7.swap hp9
                  obtain ⟨n8, e9, hn08, hrs8⟩ := hS8.rws
                  have ek8 : a_k (laF (exF M7 2 p9)) = a_k M7 := by funext e; exact propext sw_k
                  have eY8 : a_Y (laF (exF M7 2 p9)) = a_Y M7 := by funext e; exact sw_Y
                  have e10 : n8 = m9 := by rw [e9, ek8, eY8, ek7, eY7]; exact em9.symm
                  rw [e10] at hn08 hrs8
                  have hS9 := hS8.swap hp9
                  rw [o_xx] at hS9
                  obtain ⟨M8, hM8⟩ : ∃ M8 : Nat → Nat → Int32, M8 = laF (exF M7 2 p9) := ⟨_, rfl⟩
                  refine kx_calli (vx_runV (As := [.int (nI p9)]) (rest := []) ⟨hx, hb, hml, hown, hts⟩ (c_swap l hst D I Z F ad sa hI M7 H.size (nI p9)) (cwV 1 hts gL_law_X2_swap rfl rfl rfl (by decide +kernel) ⟨Nat.le_of_ble_eq_true rfl, Nat.le_of_ble_eq_true rfl⟩) (k_preV hKc hNc hX hA hI hMc hH hS) rfl rfl hl.1 rfl (lv_room (Nat.le_of_ble_eq_true rfl)) dL_law_631 ⟨show 212500 + t * 13000 + 9230 + 12 * 310 + 9 ≤ 600130 by omega, show 908200 + t * 61400 + 38760 + 12 * 1860 + 54 ≤ 7301080 by omega⟩) hI hMc hH hS hA (fun E h => h.2 ⟨p9, hp9, rfl⟩) (fun r u H locs hp hH hM9 hS => ?_)
                  obtain ⟨p1, hp1, ep, hu, hrk⟩ := hp
                  have ep1 : p1 = p9 := ((nI_eq (by omega) (by omega)).mp ep).symm
                  rw [ep1] at hu
                  rw [hu] at hH
                  rw [hrk, hu]
                  clear hu hrk ep ep1 hp1 hM9
                  rw [← hM8] at hH hS8 hn08 hrs8 ek8 eY8 hS9 ⊢
                  clear hM8 e9
                  rw [hn08]
                  have hMd : kM I Z F ad M8 (kC I Z F ad M8 (kC I Z F ad M7 C)) := kC_M hI hMc
                  refine lv_istore (lv' := [(12, .int (nI m9)), (11, .int (nI n9)), (10, .int (nI p9)), (9, .int (nI f0)), (8, .int (nI (u_sum (a_k M) (fun e => (u_own o (a_k M) (a_Y M) e).length) 12))), (7, .int (sI (clT M) 12)), (6, .int (nI mo)), (5, .int (sI (afT M) 12)), (4, .int x4), (3, .int (nI t)), (2, .ref si), (1, .ref (ad 0)), (0, .ref b)]) hx hb dL_law_634 hl (by decide) rfl (fun ls hl => ?_)
                  refine lv_iload hx hb dL_law_636 (lv_at hl 0 rfl) ?_
                  refine lv_iload hx hb dL_law_638 (lv_at hl 1 rfl) ?_
                  refine lv_icmp_ge (tgt := 664) hx hb dL_law_640 (by decide) (fun c8 => ?_) (fun c8 => ?_)
                  · exact absurd c8 (nI_ge hm9 (by omega))
                  · skip
                    refine lv_aload_n hx hb dL_law_643 rfl (lv_at hl 11 rfl) ?_
                    refine lv_iconst (v := 1) hx hb dL_law_644 (by decide) ?_
                    refine kx_same (vx_runV (As := [.int (nI 1)]) (rest := []) ⟨hx, hb, hml, hown, hts⟩ (c_count l hst D I Z F ad sa hI M8 H.size m9 hrs8 (nI 1)) (cwV 1 hts gL_law_X2_count rfl rfl rfl (by decide +kernel) ⟨Nat.le_of_ble_eq_true rfl, Nat.le_of_ble_eq_true rfl⟩) (k_preV hKc hNc hX hA hI hMd hH hS) rfl rfl hl.1 rfl (lv_room (Nat.le_of_ble_eq_true rfl)) dL_law_645 ⟨show 212500 + t * 13000 + 9230 + 12 * 310 + 10 ≤ 600130 by omega, show 908200 + t * 61400 + 38760 + 12 * 1860 + 60 ≤ 7301080 by omega⟩) hI hMd hH hS hA (fun E h => h.2 ⟨1, by decide, rfl⟩) (fun r u h => (by obtain ⟨_, _, _, h9, _⟩ := h; exact h9)) (fun r H locs hp hH hS => ?_)
                    obtain ⟨k1, hk1, ek1, -, hr8⟩ := hp
                    have ek2 : k1 = 1 := ((nI_eq (by omega) (by omega)).mp ek1).symm
                    rw [hr8, ek2]
                    clear ek1 ek2 hk1 hr8
                    rw [show (tcF M8 m9 1) = nI m9 from rfl]
                    refine lv_iload hx hb dL_law_648 (lv_at hl 0 rfl) ?_
                    refine lv_icmp_ne (tgt := 664) hx hb dL_law_650 (by decide) (fun c9 => ?_) (fun c9 => ?_)
                    · exact absurd rfl c9
                    · skip
                      refine lv_aload_n hx hb dL_law_653 rfl (lv_at hl 11 rfl) ?_
                      refine lv_iload hx hb dL_law_654 (lv_at hl 2 rfl) ?_
                      have ek9 : a_k (laF (exF M8 2 p9)) = a_k M := by funext e; rw [← ek7, ← ek8]; exact propext sw_k
                      have eY9 : a_Y (laF (exF M8 2 p9)) = a_Y M := by funext e; rw [← eY7, ← eY8]; exact sw_Y
                      obtain ⟨M9, hM9d⟩ : ∃ M9 : Nat → Nat → Int32, M9 = laF (exF M8 2 p9) := ⟨_, rfl⟩
                      refine kx_calli (vx_runV (As := [.int (nI p9)]) (rest := []) ⟨hx, hb, hml, hown, hts⟩ (c_swap l hst D I Z F ad sa hI M8 H.size (nI p9)) (cwV 1 hts gL_law_X2_swap rfl rfl rfl (by decide +kernel) ⟨Nat.le_of_ble_eq_true rfl, Nat.le_of_ble_eq_true rfl⟩) (k_preV hKc hNc hX hA hI hMd hH hS) rfl rfl hl.1 rfl (lv_room (Nat.le_of_ble_eq_true rfl)) dL_law_656 ⟨show 212500 + t * 13000 + 9230 + 12 * 310 + 11 ≤ 600130 by omega, show 908200 + t * 61400 + 38760 + 12 * 1860 + 66 ≤ 7301080 by omega⟩) hI hMd hH hS hA (fun E h => h.2 ⟨p9, hp9, rfl⟩) (fun r u H locs hp hH hM9 hS => ?_)
                      obtain ⟨p1, hp1, ep, hu, hrk⟩ := hp
                      have ep1 : p1 = p9 := ((nI_eq (by omega) (by omega)).mp ep).symm
                      rw [ep1] at hu
                      rw [hu] at hH
                      rw [hrk, hu]
                      clear hu hrk ep ep1 hp1 hM9
                      rw [← hM9d] at hH hS9 ek9 eY9 ⊢
                      clear hM9d
                      obtain ⟨n6, e11, hn06, -⟩ := hS9.rws
                      have e12 : n6 = n9 := by rw [e11, ek9, eY9]; exact en9.symm
                      rw [hn06, e12]
                      rw [kC_kC hI, kC_kC hI] at hH
                      have hk9 := hk.moved hI (M' := M9) (fun k _ => by rw [ek9]) (fun k _ _ => by rw [eY9]) hS9
                      refine lv_iload hx hb dL_law_659 (lv_at hl 1 rfl) ?_
                      refine lv_icmp_eq (tgt := 666) hx hb dL_law_661 (by decide) (fun c0 => ?_) (fun c0 => ?_)
                      · skip
                        refine W.widen (k := 212500 + t * 13000 + 9230 + 12 * 310 + 12) (n := 908200 + t * 61400 + 38760 + 12 * 1860 + 72) (by omega) (by omega) ?_
                        exact at666 _ M9 ls H locs hk9 (by rw [ek9, eY9]; exact en9) (by rw [k_N_eq (M := M) (M' := M9) (fun k _ => by rw [ek9])]; exact h2) (by rw [ek9]; exact ha0) (lv_sub hl [3, 1, 8, 9, 10, 11, 12] rfl) hH hS
                      · exact absurd rfl c0
            · exact absurd (nI_le hkc (by omega)) c6
