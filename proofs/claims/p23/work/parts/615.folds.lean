set_option maxHeartbeats 40000000 in
set_option maxRecDepth 100000 in
/-- what is told of all folds -/
theorem law_folds {p : Program} {e : Env} {s : State} {m : MethodId} {below : List Frame} {meth : Method} {c : Code} (l : Launch) (hst : l.stackTraces = false) {b L : Nat} {xs : Nat → Int32} (hL : L ≤ 260) (C0 : lw_At p s m meth c b L xs) {D : va_G} {cs : Nat → ClassId} {I Z F : ClassId} {ad sa : Nat → Nat} (hI : cI ad) (hK : h_K D cs s) (hKc : va_K D vwCl (cT I Z F) s) (hN : h_N s) (hNc : cN s) (hX : xE sa (lS9 s) s s.heap) {si fd oa : Nat} {C : hC} {M : Nat → Nat → Int32} {o : Nat → Nat} {Fd : Nat → Option Nat} {O : Nat → Int32} (hk : k_I cs I Z F ad si fd oa C M o Fd O) (h2 : 2 ≤ k_N M) {t : Nat} (ht : t < 6) {x4 : Int32} {n9 : Nat} (en9 : n9 = (u_L o (a_k M) (a_Y M) 12).length) (hn0 : M 3 0 = nI n9) (hrs : rwsOk M n9)
    (kk : ∀ (f0 mo : Nat) (ls : Array Slot) (H : Heap) (locs : List Loc), f0 < 12 → a_k M f0 → mo ≤ n9 → lv_has ls 16 [(9, .int (nI f0)), (8, .int (nI (u_sum (a_k M) (fun e => (u_own o (a_k M) (a_Y M) e).length) 12))), (7, .int (sI (clT M) 12)), (6, .int (nI mo)), (5, .int (sI (afT M) 12)), (4, .int x4), (3, .int (nI t)), (2, .ref si), (1, .ref (ad 0)), (0, .ref b)] → h_H D (lS9 s) C H → va_S (lS9 s) s.heap H locs → W p l e room_1 s m #[Value.ref b] below meth c H locs (212500 + t * 13000 + 9230 + 12 * 310) (908200 + t * 61400 + 38760 + 12 * 1860) (lw_Z below #[Value.ref b] s) (F0 m 545 ls []))
    {ls : Array Slot} {H : Heap} {locs : List Loc} (hl : lv_has ls 16 [(4, .int x4), (3, .int (nI t)), (2, .ref si), (1, .ref (ad 0)), (0, .ref b)]) (hH : h_H D (lS9 s) C H) (hS : va_S (lS9 s) s.heap H locs) : W p l e room_1 s m #[Value.ref b] below meth c H locs (212500 + t * 13000 + 9230) (908200 + t * 61400 + 38760) (lw_Z below #[Value.ref b] s) (F0 m 53 ls []) := by
  obtain ⟨hx, hb, hr9, hml, hown, hts0, hXs0, hbl, hlocks, hgv⟩ := id C0
  have hts : ∀ w ∈ wsL_law, w.before #[Value.ref b] s = true := fun w h => hts0 w (wsL_law_in w h)
  have hown : s.vm.findClass RL = some m.cls := hown
  have hA : ∀ q : Nat, s.heap.size ≤ q → lS9 s q := fun _ h => h
  have hbA : ¬ lS9 s b := Nat.not_le.mpr hbl
  have hXs : sX b L xs s := hXs0
  have hin4 : ∀ w ∈ u_ws RX4 TX4 3, w ∈ wsL_law := by decide +kernel
  obtain ⟨hM1, hsi1, hfd1, hoa1, -, hO, -, hSS⟩ := id hk
  have hle := k_N_le M
  obtain ⟨ho, hord⟩ := hSS.o
  have hn6 := hrs.1
  refine lv_iconst (v := 0) hx hb dL_law_53 (by decide) ?_
  refine lv_istore (lv' := [(5, .int 0), (4, .int x4), (3, .int (nI t)), (2, .ref si), (1, .ref (ad 0)), (0, .ref b)]) hx hb dL_law_54 hl (by decide) rfl (fun ls hl => ?_)
  refine lv_iconst (v := 0) hx hb dL_law_56 (by decide) ?_
  refine lv_istore (lv' := [(6, .int 0), (5, .int 0), (4, .int x4), (3, .int (nI t)), (2, .ref si), (1, .ref (ad 0)), (0, .ref b)]) hx hb dL_law_57 hl (by decide) rfl (fun ls hl => ?_)
  refine lv_iconst (v := 0) hx hb dL_law_59 (by decide) ?_
  refine lv_istore (lv' := [(7, .int 0), (6, .int 0), (5, .int 0), (4, .int x4), (3, .int (nI t)), (2, .ref si), (1, .ref (ad 0)), (0, .ref b)]) hx hb dL_law_60 hl (by decide) rfl (fun ls hl => ?_)
  refine lv_iconst (v := 0) hx hb dL_law_62 (by decide) ?_
  refine lv_istore (lv' := [(8, .int 0), (7, .int 0), (6, .int 0), (5, .int 0), (4, .int x4), (3, .int (nI t)), (2, .ref si), (1, .ref (ad 0)), (0, .ref b)]) hx hb dL_law_63 hl (by decide) rfl (fun ls hl => ?_)
  refine lv_iconst (v := -1) hx hb dL_law_65 (by decide) ?_
  refine lv_istore (lv' := [(9, .int (-1)), (8, .int 0), (7, .int 0), (6, .int 0), (5, .int 0), (4, .int x4), (3, .int (nI t)), (2, .ref si), (1, .ref (ad 0)), (0, .ref b)]) hx hb dL_law_66 hl (by decide) rfl (fun ls hl => ?_)
  refine lv_iconst (v := 0) hx hb dL_law_68 (by decide) ?_
  refine lv_istore (lv' := [(10, .int 0), (9, .int (-1)), (8, .int 0), (7, .int 0), (6, .int 0), (5, .int 0), (4, .int x4), (3, .int (nI t)), (2, .ref si), (1, .ref (ad 0)), (0, .ref b)]) hx hb dL_law_69 hl (by decide) rfl (fun ls hl => ?_)
  have loop : ∀ r9 f : Nat, f + r9 = 12 → ∀ (mo : Nat) (fi : Int32) (ls : Array Slot) (H : Heap) (locs : List Loc), mo ≤ n9 → ((∀ e9 : Nat, e9 < f → ¬ a_k M e9) ∧ fi = -1 ∨ ∃ f0 : Nat, f0 < 12 ∧ a_k M f0 ∧ fi = nI f0) → lv_has ls 16 [(10, .int (nI f)), (9, .int fi), (8, .int (nI (u_sum (a_k M) (fun e => (u_own o (a_k M) (a_Y M) e).length) f))), (7, .int (sI (clT M) f)), (6, .int (nI mo)), (5, .int (sI (afT M) f)), (4, .int x4), (3, .int (nI t)), (2, .ref si), (1, .ref (ad 0)), (0, .ref b)] → h_H D (lS9 s) C H → va_S (lS9 s) s.heap H locs → W p l e room_1 s m #[Value.ref b] below meth c H locs (212500 + t * 13000 + 9230 + f * 310) (908200 + t * 61400 + 38760 + f * 1860) (lw_Z below #[Value.ref b] s) (F0 m 71 ls []) := by
    intro r9
    induction r9 with
    | zero =>
      intro f hf mo fi ls H locs hmo hfi hl hH hS
      obtain rfl : f = 12 := by omega
      refine lv_iload hx hb dL_law_71 (lv_at hl 0 rfl) ?_
      refine lv_bipush (v := 12) hx hb dL_law_73 (by decide) ?_
      refine lv_icmp_ge (tgt := 545) hx hb dL_law_75 (by decide) (fun c1 => ?_) (fun c1 => ?_)
      · skip
        rcases hfi with ⟨h9, -⟩ | ⟨f0, hf0, ha0, rfl⟩
        · obtain ⟨k9, hk9, ak9⟩ := k_N_some (M := M) (by omega)
          exact absurd ak9 (h9 k9 hk9)
        · exact kk f0 mo ls H locs hf0 ha0 hmo (lv_sub hl [1, 2, 3, 4, 5, 6, 7, 8, 9, 10] rfl) hH hS
      · exact absurd (nI_le (Nat.le_refl 12) (by decide)) c1
    | succ r9 ih =>
      intro f hf mo fi ls H locs hmo hfi hl hH hS
      have hf12 : f < 12 := by omega
      refine lv_iload hx hb dL_law_71 (lv_at hl 0 rfl) ?_
      refine lv_bipush (v := 12) hx hb dL_law_73 (by decide) ?_
      refine lv_icmp_ge (tgt := 545) hx hb dL_law_75 (by decide) (fun c1 => ?_) (fun c1 => ?_)
      · exact absurd c1 (nI_ge (b := 12) (by omega) (by decide))
      · skip
        refine lv_aload_n hx hb dL_law_78 rfl (lv_at hl 9 rfl) ?_
        refine lv_iload hx hb dL_law_79 (lv_at hl 0 rfl) ?_
        refine kx_same (vx_runV (As := [.int (nI f)]) (rest := []) ⟨hx, hb, hml, hown, hts⟩ (c_has l hst D I Z F ad sa hI M H.size hSS.2.2 (nI f)) (cwV 1 hts gL_law_X2_has rfl rfl rfl (by decide +kernel) ⟨Nat.le_of_ble_eq_true rfl, Nat.le_of_ble_eq_true rfl⟩) (k_preV hKc hNc hX hA hI hM1 hH hS) rfl rfl hl.1 rfl (lv_room (Nat.le_of_ble_eq_true rfl)) dL_law_81 ⟨show 212500 + t * 13000 + 9230 + f * 310 + 1 ≤ 600130 by omega, show 908200 + t * 61400 + 38760 + f * 1860 + 6 ≤ 7301080 by omega⟩) hI hM1 hH hS hA (fun E h => h.2 ⟨f, hf12, rfl⟩) (fun r u h => (by obtain ⟨_, _, _, h9, _⟩ := h; exact h9)) (fun r H locs hp hH hS => ?_)
        obtain ⟨f1, hf1, ef1, -, hr8⟩ := hp
        have ef2 : f1 = f := ((nI_eq (by omega) (by omega)).mp ef1).symm
        rw [hr8, ef2]
        clear ef1 ef2 hf1 hr8
        refine lv_aload_n hx hb dL_law_84 rfl (lv_at hl 8 rfl) ?_
        refine h_get (v := .ref fd) (C0 := RX4) (T := TX4) (N := 3) hx hb hts hin4 hown hK.1 hH hsi1 rfl 0 (by decide) rfl (by decide +kernel) rfl dL_law_85 ?_
        refine lv_iload hx hb dL_law_88 (lv_at hl 0 rfl) ?_
        rcases Classical.em (a_k M f) with hak | hak
        · skip
          have hM1f : M (25 + 6 * f) 0 = 1 := (hSS.2.2 f hf12).resolve_left hak
          rw [hM1f]
          obtain ⟨a9, F8, e9, -, -⟩ := hk.fold hf12 hak
          obtain ⟨hW, hA9⟩ := hSS.tW hf12 hak
          have h77 := kR_77 hSS (f := f)
          refine h_aald hx hb hH hK.2.1.1 rfl hfd1 f hf12 (by decide) rfl dL_law_90 ?_
          rw [e9]
          refine lv_ifnull hx hb dL_law_91 ?_
          refine lv_iconst (v := 1) hx hb dL_law_94 (by decide) ?_
          refine lv_goto (tgt := 99) hx hb dL_law_95 (by decide) ?_
          refine lv_icmp_eq (tgt := 104) hx hb dL_law_99 (by decide) (fun c2 => ?_) (fun c2 => ?_)
          · skip
            refine lv_aload_n hx hb dL_law_104 rfl (lv_at hl 9 rfl) ?_
            refine lv_iload hx hb dL_law_105 (lv_at hl 0 rfl) ?_
            refine kx_same (vx_runV (As := [.int (nI f)]) (rest := []) ⟨hx, hb, hml, hown, hts⟩ (c_has l hst D I Z F ad sa hI M H.size hSS.2.2 (nI f)) (cwV 1 hts gL_law_X2_has rfl rfl rfl (by decide +kernel) ⟨Nat.le_of_ble_eq_true rfl, Nat.le_of_ble_eq_true rfl⟩) (k_preV hKc hNc hX hA hI hM1 hH hS) rfl rfl hl.1 rfl (lv_room (Nat.le_of_ble_eq_true rfl)) dL_law_107 ⟨show 212500 + t * 13000 + 9230 + f * 310 + 2 ≤ 600130 by omega, show 908200 + t * 61400 + 38760 + f * 1860 + 12 ≤ 7301080 by omega⟩) hI hM1 hH hS hA (fun E h => h.2 ⟨f, hf12, rfl⟩) (fun r u h => (by obtain ⟨_, _, _, h9, _⟩ := h; exact h9)) (fun r H locs hp hH hS => ?_)
            obtain ⟨f1, hf1, ef1, -, hr8⟩ := hp
            have ef2 : f1 = f := ((nI_eq (by omega) (by omega)).mp ef1).symm
            rw [hr8, ef2]
            clear ef1 ef2 hf1 hr8
            rw [hM1f]
            refine lv_if_ne (tgt := 116) hx hb dL_law_110 (by decide) (fun c3 => ?_) (fun c3 => ?_)
            · skip
              have go125 : ∀ (f0 : Nat) (ls : Array Slot) (H : Heap) (locs : List Loc), f0 < 12 → a_k M f0 → lv_has ls 16 [(10, .int (nI f)), (9, .int (nI f0)), (8, .int (nI (u_sum (a_k M) (fun e => (u_own o (a_k M) (a_Y M) e).length) f))), (7, .int (sI (clT M) f)), (6, .int (nI mo)), (5, .int (sI (afT M) f)), (4, .int x4), (3, .int (nI t)), (2, .ref si), (1, .ref (ad 0)), (0, .ref b)] → h_H D (lS9 s) C H → va_S (lS9 s) s.heap H locs → W p l e room_1 s m #[Value.ref b] below meth c H locs (212500 + t * 13000 + 9230 + f * 310 + 2) (908200 + t * 61400 + 38760 + f * 1860 + 12) (lw_Z below #[Value.ref b] s) (F0 m 125 ls []) := by
                intro f0 ls H locs hf0 ha0 hl hH hS
                obtain ⟨cy8, mn, mx, su, sm, gr, d1, d2, d3, d4, d5, d6, d7, d8, hQ, hmm, hmp, hm1, hs1, hs2, hc8, how, hyes⟩ := told_all hSS hf12 hak
                have hp8 := pc_8 (t_Q o (kR M o f))
                have hpl := pc_len o (kR M o f)
                have hp0 := pc_0 (o := o) (R := kR M o f) (fun i hi => hW.q8 ho hi)
                refine lv_aload_n hx hb dL_law_125 rfl (lv_at hl 9 rfl) ?_
                refine lv_iload hx hb dL_law_126 (lv_at hl 0 rfl) ?_
                refine lv_iconst (v := 0) hx hb dL_law_128 (by decide) ?_
                refine kx_same (vx_runV (As := [.int (nI f), .int (nI 0)]) (rest := []) ⟨hx, hb, hml, hown, hts⟩ (c_about l hst D I Z F ad sa hI M H.size n9 hrs (nI f) (nI 0)) (cwV 2 hts gL_law_X2_about rfl rfl rfl (by decide +kernel) ⟨Nat.le_of_ble_eq_true rfl, Nat.le_of_ble_eq_true rfl⟩) (k_preV hKc hNc hX hA hI hM1 hH hS) rfl rfl hl.1 rfl (lv_room (Nat.le_of_ble_eq_true rfl)) dL_law_129 ⟨show 212500 + t * 13000 + 9230 + f * 310 + 2 + 2 ≤ 600130 by omega, show 908200 + t * 61400 + 38760 + f * 1860 + 12 + 12 ≤ 7301080 by omega⟩) hI hM1 hH hS hA (ab_no hf12 hak (by decide)) (fun r u h => (by obtain ⟨_, _, _, _, _, _, _, _, h9, _⟩ := h; exact h9)) (fun r H locs hp hH hS => ?_)
                rw [ab_eq hSS hf12 hak (by decide) hp]
                rw [show tdF M (25 + 6 * f) (kR M o f).length 0 = nI (kR M o f).length from rfl]
                refine lv_istore (lv' := [(11, .int (nI (kR M o f).length)), (10, .int (nI f)), (9, .int (nI f0)), (8, .int (nI (u_sum (a_k M) (fun e => (u_own o (a_k M) (a_Y M) e).length) f))), (7, .int (sI (clT M) f)), (6, .int (nI mo)), (5, .int (sI (afT M) f)), (4, .int x4), (3, .int (nI t)), (2, .ref si), (1, .ref (ad 0)), (0, .ref b)]) hx hb dL_law_132 hl (by decide) rfl (fun ls hl => ?_)
                refine lv_iconst (v := 0) hx hb dL_law_134 (by decide) ?_
                refine lv_istore (lv' := [(12, .int 0), (11, .int (nI (kR M o f).length)), (10, .int (nI f)), (9, .int (nI f0)), (8, .int (nI (u_sum (a_k M) (fun e => (u_own o (a_k M) (a_Y M) e).length) f))), (7, .int (sI (clT M) f)), (6, .int (nI mo)), (5, .int (sI (afT M) f)), (4, .int x4), (3, .int (nI t)), (2, .ref si), (1, .ref (ad 0)), (0, .ref b)]) hx hb dL_law_135 hl (by decide) rfl (fun ls hl => ?_)
                refine lv_iconst (v := 0) hx hb dL_law_137 (by decide) ?_
                refine lv_istore (lv' := [(13, .int 0), (12, .int 0), (11, .int (nI (kR M o f).length)), (10, .int (nI f)), (9, .int (nI f0)), (8, .int (nI (u_sum (a_k M) (fun e => (u_own o (a_k M) (a_Y M) e).length) f))), (7, .int (sI (clT M) f)), (6, .int (nI mo)), (5, .int (sI (afT M) f)), (4, .int x4), (3, .int (nI t)), (2, .ref si), (1, .ref (ad 0)), (0, .ref b)]) hx hb dL_law_138 hl (by decide) rfl (fun ls hl => ?_)
                have at495 : ∀ (x14 : Int32) (ls : Array Slot) (H : Heap) (locs : List Loc), lv_has ls 16 [(14, .int x14), (13, .int (nI (tq_N (t_qs o (kR M o f)) (kR M o f).length))), (12, .int (nI (pc_N (t_Q o (kR M o f))))), (11, .int (nI (kR M o f).length)), (10, .int (nI f)), (9, .int (nI f0)), (8, .int (nI (u_sum (a_k M) (fun e => (u_own o (a_k M) (a_Y M) e).length) f))), (7, .int (sI (clT M) f)), (6, .int (nI mo)), (5, .int (sI (afT M) f)), (4, .int x4), (3, .int (nI t)), (2, .ref si), (1, .ref (ad 0)), (0, .ref b)] → h_H D (lS9 s) C H → va_S (lS9 s) s.heap H locs → W p l e room_1 s m #[Value.ref b] below meth c H locs (212500 + t * 13000 + 9230 + f * 310 + 305) (908200 + t * 61400 + 38760 + f * 1860 + 1830) (lw_Z below #[Value.ref b] s) (F0 m 495 ls []) := by
                  intro x14 ls H locs hl hH hS
                  refine lv_iload hx hb dL_law_495 (lv_at hl 9 rfl) ?_
                  refine lv_iload hx hb dL_law_497 (lv_at hl 3 rfl) ?_
                  refine lv_iadd hx hb dL_law_499 ?_
                  rw [sI_s (show afT M f = nI (kR M o f).length by unfold afT; rw [if_neg hak, hW.1])]
                  refine lv_istore (lv' := [(5, .int (sI (afT M) (f + 1))), (14, .int x14), (13, .int (nI (tq_N (t_qs o (kR M o f)) (kR M o f).length))), (12, .int (nI (pc_N (t_Q o (kR M o f))))), (11, .int (nI (kR M o f).length)), (10, .int (nI f)), (9, .int (nI f0)), (8, .int (nI (u_sum (a_k M) (fun e => (u_own o (a_k M) (a_Y M) e).length) f))), (7, .int (sI (clT M) f)), (6, .int (nI mo)), (4, .int x4), (3, .int (nI t)), (2, .ref si), (1, .ref (ad 0)), (0, .ref b)]) hx hb dL_law_500 hl (by decide) rfl (fun ls hl => ?_)
                  refine lv_iload hx hb dL_law_502 (lv_at hl 9 rfl) ?_
                  refine lv_iload hx hb dL_law_504 (lv_at hl 4 rfl) ?_
                  refine va_mmax hx hb (by rw [hml]; exact hl.1.symm) hown (hts (.methodLink RL 132 Lib.Math.max.name) (by decide +kernel)) (hts (.static Lib.Math.max.name) (by decide +kernel)) (hts (.initialized "java/lang/Math") (by decide +kernel)) (hts (.code Lib.Math.max.name Lib.Math.max.code 2 (some .int)) (by decide +kernel)) (Nat.le_of_ble_eq_true rfl) (Nat.le_of_ble_eq_true rfl) (show 212500 + t * 13000 + 9230 + f * 310 + 305 ≤ 600130 by omega) (show 908200 + t * 61400 + 38760 + f * 1860 + 1830 ≤ 7301080 by omega) dL_law_506 ?_
                  obtain ⟨mo2, emo2, hmo2⟩ : ∃ mo2 : Nat, (if nI mo < nI (kR M o f).length then nI (kR M o f).length else nI mo) = nI mo2 ∧ mo2 ≤ n9 := by
                    have h9 := u_most (o := o) (Y := a_Y M) hf12 hak
                    rw [← en9] at h9
                    by_cases c9 : nI mo < nI (kR M o f).length
                    · exact ⟨_, if_pos c9, h9⟩
                    · exact ⟨_, if_neg c9, hmo⟩
                  rw [emo2]
                  refine lv_istore (lv' := [(6, .int (nI mo2)), (5, .int (sI (afT M) (f + 1))), (14, .int x14), (13, .int (nI (tq_N (t_qs o (kR M o f)) (kR M o f).length))), (12, .int (nI (pc_N (t_Q o (kR M o f))))), (11, .int (nI (kR M o f).length)), (10, .int (nI f)), (9, .int (nI f0)), (8, .int (nI (u_sum (a_k M) (fun e => (u_own o (a_k M) (a_Y M) e).length) f))), (7, .int (sI (clT M) f)), (4, .int x4), (3, .int (nI t)), (2, .ref si), (1, .ref (ad 0)), (0, .ref b)]) hx hb dL_law_509 hl (by decide) rfl (fun ls hl => ?_)
                  have hcl : clT M f = if (kR M o f).length = 0 then 1 else 0 := by
                    unfold clT
                    rw [hW.1]
                    by_cases c : (kR M o f).length = 0
                    · rw [if_pos ⟨hak, by rw [c]; rfl⟩, if_pos c]
                    · rw [if_neg (fun h9 => c ((nI_eq (b := 0) (by omega) (by decide)).mp h9.2)), if_neg c]
                  refine lv_iload hx hb dL_law_511 (lv_at hl 9 rfl) ?_
                  refine lv_iload hx hb dL_law_513 (lv_at hl 5 rfl) ?_
                  refine lv_if_ne (tgt := 522) hx hb dL_law_515 (by decide) (fun c5 => ?_) (fun c5 => ?_)
                  · skip
                    refine lv_iconst (v := 0) hx hb dL_law_522 (by decide) ?_
                    refine lv_iadd hx hb dL_law_523 ?_
                    rw [sI_s (show clT M f = 0 by rw [hcl, if_neg (fun h9 => c5 (by rw [h9]; rfl))])]
                    refine lv_istore (lv' := [(7, .int (sI (clT M) (f + 1))), (6, .int (nI mo2)), (5, .int (sI (afT M) (f + 1))), (14, .int x14), (13, .int (nI (tq_N (t_qs o (kR M o f)) (kR M o f).length))), (12, .int (nI (pc_N (t_Q o (kR M o f))))), (11, .int (nI (kR M o f).length)), (10, .int (nI f)), (9, .int (nI f0)), (8, .int (nI (u_sum (a_k M) (fun e => (u_own o (a_k M) (a_Y M) e).length) f))), (4, .int x4), (3, .int (nI t)), (2, .ref si), (1, .ref (ad 0)), (0, .ref b)]) hx hb dL_law_524 hl (by decide) rfl (fun ls hl => ?_)
                    refine lv_iload hx hb dL_law_526 (lv_at hl 9 rfl) ?_
                    refine lv_aload_n hx hb dL_law_528 rfl (lv_at hl 13 rfl) ?_
                    refine lv_iload hx hb dL_law_529 (lv_at hl 7 rfl) ?_
                    refine lv_bipush (v := 7) hx hb dL_law_531 (by decide) ?_
                    refine kx_same (vx_runV (As := [.int (nI f), .int (nI 7)]) (rest := [.int (nI (u_sum (a_k M) (fun e => (u_own o (a_k M) (a_Y M) e).length) f))]) ⟨hx, hb, hml, hown, hts⟩ (c_about l hst D I Z F ad sa hI M H.size n9 hrs (nI f) (nI 7)) (cwV 2 hts gL_law_X2_about rfl rfl rfl (by decide +kernel) ⟨Nat.le_of_ble_eq_true rfl, Nat.le_of_ble_eq_true rfl⟩) (k_preV hKc hNc hX hA hI hM1 hH hS) rfl rfl hl.1 rfl (lv_room (Nat.le_of_ble_eq_true rfl)) dL_law_533 ⟨show 212500 + t * 13000 + 9230 + f * 310 + 305 + 2 ≤ 600130 by omega, show 908200 + t * 61400 + 38760 + f * 1860 + 1830 + 12 ≤ 7301080 by omega⟩) hI hM1 hH hS hA (ab_no hf12 hak (by decide)) (fun r u h => (by obtain ⟨_, _, _, _, _, _, _, _, h9, _⟩ := h; exact h9)) (fun r H locs hp hH hS => ?_)
                    rw [ab_eq hSS hf12 hak (by decide) hp]
                    rw [d7]
                    refine lv_iadd hx hb dL_law_536 ?_
                    rw [show nI (u_sum (a_k M) (fun e => (u_own o (a_k M) (a_Y M) e).length) f) + nI (u_own o (a_k M) (a_Y M) f).length = nI (u_sum (a_k M) (fun e => (u_own o (a_k M) (a_Y M) e).length) (f + 1)) from by rw [u_sum, cIf_pos hak]; exact nI_add _ _]
                    refine lv_istore (lv' := [(8, .int (nI (u_sum (a_k M) (fun e => (u_own o (a_k M) (a_Y M) e).length) (f + 1)))), (7, .int (sI (clT M) (f + 1))), (6, .int (nI mo2)), (5, .int (sI (afT M) (f + 1))), (14, .int x14), (13, .int (nI (tq_N (t_qs o (kR M o f)) (kR M o f).length))), (12, .int (nI (pc_N (t_Q o (kR M o f))))), (11, .int (nI (kR M o f).length)), (10, .int (nI f)), (9, .int (nI f0)), (4, .int x4), (3, .int (nI t)), (2, .ref si), (1, .ref (ad 0)), (0, .ref b)]) hx hb dL_law_537 hl (by decide) rfl (fun ls hl => ?_)
                    refine lv_iinc (v := nI (f + 1)) (lv' := [(10, .int (nI (f + 1))), (8, .int (nI (u_sum (a_k M) (fun e => (u_own o (a_k M) (a_Y M) e).length) (f + 1)))), (7, .int (sI (clT M) (f + 1))), (6, .int (nI mo2)), (5, .int (sI (afT M) (f + 1))), (14, .int x14), (13, .int (nI (tq_N (t_qs o (kR M o f)) (kR M o f).length))), (12, .int (nI (pc_N (t_Q o (kR M o f))))), (11, .int (nI (kR M o f).length)), (9, .int (nI f0)), (4, .int x4), (3, .int (nI t)), (2, .ref si), (1, .ref (ad 0)), (0, .ref b)]) hx hb dL_law_539 hl (k := 8) rfl (nI_1 f) (by decide) rfl (fun ls hl => ?_)
                    refine lv_goto (tgt := 71) hx hb dL_law_542 (by decide) ?_
                    refine W.widen (k := 212500 + t * 13000 + 9230 + (f + 1) * 310) (n := 908200 + t * 61400 + 38760 + (f + 1) * 1860) (by omega) (by omega) ?_
                    exact ih (f + 1) (by omega) mo2 (nI f0) ls H locs hmo2 (Or.inr ⟨f0, hf0, ha0, rfl⟩) (lv_sub hl [0, 9, 1, 2, 3, 4, 10, 11, 12, 13, 14] rfl) hH hS
                  · skip
                    refine lv_iconst (v := 1) hx hb dL_law_518 (by decide) ?_
                    refine lv_goto (tgt := 523) hx hb dL_law_519 (by decide) ?_
                    refine lv_iadd hx hb dL_law_523 ?_
                    rw [sI_s (show clT M f = 1 by rw [hcl, if_pos ((nI_eq (b := 0) (by omega) (by decide)).mp c5)])]
                    refine lv_istore (lv' := [(7, .int (sI (clT M) (f + 1))), (6, .int (nI mo2)), (5, .int (sI (afT M) (f + 1))), (14, .int x14), (13, .int (nI (tq_N (t_qs o (kR M o f)) (kR M o f).length))), (12, .int (nI (pc_N (t_Q o (kR M o f))))), (11, .int (nI (kR M o f).length)), (10, .int (nI f)), (9, .int (nI f0)), (8, .int (nI (u_sum (a_k M) (fun e => (u_own o (a_k M) (a_Y M) e).length) f))), (4, .int x4), (3, .int (nI t)), (2, .ref si), (1, .ref (ad 0)), (0, .ref b)]) hx hb dL_law_524 hl (by decide) rfl (fun ls hl => ?_)
                    refine lv_iload hx hb dL_law_526 (lv_at hl 9 rfl) ?_
                    refine lv_aload_n hx hb dL_law_528 rfl (lv_at hl 13 rfl) ?_
                    refine lv_iload hx hb dL_law_529 (lv_at hl 7 rfl) ?_
                    refine lv_bipush (v := 7) hx hb dL_law_531 (by decide) ?_
                    refine kx_same (vx_runV (As := [.int (nI f), .int (nI 7)]) (rest := [.int (nI (u_sum (a_k M) (fun e => (u_own o (a_k M) (a_Y M) e).length) f))]) ⟨hx, hb, hml, hown, hts⟩ (c_about l hst D I Z F ad sa hI M H.size n9 hrs (nI f) (nI 7)) (cwV 2 hts gL_law_X2_about rfl rfl rfl (by decide +kernel) ⟨Nat.le_of_ble_eq_true rfl, Nat.le_of_ble_eq_true rfl⟩) (k_preV hKc hNc hX hA hI hM1 hH hS) rfl rfl hl.1 rfl (lv_room (Nat.le_of_ble_eq_true rfl)) dL_law_533 ⟨show 212500 + t * 13000 + 9230 + f * 310 + 305 + 2 ≤ 600130 by omega, show 908200 + t * 61400 + 38760 + f * 1860 + 1830 + 12 ≤ 7301080 by omega⟩) hI hM1 hH hS hA (ab_no hf12 hak (by decide)) (fun r u h => (by obtain ⟨_, _, _, _, _, _, _, _, h9, _⟩ := h; exact h9)) (fun r H locs hp hH hS => ?_)
                    rw [ab_eq hSS hf12 hak (by decide) hp]
                    rw [d7]
                    refine lv_iadd hx hb dL_law_536 ?_
                    rw [show nI (u_sum (a_k M) (fun e => (u_own o (a_k M) (a_Y M) e).length) f) + nI (u_own o (a_k M) (a_Y M) f).length = nI (u_sum (a_k M) (fun e => (u_own o (a_k M) (a_Y M) e).length) (f + 1)) from by rw [u_sum, cIf_pos hak]; exact nI_add _ _]
                    refine lv_istore (lv' := [(8, .int (nI (u_sum (a_k M) (fun e => (u_own o (a_k M) (a_Y M) e).length) (f + 1)))), (7, .int (sI (clT M) (f + 1))), (6, .int (nI mo2)), (5, .int (sI (afT M) (f + 1))), (14, .int x14), (13, .int (nI (tq_N (t_qs o (kR M o f)) (kR M o f).length))), (12, .int (nI (pc_N (t_Q o (kR M o f))))), (11, .int (nI (kR M o f).length)), (10, .int (nI f)), (9, .int (nI f0)), (4, .int x4), (3, .int (nI t)), (2, .ref si), (1, .ref (ad 0)), (0, .ref b)]) hx hb dL_law_537 hl (by decide) rfl (fun ls hl => ?_)
                    refine lv_iinc (v := nI (f + 1)) (lv' := [(10, .int (nI (f + 1))), (8, .int (nI (u_sum (a_k M) (fun e => (u_own o (a_k M) (a_Y M) e).length) (f + 1)))), (7, .int (sI (clT M) (f + 1))), (6, .int (nI mo2)), (5, .int (sI (afT M) (f + 1))), (14, .int x14), (13, .int (nI (tq_N (t_qs o (kR M o f)) (kR M o f).length))), (12, .int (nI (pc_N (t_Q o (kR M o f))))), (11, .int (nI (kR M o f).length)), (9, .int (nI f0)), (4, .int x4), (3, .int (nI t)), (2, .ref si), (1, .ref (ad 0)), (0, .ref b)]) hx hb dL_law_539 hl (k := 8) rfl (nI_1 f) (by decide) rfl (fun ls hl => ?_)
                    refine lv_goto (tgt := 71) hx hb dL_law_542 (by decide) ?_
                    refine W.widen (k := 212500 + t * 13000 + 9230 + (f + 1) * 310) (n := 908200 + t * 61400 + 38760 + (f + 1) * 1860) (by omega) (by omega) ?_
                    exact ih (f + 1) (by omega) mo2 (nI f0) ls H locs hmo2 (Or.inr ⟨f0, hf0, ha0, rfl⟩) (lv_sub hl [0, 9, 1, 2, 3, 4, 10, 11, 12, 13, 14] rfl) hH hS
                have at307 : ∀ (x14 : Int32) (ls : Array Slot) (H : Heap) (locs : List Loc), lv_has ls 16 [(14, .int x14), (13, .int (nI (tq_N (t_qs o (kR M o f)) (kR M o f).length))), (12, .int (nI (pc_N (t_Q o (kR M o f))))), (11, .int (nI (kR M o f).length)), (10, .int (nI f)), (9, .int (nI f0)), (8, .int (nI (u_sum (a_k M) (fun e => (u_own o (a_k M) (a_Y M) e).length) f))), (7, .int (sI (clT M) f)), (6, .int (nI mo)), (5, .int (sI (afT M) f)), (4, .int x4), (3, .int (nI t)), (2, .ref si), (1, .ref (ad 0)), (0, .ref b)] → h_H D (lS9 s) C H → va_S (lS9 s) s.heap H locs → W p l e room_1 s m #[Value.ref b] below meth c H locs (212500 + t * 13000 + 9230 + f * 310 + 270) (908200 + t * 61400 + 38760 + f * 1860 + 1620) (lw_Z below #[Value.ref b] s) (F0 m 307 ls []) := by
                  intro x14 ls H locs hl hH hS
                  refine lv_aload_n hx hb dL_law_307 rfl (lv_at hl 13 rfl) ?_
                  refine lv_iload hx hb dL_law_308 (lv_at hl 4 rfl) ?_
                  refine kx_samed (vx_runV (As := [.int (nI f)]) (rest := []) ⟨hx, hb, hml, hown, hts⟩ (c_asked l hst D I Z F ad sa hI M H.size n9 hrs (nI f)) (cwV 1 hts gL_law_X2_asked rfl rfl rfl (by decide +kernel) ⟨Nat.le_of_ble_eq_true rfl, Nat.le_of_ble_eq_true rfl⟩) (k_preV hKc hNc hX hA hI hM1 hH hS) rfl rfl hl.1 rfl (lv_room (Nat.le_of_ble_eq_true rfl)) dL_law_310 ⟨show 212500 + t * 13000 + 9230 + f * 310 + 270 + 1 ≤ 600130 by omega, show 908200 + t * 61400 + 38760 + f * 1860 + 1620 + 6 ≤ 7301080 by omega⟩) hI hM1 hH hS hA (fun E h => h.2 ⟨f, fdOk_of hf12 hak⟩) (fun r u h => (by obtain ⟨_, _, h9, _⟩ := h; exact h9)) (fun r H locs hp hH hS => ?_)
                  obtain ⟨k1, hk1, -, hr8⟩ := hp
                  rw [hr8, fd_one hf12 hk1, d8]
                  clear hk1 hr8
                  refine lv_aload_n hx hb dL_law_313 rfl (lv_at hl 13 rfl) ?_
                  refine lv_iload hx hb dL_law_314 (lv_at hl 4 rfl) ?_
                  refine lv_iconst (v := 3) hx hb dL_law_316 (by decide) ?_
                  refine kx_same (vx_runV (As := [.int (nI f), .int (nI 3)]) (rest := [.double (FP.ddiv (FP.i2d (nI su)) 4643211215818981376)]) ⟨hx, hb, hml, hown, hts⟩ (c_about l hst D I Z F ad sa hI M H.size n9 hrs (nI f) (nI 3)) (cwV 2 hts gL_law_X2_about rfl rfl rfl (by decide +kernel) ⟨Nat.le_of_ble_eq_true rfl, Nat.le_of_ble_eq_true rfl⟩) (k_preV hKc hNc hX hA hI hM1 hH hS) rfl rfl hl.1 rfl (lv_room (Nat.le_of_ble_eq_true rfl)) dL_law_317 ⟨show 212500 + t * 13000 + 9230 + f * 310 + 270 + 3 ≤ 600130 by omega, show 908200 + t * 61400 + 38760 + f * 1860 + 1620 + 18 ≤ 7301080 by omega⟩) hI hM1 hH hS hA (ab_no hf12 hak (by decide)) (fun r u h => (by obtain ⟨_, _, _, _, _, _, _, _, h9, _⟩ := h; exact h9)) (fun r H locs hp hH hS => ?_)
                  rw [ab_eq hSS hf12 hak (by decide) hp]
                  rw [d3]
                  refine lv_i2d hx hb dL_law_320 ?_
                  refine lv_dcmp hx hb dL_law_321 ?_
                  refine lv_if_lt (tgt := 366) hx hb dL_law_322 (by decide) (fun c5 => ?_) (fun c5 => ?_)
                  · exact absurd c5 (fp_ge mn (by omega) su (by omega) hs1)
                  · skip
                    refine lv_aload_n hx hb dL_law_325 rfl (lv_at hl 13 rfl) ?_
                    refine lv_iload hx hb dL_law_326 (lv_at hl 4 rfl) ?_
                    refine kx_samed (vx_runV (As := [.int (nI f)]) (rest := []) ⟨hx, hb, hml, hown, hts⟩ (c_asked l hst D I Z F ad sa hI M H.size n9 hrs (nI f)) (cwV 1 hts gL_law_X2_asked rfl rfl rfl (by decide +kernel) ⟨Nat.le_of_ble_eq_true rfl, Nat.le_of_ble_eq_true rfl⟩) (k_preV hKc hNc hX hA hI hM1 hH hS) rfl rfl hl.1 rfl (lv_room (Nat.le_of_ble_eq_true rfl)) dL_law_328 ⟨show 212500 + t * 13000 + 9230 + f * 310 + 270 + 4 ≤ 600130 by omega, show 908200 + t * 61400 + 38760 + f * 1860 + 1620 + 24 ≤ 7301080 by omega⟩) hI hM1 hH hS hA (fun E h => h.2 ⟨f, fdOk_of hf12 hak⟩) (fun r u h => (by obtain ⟨_, _, h9, _⟩ := h; exact h9)) (fun r H locs hp hH hS => ?_)
                    obtain ⟨k1, hk1, -, hr8⟩ := hp
                    rw [hr8, fd_one hf12 hk1, d8]
                    clear hk1 hr8
                    refine lv_aload_n hx hb dL_law_331 rfl (lv_at hl 13 rfl) ?_
                    refine lv_iload hx hb dL_law_332 (lv_at hl 4 rfl) ?_
                    refine lv_iconst (v := 4) hx hb dL_law_334 (by decide) ?_
                    refine kx_same (vx_runV (As := [.int (nI f), .int (nI 4)]) (rest := [.double (FP.ddiv (FP.i2d (nI su)) 4643211215818981376)]) ⟨hx, hb, hml, hown, hts⟩ (c_about l hst D I Z F ad sa hI M H.size n9 hrs (nI f) (nI 4)) (cwV 2 hts gL_law_X2_about rfl rfl rfl (by decide +kernel) ⟨Nat.le_of_ble_eq_true rfl, Nat.le_of_ble_eq_true rfl⟩) (k_preV hKc hNc hX hA hI hM1 hH hS) rfl rfl hl.1 rfl (lv_room (Nat.le_of_ble_eq_true rfl)) dL_law_335 ⟨show 212500 + t * 13000 + 9230 + f * 310 + 270 + 6 ≤ 600130 by omega, show 908200 + t * 61400 + 38760 + f * 1860 + 1620 + 36 ≤ 7301080 by omega⟩) hI hM1 hH hS hA (ab_no hf12 hak (by decide)) (fun r u h => (by obtain ⟨_, _, _, _, _, _, _, _, h9, _⟩ := h; exact h9)) (fun r H locs hp hH hS => ?_)
                    rw [ab_eq hSS hf12 hak (by decide) hp]
                    rw [d4]
                    refine lv_i2d hx hb dL_law_338 ?_
                    refine lv_dcmp hx hb dL_law_339 ?_
                    refine lv_if_gt (tgt := 366) hx hb dL_law_340 (by decide) (fun c6 => ?_) (fun c6 => ?_)
                    · exact absurd c6 (fp_le mx (by omega) su (by omega) hs2)
                    · skip
                      refine lv_aload_n hx hb dL_law_343 rfl (lv_at hl 13 rfl) ?_
                      refine lv_iload hx hb dL_law_344 (lv_at hl 4 rfl) ?_
                      refine lv_iconst (v := 1) hx hb dL_law_346 (by decide) ?_
                      refine kx_same (vx_runV (As := [.int (nI f), .int (nI 1)]) (rest := []) ⟨hx, hb, hml, hown, hts⟩ (c_about l hst D I Z F ad sa hI M H.size n9 hrs (nI f) (nI 1)) (cwV 2 hts gL_law_X2_about rfl rfl rfl (by decide +kernel) ⟨Nat.le_of_ble_eq_true rfl, Nat.le_of_ble_eq_true rfl⟩) (k_preV hKc hNc hX hA hI hM1 hH hS) rfl rfl hl.1 rfl (lv_room (Nat.le_of_ble_eq_true rfl)) dL_law_347 ⟨show 212500 + t * 13000 + 9230 + f * 310 + 270 + 8 ≤ 600130 by omega, show 908200 + t * 61400 + 38760 + f * 1860 + 1620 + 48 ≤ 7301080 by omega⟩) hI hM1 hH hS hA (ab_no hf12 hak (by decide)) (fun r u h => (by obtain ⟨_, _, _, _, _, _, _, _, h9, _⟩ := h; exact h9)) (fun r H locs hp hH hS => ?_)
                      rw [ab_eq hSS hf12 hak (by decide) hp]
                      rw [d1]
                      refine lv_if_lt (tgt := 366) hx hb dL_law_350 (by decide) (fun c7 => ?_) (fun c7 => ?_)
                      · exact absurd c7 (nI_pos (by omega))
                      · skip
                        refine lv_aload_n hx hb dL_law_353 rfl (lv_at hl 13 rfl) ?_
                        refine lv_iload hx hb dL_law_354 (lv_at hl 4 rfl) ?_
                        refine lv_iconst (v := 1) hx hb dL_law_356 (by decide) ?_
                        refine kx_same (vx_runV (As := [.int (nI f), .int (nI 1)]) (rest := []) ⟨hx, hb, hml, hown, hts⟩ (c_about l hst D I Z F ad sa hI M H.size n9 hrs (nI f) (nI 1)) (cwV 2 hts gL_law_X2_about rfl rfl rfl (by decide +kernel) ⟨Nat.le_of_ble_eq_true rfl, Nat.le_of_ble_eq_true rfl⟩) (k_preV hKc hNc hX hA hI hM1 hH hS) rfl rfl hl.1 rfl (lv_room (Nat.le_of_ble_eq_true rfl)) dL_law_357 ⟨show 212500 + t * 13000 + 9230 + f * 310 + 270 + 10 ≤ 600130 by omega, show 908200 + t * 61400 + 38760 + f * 1860 + 1620 + 60 ≤ 7301080 by omega⟩) hI hM1 hH hS hA (ab_no hf12 hak (by decide)) (fun r u h => (by obtain ⟨_, _, _, _, _, _, _, _, h9, _⟩ := h; exact h9)) (fun r H locs hp hH hS => ?_)
                        rw [ab_eq hSS hf12 hak (by decide) hp]
                        rw [d1]
                        refine lv_sipush (v := 256) hx hb dL_law_360 (by decide) ?_
                        refine lv_icmp_le (tgt := 368) hx hb dL_law_363 (by decide) (fun c8 => ?_) (fun c8 => ?_)
                        · skip
                          refine lv_aload_n hx hb dL_law_368 rfl (lv_at hl 13 rfl) ?_
                          refine lv_iload hx hb dL_law_369 (lv_at hl 4 rfl) ?_
                          refine lv_iconst (v := 1) hx hb dL_law_371 (by decide) ?_
                          refine kx_same (vx_runV (As := [.int (nI f), .int (nI 1)]) (rest := []) ⟨hx, hb, hml, hown, hts⟩ (c_about l hst D I Z F ad sa hI M H.size n9 hrs (nI f) (nI 1)) (cwV 2 hts gL_law_X2_about rfl rfl rfl (by decide +kernel) ⟨Nat.le_of_ble_eq_true rfl, Nat.le_of_ble_eq_true rfl⟩) (k_preV hKc hNc hX hA hI hM1 hH hS) rfl rfl hl.1 rfl (lv_room (Nat.le_of_ble_eq_true rfl)) dL_law_372 ⟨show 212500 + t * 13000 + 9230 + f * 310 + 270 + 12 ≤ 600130 by omega, show 908200 + t * 61400 + 38760 + f * 1860 + 1620 + 72 ≤ 7301080 by omega⟩) hI hM1 hH hS hA (ab_no hf12 hak (by decide)) (fun r u h => (by obtain ⟨_, _, _, _, _, _, _, _, h9, _⟩ := h; exact h9)) (fun r H locs hp hH hS => ?_)
                          rw [ab_eq hSS hf12 hak (by decide) hp]
                          rw [d1]
                          rcases hyes with ⟨hc0, hsm, hgr⟩ | ⟨s1, g1, hsg, hg1, hsm, hgr, hys, hyg, hc1, hc2⟩
                          · skip
                            refine lv_if_ne (tgt := 382) hx hb dL_law_375 (by decide) (fun d0 => ?_) (fun d0 => ?_)
                            · exact absurd (by rw [hc0]; rfl) d0
                            · skip
                              refine lv_iconst (v := 1) hx hb dL_law_378 (by decide) ?_
                              refine lv_goto (tgt := 383) hx hb dL_law_379 (by decide) ?_
                              refine lv_aload_n hx hb dL_law_383 rfl (lv_at hl 13 rfl) ?_
                              refine lv_iload hx hb dL_law_384 (lv_at hl 4 rfl) ?_
                              refine lv_iconst (v := 5) hx hb dL_law_386 (by decide) ?_
                              refine kx_same (vx_runV (As := [.int (nI f), .int (nI 5)]) (rest := [.int 1]) ⟨hx, hb, hml, hown, hts⟩ (c_about l hst D I Z F ad sa hI M H.size n9 hrs (nI f) (nI 5)) (cwV 2 hts gL_law_X2_about rfl rfl rfl (by decide +kernel) ⟨Nat.le_of_ble_eq_true rfl, Nat.le_of_ble_eq_true rfl⟩) (k_preV hKc hNc hX hA hI hM1 hH hS) rfl rfl hl.1 rfl (lv_room (Nat.le_of_ble_eq_true rfl)) dL_law_387 ⟨show 212500 + t * 13000 + 9230 + f * 310 + 270 + 14 ≤ 600130 by omega, show 908200 + t * 61400 + 38760 + f * 1860 + 1620 + 84 ≤ 7301080 by omega⟩) hI hM1 hH hS hA (ab_no hf12 hak (by decide)) (fun r u h => (by obtain ⟨_, _, _, _, _, _, _, _, h9, _⟩ := h; exact h9)) (fun r H locs hp hH hS => ?_)
                              rw [ab_eq hSS hf12 hak (by decide) hp]
                              rw [d5, hsm]
                              refine lv_iconst (v := -1) hx hb dL_law_390 (by decide) ?_
                              refine lv_icmp_ne (tgt := 398) hx hb dL_law_391 (by decide) (fun e0 => ?_) (fun e0 => ?_)
                              · exact absurd rfl e0
                              · skip
                                refine lv_iconst (v := 1) hx hb dL_law_394 (by decide) ?_
                                refine lv_goto (tgt := 399) hx hb dL_law_395 (by decide) ?_
                                refine lv_icmp_ne (tgt := 448) hx hb dL_law_399 (by decide) (fun e1 => ?_) (fun e1 => ?_)
                                · exact absurd rfl e1
                                · skip
                                  refine lv_aload_n hx hb dL_law_402 rfl (lv_at hl 13 rfl) ?_
                                  refine lv_iload hx hb dL_law_403 (lv_at hl 4 rfl) ?_
                                  refine lv_iconst (v := 5) hx hb dL_law_405 (by decide) ?_
                                  refine kx_same (vx_runV (As := [.int (nI f), .int (nI 5)]) (rest := []) ⟨hx, hb, hml, hown, hts⟩ (c_about l hst D I Z F ad sa hI M H.size n9 hrs (nI f) (nI 5)) (cwV 2 hts gL_law_X2_about rfl rfl rfl (by decide +kernel) ⟨Nat.le_of_ble_eq_true rfl, Nat.le_of_ble_eq_true rfl⟩) (k_preV hKc hNc hX hA hI hM1 hH hS) rfl rfl hl.1 rfl (lv_room (Nat.le_of_ble_eq_true rfl)) dL_law_406 ⟨show 212500 + t * 13000 + 9230 + f * 310 + 270 + 16 ≤ 600130 by omega, show 908200 + t * 61400 + 38760 + f * 1860 + 1620 + 96 ≤ 7301080 by omega⟩) hI hM1 hH hS hA (ab_no hf12 hak (by decide)) (fun r u h => (by obtain ⟨_, _, _, _, _, _, _, _, h9, _⟩ := h; exact h9)) (fun r H locs hp hH hS => ?_)
                                  rw [ab_eq hSS hf12 hak (by decide) hp]
                                  rw [d5, hsm]
                                  refine lv_aload_n hx hb dL_law_409 rfl (lv_at hl 13 rfl) ?_
                                  refine lv_iload hx hb dL_law_410 (lv_at hl 4 rfl) ?_
                                  refine lv_bipush (v := 6) hx hb dL_law_412 (by decide) ?_
                                  refine kx_same (vx_runV (As := [.int (nI f), .int (nI 6)]) (rest := [.int (-1)]) ⟨hx, hb, hml, hown, hts⟩ (c_about l hst D I Z F ad sa hI M H.size n9 hrs (nI f) (nI 6)) (cwV 2 hts gL_law_X2_about rfl rfl rfl (by decide +kernel) ⟨Nat.le_of_ble_eq_true rfl, Nat.le_of_ble_eq_true rfl⟩) (k_preV hKc hNc hX hA hI hM1 hH hS) rfl rfl hl.1 rfl (lv_room (Nat.le_of_ble_eq_true rfl)) dL_law_414 ⟨show 212500 + t * 13000 + 9230 + f * 310 + 270 + 18 ≤ 600130 by omega, show 908200 + t * 61400 + 38760 + f * 1860 + 1620 + 108 ≤ 7301080 by omega⟩) hI hM1 hH hS hA (ab_no hf12 hak (by decide)) (fun r u h => (by obtain ⟨_, _, _, _, _, _, _, _, h9, _⟩ := h; exact h9)) (fun r H locs hp hH hS => ?_)
                                  rw [ab_eq hSS hf12 hak (by decide) hp]
                                  rw [d6, hgr]
                                  refine lv_icmp_gt (tgt := 448) hx hb dL_law_417 (by decide) (fun e2 => ?_) (fun e2 => ?_)
                                  · exact absurd e2 (by decide)
                                  · skip
                                    refine lv_aload_n hx hb dL_law_420 rfl (lv_at hl 13 rfl) ?_
                                    refine lv_iload hx hb dL_law_421 (lv_at hl 4 rfl) ?_
                                    refine lv_iconst (v := 1) hx hb dL_law_423 (by decide) ?_
                                    refine kx_same (vx_runV (As := [.int (nI f), .int (nI 1)]) (rest := []) ⟨hx, hb, hml, hown, hts⟩ (c_about l hst D I Z F ad sa hI M H.size n9 hrs (nI f) (nI 1)) (cwV 2 hts gL_law_X2_about rfl rfl rfl (by decide +kernel) ⟨Nat.le_of_ble_eq_true rfl, Nat.le_of_ble_eq_true rfl⟩) (k_preV hKc hNc hX hA hI hM1 hH hS) rfl rfl hl.1 rfl (lv_room (Nat.le_of_ble_eq_true rfl)) dL_law_424 ⟨show 212500 + t * 13000 + 9230 + f * 310 + 270 + 20 ≤ 600130 by omega, show 908200 + t * 61400 + 38760 + f * 1860 + 1620 + 120 ≤ 7301080 by omega⟩) hI hM1 hH hS hA (ab_no hf12 hak (by decide)) (fun r u h => (by obtain ⟨_, _, _, _, _, _, _, _, h9, _⟩ := h; exact h9)) (fun r H locs hp hH hS => ?_)
                                    rw [ab_eq hSS hf12 hak (by decide) hp]
                                    rw [d1]
                                    refine lv_aload_n hx hb dL_law_427 rfl (lv_at hl 13 rfl) ?_
                                    refine lv_iload hx hb dL_law_428 (lv_at hl 4 rfl) ?_
                                    refine lv_bipush (v := 6) hx hb dL_law_430 (by decide) ?_
                                    refine kx_same (vx_runV (As := [.int (nI f), .int (nI 6)]) (rest := [.int (nI cy8)]) ⟨hx, hb, hml, hown, hts⟩ (c_about l hst D I Z F ad sa hI M H.size n9 hrs (nI f) (nI 6)) (cwV 2 hts gL_law_X2_about rfl rfl rfl (by decide +kernel) ⟨Nat.le_of_ble_eq_true rfl, Nat.le_of_ble_eq_true rfl⟩) (k_preV hKc hNc hX hA hI hM1 hH hS) rfl rfl hl.1 rfl (lv_room (Nat.le_of_ble_eq_true rfl)) dL_law_432 ⟨show 212500 + t * 13000 + 9230 + f * 310 + 270 + 22 ≤ 600130 by omega, show 908200 + t * 61400 + 38760 + f * 1860 + 1620 + 132 ≤ 7301080 by omega⟩) hI hM1 hH hS hA (ab_no hf12 hak (by decide)) (fun r u h => (by obtain ⟨_, _, _, _, _, _, _, _, h9, _⟩ := h; exact h9)) (fun r H locs hp hH hS => ?_)
                                    rw [ab_eq hSS hf12 hak (by decide) hp]
                                    rw [d6, hgr]
                                    refine lv_aload_n hx hb dL_law_435 rfl (lv_at hl 13 rfl) ?_
                                    refine lv_iload hx hb dL_law_436 (lv_at hl 4 rfl) ?_
                                    refine lv_iconst (v := 5) hx hb dL_law_438 (by decide) ?_
                                    refine kx_same (vx_runV (As := [.int (nI f), .int (nI 5)]) (rest := [.int (-1), .int (nI cy8)]) ⟨hx, hb, hml, hown, hts⟩ (c_about l hst D I Z F ad sa hI M H.size n9 hrs (nI f) (nI 5)) (cwV 2 hts gL_law_X2_about rfl rfl rfl (by decide +kernel) ⟨Nat.le_of_ble_eq_true rfl, Nat.le_of_ble_eq_true rfl⟩) (k_preV hKc hNc hX hA hI hM1 hH hS) rfl rfl hl.1 rfl (lv_room (Nat.le_of_ble_eq_true rfl)) dL_law_439 ⟨show 212500 + t * 13000 + 9230 + f * 310 + 270 + 24 ≤ 600130 by omega, show 908200 + t * 61400 + 38760 + f * 1860 + 1620 + 144 ≤ 7301080 by omega⟩) hI hM1 hH hS hA (ab_no hf12 hak (by decide)) (fun r u h => (by obtain ⟨_, _, _, _, _, _, _, _, h9, _⟩ := h; exact h9)) (fun r H locs hp hH hS => ?_)
                                    rw [ab_eq hSS hf12 hak (by decide) hp]
                                    rw [d5, hsm]
                                    refine lv_isub hx hb dL_law_442 ?_
                                    refine lv_iconst (v := 1) hx hb dL_law_443 (by decide) ?_
                                    refine lv_iadd hx hb dL_law_444 ?_
                                    refine lv_icmp_le (tgt := 450) hx hb dL_law_445 (by decide) (fun e3 => ?_) (fun e3 => ?_)
                                    · skip
                                      refine lv_aload_n hx hb dL_law_450 rfl (lv_at hl 13 rfl) ?_
                                      refine lv_iload hx hb dL_law_451 (lv_at hl 4 rfl) ?_
                                      refine lv_iconst (v := 5) hx hb dL_law_453 (by decide) ?_
                                      refine kx_same (vx_runV (As := [.int (nI f), .int (nI 5)]) (rest := []) ⟨hx, hb, hml, hown, hts⟩ (c_about l hst D I Z F ad sa hI M H.size n9 hrs (nI f) (nI 5)) (cwV 2 hts gL_law_X2_about rfl rfl rfl (by decide +kernel) ⟨Nat.le_of_ble_eq_true rfl, Nat.le_of_ble_eq_true rfl⟩) (k_preV hKc hNc hX hA hI hM1 hH hS) rfl rfl hl.1 rfl (lv_room (Nat.le_of_ble_eq_true rfl)) dL_law_454 ⟨show 212500 + t * 13000 + 9230 + f * 310 + 270 + 26 ≤ 600130 by omega, show 908200 + t * 61400 + 38760 + f * 1860 + 1620 + 156 ≤ 7301080 by omega⟩) hI hM1 hH hS hA (ab_no hf12 hak (by decide)) (fun r u h => (by obtain ⟨_, _, _, _, _, _, _, _, h9, _⟩ := h; exact h9)) (fun r H locs hp hH hS => ?_)
                                      rw [ab_eq hSS hf12 hak (by decide) hp]
                                      rw [d5, hsm]
                                      refine lv_if_lt (tgt := 495) hx hb dL_law_457 (by decide) (fun e4 => ?_) (fun e4 => ?_)
                                      · skip
                                        refine W.widen (k := 212500 + t * 13000 + 9230 + f * 310 + 305) (n := 908200 + t * 61400 + 38760 + f * 1860 + 1830) (by omega) (by omega) ?_
                                        exact at495 x14 ls H locs hl hH hS
                                      · exact absurd (by decide) e4
                                    · exact absurd (by rw [hc0]; decide) e3
                          · skip
                            refine lv_if_ne (tgt := 382) hx hb dL_law_375 (by decide) (fun d0 => ?_) (fun d0 => ?_)
                            · skip
                              refine lv_iconst (v := 0) hx hb dL_law_382 (by decide) ?_
                              refine lv_aload_n hx hb dL_law_383 rfl (lv_at hl 13 rfl) ?_
                              refine lv_iload hx hb dL_law_384 (lv_at hl 4 rfl) ?_
                              refine lv_iconst (v := 5) hx hb dL_law_386 (by decide) ?_
                              refine kx_same (vx_runV (As := [.int (nI f), .int (nI 5)]) (rest := [.int 0]) ⟨hx, hb, hml, hown, hts⟩ (c_about l hst D I Z F ad sa hI M H.size n9 hrs (nI f) (nI 5)) (cwV 2 hts gL_law_X2_about rfl rfl rfl (by decide +kernel) ⟨Nat.le_of_ble_eq_true rfl, Nat.le_of_ble_eq_true rfl⟩) (k_preV hKc hNc hX hA hI hM1 hH hS) rfl rfl hl.1 rfl (lv_room (Nat.le_of_ble_eq_true rfl)) dL_law_387 ⟨show 212500 + t * 13000 + 9230 + f * 310 + 270 + 14 ≤ 600130 by omega, show 908200 + t * 61400 + 38760 + f * 1860 + 1620 + 84 ≤ 7301080 by omega⟩) hI hM1 hH hS hA (ab_no hf12 hak (by decide)) (fun r u h => (by obtain ⟨_, _, _, _, _, _, _, _, h9, _⟩ := h; exact h9)) (fun r H locs hp hH hS => ?_)
                              rw [ab_eq hSS hf12 hak (by decide) hp]
                              rw [d5, hsm]
                              refine lv_iconst (v := -1) hx hb dL_law_390 (by decide) ?_
                              refine lv_icmp_ne (tgt := 398) hx hb dL_law_391 (by decide) (fun e0 => ?_) (fun e0 => ?_)
                              · skip
                                refine lv_iconst (v := 0) hx hb dL_law_398 (by decide) ?_
                                refine lv_icmp_ne (tgt := 448) hx hb dL_law_399 (by decide) (fun e1 => ?_) (fun e1 => ?_)
                                · exact absurd rfl e1
                                · skip
                                  refine lv_aload_n hx hb dL_law_402 rfl (lv_at hl 13 rfl) ?_
                                  refine lv_iload hx hb dL_law_403 (lv_at hl 4 rfl) ?_
                                  refine lv_iconst (v := 5) hx hb dL_law_405 (by decide) ?_
                                  refine kx_same (vx_runV (As := [.int (nI f), .int (nI 5)]) (rest := []) ⟨hx, hb, hml, hown, hts⟩ (c_about l hst D I Z F ad sa hI M H.size n9 hrs (nI f) (nI 5)) (cwV 2 hts gL_law_X2_about rfl rfl rfl (by decide +kernel) ⟨Nat.le_of_ble_eq_true rfl, Nat.le_of_ble_eq_true rfl⟩) (k_preV hKc hNc hX hA hI hM1 hH hS) rfl rfl hl.1 rfl (lv_room (Nat.le_of_ble_eq_true rfl)) dL_law_406 ⟨show 212500 + t * 13000 + 9230 + f * 310 + 270 + 16 ≤ 600130 by omega, show 908200 + t * 61400 + 38760 + f * 1860 + 1620 + 96 ≤ 7301080 by omega⟩) hI hM1 hH hS hA (ab_no hf12 hak (by decide)) (fun r u h => (by obtain ⟨_, _, _, _, _, _, _, _, h9, _⟩ := h; exact h9)) (fun r H locs hp hH hS => ?_)
                                  rw [ab_eq hSS hf12 hak (by decide) hp]
                                  rw [d5, hsm]
                                  refine lv_aload_n hx hb dL_law_409 rfl (lv_at hl 13 rfl) ?_
                                  refine lv_iload hx hb dL_law_410 (lv_at hl 4 rfl) ?_
                                  refine lv_bipush (v := 6) hx hb dL_law_412 (by decide) ?_
                                  refine kx_same (vx_runV (As := [.int (nI f), .int (nI 6)]) (rest := [.int (nI s1)]) ⟨hx, hb, hml, hown, hts⟩ (c_about l hst D I Z F ad sa hI M H.size n9 hrs (nI f) (nI 6)) (cwV 2 hts gL_law_X2_about rfl rfl rfl (by decide +kernel) ⟨Nat.le_of_ble_eq_true rfl, Nat.le_of_ble_eq_true rfl⟩) (k_preV hKc hNc hX hA hI hM1 hH hS) rfl rfl hl.1 rfl (lv_room (Nat.le_of_ble_eq_true rfl)) dL_law_414 ⟨show 212500 + t * 13000 + 9230 + f * 310 + 270 + 18 ≤ 600130 by omega, show 908200 + t * 61400 + 38760 + f * 1860 + 1620 + 108 ≤ 7301080 by omega⟩) hI hM1 hH hS hA (ab_no hf12 hak (by decide)) (fun r u h => (by obtain ⟨_, _, _, _, _, _, _, _, h9, _⟩ := h; exact h9)) (fun r H locs hp hH hS => ?_)
                                  rw [ab_eq hSS hf12 hak (by decide) hp]
                                  rw [d6, hgr]
                                  refine lv_icmp_gt (tgt := 448) hx hb dL_law_417 (by decide) (fun e2 => ?_) (fun e2 => ?_)
                                  · exact absurd e2 (nI_nlt hsg (by omega))
                                  · skip
                                    refine lv_aload_n hx hb dL_law_420 rfl (lv_at hl 13 rfl) ?_
                                    refine lv_iload hx hb dL_law_421 (lv_at hl 4 rfl) ?_
                                    refine lv_iconst (v := 1) hx hb dL_law_423 (by decide) ?_
                                    refine kx_same (vx_runV (As := [.int (nI f), .int (nI 1)]) (rest := []) ⟨hx, hb, hml, hown, hts⟩ (c_about l hst D I Z F ad sa hI M H.size n9 hrs (nI f) (nI 1)) (cwV 2 hts gL_law_X2_about rfl rfl rfl (by decide +kernel) ⟨Nat.le_of_ble_eq_true rfl, Nat.le_of_ble_eq_true rfl⟩) (k_preV hKc hNc hX hA hI hM1 hH hS) rfl rfl hl.1 rfl (lv_room (Nat.le_of_ble_eq_true rfl)) dL_law_424 ⟨show 212500 + t * 13000 + 9230 + f * 310 + 270 + 20 ≤ 600130 by omega, show 908200 + t * 61400 + 38760 + f * 1860 + 1620 + 120 ≤ 7301080 by omega⟩) hI hM1 hH hS hA (ab_no hf12 hak (by decide)) (fun r u h => (by obtain ⟨_, _, _, _, _, _, _, _, h9, _⟩ := h; exact h9)) (fun r H locs hp hH hS => ?_)
                                    rw [ab_eq hSS hf12 hak (by decide) hp]
                                    rw [d1]
                                    refine lv_aload_n hx hb dL_law_427 rfl (lv_at hl 13 rfl) ?_
                                    refine lv_iload hx hb dL_law_428 (lv_at hl 4 rfl) ?_
                                    refine lv_bipush (v := 6) hx hb dL_law_430 (by decide) ?_
                                    refine kx_same (vx_runV (As := [.int (nI f), .int (nI 6)]) (rest := [.int (nI cy8)]) ⟨hx, hb, hml, hown, hts⟩ (c_about l hst D I Z F ad sa hI M H.size n9 hrs (nI f) (nI 6)) (cwV 2 hts gL_law_X2_about rfl rfl rfl (by decide +kernel) ⟨Nat.le_of_ble_eq_true rfl, Nat.le_of_ble_eq_true rfl⟩) (k_preV hKc hNc hX hA hI hM1 hH hS) rfl rfl hl.1 rfl (lv_room (Nat.le_of_ble_eq_true rfl)) dL_law_432 ⟨show 212500 + t * 13000 + 9230 + f * 310 + 270 + 22 ≤ 600130 by omega, show 908200 + t * 61400 + 38760 + f * 1860 + 1620 + 132 ≤ 7301080 by omega⟩) hI hM1 hH hS hA (ab_no hf12 hak (by decide)) (fun r u h => (by obtain ⟨_, _, _, _, _, _, _, _, h9, _⟩ := h; exact h9)) (fun r H locs hp hH hS => ?_)
                                    rw [ab_eq hSS hf12 hak (by decide) hp]
                                    rw [d6, hgr]
                                    refine lv_aload_n hx hb dL_law_435 rfl (lv_at hl 13 rfl) ?_
                                    refine lv_iload hx hb dL_law_436 (lv_at hl 4 rfl) ?_
                                    refine lv_iconst (v := 5) hx hb dL_law_438 (by decide) ?_
                                    refine kx_same (vx_runV (As := [.int (nI f), .int (nI 5)]) (rest := [.int (nI g1), .int (nI cy8)]) ⟨hx, hb, hml, hown, hts⟩ (c_about l hst D I Z F ad sa hI M H.size n9 hrs (nI f) (nI 5)) (cwV 2 hts gL_law_X2_about rfl rfl rfl (by decide +kernel) ⟨Nat.le_of_ble_eq_true rfl, Nat.le_of_ble_eq_true rfl⟩) (k_preV hKc hNc hX hA hI hM1 hH hS) rfl rfl hl.1 rfl (lv_room (Nat.le_of_ble_eq_true rfl)) dL_law_439 ⟨show 212500 + t * 13000 + 9230 + f * 310 + 270 + 24 ≤ 600130 by omega, show 908200 + t * 61400 + 38760 + f * 1860 + 1620 + 144 ≤ 7301080 by omega⟩) hI hM1 hH hS hA (ab_no hf12 hak (by decide)) (fun r u h => (by obtain ⟨_, _, _, _, _, _, _, _, h9, _⟩ := h; exact h9)) (fun r H locs hp hH hS => ?_)
                                    rw [ab_eq hSS hf12 hak (by decide) hp]
                                    rw [d5, hsm]
                                    refine lv_isub hx hb dL_law_442 ?_
                                    refine lv_iconst (v := 1) hx hb dL_law_443 (by decide) ?_
                                    refine lv_iadd hx hb dL_law_444 ?_
                                    rw [pk_sub hsg, nI_1]
                                    refine lv_icmp_le (tgt := 450) hx hb dL_law_445 (by decide) (fun e3 => ?_) (fun e3 => ?_)
                                    · skip
                                      refine lv_aload_n hx hb dL_law_450 rfl (lv_at hl 13 rfl) ?_
                                      refine lv_iload hx hb dL_law_451 (lv_at hl 4 rfl) ?_
                                      refine lv_iconst (v := 5) hx hb dL_law_453 (by decide) ?_
                                      refine kx_same (vx_runV (As := [.int (nI f), .int (nI 5)]) (rest := []) ⟨hx, hb, hml, hown, hts⟩ (c_about l hst D I Z F ad sa hI M H.size n9 hrs (nI f) (nI 5)) (cwV 2 hts gL_law_X2_about rfl rfl rfl (by decide +kernel) ⟨Nat.le_of_ble_eq_true rfl, Nat.le_of_ble_eq_true rfl⟩) (k_preV hKc hNc hX hA hI hM1 hH hS) rfl rfl hl.1 rfl (lv_room (Nat.le_of_ble_eq_true rfl)) dL_law_454 ⟨show 212500 + t * 13000 + 9230 + f * 310 + 270 + 26 ≤ 600130 by omega, show 908200 + t * 61400 + 38760 + f * 1860 + 1620 + 156 ≤ 7301080 by omega⟩) hI hM1 hH hS hA (ab_no hf12 hak (by decide)) (fun r u h => (by obtain ⟨_, _, _, _, _, _, _, _, h9, _⟩ := h; exact h9)) (fun r H locs hp hH hS => ?_)
                                      rw [ab_eq hSS hf12 hak (by decide) hp]
                                      rw [d5, hsm]
                                      refine lv_if_lt (tgt := 495) hx hb dL_law_457 (by decide) (fun e4 => ?_) (fun e4 => ?_)
                                      · exact absurd e4 (nI_pos (by omega))
                                      · skip
                                        refine lv_aload_n hx hb dL_law_460 rfl (lv_at hl 13 rfl) ?_
                                        refine lv_iload hx hb dL_law_461 (lv_at hl 4 rfl) ?_
                                        refine lv_aload_n hx hb dL_law_463 rfl (lv_at hl 13 rfl) ?_
                                        refine lv_iload hx hb dL_law_464 (lv_at hl 4 rfl) ?_
                                        refine lv_iconst (v := 5) hx hb dL_law_466 (by decide) ?_
                                        refine kx_same (vx_runV (As := [.int (nI f), .int (nI 5)]) (rest := [.int (nI f), .ref (ad 0)]) ⟨hx, hb, hml, hown, hts⟩ (c_about l hst D I Z F ad sa hI M H.size n9 hrs (nI f) (nI 5)) (cwV 2 hts gL_law_X2_about rfl rfl rfl (by decide +kernel) ⟨Nat.le_of_ble_eq_true rfl, Nat.le_of_ble_eq_true rfl⟩) (k_preV hKc hNc hX hA hI hM1 hH hS) rfl rfl hl.1 rfl (lv_room (Nat.le_of_ble_eq_true rfl)) dL_law_467 ⟨show 212500 + t * 13000 + 9230 + f * 310 + 270 + 28 ≤ 600130 by omega, show 908200 + t * 61400 + 38760 + f * 1860 + 1620 + 168 ≤ 7301080 by omega⟩) hI hM1 hH hS hA (ab_no hf12 hak (by decide)) (fun r u h => (by obtain ⟨_, _, _, _, _, _, _, _, h9, _⟩ := h; exact h9)) (fun r H locs hp hH hS => ?_)
                                        rw [ab_eq hSS hf12 hak (by decide) hp]
                                        rw [d5, hsm]
                                        refine kx_same (vx_runV (As := [.int (nI f), .int (nI s1)]) (rest := []) ⟨hx, hb, hml, hown, hts⟩ (c_says l hst D I Z F ad sa hI M H.size hSS.2.1 (nI f) (nI s1)) (cwV 2 hts gL_law_X2_says rfl rfl rfl (by decide +kernel) ⟨Nat.le_of_ble_eq_true rfl, Nat.le_of_ble_eq_true rfl⟩) (k_preV hKc hNc hX hA hI hM1 hH hS) rfl rfl hl.1 rfl (lv_room (Nat.le_of_ble_eq_true rfl)) dL_law_470 ⟨show 212500 + t * 13000 + 9230 + f * 310 + 270 + 30 ≤ 600130 by omega, show 908200 + t * 61400 + 38760 + f * 1860 + 1620 + 180 ≤ 7301080 by omega⟩) hI hM1 hH hS hA (fun E h => h.elim (fun h9 => h9.2 ⟨f, fdOk_of hf12 hak⟩) (fun h9 => h9.2.2 ⟨s1, by omega, rfl⟩)) (fun r u h => (by obtain ⟨_, _, _, _, _, h9, _⟩ := h; exact h9)) (fun r H locs hp hH hS => ?_)
                                        obtain ⟨k1, j1, hk1, hj1, ej1, -, hr8⟩ := hp
                                        have ej2 : j1 = s1 := ((nI_eq (by omega) (by omega)).mp ej1).symm
                                        rw [hr8, fd_one hf12 hk1, ej2]
                                        clear hk1 hj1 ej1 ej2 hr8
                                        refine lv_if_eq (tgt := 493) hx hb dL_law_473 (by decide) (fun e5 => ?_) (fun e5 => ?_)
                                        · exact absurd e5 hys
                                        · skip
                                          refine lv_aload_n hx hb dL_law_476 rfl (lv_at hl 13 rfl) ?_
                                          refine lv_iload hx hb dL_law_477 (lv_at hl 4 rfl) ?_
                                          refine lv_aload_n hx hb dL_law_479 rfl (lv_at hl 13 rfl) ?_
                                          refine lv_iload hx hb dL_law_480 (lv_at hl 4 rfl) ?_
                                          refine lv_bipush (v := 6) hx hb dL_law_482 (by decide) ?_
                                          refine kx_same (vx_runV (As := [.int (nI f), .int (nI 6)]) (rest := [.int (nI f), .ref (ad 0)]) ⟨hx, hb, hml, hown, hts⟩ (c_about l hst D I Z F ad sa hI M H.size n9 hrs (nI f) (nI 6)) (cwV 2 hts gL_law_X2_about rfl rfl rfl (by decide +kernel) ⟨Nat.le_of_ble_eq_true rfl, Nat.le_of_ble_eq_true rfl⟩) (k_preV hKc hNc hX hA hI hM1 hH hS) rfl rfl hl.1 rfl (lv_room (Nat.le_of_ble_eq_true rfl)) dL_law_484 ⟨show 212500 + t * 13000 + 9230 + f * 310 + 270 + 32 ≤ 600130 by omega, show 908200 + t * 61400 + 38760 + f * 1860 + 1620 + 192 ≤ 7301080 by omega⟩) hI hM1 hH hS hA (ab_no hf12 hak (by decide)) (fun r u h => (by obtain ⟨_, _, _, _, _, _, _, _, h9, _⟩ := h; exact h9)) (fun r H locs hp hH hS => ?_)
                                          rw [ab_eq hSS hf12 hak (by decide) hp]
                                          rw [d6, hgr]
                                          refine kx_same (vx_runV (As := [.int (nI f), .int (nI g1)]) (rest := []) ⟨hx, hb, hml, hown, hts⟩ (c_says l hst D I Z F ad sa hI M H.size hSS.2.1 (nI f) (nI g1)) (cwV 2 hts gL_law_X2_says rfl rfl rfl (by decide +kernel) ⟨Nat.le_of_ble_eq_true rfl, Nat.le_of_ble_eq_true rfl⟩) (k_preV hKc hNc hX hA hI hM1 hH hS) rfl rfl hl.1 rfl (lv_room (Nat.le_of_ble_eq_true rfl)) dL_law_487 ⟨show 212500 + t * 13000 + 9230 + f * 310 + 270 + 34 ≤ 600130 by omega, show 908200 + t * 61400 + 38760 + f * 1860 + 1620 + 204 ≤ 7301080 by omega⟩) hI hM1 hH hS hA (fun E h => h.elim (fun h9 => h9.2 ⟨f, fdOk_of hf12 hak⟩) (fun h9 => h9.2.2 ⟨g1, by omega, rfl⟩)) (fun r u h => (by obtain ⟨_, _, _, _, _, h9, _⟩ := h; exact h9)) (fun r H locs hp hH hS => ?_)
                                          obtain ⟨k1, j1, hk1, hj1, ej1, -, hr8⟩ := hp
                                          have ej2 : j1 = g1 := ((nI_eq (by omega) (by omega)).mp ej1).symm
                                          rw [hr8, fd_one hf12 hk1, ej2]
                                          clear hk1 hj1 ej1 ej2 hr8
                                          refine lv_if_ne (tgt := 495) hx hb dL_law_490 (by decide) (fun e6 => ?_) (fun e6 => ?_)
                                          · skip
                                            refine W.widen (k := 212500 + t * 13000 + 9230 + f * 310 + 305) (n := 908200 + t * 61400 + 38760 + f * 1860 + 1830) (by omega) (by omega) ?_
                                            exact at495 x14 ls H locs hl hH hS
                                          · exact absurd e6 hyg
                                    · exact absurd (nI_le hc2 (by omega)) e3
                              · exact absurd (show nI s1 < 0 by rw [e0]; decide) (nI_pos (by omega))
                            · exact absurd d0 (nI_ne0 (by omega) (by omega))
                        · exact absurd (nI_le hc8 (by decide)) c8
                have at292 : ∀ (x14 : Int32) (ls : Array Slot) (H : Heap) (locs : List Loc), lv_has ls 16 [(14, .int x14), (13, .int (nI (tq_N (t_qs o (kR M o f)) (kR M o f).length))), (12, .int (nI (pc_N (t_Q o (kR M o f))))), (11, .int (nI (kR M o f).length)), (10, .int (nI f)), (9, .int (nI f0)), (8, .int (nI (u_sum (a_k M) (fun e => (u_own o (a_k M) (a_Y M) e).length) f))), (7, .int (sI (clT M) f)), (6, .int (nI mo)), (5, .int (sI (afT M) f)), (4, .int x4), (3, .int (nI t)), (2, .ref si), (1, .ref (ad 0)), (0, .ref b)] → h_H D (lS9 s) C H → va_S (lS9 s) s.heap H locs → W p l e room_1 s m #[Value.ref b] below meth c H locs (212500 + t * 13000 + 9230 + f * 310 + 266) (908200 + t * 61400 + 38760 + f * 1860 + 1596) (lw_Z below #[Value.ref b] s) (F0 m 292 ls []) := by
                  intro x14 ls H locs hl hH hS
                  refine lv_aload_n hx hb dL_law_292 rfl (lv_at hl 13 rfl) ?_
                  refine lv_iload hx hb dL_law_293 (lv_at hl 4 rfl) ?_
                  refine lv_bipush (v := 7) hx hb dL_law_295 (by decide) ?_
                  refine kx_same (vx_runV (As := [.int (nI f), .int (nI 7)]) (rest := []) ⟨hx, hb, hml, hown, hts⟩ (c_about l hst D I Z F ad sa hI M H.size n9 hrs (nI f) (nI 7)) (cwV 2 hts gL_law_X2_about rfl rfl rfl (by decide +kernel) ⟨Nat.le_of_ble_eq_true rfl, Nat.le_of_ble_eq_true rfl⟩) (k_preV hKc hNc hX hA hI hM1 hH hS) rfl rfl hl.1 rfl (lv_room (Nat.le_of_ble_eq_true rfl)) dL_law_297 ⟨show 212500 + t * 13000 + 9230 + f * 310 + 266 + 2 ≤ 600130 by omega, show 908200 + t * 61400 + 38760 + f * 1860 + 1596 + 12 ≤ 7301080 by omega⟩) hI hM1 hH hS hA (ab_no hf12 hak (by decide)) (fun r u h => (by obtain ⟨_, _, _, _, _, _, _, _, h9, _⟩ := h; exact h9)) (fun r H locs hp hH hS => ?_)
                  rw [ab_eq hSS hf12 hak (by decide) hp]
                  rw [d7]
                  refine lv_iload hx hb dL_law_300 (lv_at hl 3 rfl) ?_
                  refine lv_icmp_le (tgt := 307) hx hb dL_law_302 (by decide) (fun c5 => ?_) (fun c5 => ?_)
                  · skip
                    refine W.widen (k := 212500 + t * 13000 + 9230 + f * 310 + 270) (n := 908200 + t * 61400 + 38760 + f * 1860 + 1620) (by omega) (by omega) ?_
                    exact at307 x14 ls H locs hl hH hS
                  · exact absurd (nI_le how (by omega)) c5
                have at228 : ∀ (x14 : Int32) (ls : Array Slot) (H : Heap) (locs : List Loc), lv_has ls 16 [(14, .int x14), (13, .int (nI (tq_N (t_qs o (kR M o f)) (kR M o f).length))), (12, .int (nI (pc_N (t_Q o (kR M o f))))), (11, .int (nI (kR M o f).length)), (10, .int (nI f)), (9, .int (nI f0)), (8, .int (nI (u_sum (a_k M) (fun e => (u_own o (a_k M) (a_Y M) e).length) f))), (7, .int (sI (clT M) f)), (6, .int (nI mo)), (5, .int (sI (afT M) f)), (4, .int x4), (3, .int (nI t)), (2, .ref si), (1, .ref (ad 0)), (0, .ref b)] → h_H D (lS9 s) C H → va_S (lS9 s) s.heap H locs → W p l e room_1 s m #[Value.ref b] below meth c H locs (212500 + t * 13000 + 9230 + f * 310 + 255) (908200 + t * 61400 + 38760 + f * 1860 + 1530) (lw_Z below #[Value.ref b] s) (F0 m 228 ls []) := by
                  intro x14 ls H locs hl hH hS
                  refine lv_iload hx hb dL_law_228 (lv_at hl 1 rfl) ?_
                  refine lv_aload_n hx hb dL_law_230 rfl (lv_at hl 13 rfl) ?_
                  refine lv_iload hx hb dL_law_231 (lv_at hl 4 rfl) ?_
                  refine lv_iconst (v := 2) hx hb dL_law_233 (by decide) ?_
                  refine kx_same (vx_runV (As := [.int (nI f), .int (nI 2)]) (rest := [.int (nI (tq_N (t_qs o (kR M o f)) (kR M o f).length))]) ⟨hx, hb, hml, hown, hts⟩ (c_about l hst D I Z F ad sa hI M H.size n9 hrs (nI f) (nI 2)) (cwV 2 hts gL_law_X2_about rfl rfl rfl (by decide +kernel) ⟨Nat.le_of_ble_eq_true rfl, Nat.le_of_ble_eq_true rfl⟩) (k_preV hKc hNc hX hA hI hM1 hH hS) rfl rfl hl.1 rfl (lv_room (Nat.le_of_ble_eq_true rfl)) dL_law_234 ⟨show 212500 + t * 13000 + 9230 + f * 310 + 255 + 2 ≤ 600130 by omega, show 908200 + t * 61400 + 38760 + f * 1860 + 1530 + 12 ≤ 7301080 by omega⟩) hI hM1 hH hS hA (ab_no hf12 hak (by decide)) (fun r u h => (by obtain ⟨_, _, _, _, _, _, _, _, h9, _⟩ := h; exact h9)) (fun r H locs hp hH hS => ?_)
                  rw [ab_eq hSS hf12 hak (by decide) hp]
                  rw [d2]
                  refine lv_icmp_ne (tgt := 305) hx hb dL_law_237 (by decide) (fun c5 => ?_) (fun c5 => ?_)
                  · exact absurd rfl c5
                  · skip
                    refine lv_iload hx hb dL_law_240 (lv_at hl 3 rfl) ?_
                    refine lv_iload hx hb dL_law_242 (lv_at hl 2 rfl) ?_
                    refine lv_icmp_lt (tgt := 305) hx hb dL_law_244 (by decide) (fun c6 => ?_) (fun c6 => ?_)
                    · exact absurd c6 (nI_nlt hpl (by omega))
                    · skip
                      refine lv_aload_n hx hb dL_law_247 rfl (lv_at hl 13 rfl) ?_
                      refine lv_iload hx hb dL_law_248 (lv_at hl 4 rfl) ?_
                      refine lv_iconst (v := 4) hx hb dL_law_250 (by decide) ?_
                      refine kx_same (vx_runV (As := [.int (nI f), .int (nI 4)]) (rest := []) ⟨hx, hb, hml, hown, hts⟩ (c_about l hst D I Z F ad sa hI M H.size n9 hrs (nI f) (nI 4)) (cwV 2 hts gL_law_X2_about rfl rfl rfl (by decide +kernel) ⟨Nat.le_of_ble_eq_true rfl, Nat.le_of_ble_eq_true rfl⟩) (k_preV hKc hNc hX hA hI hM1 hH hS) rfl rfl hl.1 rfl (lv_room (Nat.le_of_ble_eq_true rfl)) dL_law_251 ⟨show 212500 + t * 13000 + 9230 + f * 310 + 255 + 4 ≤ 600130 by omega, show 908200 + t * 61400 + 38760 + f * 1860 + 1530 + 24 ≤ 7301080 by omega⟩) hI hM1 hH hS hA (ab_no hf12 hak (by decide)) (fun r u h => (by obtain ⟨_, _, _, _, _, _, _, _, h9, _⟩ := h; exact h9)) (fun r H locs hp hH hS => ?_)
                      rw [ab_eq hSS hf12 hak (by decide) hp]
                      rw [d4]
                      refine lv_iload hx hb dL_law_254 (lv_at hl 2 rfl) ?_
                      refine lv_icmp_gt (tgt := 305) hx hb dL_law_256 (by decide) (fun c7 => ?_) (fun c7 => ?_)
                      · exact absurd c7 (nI_nlt hmp (by omega))
                      · skip
                        refine lv_aload_n hx hb dL_law_259 rfl (lv_at hl 13 rfl) ?_
                        refine lv_iload hx hb dL_law_260 (lv_at hl 4 rfl) ?_
                        refine lv_iconst (v := 3) hx hb dL_law_262 (by decide) ?_
                        refine kx_same (vx_runV (As := [.int (nI f), .int (nI 3)]) (rest := []) ⟨hx, hb, hml, hown, hts⟩ (c_about l hst D I Z F ad sa hI M H.size n9 hrs (nI f) (nI 3)) (cwV 2 hts gL_law_X2_about rfl rfl rfl (by decide +kernel) ⟨Nat.le_of_ble_eq_true rfl, Nat.le_of_ble_eq_true rfl⟩) (k_preV hKc hNc hX hA hI hM1 hH hS) rfl rfl hl.1 rfl (lv_room (Nat.le_of_ble_eq_true rfl)) dL_law_263 ⟨show 212500 + t * 13000 + 9230 + f * 310 + 255 + 6 ≤ 600130 by omega, show 908200 + t * 61400 + 38760 + f * 1860 + 1530 + 36 ≤ 7301080 by omega⟩) hI hM1 hH hS hA (ab_no hf12 hak (by decide)) (fun r u h => (by obtain ⟨_, _, _, _, _, _, _, _, h9, _⟩ := h; exact h9)) (fun r H locs hp hH hS => ?_)
                        rw [ab_eq hSS hf12 hak (by decide) hp]
                        rw [d3]
                        refine lv_aload_n hx hb dL_law_266 rfl (lv_at hl 13 rfl) ?_
                        refine lv_iload hx hb dL_law_267 (lv_at hl 4 rfl) ?_
                        refine lv_iconst (v := 4) hx hb dL_law_269 (by decide) ?_
                        refine kx_same (vx_runV (As := [.int (nI f), .int (nI 4)]) (rest := [.int (nI mn)]) ⟨hx, hb, hml, hown, hts⟩ (c_about l hst D I Z F ad sa hI M H.size n9 hrs (nI f) (nI 4)) (cwV 2 hts gL_law_X2_about rfl rfl rfl (by decide +kernel) ⟨Nat.le_of_ble_eq_true rfl, Nat.le_of_ble_eq_true rfl⟩) (k_preV hKc hNc hX hA hI hM1 hH hS) rfl rfl hl.1 rfl (lv_room (Nat.le_of_ble_eq_true rfl)) dL_law_270 ⟨show 212500 + t * 13000 + 9230 + f * 310 + 255 + 8 ≤ 600130 by omega, show 908200 + t * 61400 + 38760 + f * 1860 + 1530 + 48 ≤ 7301080 by omega⟩) hI hM1 hH hS hA (ab_no hf12 hak (by decide)) (fun r u h => (by obtain ⟨_, _, _, _, _, _, _, _, h9, _⟩ := h; exact h9)) (fun r H locs hp hH hS => ?_)
                        rw [ab_eq hSS hf12 hak (by decide) hp]
                        rw [d4]
                        refine lv_icmp_gt (tgt := 305) hx hb dL_law_273 (by decide) (fun c8 => ?_) (fun c8 => ?_)
                        · exact absurd c8 (nI_nlt hmm (by omega))
                        · skip
                          refine lv_iload hx hb dL_law_276 (lv_at hl 3 rfl) ?_
                          refine lv_if_le (tgt := 292) hx hb dL_law_278 (by decide) (fun c9 => ?_) (fun c9 => ?_)
                          · skip
                            refine W.widen (k := 212500 + t * 13000 + 9230 + f * 310 + 266) (n := 908200 + t * 61400 + 38760 + f * 1860 + 1596) (by omega) (by omega) ?_
                            exact at292 x14 ls H locs hl hH hS
                          · skip
                            have hlp : 0 < (kR M o f).length := by
                              rcases Nat.eq_zero_or_pos (kR M o f).length with h9 | h9
                              · exact absurd (by rw [h9]; decide) c9
                              · exact h9
                            refine lv_aload_n hx hb dL_law_281 rfl (lv_at hl 13 rfl) ?_
                            refine lv_iload hx hb dL_law_282 (lv_at hl 4 rfl) ?_
                            refine lv_iconst (v := 3) hx hb dL_law_284 (by decide) ?_
                            refine kx_same (vx_runV (As := [.int (nI f), .int (nI 3)]) (rest := []) ⟨hx, hb, hml, hown, hts⟩ (c_about l hst D I Z F ad sa hI M H.size n9 hrs (nI f) (nI 3)) (cwV 2 hts gL_law_X2_about rfl rfl rfl (by decide +kernel) ⟨Nat.le_of_ble_eq_true rfl, Nat.le_of_ble_eq_true rfl⟩) (k_preV hKc hNc hX hA hI hM1 hH hS) rfl rfl hl.1 rfl (lv_room (Nat.le_of_ble_eq_true rfl)) dL_law_285 ⟨show 212500 + t * 13000 + 9230 + f * 310 + 255 + 10 ≤ 600130 by omega, show 908200 + t * 61400 + 38760 + f * 1860 + 1530 + 60 ≤ 7301080 by omega⟩) hI hM1 hH hS hA (ab_no hf12 hak (by decide)) (fun r u h => (by obtain ⟨_, _, _, _, _, _, _, _, h9, _⟩ := h; exact h9)) (fun r H locs hp hH hS => ?_)
                            rw [ab_eq hSS hf12 hak (by decide) hp]
                            rw [d3]
                            refine lv_iconst (v := 1) hx hb dL_law_288 (by decide) ?_
                            refine lv_icmp_lt (tgt := 305) hx hb dL_law_289 (by decide) (fun d1 => ?_) (fun d1 => ?_)
                            · exact absurd d1 (nI_nlt (b := 1) (hm1 hlp) (by omega))
                            · skip
                              refine W.widen (k := 212500 + t * 13000 + 9230 + f * 310 + 266) (n := 908200 + t * 61400 + 38760 + f * 1860 + 1596) (by omega) (by omega) ?_
                              exact at292 x14 ls H locs hl hH hS
                have at205 : ∀ (x14 : Int32) (ls : Array Slot) (H : Heap) (locs : List Loc), lv_has ls 16 [(14, .int x14), (13, .int (nI (tq_N (t_qs o (kR M o f)) (kR M o f).length))), (12, .int (nI (pc_N (t_Q o (kR M o f))))), (11, .int (nI (kR M o f).length)), (10, .int (nI f)), (9, .int (nI f0)), (8, .int (nI (u_sum (a_k M) (fun e => (u_own o (a_k M) (a_Y M) e).length) f))), (7, .int (sI (clT M) f)), (6, .int (nI mo)), (5, .int (sI (afT M) f)), (4, .int x4), (3, .int (nI t)), (2, .ref si), (1, .ref (ad 0)), (0, .ref b)] → h_H D (lS9 s) C H → va_S (lS9 s) s.heap H locs → W p l e room_1 s m #[Value.ref b] below meth c H locs (212500 + t * 13000 + 9230 + f * 310 + 255) (908200 + t * 61400 + 38760 + f * 1860 + 1530) (lw_Z below #[Value.ref b] s) (F0 m 205 ls []) := by
                  intro x14 ls H locs hl hH hS
                  refine lv_iload hx hb dL_law_205 (lv_at hl 3 rfl) ?_
                  refine lv_if_ne (tgt := 214) hx hb dL_law_207 (by decide) (fun c5 => ?_) (fun c5 => ?_)
                  · skip
                    refine lv_iconst (v := 0) hx hb dL_law_214 (by decide) ?_
                    refine lv_iload hx hb dL_law_215 (lv_at hl 2 rfl) ?_
                    refine lv_if_ne (tgt := 224) hx hb dL_law_217 (by decide) (fun c6 => ?_) (fun c6 => ?_)
                    · skip
                      refine lv_iconst (v := 0) hx hb dL_law_224 (by decide) ?_
                      refine lv_icmp_ne (tgt := 305) hx hb dL_law_225 (by decide) (fun c7 => ?_) (fun c7 => ?_)
                      · exact absurd rfl c7
                      · skip
                        exact at228 x14 ls H locs hl hH hS
                    · exact absurd (by rw [hp0.mp ((nI_eq (b := 0) (by omega) (by decide)).mp c6)]; rfl) c5
                  · skip
                    refine lv_iconst (v := 1) hx hb dL_law_210 (by decide) ?_
                    refine lv_goto (tgt := 215) hx hb dL_law_211 (by decide) ?_
                    refine lv_iload hx hb dL_law_215 (lv_at hl 2 rfl) ?_
                    refine lv_if_ne (tgt := 224) hx hb dL_law_217 (by decide) (fun c6 => ?_) (fun c6 => ?_)
                    · exact absurd (by rw [hp0.mpr ((nI_eq (b := 0) (by omega) (by decide)).mp c5)]; rfl) c6
                    · skip
                      refine lv_iconst (v := 1) hx hb dL_law_220 (by decide) ?_
                      refine lv_goto (tgt := 225) hx hb dL_law_221 (by decide) ?_
                      refine lv_icmp_ne (tgt := 305) hx hb dL_law_225 (by decide) (fun c7 => ?_) (fun c7 => ?_)
                      · exact absurd rfl c7
                      · skip
                        exact at228 x14 ls H locs hl hH hS
                have kl : ∀ r8 k : Nat, k + r8 = (kR M o f).length → ∀ (ls : Array Slot) (H : Heap) (locs : List Loc), lv_has ls 16 [(14, .int (nI k)), (13, .int (nI (tq_N (t_qs o (kR M o f)) k))), (12, .int (nI (pc_N (t_Q o (kR M o f))))), (11, .int (nI (kR M o f).length)), (10, .int (nI f)), (9, .int (nI f0)), (8, .int (nI (u_sum (a_k M) (fun e => (u_own o (a_k M) (a_Y M) e).length) f))), (7, .int (sI (clT M) f)), (6, .int (nI mo)), (5, .int (sI (afT M) f)), (4, .int x4), (3, .int (nI t)), (2, .ref si), (1, .ref (ad 0)), (0, .ref b)] → h_H D (lS9 s) C H → va_S (lS9 s) s.heap H locs → W p l e room_1 s m #[Value.ref b] below meth c H locs (212500 + t * 13000 + 9230 + f * 310 + 20 + k * 3) (908200 + t * 61400 + 38760 + f * 1860 + 120 + k * 18) (lw_Z below #[Value.ref b] s) (F0 m 176 ls []) := by
                  intro r8
                  induction r8 with
                  | zero =>
                    intro k hk8 ls H locs hl hH hS
                    obtain rfl : k = (kR M o f).length := by omega
                    refine lv_iload hx hb dL_law_176 (lv_at hl 0 rfl) ?_
                    refine lv_iload hx hb dL_law_178 (lv_at hl 3 rfl) ?_
                    refine lv_icmp_ge (tgt := 205) hx hb dL_law_180 (by decide) (fun c5 => ?_) (fun c5 => ?_)
                    · skip
                      refine W.widen (k := 212500 + t * 13000 + 9230 + f * 310 + 255) (n := 908200 + t * 61400 + 38760 + f * 1860 + 1530) (by omega) (by omega) ?_
                      exact at205 _ ls H locs hl hH hS
                    · exact absurd (nI_le (Nat.le_refl _) (by omega)) c5
                  | succ r8 ih8 =>
                    intro k hk8 ls H locs hl hH hS
                    have hkl : k < (kR M o f).length := by omega
                    refine lv_iload hx hb dL_law_176 (lv_at hl 0 rfl) ?_
                    refine lv_iload hx hb dL_law_178 (lv_at hl 3 rfl) ?_
                    refine lv_icmp_ge (tgt := 205) hx hb dL_law_180 (by decide) (fun c5 => ?_) (fun c5 => ?_)
                    · exact absurd c5 (nI_ge (b := (kR M o f).length) (by omega) (by omega))
                    · skip
                      refine lv_iload hx hb dL_law_183 (lv_at hl 1 rfl) ?_
                      refine lv_iconst (v := 1) hx hb dL_law_185 (by decide) ?_
                      refine lv_aload_n hx hb dL_law_186 rfl (lv_at hl 13 rfl) ?_
                      refine lv_iload hx hb dL_law_187 (lv_at hl 4 rfl) ?_
                      refine lv_iload hx hb dL_law_189 (lv_at hl 0 rfl) ?_
                      refine lv_iconst (v := 0) hx hb dL_law_191 (by decide) ?_
                      refine kx_same (vx_runV (As := [.int (nI f), .int (nI k), .int (nI 0)]) (rest := [.int 1, .int (nI (tq_N (t_qs o (kR M o f)) k))]) ⟨hx, hb, hml, hown, hts⟩ (c_fork l hst D I Z F ad sa hI M H.size n9 hrs (nI f) (nI k) (nI 0)) (cwV 3 hts gL_law_X2_fork rfl rfl rfl (by decide +kernel) ⟨Nat.le_of_ble_eq_true rfl, Nat.le_of_ble_eq_true rfl⟩) (k_preV hKc hNc hX hA hI hM1 hH hS) rfl rfl hl.1 rfl (lv_room (Nat.le_of_ble_eq_true rfl)) dL_law_192 ⟨show 212500 + t * 13000 + 9230 + f * 310 + 20 + k * 3 + 3 ≤ 600130 by omega, show 908200 + t * 61400 + 38760 + f * 1860 + 120 + k * 18 + 18 ≤ 7301080 by omega⟩) hI hM1 hH hS hA (fk_no hSS hf12 hak hkl (by decide)) (fun r u h => (by obtain ⟨_, _, _, _, _, _, _, _, _, _, _, h9, _⟩ := h; exact h9)) (fun r H locs hp hH hS => ?_)
                      rw [fk_eq hf12 (by omega) (by decide) hp, fk_0 hW hkl]
                      refine lv_ishl hx hb dL_law_195 ?_
                      refine lv_ior hx hb dL_law_196 ?_
                      have hor : nI (tq_N (t_qs o (kR M o f)) k) ||| ((1 : Int32) <<< (nI (t_qs o (kR M o f) k) &&& 31)) = nI (tq_N (t_qs o (kR M o f)) (k + 1)) := (ao_s2 _ (tq_lt k (fun i hi => hW.q8 ho (by omega))) _ (hW.q8 ho hkl) 1 (by decide)).1
                      rw [hor]
                      refine lv_istore (lv' := [(13, .int (nI (tq_N (t_qs o (kR M o f)) (k + 1)))), (14, .int (nI k)), (12, .int (nI (pc_N (t_Q o (kR M o f))))), (11, .int (nI (kR M o f).length)), (10, .int (nI f)), (9, .int (nI f0)), (8, .int (nI (u_sum (a_k M) (fun e => (u_own o (a_k M) (a_Y M) e).length) f))), (7, .int (sI (clT M) f)), (6, .int (nI mo)), (5, .int (sI (afT M) f)), (4, .int x4), (3, .int (nI t)), (2, .ref si), (1, .ref (ad 0)), (0, .ref b)]) hx hb dL_law_197 hl (by decide) rfl (fun ls hl => ?_)
                      refine lv_iinc (v := nI (k + 1)) (lv' := [(14, .int (nI (k + 1))), (13, .int (nI (tq_N (t_qs o (kR M o f)) (k + 1)))), (12, .int (nI (pc_N (t_Q o (kR M o f))))), (11, .int (nI (kR M o f).length)), (10, .int (nI f)), (9, .int (nI f0)), (8, .int (nI (u_sum (a_k M) (fun e => (u_own o (a_k M) (a_Y M) e).length) f))), (7, .int (sI (clT M) f)), (6, .int (nI mo)), (5, .int (sI (afT M) f)), (4, .int x4), (3, .int (nI t)), (2, .ref si), (1, .ref (ad 0)), (0, .ref b)]) hx hb dL_law_199 hl (k := 1) rfl (nI_1 k) (by decide) rfl (fun ls hl => ?_)
                      refine lv_goto (tgt := 176) hx hb dL_law_202 (by decide) ?_
                      refine W.widen (k := 212500 + t * 13000 + 9230 + f * 310 + 20 + (k + 1) * 3) (n := 908200 + t * 61400 + 38760 + f * 1860 + 120 + (k + 1) * 18) (by omega) (by omega) ?_
                      exact ih8 (k + 1) (by omega) ls H locs (lv_sub hl [0, 1, 2, 3, 4, 5, 6, 7, 8, 9, 10, 11, 12, 13, 14] rfl) hH hS
                have ql : ∀ r8 q : Nat, q + r8 = 8 → ∀ (ls : Array Slot) (H : Heap) (locs : List Loc), lv_has ls 16 [(13, .int (nI q)), (12, .int (sI (fun q => (nI (t_Q o (kR M o f)) >>> (nI q &&& 31)) &&& 1) q)), (11, .int (nI (kR M o f).length)), (10, .int (nI f)), (9, .int (nI f0)), (8, .int (nI (u_sum (a_k M) (fun e => (u_own o (a_k M) (a_Y M) e).length) f))), (7, .int (sI (clT M) f)), (6, .int (nI mo)), (5, .int (sI (afT M) f)), (4, .int x4), (3, .int (nI t)), (2, .ref si), (1, .ref (ad 0)), (0, .ref b)] → h_H D (lS9 s) C H → va_S (lS9 s) s.heap H locs → W p l e room_1 s m #[Value.ref b] below meth c H locs (212500 + t * 13000 + 9230 + f * 310 + 4 + q * 2) (908200 + t * 61400 + 38760 + f * 1860 + 24 + q * 12) (lw_Z below #[Value.ref b] s) (F0 m 140 ls []) := by
                  intro r8
                  induction r8 with
                  | zero =>
                    intro q hq8 ls H locs hl hH hS
                    obtain rfl : q = 8 := by omega
                    rw [pc_s hQ] at hl
                    refine lv_iload hx hb dL_law_140 (lv_at hl 0 rfl) ?_
                    refine lv_bipush (v := 8) hx hb dL_law_142 (by decide) ?_
                    refine lv_icmp_ge (tgt := 170) hx hb dL_law_144 (by decide) (fun c5 => ?_) (fun c5 => ?_)
                    · skip
                      refine lv_iconst (v := 0) hx hb dL_law_170 (by decide) ?_
                      refine lv_istore (lv' := [(13, .int 0), (12, .int (nI (pc_N (t_Q o (kR M o f))))), (11, .int (nI (kR M o f).length)), (10, .int (nI f)), (9, .int (nI f0)), (8, .int (nI (u_sum (a_k M) (fun e => (u_own o (a_k M) (a_Y M) e).length) f))), (7, .int (sI (clT M) f)), (6, .int (nI mo)), (5, .int (sI (afT M) f)), (4, .int x4), (3, .int (nI t)), (2, .ref si), (1, .ref (ad 0)), (0, .ref b)]) hx hb dL_law_171 hl (by decide) rfl (fun ls hl => ?_)
                      refine lv_iconst (v := 0) hx hb dL_law_173 (by decide) ?_
                      refine lv_istore (lv' := [(14, .int 0), (13, .int 0), (12, .int (nI (pc_N (t_Q o (kR M o f))))), (11, .int (nI (kR M o f).length)), (10, .int (nI f)), (9, .int (nI f0)), (8, .int (nI (u_sum (a_k M) (fun e => (u_own o (a_k M) (a_Y M) e).length) f))), (7, .int (sI (clT M) f)), (6, .int (nI mo)), (5, .int (sI (afT M) f)), (4, .int x4), (3, .int (nI t)), (2, .ref si), (1, .ref (ad 0)), (0, .ref b)]) hx hb dL_law_174 hl (by decide) rfl (fun ls hl => ?_)
                      refine W.widen (k := 212500 + t * 13000 + 9230 + f * 310 + 20 + 0 * 3) (n := 908200 + t * 61400 + 38760 + f * 1860 + 120 + 0 * 18) (by omega) (by omega) ?_
                      exact kl (kR M o f).length 0 (by omega) ls H locs (lv_sub hl [0, 1, 2, 3, 4, 5, 6, 7, 8, 9, 10, 11, 12, 13, 14] rfl) hH hS
                    · exact absurd (nI_le (Nat.le_refl 8) (by decide)) c5
                  | succ r8 ih8 =>
                    intro q hq8 ls H locs hl hH hS
                    refine lv_iload hx hb dL_law_140 (lv_at hl 0 rfl) ?_
                    refine lv_bipush (v := 8) hx hb dL_law_142 (by decide) ?_
                    refine lv_icmp_ge (tgt := 170) hx hb dL_law_144 (by decide) (fun c5 => ?_) (fun c5 => ?_)
                    · exact absurd c5 (nI_ge (b := 8) (by omega) (by decide))
                    · skip
                      refine lv_iload hx hb dL_law_147 (lv_at hl 1 rfl) ?_
                      refine lv_aload_n hx hb dL_law_149 rfl (lv_at hl 12 rfl) ?_
                      refine lv_iload hx hb dL_law_150 (lv_at hl 3 rfl) ?_
                      refine lv_iconst (v := 2) hx hb dL_law_152 (by decide) ?_
                      refine kx_same (vx_runV (As := [.int (nI f), .int (nI 2)]) (rest := [.int (sI (fun q => (nI (t_Q o (kR M o f)) >>> (nI q &&& 31)) &&& 1) q)]) ⟨hx, hb, hml, hown, hts⟩ (c_about l hst D I Z F ad sa hI M H.size n9 hrs (nI f) (nI 2)) (cwV 2 hts gL_law_X2_about rfl rfl rfl (by decide +kernel) ⟨Nat.le_of_ble_eq_true rfl, Nat.le_of_ble_eq_true rfl⟩) (k_preV hKc hNc hX hA hI hM1 hH hS) rfl rfl hl.1 rfl (lv_room (Nat.le_of_ble_eq_true rfl)) dL_law_153 ⟨show 212500 + t * 13000 + 9230 + f * 310 + 4 + q * 2 + 2 ≤ 600130 by omega, show 908200 + t * 61400 + 38760 + f * 1860 + 24 + q * 12 + 12 ≤ 7301080 by omega⟩) hI hM1 hH hS hA (ab_no hf12 hak (by decide)) (fun r u h => (by obtain ⟨_, _, _, _, _, _, _, _, h9, _⟩ := h; exact h9)) (fun r H locs hp hH hS => ?_)
                      rw [ab_eq hSS hf12 hak (by decide) hp]
                      rw [d2]
                      refine lv_iload hx hb dL_law_156 (lv_at hl 0 rfl) ?_
                      refine lv_ishr hx hb dL_law_158 ?_
                      refine lv_iconst (v := 1) hx hb dL_law_159 (by decide) ?_
                      refine lv_iand hx hb dL_law_160 ?_
                      refine lv_iadd hx hb dL_law_161 ?_
                      rw [sI_s (f := (fun q => (nI (t_Q o (kR M o f)) >>> (nI q &&& 31)) &&& 1)) (k := q) rfl]
                      refine lv_istore (lv' := [(12, .int (sI (fun q => (nI (t_Q o (kR M o f)) >>> (nI q &&& 31)) &&& 1) (q + 1))), (13, .int (nI q)), (11, .int (nI (kR M o f).length)), (10, .int (nI f)), (9, .int (nI f0)), (8, .int (nI (u_sum (a_k M) (fun e => (u_own o (a_k M) (a_Y M) e).length) f))), (7, .int (sI (clT M) f)), (6, .int (nI mo)), (5, .int (sI (afT M) f)), (4, .int x4), (3, .int (nI t)), (2, .ref si), (1, .ref (ad 0)), (0, .ref b)]) hx hb dL_law_162 hl (by decide) rfl (fun ls hl => ?_)
                      refine lv_iinc (v := nI (q + 1)) (lv' := [(13, .int (nI (q + 1))), (12, .int (sI (fun q => (nI (t_Q o (kR M o f)) >>> (nI q &&& 31)) &&& 1) (q + 1))), (11, .int (nI (kR M o f).length)), (10, .int (nI f)), (9, .int (nI f0)), (8, .int (nI (u_sum (a_k M) (fun e => (u_own o (a_k M) (a_Y M) e).length) f))), (7, .int (sI (clT M) f)), (6, .int (nI mo)), (5, .int (sI (afT M) f)), (4, .int x4), (3, .int (nI t)), (2, .ref si), (1, .ref (ad 0)), (0, .ref b)]) hx hb dL_law_164 hl (k := 1) rfl (nI_1 q) (by decide) rfl (fun ls hl => ?_)
                      refine lv_goto (tgt := 140) hx hb dL_law_167 (by decide) ?_
                      refine W.widen (k := 212500 + t * 13000 + 9230 + f * 310 + 4 + (q + 1) * 2) (n := 908200 + t * 61400 + 38760 + f * 1860 + 24 + (q + 1) * 12) (by omega) (by omega) ?_
                      exact ih8 (q + 1) (by omega) ls H locs (lv_sub hl [0, 1, 2, 3, 4, 5, 6, 7, 8, 9, 10, 11, 12, 13] rfl) hH hS
                refine W.widen (k := 212500 + t * 13000 + 9230 + f * 310 + 4 + 0 * 2) (n := 908200 + t * 61400 + 38760 + f * 1860 + 24 + 0 * 12) (by omega) (by omega) ?_
                exact ql 8 0 rfl ls H locs (lv_sub hl [0, 1, 2, 3, 4, 5, 6, 7, 8, 9, 10, 11, 12, 13] rfl) hH hS
              rcases hfi with ⟨hno, rfl⟩ | ⟨f0, hf0, ha0, rfl⟩
              · skip
                refine lv_iload hx hb dL_law_116 (lv_at hl 1 rfl) ?_
                refine lv_if_ge (tgt := 125) hx hb dL_law_118 (by decide) (fun c4 => ?_) (fun c4 => ?_)
                · exact absurd c4 (by decide)
                · skip
                  refine lv_iload hx hb dL_law_121 (lv_at hl 0 rfl) ?_
                  refine lv_istore (lv' := [(9, .int (nI f)), (10, .int (nI f)), (8, .int (nI (u_sum (a_k M) (fun e => (u_own o (a_k M) (a_Y M) e).length) f))), (7, .int (sI (clT M) f)), (6, .int (nI mo)), (5, .int (sI (afT M) f)), (4, .int x4), (3, .int (nI t)), (2, .ref si), (1, .ref (ad 0)), (0, .ref b)]) hx hb dL_law_123 hl (by decide) rfl (fun ls hl => ?_)
                  exact go125 f ls H locs hf12 hak (lv_sub hl [1, 0, 2, 3, 4, 5, 6, 7, 8, 9, 10] rfl) hH hS
              · skip
                refine lv_iload hx hb dL_law_116 (lv_at hl 1 rfl) ?_
                refine lv_if_ge (tgt := 125) hx hb dL_law_118 (by decide) (fun c4 => ?_) (fun c4 => ?_)
                · skip
                  exact go125 f0 ls H locs hf0 ha0 hl hH hS
                · exact absurd (Int32.not_lt.mp (nI_pos (by omega))) c4
            · exact absurd c3 (by decide)
          · exact absurd rfl c2
        · skip
          have hM0f : M (25 + 6 * f) 0 = 0 := Classical.not_not.mp hak
          rw [hM0f]
          refine h_aald hx hb hH hK.2.1.1 rfl hfd1 f hf12 (by decide) rfl dL_law_90 ?_
          rw [(hk.off hf12).mpr hak]
          refine lv_ifnullN (tgt := 98) hx hb dL_law_91 (by decide) ?_
          refine lv_iconst (v := 0) hx hb dL_law_98 (by decide) ?_
          refine lv_icmp_eq (tgt := 104) hx hb dL_law_99 (by decide) (fun c2 => ?_) (fun c2 => ?_)
          · skip
            refine lv_aload_n hx hb dL_law_104 rfl (lv_at hl 9 rfl) ?_
            refine lv_iload hx hb dL_law_105 (lv_at hl 0 rfl) ?_
            refine kx_same (vx_runV (As := [.int (nI f)]) (rest := []) ⟨hx, hb, hml, hown, hts⟩ (c_has l hst D I Z F ad sa hI M H.size hSS.2.2 (nI f)) (cwV 1 hts gL_law_X2_has rfl rfl rfl (by decide +kernel) ⟨Nat.le_of_ble_eq_true rfl, Nat.le_of_ble_eq_true rfl⟩) (k_preV hKc hNc hX hA hI hM1 hH hS) rfl rfl hl.1 rfl (lv_room (Nat.le_of_ble_eq_true rfl)) dL_law_107 ⟨show 212500 + t * 13000 + 9230 + f * 310 + 2 ≤ 600130 by omega, show 908200 + t * 61400 + 38760 + f * 1860 + 12 ≤ 7301080 by omega⟩) hI hM1 hH hS hA (fun E h => h.2 ⟨f, hf12, rfl⟩) (fun r u h => (by obtain ⟨_, _, _, h9, _⟩ := h; exact h9)) (fun r H locs hp hH hS => ?_)
            obtain ⟨f1, hf1, ef1, -, hr8⟩ := hp
            have ef2 : f1 = f := ((nI_eq (by omega) (by omega)).mp ef1).symm
            rw [hr8, ef2]
            clear ef1 ef2 hf1 hr8
            rw [hM0f]
            refine lv_if_ne (tgt := 116) hx hb dL_law_110 (by decide) (fun c3 => ?_) (fun c3 => ?_)
            · exact absurd rfl c3
            · skip
              refine lv_goto (tgt := 539) hx hb dL_law_113 (by decide) ?_
              refine lv_iinc (v := nI (f + 1)) (lv' := [(10, .int (nI (f + 1))), (9, .int fi), (8, .int (nI (u_sum (a_k M) (fun e => (u_own o (a_k M) (a_Y M) e).length) f))), (7, .int (sI (clT M) f)), (6, .int (nI mo)), (5, .int (sI (afT M) f)), (4, .int x4), (3, .int (nI t)), (2, .ref si), (1, .ref (ad 0)), (0, .ref b)]) hx hb dL_law_539 hl (k := 0) rfl (nI_1 f) (by decide) rfl (fun ls hl => ?_)
              refine lv_goto (tgt := 71) hx hb dL_law_542 (by decide) ?_
              refine W.widen (k := 212500 + t * 13000 + 9230 + (f + 1) * 310) (n := 908200 + t * 61400 + 38760 + (f + 1) * 1860) (by omega) (by omega) ?_
              have eaf : sI (afT M) (f + 1) = sI (afT M) f := by rw [sI]; unfold afT; rw [if_pos hM0f]; exact Int32.add_zero _
              have ecl : sI (clT M) (f + 1) = sI (clT M) f := by rw [sI]; unfold clT; rw [if_neg (fun h9 => h9.1 hM0f)]; exact Int32.add_zero _
              have eus : u_sum (a_k M) (fun e => (u_own o (a_k M) (a_Y M) e).length) (f + 1) = u_sum (a_k M) (fun e => (u_own o (a_k M) (a_Y M) e).length) f := by rw [u_sum, cIf_neg hak]; rfl
              refine ih (f + 1) (by omega) mo fi ls H locs hmo ?_ (by rw [eaf, ecl, eus]; exact (lv_sub hl [0, 1, 2, 3, 4, 5, 6, 7, 8, 9, 10] rfl)) hH hS
              refine hfi.imp (fun h9 => ⟨fun e9 he9 => ?_, h9.2⟩) id
              by_cases c9 : e9 = f
              · rw [c9]; exact hak
              · exact h9.1 e9 (by omega)
          · exact absurd rfl c2
  exact loop 12 0 rfl 0 (-1) ls H locs (Nat.zero_le _) (Or.inl ⟨fun _ h9 => absurd h9 (Nat.not_lt_zero _), rfl⟩) (lv_sub hl [0, 1, 2, 3, 4, 5, 6, 7, 8, 9, 10] rfl) hH hS
