/-! ===== the law's one turn: what stands at its beginning ===== -/
/-- the cells of the class, of the reference and the row for answers are apart and new -/
def lD (ad am : Nat → Nat) (o : Nat) (s : State) : Prop := (∀ k : Nat, k < 97 → s.heap.size ≤ ad k) ∧ s.heap.size ≤ o ∧ (∀ k : Nat, k < 97 → o ≠ ad k) ∧ ∀ j : Nat, j < 13 → s.heap.size ≤ am j ∧ am j ≠ o ∧ ∀ k : Nat, k < 97 → am j ≠ ad k
def lS9 (s : State) : Nat → Prop := fun q => s.heap.size ≤ q
def lK (D : va_G) (I Z F J : ClassId) (s : State) : Prop := va_K D vwCl [(I, .int), (Z, .boolean), (F, .object "SharedForks$Fold"), (J, .long)] s
/-- the heap at the beginning -/
def lH (D : va_G) (I Z F J : ClassId) (ad am : Nat → Nat) (o : Nat) (g : Nat → Int64) (s : State) (H : Heap) (locs : List Loc) : Prop := va_S (lS9 s) s.heap H locs ∧ cP D I Z F ad (M0k 8) H ∧ mP D I Z J am M3k L3k H ∧ va_P D vwCl (oW J o g) H
theorem lH.o {D : va_G} {I Z F J : ClassId} {ad am : Nat → Nat} {o : Nat} {g : Nat → Int64} {s : State} {H : Heap} {locs : List Loc} (h : lH D I Z F J ad am o g s H locs) : o < H.size := (h.2.2.2 0 _ rfl).lt
theorem lU_mk {D : va_G} {I Z F J : ClassId} {ad am sa : Nat → Nat} {o : Nat} {g : Nat → Int64} {s : State} {H : Heap} {locs : List Loc} {av : List Value} (hK : lK D I Z F J s) (hN : cN s) (hX : xE sa (lS9 s) s s.heap) (hd : lD ad am o s) (h : lH D I Z F J ad am o g s H locs) : PreS s H (va_Pc av (lU D I Z F J ad sa o H.size (M0k 8) g)) av := by
  obtain ⟨hS, hc, -, ho⟩ := h
  refine ⟨lU_blind, fun U hU hW1 => ⟨rfl, ⟨by rw [hU], by rw [hU]; exact hc, va_K.moved hW1.alike (hK.sub (tys' := cT I Z F) [0, 1, 2] rfl), hN.warm hW1⟩, hX.to (H := H) hS.2.1 (fun q hq => ?_) U hU hW1, by rw [hU]; exact ho, va_K.moved hW1.alike (hK.sub (tys' := [(J, .long)]) [3] rfl)⟩⟩
  rcases hq with (⟨k, hk, rfl⟩ | h2) | rfl
  · exact hd.1 k hk
  · exact Nat.le_trans hS.1 h2
  · exact hd.2.1
theorem lA_in {ad am : Nat → Nat} {o : Nat} {s : State} {H : Heap} (hd : lD ad am o s) (hz : s.heap.size ≤ H.size) : ∀ q, lA ad o H.size q → lS9 s q := by
  rintro q ((⟨k, hk, rfl⟩ | h2) | rfl)
  · exact hd.1 k hk
  · exact Nat.le_trans hz h2
  · exact hd.2.1
/-- the reference's cells stay where a method of the law's has been -/
theorem lA_m {D : va_G} {I Z J : ClassId} {ad am : Nat → Nat} {o : Nat} {s : State} {H H1 : Heap} (hd : lD ad am o s) (hm : mP D I Z J am M3k L3k H) (hk : ∀ q : Nat, q < H.size → ¬ lA ad o H.size q → H1[q]? = H[q]?) : mP D I Z J am M3k L3k H1 := by
  refine va_P.keep hm (fun k q hq hlt => hk q.1 hlt ?_)
  obtain ⟨hk13, rfl⟩ := cWn_of hq
  obtain ⟨-, h2, h3⟩ := hd.2.2.2 k hk13
  rintro ((⟨j, hj, e⟩ | h4) | e)
  · exact h3 j hj e
  · exact Nat.not_le.mpr hlt h4
  · exact h2 e
theorem cA_m {D : va_G} {I Z J : ClassId} {ad am : Nat → Nat} {o : Nat} {s : State} {H H1 : Heap} (hd : lD ad am o s) (hm : mP D I Z J am M3k L3k H) (hk : ∀ q : Nat, q < H.size → ¬ cA ad H.size q → H1[q]? = H[q]?) : mP D I Z J am M3k L3k H1 := lA_m hd hm (fun q h1 h2 => hk q h1 (fun h => h2 (Or.inl h)))
/-- the answer's row stays where a method of the reference has been -/
theorem mA_o {D : va_G} {J : ClassId} {ad am : Nat → Nat} {o : Nat} {g : Nat → Int64} {s : State} {H H1 : Heap} (hd : lD ad am o s) (ho : va_P D vwCl (oW J o g) H) (hk : ∀ q : Nat, q < H.size → ¬ mA am H.size q → H1[q]? = H[q]?) : va_P D vwCl (oW J o g) H1 := by
  refine va_P.keep ho (fun k q hq hlt => hk q.1 hlt ?_)
  rw [oW_of hq] at hlt ⊢
  rintro (⟨j, hj, e⟩ | h4)
  · exact (hd.2.2.2 j hj).2.1 e.symm
  · exact Nat.not_le.mpr hlt h4
theorem lD.m {ad am : Nat → Nat} {o : Nat} {s : State} (hd : lD ad am o s) (hmI : mI am) : mD am (lS9 s) := ⟨hmI, fun j hj => (hd.2.2.2 j hj).1⟩
theorem lD.c {ad am : Nat → Nat} {o : Nat} {s : State} (hd : lD ad am o s) (hI : cI ad) : cD ad (lS9 s) := ⟨hI, fun j hj => hd.1 j hj⟩
theorem M3_z : ∀ j : Nat, j < 12 → M3k 1 j = 0 := fun _ _ => rfl
theorem M3_n : ∀ k : Nat, k < 8 → M3k 3 k = nI k := fun _ hk => M3_o hk
section LCALLS
variable {p : Program} {l : Launch} {e : Env} {R : Room} {s : State} {m : MethodId} {args : Array Value} {below : List Frame} {meth : Method} {c : Code} {cc : ByteArray} {H H0 : Heap} {locs : List Loc} {cells slots : Nat} {Q : State → Prop} {pc : Nat} {ls : Array Slot} {rest st0 : List Value} {D : va_G} {A : Nat → Prop} {I Z J : ClassId} {ad : Nat → Nat} {M : Nat → Nat → Int32} {L : Nat → Nat → Int64} {a : Array Value}
/-- as mr_calli, and what the call has left as it was -/
theorem mr_callik {post : Int32 → mU8 → Prop} (hr : va_Run p l e R s m args below meth c H locs cells slots 0 0 (F0 m pc ls st0) rest (va_Qi post (fun (u : mU8) t => mP D I Z J ad u.1 u.2 t.heap) (mA ad H.size) a) (mA ad H.size)) (hA : ∀ q : Nat, H0.size ≤ q → A q) (hDa : mD ad A) (hW : mB9 D I Z J ad A H0 M L H locs)
    (kk : ∀ (r : Int32) (u : mU8) (H1 : Heap) (locs1 : List Loc), post r u → mB9 D I Z J ad A H0 u.1 u.2 H1 locs1 → (∀ q : Nat, q < H.size → ¬ mA ad H.size q → H1[q]? = H[q]?) → W p l e R s m args below meth c H1 locs1 cells slots Q (F0 m (pc + 3) ls (.int r :: rest))) : W p l e R s m args below meth c H locs cells slots Q (F0 m pc ls st0) :=
  va_calli hr hW.2 (fun q _ h => hW.2.subm hA hDa q h) (hW.2.subm hA hDa) (fun r u t H1 locs1 ht _ hp hB _ hk hS => kk r u H1 locs1 hp ⟨by rw [← ht]; exact hB, hS⟩ hk)
end LCALLS
theorem law_str {args : Array Value} {s : State} {own C : String} {k : Nat} (h : (Cond.exactly (.string own k) C).before args s = true) : ∃ a : Nat, (Term.string own k).eval args s none [] s = some (.ref a) := by
  obtain ⟨a, c, cell, kk, he, -⟩ := Cond.exactly_spec h
  exact ⟨a, he⟩
set_option maxHeartbeats 4000000 in
set_option maxRecDepth 100000 in
/-- what a throw needs, at the law's entry -/
theorem law_xE {p : Program} {s : State} {m : MethodId} {meth : Method} {c : Code} {b L : Nat} {xs : Nat → Int32} (C0 : lw_At p s m meth c b L xs) : ∃ sa : Nat → Nat, xE sa (lS9 s) s s.heap := by
  obtain ⟨hx, hb, hr, hml, hown, hts, hX, hbl, hlocks, hgv⟩ := C0
  have hs := flat_of_before _ hgv
  obtain ⟨a0, h0⟩ := law_str (hs (.exactly (.string "SharedForks" 134) "java/lang/String") (by decide +kernel))
  obtain ⟨a1, h1⟩ := law_str (hs (.exactly (.string "SharedForks" 137) "java/lang/String") (by decide +kernel))
  obtain ⟨a2, h2⟩ := law_str (hs (.exactly (.string "SharedForks" 141) "java/lang/String") (by decide +kernel))
  obtain ⟨a3, h3⟩ := law_str (hs (.exactly (.string "SharedForks" 88) "java/lang/String") (by decide +kernel))
  have hA : ∀ a : Nat, a < s.heap.size → ¬ lS9 s a := fun a h h2 => Nat.not_le.mpr h h2
  have hw9 : ∀ w ∈ cXw, w ∈ lw_tbl := by decide +kernel
  refine ⟨fun i => match i with | 0 => a0 | 1 => a1 | 2 => a2 | _ => a3, fun w hw => ?_, vk_R.of (hts (.stringRef RX2 134 "there is no such number") (by decide +kernel)) h0, vk_R.of (hts (.stringRef RX2 137 "there is no such fold") (by decide +kernel)) h1, vk_R.of (hts (.stringRef RX2 141 "there are 12 folds") (by decide +kernel)) h2, vk_R.of (hts (.stringRef RX2 88 "answers are 0 to 255") (by decide +kernel)) h3, vx_Zqof (hts (.laysStatic Bundle.tN "UNASSIGNED_STACK" Bundle.steD) (by decide +kernel)) (hts (.initialized Bundle.tN) (by decide +kernel)) (hs (.isRef (.static Bundle.tN "UNASSIGNED_STACK" Bundle.steD)) (by decide +kernel)) hA, vx_Zqof (hts (.laysStatic Bundle.tN "SUPPRESSED_SENTINEL" Bundle.listD) (by decide +kernel)) (hts (.initialized Bundle.tN) (by decide +kernel)) (hs (.isRef (.static Bundle.tN "SUPPRESSED_SENTINEL" Bundle.listD)) (by decide +kernel)) hA⟩
  have h1 := hts w (hw9 w hw)
  simp only [cXw, List.mem_cons, List.not_mem_nil, or_false] at hw
  rcases hw with rfl | rfl | rfl | rfl | rfl | rfl <;> exact va_Nw.of rfl h1
