/-! ===== what a throw needs, at the law's entry ===== -/
def lS9 (s : State) : Nat → Prop := fun q => s.heap.size ≤ q
theorem law_str {args : Array Value} {s : State} {own C : String} {k : Nat} (h : (Cond.exactly (.string own k) C).before args s = true) : ∃ a : Nat, (Term.string own k).eval args s none [] s = some (.ref a) := by
  obtain ⟨a, c, cell, kk, he, -⟩ := Cond.exactly_spec h
  exact ⟨a, he⟩
set_option maxHeartbeats 4000000 in
set_option maxRecDepth 100000 in
/-- what a throw needs, at the law's entry -/
theorem law_xE {p : Program} {s : State} {m : MethodId} {meth : Method} {c : Code} {b L : Nat} {xs : Nat → Int32} (C0 : lw_At p s m meth c b L xs) : ∃ sa : Nat → Nat, xE sa (lS9 s) s s.heap := by
  obtain ⟨hx, hb, hr, hml, hown, hts, hX, hbl, hlocks, hgv⟩ := C0
  have hs := flat_of_before _ hgv
  obtain ⟨a0, h0⟩ := law_str (hs (.exactly (.string "SharedForks" 134) "java/lang/String") (by decide +kernel))
  obtain ⟨a1, h1⟩ := law_str (hs (.exactly (.string "SharedForks" 137) "java/lang/String") (by decide +kernel))
  obtain ⟨a2, h2⟩ := law_str (hs (.exactly (.string "SharedForks" 141) "java/lang/String") (by decide +kernel))
  obtain ⟨a3, h3⟩ := law_str (hs (.exactly (.string "SharedForks" 88) "java/lang/String") (by decide +kernel))
  have hA : ∀ a : Nat, a < s.heap.size → ¬ lS9 s a := fun a h h2 => Nat.not_le.mpr h h2
  have hw9 : ∀ w ∈ cXw, w ∈ lw_tbl := by decide +kernel
  refine ⟨fun i => match i with | 0 => a0 | 1 => a1 | 2 => a2 | _ => a3, fun w hw => ?_, vk_R.of (hts (.stringRef RX2 134 "there is no such number") (by decide +kernel)) h0, vk_R.of (hts (.stringRef RX2 137 "there is no such fold") (by decide +kernel)) h1, vk_R.of (hts (.stringRef RX2 141 "there are 12 folds") (by decide +kernel)) h2, vk_R.of (hts (.stringRef RX2 88 "answers are 0 to 255") (by decide +kernel)) h3, vx_Zqof (hts (.laysStatic Bundle.tN "UNASSIGNED_STACK" Bundle.steD) (by decide +kernel)) (hts (.initialized Bundle.tN) (by decide +kernel)) (hs (.isRef (.static Bundle.tN "UNASSIGNED_STACK" Bundle.steD)) (by decide +kernel)) hA, vx_Zqof (hts (.laysStatic Bundle.tN "SUPPRESSED_SENTINEL" Bundle.listD) (by decide +kernel)) (hts (.initialized Bundle.tN) (by decide +kernel)) (hs (.isRef (.static Bundle.tN "SUPPRESSED_SENTINEL" Bundle.listD)) (by decide +kernel)) hA⟩
  have h1 := hts w (hw9 w hw)
  simp only [cXw, List.mem_cons, List.not_mem_nil, or_false] at hw
  rcases hw with rfl | rfl | rfl | rfl | rfl | rfl <;> exact va_Nw.of rfl h1
