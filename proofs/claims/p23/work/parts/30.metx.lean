/-! ===== methods of SharedForks that may throw ===== -/
abbrev xIO : String := "java/lang/IndexOutOfBoundsException"
abbrev xIS : String := "java/lang/IllegalStateException"
abbrev xIA : String := "java/lang/IllegalArgumentException"
abbrev xNs : List String := ["java/lang/RuntimeException", "java/lang/Exception"]
def cXw : List Cond := [.declares (Bundle.initS "java/lang/RuntimeException"), .declares (Bundle.initS "java/lang/Exception"), .declares (Bundle.initS Bundle.tN), .castable xIO xIO, .castable xIS xIS, .castable xIA xIA]
theorem cXw_warm {s U : State} (hW : s.WarmedH U.vm) (h : ∀ w ∈ cXw, va_Nw w s) : ∀ w ∈ cXw, va_Nw w U := by
  intro w hw
  have h1 := h w hw
  simp only [cXw, List.mem_cons, List.not_mem_nil, or_false] at hw
  rcases hw with rfl | rfl | rfl | rfl | rfl | rfl <;> first | exact va_Nw.warmD hW h1 | exact va_Nw.warmC hW h1
theorem cXw_same {u U : State} (hvm : u.vm = U.vm) (h : ∀ w ∈ cXw, va_Nw w u) : ∀ w ∈ cXw, va_Nw w U := by
  intro w hw
  have h1 := h w hw
  simp only [cXw, List.mem_cons, List.not_mem_nil, or_false] at hw
  rcases hw with rfl | rfl | rfl | rfl | rfl | rfl <;> exact va_Nw.same rfl hvm h1
/-- what a throw needs: words, texts, Throwable's two statics -/
def xE (sa : Nat → Nat) (A : Nat → Prop) (U : State) (H : Heap) : Prop :=
  (∀ w ∈ cXw, va_Nw w U) ∧ vk_R RX2 134 "there is no such number" (sa 0) U ∧ vk_R RX2 137 "there is no such fold" (sa 1) U ∧ vk_R RX2 141 "there are 12 folds" (sa 2) U ∧ vk_R RX2 88 "answers are 0 to 255" (sa 3) U ∧ vx_Zq Bundle.tN "UNASSIGNED_STACK" Bundle.steD A U H ∧ vx_Zq Bundle.tN "SUPPRESSED_SENTINEL" Bundle.listD A U H
def cUX (D : va_G) (I Z F : ClassId) (ad : Nat → Nat) (sa : Nat → Nat) (sz : Nat) (M : Nat → Nat → Int32) (U : State) : Prop := cU D I Z F ad sz M U ∧ xE sa (cA ad sz) U U.heap
section CMETX
variable {p : Program} {l : Launch} {e : Env} {R : Room} {s : State} {m : MethodId} {args : Array Value} {below : List Frame} {meth : Method} {c : Code} {H H0 : Heap} {locs : List Loc} {cells slots : Nat} {Q : State → Prop} {pc : Nat} {ls : Array Slot} {rest st0 : List Value} {A : Nat → Prop} {a : Array Value}
variable {D : va_G} {I Z F : ClassId} {ad : Nat → Nat} {sa : Nat → Nat} {M : Nat → Nat → Int32} {sz : Nat} {y : MethodName} {ws ws' : List Cond} {rm : Room} {cc : ByteArray} {maxL : Nat} {av : List Value}
theorem xE.at (h : xE sa A s s.heap) (hA : ∀ q : Nat, s.heap.size ≤ q → A q) (hDa : cD ad A) (hW : cB9 D I Z F ad A s.heap M H locs) : ∀ U : State, U.heap = H → s.WarmedH U.vm → xE sa (cA ad H.size) U U.heap := by
  intro U hU hW1
  obtain ⟨h1, h2, h3, h4, h5, h6, h7⟩ := h
  have hk : ∀ q : Nat, q < s.heap.size → ¬ A q → H[q]? = s.heap[q]? := hW.2.2.1
  have hs := hW.2.sub hA hDa
  rw [hU]
  exact ⟨cXw_warm hW1 h1, vk_R.warm hW1 h2, vk_R.warm hW1 h3, vk_R.warm hW1 h4, vk_R.warm hW1 h5, vx_Zq.moved hW1.alike ((h6.kept hk).narrow hs), vx_Zq.moved hW1.alike ((h7.kept hk).narrow hs)⟩
theorem cUX_blind : FrameBlind (va_Pc av (cUX D I Z F ad sa sz M)) := by
  rintro a U g mk ⟨h0, hU, h1, h2, h3, h4, h5, h6, h7⟩
  have hb := cU_blind (av := av) (sz := sz) a U g mk ⟨h0, hU⟩
  exact ⟨h0, hb.2, cXw_same (u := U) (U := U.calling g mk a) rfl h1, vk_R.same (u := U) (U := U.calling g mk a) rfl h2, vk_R.same (u := U) (U := U.calling g mk a) rfl h3, vk_R.same (u := U) (U := U.calling g mk a) rfl h4, vk_R.same (u := U) (U := U.calling g mk a) rfl h5, vx_Zq.moved (u := U) (U := U.calling g mk a) (Vm.Alike.refl U.vm) h6, vx_Zq.moved (u := U) (U := U.calling g mk a) (Vm.Alike.refl U.vm) h7⟩
theorem cUX_mk (hK : va_K D vwCl (cT I Z F) s) (hN : cN s) (hX : xE sa A s s.heap) (hA : ∀ q : Nat, s.heap.size ≤ q → A q) (hDa : cD ad A) (hW : cB9 D I Z F ad A s.heap M H locs) : ∀ U : State, U.heap = H → s.WarmedH U.vm → va_Pc av (cUX D I Z F ad sa H.size M) av.toArray U :=
  fun U hU hW1 => ⟨rfl, ((cU_mk (av := av) hK hN hW) U hU hW1).2, hX.at hA hDa hW U hU hW1⟩
theorem cx_preV {av : List Value} (hK : va_K D vwCl (cT I Z F) s) (hN : cN s) (hX : xE sa A s s.heap) (hA : ∀ q : Nat, s.heap.size ≤ q → A q) (hDa : cD ad A) (hW : cB9 D I Z F ad A s.heap M H locs) (i : Nat) (hi : i < 97) {ci : Nat} {fs : List Value} {C : String} {T : u_T} {N : Nat} (he : cE I Z F ad M i = .inr (ci, fs)) (hc : vwCl[ci]? = some (C, T, N)) : PreV s H C (ad i) (va_Pc (.ref (ad i) :: av) (cUX D I Z F ad sa H.size M)) av :=
  ⟨cUX_blind, cr_recv hK hW i hi he hc, cUX_mk hK hN hX hA hDa hW⟩
theorem cx_preS {av : List Value} (hK : va_K D vwCl (cT I Z F) s) (hN : cN s) (hX : xE sa A s s.heap) (hA : ∀ q : Nat, s.heap.size ≤ q → A q) (hDa : cD ad A) (hW : cB9 D I Z F ad A s.heap M H locs) : PreS s H (va_Pc av (cUX D I Z F ad sa H.size M)) av := ⟨cUX_blind, cUX_mk hK hN hX hA hDa hW⟩
/-- what is said where a method has thrown E: the cells are as they were -/
abbrev xQ (D : va_G) (I Z F : ClassId) (ad : Nat → Nat) (M : Nat → Nat → Int32) (sz : Nat) (XP : String → Prop) : String → State → State → Prop := vx_X (fun _ : Unit => True) (fun E _ t => XP E ∧ cP D I Z F ad M t.heap) (cA ad sz)
theorem xQ_here {XP : String → Prop} {E : String} (hsz : s.heap.size = sz) (hA9 : A = cA ad sz) (hW : cB9 D I Z F ad A s.heap M H locs) (hXP : XP E) : ∀ t : State, H.size ≤ t.heap.size → (∀ q : Nat, q < H.size → t.heap[q]? = H[q]?) → xQ D I Z F ad M sz XP E s t := by
  intro t h1 h2
  subst hA9
  refine ⟨(), trivial, ⟨hXP, hW.1.kept (fun k q hq => h2 q.1 (hW.1 k q hq).lt)⟩, Nat.le_trans hW.2.1 h1, fun q hq hn => ?_⟩
  rw [h2 q (Nat.lt_of_lt_of_le hq hW.2.1)]
  exact hW.2.2.1 q hq hn
/-- the ends of a method that may throw: a handler for 'throw new X(text)', one for what a callee threw -/
def xThr (D : va_G) (I Z F : ClassId) (ad : Nat → Nat) (sa : Nat → Nat) (M : Nat → Nat → Int32) (XP : String → Prop) (ws : List Cond) (C : String) (cc : ByteArray) (mc ms : Nat) (p : Program) (l : Launch) (e : Env) (rm : Room) (s : State) (m : MethodId) (args : Array Value) (below : List Frame) (meth : Method) (c : Code) (Q : State → Prop) (A : Nat → Prop) (nL : Nat) : Prop :=
  ∀ (pc : Nat) (ls : Array Slot) (H : Heap) (locs : List Loc) (cells slots : Nat) (cls text : String) (ik is ic a0 : Nat), XP cls → cB9 D I Z F ad A s.heap M H locs → ls.size = nL → cells + 1 ≤ mc → slots + 6 ≤ ms → Bundle.fit cls = true → Cond.classLink C ik cls ∈ ws → Cond.initialized cls ∈ ws → vk_R C is text a0 s → (∀ w ∈ (vx_atS C ic cls xNs).filter goodWord, w ∈ ws) → (∀ w ∈ (vx_atS C ic cls xNs).filter (fun w => !goodWord w), w ∈ cXw) → (∀ w ∈ Cond.classLink C ik cls :: Cond.initialized cls :: vx_atS C ic cls xNs, vx_ot w = true) →
    decode cc pc = .ok (.new ik, 3) → decode cc (pc + 3) = .ok (.dup, 1) → decode cc (pc + 4) = .ok (.ldc is, 2) → decode cc (pc + 6) = .ok (.invokespecial ic, 3) → decode cc (pc + 9) = .ok (.athrow, 1) → W p l e rm s m args below meth c H locs cells slots Q (F0 m pc ls [])
def xPrp (D : va_G) (I Z F : ClassId) (ad : Nat → Nat) (M : Nat → Nat → Int32) (XP : String → Prop) (mc ms : Nat) (p : Program) (l : Launch) (e : Env) (rm : Room) (s : State) (m : MethodId) (args : Array Value) (below : List Frame) (meth : Method) (c : Code) (Q : State → Prop) (A : Nat → Prop) : Prop :=
  ∀ (pc : Nat) (ls : Array Slot) (rest : List Value) (H : Heap) (locs : List Loc) (cells slots : Nat) (E : String) (ce : Cell) (q : Addr), XP E → cB9 D I Z F ad A s.heap M H locs → cells ≤ mc → slots ≤ ms → H[q]? = some ce → ce.vm = .none → s.vm.findClass E = some ce.cls → vx_W p l e rm s m args below meth c H locs cells slots Q (F0 m pc ls rest) q
theorem cMetX_body {Qc : Array Value → State → Outcome → State → Prop} {XP : String → Prop} {ret : Option FieldType} {mc ms : Nat} (hst : l.stackTraces = false) (hI : cI ad) (hy : plainName y.cls = true) (hw : ws = Cond.code y cc maxL ret :: ws') (hrm : rm.cells = mc ∧ rm.slots = ms ∧ 6 ≤ rm.frames ∧ 82 ≤ rm.locals) (C : String) (hC : y.cls = C) (hle : (lg_sl av).length ≤ maxL) {lv : List (Nat × Value)} (hlv : lv_args 0 av = lv)
    (body : ∀ (p : Program) (e : Env) (s : State) (m : MethodId) (args : Array Value) (below : List Frame) (meth : Method) (c : Code) (Q : State → Prop) (A : Nat → Prop) (ls : Array Slot), s.heap.size = sz → A = cA ad sz → meth.sig.returnType = ret → Q = vx_MQ below Qc (xQ D I Z F ad M sz XP) args s mc ms (cA ad sz) → cX p s m meth c args av D I Z F ad A ws C cc maxL → xE sa A s s.heap → cB9 D I Z F ad A s.heap M s.heap [] → lv_has ls maxL lv →
      xThr D I Z F ad sa M XP ws C cc mc ms p l e rm s m args below meth c Q A maxL → xPrp D I Z F ad M XP mc ms p l e rm s m args below meth c Q A →
      W p l e rm s m args below meth c s.heap [] 0 0 Q (F0 m 0 ls [])) :
    vx_Met l y ws rm (va_Pc av (cUX D I Z F ad sa sz M)) Qc (xQ D I Z F ad M sz XP) mc ms (cA ad sz) := by
  refine vx_ofW (cc := cc) (maxL := maxL) (ret := ret) hy hw ?_
  intro p e s m args below meth c s₁ B hml hno hv
  obtain ⟨hargs, ⟨hsz, hP, hK, hN⟩, hX⟩ := hv
  have hown : s.vm.findClass C = some m.cls := by rw [← hC]; exact findClass_of_methodNamed B.named
  have hl := lv_entry av (n := maxL) hle
  rw [hlv] at hl
  have he : entryFrame m args maxL = F0 m 0 ((lg_sl av ++ List.replicate (maxL - (lg_sl av).length) Slot.unset).toArray) [] := by rw [hargs]; exact lg_entry_eq m av maxL
  rw [he]
  have hts := atoms_spec (ws := ws) B.pre
  have hA0 : ∀ q : Nat, s.heap.size ≤ q → cA ad sz q := fun q h => Or.inr (by rw [← hsz]; exact h)
  have hout : ∀ pc : Nat, ∀ x ∈ c.exceptionTable.toList, covers x pc = false := fun pc x hx => (hno x hx).elim
  refine body p e s m args below meth c _ (cA ad sz) _ hsz rfl B.returns rfl ⟨B.exec, B.bytes, hml, hts, hown, B.notSynchronized, hK, hN, hI.d sz, hA0, hargs⟩ hX ⟨hP, va_S.rf⟩ hl ?_ ?_
  · intro pc ls H locs cells slots cls text ik is ic a0 hXP hW hlsz hc1 hs1 hfit hk hini hstr hg hb hgood d0 d3 d4 d6 d9
    obtain ⟨h1, h2, h3, h4, h5, h6, h7⟩ := hX
    refine vx_throwS (names := xNs) (A := cA ad sz) B.exec B.bytes hst hown hfit (by decide +kernel) (hts _ hk) (hts _ hini) hstr (vx_hat (fun w hw => hts w (hg w hw)) hb (fun w hw => va_Nw.use ?_ (h1 w hw))) hgood h6 h7 hW.2 (hlsz.trans hml.symm) d0 d3 d4 d6 d9 (hout _) (show xNs.length + 3 < rm.frames from hrm.2.2.1) (show 0 + (13 * (xNs.length + 1) + 43) ≤ rm.locals from hrm.2.2.2) (by show cells + 1 ≤ rm.cells; rw [hrm.1]; exact hc1) (by show slots + 6 ≤ rm.slots; rw [hrm.2.1]; exact hs1) B.notSynchronized (fun t _ h8 h9 => xQ_here hsz rfl hW hXP t h8 h9) hW.2.2.2 hc1 hs1
    simp only [cXw, List.mem_cons, List.not_mem_nil, or_false] at hw
    rcases hw with rfl | rfl | rfl | rfl | rfl | rfl <;> rfl
  · intro pc ls rest H locs cells slots E ce q hXP hW hc1 hs1 hq hv hcl
    exact vx_out (hout _) B.notSynchronized hq hv hcl (fun t ht _ => xQ_here hsz rfl hW hXP t (by rw [ht]; exact Nat.le_refl _) (fun q _ => by rw [ht])) hW.2.2.2 hc1 hs1
end CMETX
