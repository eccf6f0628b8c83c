section HMET
variable {l : Launch} {D : va_G} {cs : Nat → ClassId} {C : hC} {sz : Nat} {y : MethodName} {ws ws' : List Cond} {rm : Room} {cc : ByteArray} {maxL : Nat} {av : List Value} {mc ms : Nat}
/-- the start of a method of the law's own -/
def hU (D : va_G) (cs : Nat → ClassId) (C : hC) (sz : Nat) (U : State) : Prop := U.heap.size = sz ∧ h_H D (fun _ => True) C U.heap ∧ h_K D cs U ∧ h_N U
theorem hU_blind : FrameBlind (va_Pc av (hU D cs C sz)) := by
  rintro a U g mk ⟨h1, h2, h3, h4, h5⟩
  exact ⟨h1, h2, h3, h_K.moved (u := U) (U := U.calling g mk a) (Vm.Alike.refl U.vm) h4, h_N.same (u := U) (U := U.calling g mk a) rfl h5⟩
theorem hU_mk {s : State} {H : Heap} {A : Nat → Prop} (hK : h_K D cs s) (hN : h_N s) (hH : h_H D A C H) : ∀ U : State, U.heap = H → s.WarmedH U.vm → va_Pc av (hU D cs C H.size) av.toArray U :=
  fun U hU hW1 => ⟨rfl, by rw [hU], by rw [hU]; exact hH.mono (fun _ _ => trivial), hK.moved hW1.alike, hN.warm hW1⟩
theorem h_preS {s : State} {H : Heap} {A : Nat → Prop} (hK : h_K D cs s) (hN : h_N s) (hH : h_H D A C H) : PreS s H (va_Pc av (hU D cs C H.size)) av := ⟨hU_blind, hU_mk hK hN hH⟩
theorem h_preV {s : State} {H : Heap} {A : Nat → Prop} {a ci : Nat} {fs : List Value} {C0 : String} {T : u_T} {N : Nat} (hK : h_K D cs s) (hN : h_N s) (hH : h_H D A C H) (ha : C a = some (.inr (ci, fs))) (hc : vwCl[ci]? = some (C0, T, N)) : PreV s H C0 a (va_Pc (.ref a :: av) (hU D cs C H.size)) av := by
  obtain ⟨w, k, hP, -, -, hk⟩ := hH.at ha
  exact ⟨hU_blind, va_recv hK.1 hP hc hk, hU_mk hK hN hH⟩
theorem h_A.sub {H H0 : Heap} {A : Nat → Prop} {locs : List Loc} (hH : h_H D A C H) (hS : va_S A H0 H locs) (hA : ∀ q, H0.size ≤ q → A q) : ∀ q, h_A C H.size q → A q := by
  rintro q (h | h)
  · cases hq : C q with
    | none => exact absurd hq h
    | some x => exact (hH.lt hq).2
  · exact hA q (Nat.le_trans hS.1 h)
theorem h_H.widen {A A' : Nat → Prop} {u : hC} {H : Heap} (hB : h_H D A' u H) (hs : ∀ q, A' q → A q) : h_H D A u H := hB.mono (fun b hb => by
  cases hq : u b with
  | none => exact absurd hq hb
  | some x => exact hs b (hB.lt hq).2)
/-- what stands at such a method's entry and stays -/
def hX (p : Program) (s : State) (m : MethodId) (meth : Method) (c : Code) (args : Array Value) (av : List Value) (D : va_G) (cs : Nat → ClassId) (A : Nat → Prop) (ws : List Cond) (Cn : String) (cc : ByteArray) (maxL : Nat) : Prop :=
  p.tables.exec = Jvm.exec ∧ c.code = cc ∧ c.maxLocals = maxL ∧ (∀ w ∈ ws, w.before args s = true) ∧ s.vm.findClass Cn = some m.cls ∧ meth.locks = false ∧ h_K D cs s ∧ h_N s ∧ (∀ q : Nat, s.heap.size ≤ q → A q) ∧ args = av.toArray
set_option maxHeartbeats 1000000 in
theorem hMet_i {post : Int32 → hC → Prop} (hy : plainName y.cls = true) (hw : ws = Cond.code y cc maxL (some .int) :: ws') (Cn : String) (hcn : y.cls = Cn) (hle : (lg_sl av).length ≤ maxL) {lv : List (Nat × Value)} (hlv : lv_args 0 av = lv)
    (body : ∀ (p : Program) (e : Env) (s : State) (m : MethodId) (args : Array Value) (below : List Frame) (meth : Method) (c : Code) (Q : State → Prop) (A : Nat → Prop) (ls : Array Slot), s.heap.size = sz → hX p s m meth c args av D cs A ws Cn cc maxL → h_H D A C s.heap → va_S A s.heap s.heap [] → lv_has ls maxL lv →
      (∀ (pc : Nat) (ls : Array Slot) (H : Heap) (locs : List Loc) (cells slots : Nat) (r : Int32) (u : hC), decode cc pc = .ok (.ireturn, 1) → cells ≤ mc → slots ≤ ms → post r u → h_H D A u H → va_S A s.heap H locs → W p l e rm s m args below meth c H locs cells slots Q (F0 m pc ls [.int r])) →
      W p l e rm s m args below meth c s.heap [] 0 0 Q (F0 m 0 ls [])) :
    Met l y ws rm (va_Pc av (hU D cs C sz)) (va_Qi post (fun u t => h_H D (h_A C sz) u t.heap) (h_A C sz)) mc ms (h_A C sz) := by
  refine Met.ofW (cc := cc) (maxL := maxL) (ret := (some .int)) hy hw ?_
  intro p e s m args below meth c s₁ B hml hv
  obtain ⟨hargs, hsz, hH, hK, hN⟩ := hv
  have hown : s.vm.findClass Cn = some m.cls := by rw [← hcn]; exact findClass_of_methodNamed B.named
  have hl := lv_entry av (n := maxL) hle
  rw [hlv] at hl
  have he : entryFrame m args maxL = F0 m 0 ((lg_sl av ++ List.replicate (maxL - (lg_sl av).length) Slot.unset).toArray) [] := by rw [hargs]; exact lg_entry_eq m av maxL
  rw [he]
  refine body p e s m args below meth c _ (h_A C s.heap.size) _ hsz ⟨B.exec, B.bytes, hml, atoms_spec (ws := ws) B.pre, hown, B.notSynchronized, hK, hN, fun q h => Or.inr h, hargs⟩ (hH.mono (fun b hb => Or.inl hb)) va_S.rf hl (fun pc ls H locs cells slots r u hd hc1 hs1 hp hH1 hS => ?_)
  rw [← hsz]
  exact W.widen hc1 hs1 (W.iret (v := r) B.exec B.bytes B.returns (fun t ht _ => ⟨⟨r, u, rfl, hp, by show h_H D _ u t.heap; rw [ht]; exact hH1⟩, hS.F ht⟩) hS.2.2 hd)
set_option maxHeartbeats 1000000 in
theorem hMet_z {post : Int32 → hC → Prop} (hy : plainName y.cls = true) (hw : ws = Cond.code y cc maxL (some .boolean) :: ws') (Cn : String) (hcn : y.cls = Cn) (hle : (lg_sl av).length ≤ maxL) {lv : List (Nat × Value)} (hlv : lv_args 0 av = lv)
    (body : ∀ (p : Program) (e : Env) (s : State) (m : MethodId) (args : Array Value) (below : List Frame) (meth : Method) (c : Code) (Q : State → Prop) (A : Nat → Prop) (ls : Array Slot), s.heap.size = sz → hX p s m meth c args av D cs A ws Cn cc maxL → h_H D A C s.heap → va_S A s.heap s.heap [] → lv_has ls maxL lv →
      (∀ (pc : Nat) (ls : Array Slot) (H : Heap) (locs : List Loc) (cells slots : Nat) (r : Int32) (u : hC), decode cc pc = .ok (.ireturn, 1) → cells ≤ mc → slots ≤ ms → (post r u ∧ (r = 0 ∨ r = 1)) → h_H D A u H → va_S A s.heap H locs → W p l e rm s m args below meth c H locs cells slots Q (F0 m pc ls [.int r])) →
      W p l e rm s m args below meth c s.heap [] 0 0 Q (F0 m 0 ls [])) :
    Met l y ws rm (va_Pc av (hU D cs C sz)) (va_Qi post (fun u t => h_H D (h_A C sz) u t.heap) (h_A C sz)) mc ms (h_A C sz) := by
  refine Met.ofW (cc := cc) (maxL := maxL) (ret := (some .boolean)) hy hw ?_
  intro p e s m args below meth c s₁ B hml hv
  obtain ⟨hargs, hsz, hH, hK, hN⟩ := hv
  have hown : s.vm.findClass Cn = some m.cls := by rw [← hcn]; exact findClass_of_methodNamed B.named
  have hl := lv_entry av (n := maxL) hle
  rw [hlv] at hl
  have he : entryFrame m args maxL = F0 m 0 ((lg_sl av ++ List.replicate (maxL - (lg_sl av).length) Slot.unset).toArray) [] := by rw [hargs]; exact lg_entry_eq m av maxL
  rw [he]
  refine body p e s m args below meth c _ (h_A C s.heap.size) _ hsz ⟨B.exec, B.bytes, hml, atoms_spec (ws := ws) B.pre, hown, B.notSynchronized, hK, hN, fun q h => Or.inr h, hargs⟩ (hH.mono (fun b hb => Or.inl hb)) va_S.rf hl (fun pc ls H locs cells slots r u hd hc1 hs1 hp hH1 hS => ?_)
  rw [← hsz]
  exact W.widen hc1 hs1 (W.zret (v := r) (ty := .boolean) B.exec B.bytes B.returns (by rcases hp.2 with rfl | rfl <;> rfl) (fun t ht _ => ⟨⟨r, u, rfl, hp.1, by show h_H D _ u t.heap; rw [ht]; exact hH1⟩, hS.F ht⟩) hS.2.2 hd)
set_option maxHeartbeats 1000000 in
theorem hMet_v {post : hC → Prop} (hy : plainName y.cls = true) (hw : ws = Cond.code y cc maxL (none) :: ws') (Cn : String) (hcn : y.cls = Cn) (hle : (lg_sl av).length ≤ maxL) {lv : List (Nat × Value)} (hlv : lv_args 0 av = lv)
    (body : ∀ (p : Program) (e : Env) (s : State) (m : MethodId) (args : Array Value) (below : List Frame) (meth : Method) (c : Code) (Q : State → Prop) (A : Nat → Prop) (ls : Array Slot), s.heap.size = sz → hX p s m meth c args av D cs A ws Cn cc maxL → meth.name = y.name → h_H D A C s.heap → va_S A s.heap s.heap [] → lv_has ls maxL lv →
      (∀ (pc : Nat) (ls : Array Slot) (H : Heap) (locs : List Loc) (cells slots : Nat)  (u : hC), decode cc pc = .ok (.return_, 1) → cells ≤ mc → slots ≤ ms → post u → h_H D A u H → va_S A s.heap H locs → W p l e rm s m args below meth c H locs cells slots Q (F0 m pc ls [])) →
      W p l e rm s m args below meth c s.heap [] 0 0 Q (F0 m 0 ls [])) :
    Met l y ws rm (va_Pc av (hU D cs C sz)) (va_Qv post (fun u t => h_H D (h_A C sz) u t.heap) (h_A C sz)) mc ms (h_A C sz) := by
  refine Met.ofW (cc := cc) (maxL := maxL) (ret := (none)) hy hw ?_
  intro p e s m args below meth c s₁ B hml hv
  obtain ⟨hargs, hsz, hH, hK, hN⟩ := hv
  have hown : s.vm.findClass Cn = some m.cls := by rw [← hcn]; exact findClass_of_methodNamed B.named
  have hl := lv_entry av (n := maxL) hle
  rw [hlv] at hl
  have he : entryFrame m args maxL = F0 m 0 ((lg_sl av ++ List.replicate (maxL - (lg_sl av).length) Slot.unset).toArray) [] := by rw [hargs]; exact lg_entry_eq m av maxL
  rw [he]
  refine body p e s m args below meth c _ (h_A C s.heap.size) _ hsz ⟨B.exec, B.bytes, hml, atoms_spec (ws := ws) B.pre, hown, B.notSynchronized, hK, hN, fun q h => Or.inr h, hargs⟩ (name_of_methodNamed B.named B.method).1 (hH.mono (fun b hb => Or.inl hb)) va_S.rf hl (fun pc ls H locs cells slots  u hd hc1 hs1 hp hH1 hS => ?_)
  rw [← hsz]
  exact W.widen hc1 hs1 (W.vret B.exec B.bytes B.returns (fun t ht _ => ⟨⟨u, rfl, hp, by show h_H D _ u t.heap; rw [ht]; exact hH1⟩, hS.F ht⟩) hS.2.2 hd)
set_option maxHeartbeats 1000000 in
theorem hMet_a {rt : FieldType} {post : Nat → hC → Prop} (hy : plainName y.cls = true) (hw : ws = Cond.code y cc maxL (some rt) :: ws') (Cn : String) (hcn : y.cls = Cn) (hrt : (∃ n, rt = .object n) ∨ ∃ t, rt = .array t) (hle : (lg_sl av).length ≤ maxL) {lv : List (Nat × Value)} (hlv : lv_args 0 av = lv)
    (body : ∀ (p : Program) (e : Env) (s : State) (m : MethodId) (args : Array Value) (below : List Frame) (meth : Method) (c : Code) (Q : State → Prop) (A : Nat → Prop) (ls : Array Slot), s.heap.size = sz → hX p s m meth c args av D cs A ws Cn cc maxL → h_H D A C s.heap → va_S A s.heap s.heap [] → lv_has ls maxL lv →
      (∀ (pc : Nat) (ls : Array Slot) (H : Heap) (locs : List Loc) (cells slots : Nat) (r : Nat) (u : hC), decode cc pc = .ok (.areturn, 1) → cells ≤ mc → slots ≤ ms → post r u → h_H D A u H → va_S A s.heap H locs → W p l e rm s m args below meth c H locs cells slots Q (F0 m pc ls [.ref r])) →
      W p l e rm s m args below meth c s.heap [] 0 0 Q (F0 m 0 ls [])) :
    Met l y ws rm (va_Pc av (hU D cs C sz)) (va_Qr (fun _ : hC => True) (fun u a t => post a u ∧ h_H D (h_A C sz) u t.heap) (h_A C sz)) mc ms (h_A C sz) := by
  refine Met.ofW (cc := cc) (maxL := maxL) (ret := (some rt)) hy hw ?_
  intro p e s m args below meth c s₁ B hml hv
  obtain ⟨hargs, hsz, hH, hK, hN⟩ := hv
  have hown : s.vm.findClass Cn = some m.cls := by rw [← hcn]; exact findClass_of_methodNamed B.named
  have hl := lv_entry av (n := maxL) hle
  rw [hlv] at hl
  have he : entryFrame m args maxL = F0 m 0 ((lg_sl av ++ List.replicate (maxL - (lg_sl av).length) Slot.unset).toArray) [] := by rw [hargs]; exact lg_entry_eq m av maxL
  rw [he]
  refine body p e s m args below meth c _ (h_A C s.heap.size) _ hsz ⟨B.exec, B.bytes, hml, atoms_spec (ws := ws) B.pre, hown, B.notSynchronized, hK, hN, fun q h => Or.inr h, hargs⟩ (hH.mono (fun b hb => Or.inl hb)) va_S.rf hl (fun pc ls H locs cells slots r u hd hc1 hs1 hp hH1 hS => ?_)
  rw [← hsz]
  exact W.widen hc1 hs1 (W.aret (v := .ref r) B.exec B.bytes B.returns hrt (Or.inr ⟨_, rfl⟩) (fun t ht _ => ⟨⟨u, r, rfl, trivial, hp, by show h_H D _ u t.heap; rw [ht]; exact hH1⟩, hS.F ht⟩) hS.2.2 hd)
end HMET
section HCALL
variable {p : Program} {l : Launch} {e : Env} {R : Room} {s : State} {m : MethodId} {args : Array Value} {below : List Frame} {meth : Method} {c : Code} {H H0 : Heap} {locs : List Loc} {cells slots : Nat} {Q : State → Prop} {pc : Nat} {ls : Array Slot} {rest st0 : List Value} {D : va_G} {A : Nat → Prop} {C : hC} {a : Array Value} {mc ms : Nat}
theorem h_calli {post : Int32 → hC → Prop} (hr : va_Run p l e R s m args below meth c H locs cells slots mc ms (F0 m pc ls st0) rest (va_Qi post (fun u t => h_H D (h_A C H.size) u t.heap) (h_A C H.size) a) (h_A C H.size)) (hH : h_H D A C H) (hS : va_S A H0 H locs) (hA : ∀ q : Nat, H0.size ≤ q → A q)
    (kk : ∀ (r : Int32) (u : hC) (H1 : Heap) (locs1 : List Loc), post r u → h_H D A u H1 → va_S A H0 H1 locs1 → W p l e R s m args below meth c H1 locs1 (cells + mc) (slots + ms) Q (F0 m (pc + 3) ls (.int r :: rest))) : W p l e R s m args below meth c H locs cells slots Q (F0 m pc ls st0) :=
  va_calli hr hS (fun q _ h => h_A.sub hH hS hA q h) (h_A.sub hH hS hA) (fun r u t H1 locs1 ht _ hp hB _ _ hS1 => kk r u H1 locs1 hp (h_H.widen (by rw [← ht]; exact hB) (h_A.sub hH hS hA)) hS1)
theorem h_callv {post : hC → Prop} (hr : va_Run p l e R s m args below meth c H locs cells slots mc ms (F0 m pc ls st0) rest (va_Qv post (fun u t => h_H D (h_A C H.size) u t.heap) (h_A C H.size) a) (h_A C H.size)) (hH : h_H D A C H) (hS : va_S A H0 H locs) (hA : ∀ q : Nat, H0.size ≤ q → A q)
    (kk : ∀  (u : hC) (H1 : Heap) (locs1 : List Loc), post u → h_H D A u H1 → va_S A H0 H1 locs1 → W p l e R s m args below meth c H1 locs1 (cells + mc) (slots + ms) Q (F0 m (pc + 3) ls rest)) : W p l e R s m args below meth c H locs cells slots Q (F0 m pc ls st0) :=
  va_callv hr hS (fun q _ h => h_A.sub hH hS hA q h) (h_A.sub hH hS hA) (fun u t H1 locs1 ht _ hp hB _ _ hS1 => kk u H1 locs1 hp (h_H.widen (by rw [← ht]; exact hB) (h_A.sub hH hS hA)) hS1)
theorem h_calla {post : Nat → hC → Prop} (hr : va_Run p l e R s m args below meth c H locs cells slots mc ms (F0 m pc ls st0) rest (va_Qr (fun _ : hC => True) (fun u a t => post a u ∧ h_H D (h_A C H.size) u t.heap) (h_A C H.size) a) (h_A C H.size)) (hH : h_H D A C H) (hS : va_S A H0 H locs) (hA : ∀ q : Nat, H0.size ≤ q → A q)
    (kk : ∀ (r : Nat) (u : hC) (H1 : Heap) (locs1 : List Loc), post r u → h_H D A u H1 → va_S A H0 H1 locs1 → W p l e R s m args below meth c H1 locs1 (cells + mc) (slots + ms) Q (F0 m (pc + 3) ls (.ref r :: rest))) : W p l e R s m args below meth c H locs cells slots Q (F0 m pc ls st0) :=
  va_callr hr hS (fun q _ h => h_A.sub hH hS hA q h) (h_A.sub hH hS hA) (fun u r t H1 locs1 ht _ _ hB _ _ hS1 => kk r u H1 locs1 hB.1 (h_H.widen (by rw [← ht]; exact hB.2) (h_A.sub hH hS hA)) hS1)
end HCALL
