section CMET
variable {l : Launch} {D : va_G} {I Z F : ClassId} {ad : Nat → Nat} {M : Nat → Nat → Int32} {sz : Nat} {y : MethodName} {ws ws' : List Cond} {rm : Room} {cc : ByteArray} {maxL : Nat} {av : List Value}
/-- what stands at a method's entry and stays: the machine, the code, its words, its class, the cells' classes -/
def cX (p : Program) (s : State) (m : MethodId) (meth : Method) (c : Code) (args : Array Value) (av : List Value) (D : va_G) (I Z F : ClassId) (ad : Nat → Nat) (A : Nat → Prop) (ws : List Cond) (C : String) (cc : ByteArray) (maxL : Nat) : Prop :=
  p.tables.exec = Jvm.exec ∧ c.code = cc ∧ c.maxLocals = maxL ∧ (∀ w ∈ ws, w.before args s = true) ∧ s.vm.findClass C = some m.cls ∧ meth.locks = false ∧ va_K D vwCl (cT I Z F) s ∧ cN s ∧ cD ad A ∧ (∀ q : Nat, s.heap.size ≤ q → A q) ∧ args = av.toArray
theorem cMet_i {post : Int32 → (Nat → Nat → Int32) → Prop} (hI : cI ad) (hy : plainName y.cls = true) (hw : ws = Cond.code y cc maxL (some .int) :: ws') (hrm : rm.cells = 0 ∧ rm.slots = 0) (C : String) (hC : y.cls = C) (hle : (lg_sl av).length ≤ maxL) {lv : List (Nat × Value)} (hlv : lv_args 0 av = lv)
    (body : ∀ (p : Program) (e : Env) (s : State) (m : MethodId) (args : Array Value) (below : List Frame) (meth : Method) (c : Code) (Q : State → Prop) (A : Nat → Prop) (ls : Array Slot), s.heap.size = sz → cX p s m meth c args av D I Z F ad A ws C cc maxL → cB9 D I Z F ad A s.heap M s.heap [] → lv_has ls maxL lv →
      (∀ (pc : Nat) (ls : Array Slot) (H : Heap) (locs : List Loc) (r : Int32) (u : Nat → Nat → Int32), decode cc pc = .ok (.ireturn, 1) → post r u → cB9 D I Z F ad A s.heap u H locs → W p l e rm s m args below meth c H locs 0 0 Q (F0 m pc ls [.int r])) →
      W p l e rm s m args below meth c s.heap [] 0 0 Q (F0 m 0 ls [])) :
    Met l y ws rm (va_Pc av (cU D I Z F ad sz M)) (va_Qi post (fun u t => cP D I Z F ad u t.heap) (cA ad sz)) 0 0 (cA ad sz) := by
  refine Met.ofW (cc := cc) (maxL := maxL) (ret := (some .int)) hy hw ?_
  intro p e s m args below meth c s₁ B hml hv
  obtain ⟨hargs, hsz, hP, hK, hN⟩ := hv
  have hown : s.vm.findClass C = some m.cls := by rw [← hC]; exact findClass_of_methodNamed B.named
  have hl := lv_entry av (n := maxL) hle
  rw [hlv] at hl
  have he : entryFrame m args maxL = F0 m 0 ((lg_sl av ++ List.replicate (maxL - (lg_sl av).length) Slot.unset).toArray) [] := by rw [hargs]; exact lg_entry_eq m av maxL
  rw [he]
  refine body p e s m args below meth c _ (cA ad s.heap.size) _ hsz ⟨B.exec, B.bytes, hml, atoms_spec (ws := ws) B.pre, hown, B.notSynchronized, hK, hN, hI.d s.heap.size, fun q h => Or.inr h, hargs⟩ ⟨hP, va_S.rf⟩ hl (fun pc ls H locs r u hd hp hW => ?_)
  rw [← hsz]
  exact W.iret (v := r) B.exec B.bytes B.returns (fun t ht _ => ⟨⟨r, u, rfl, hp, by show cP D I Z F ad u t.heap; rw [ht]; exact hW.1⟩, hW.2.F ht⟩) hW.2.2.2 hd
theorem cMet_v {post : (Nat → Nat → Int32) → Prop} (hI : cI ad) (hy : plainName y.cls = true) (hw : ws = Cond.code y cc maxL none :: ws') (hrm : rm.cells = 0 ∧ rm.slots = 0) (C : String) (hC : y.cls = C) (hle : (lg_sl av).length ≤ maxL) {lv : List (Nat × Value)} (hlv : lv_args 0 av = lv)
    (body : ∀ (p : Program) (e : Env) (s : State) (m : MethodId) (args : Array Value) (below : List Frame) (meth : Method) (c : Code) (Q : State → Prop) (A : Nat → Prop) (ls : Array Slot), s.heap.size = sz → cX p s m meth c args av D I Z F ad A ws C cc maxL → cB9 D I Z F ad A s.heap M s.heap [] → lv_has ls maxL lv →
      (∀ (pc : Nat) (ls : Array Slot) (H : Heap) (locs : List Loc) (u : Nat → Nat → Int32), decode cc pc = .ok (.return_, 1) → post u → cB9 D I Z F ad A s.heap u H locs → W p l e rm s m args below meth c H locs 0 0 Q (F0 m pc ls [])) →
      W p l e rm s m args below meth c s.heap [] 0 0 Q (F0 m 0 ls [])) :
    Met l y ws rm (va_Pc av (cU D I Z F ad sz M)) (va_Qv post (fun u t => cP D I Z F ad u t.heap) (cA ad sz)) 0 0 (cA ad sz) := by
  refine Met.ofW (cc := cc) (maxL := maxL) (ret := none) hy hw ?_
  intro p e s m args below meth c s₁ B hml hv
  obtain ⟨hargs, hsz, hP, hK, hN⟩ := hv
  have hown : s.vm.findClass C = some m.cls := by rw [← hC]; exact findClass_of_methodNamed B.named
  have hl := lv_entry av (n := maxL) hle
  rw [hlv] at hl
  have he : entryFrame m args maxL = F0 m 0 ((lg_sl av ++ List.replicate (maxL - (lg_sl av).length) Slot.unset).toArray) [] := by rw [hargs]; exact lg_entry_eq m av maxL
  rw [he]
  refine body p e s m args below meth c _ (cA ad s.heap.size) _ hsz ⟨B.exec, B.bytes, hml, atoms_spec (ws := ws) B.pre, hown, B.notSynchronized, hK, hN, hI.d s.heap.size, fun q h => Or.inr h, hargs⟩ ⟨hP, va_S.rf⟩ hl (fun pc ls H locs u hd hp hW => ?_)
  rw [← hsz]
  exact W.vret B.exec B.bytes B.returns (fun t ht _ => ⟨⟨u, rfl, hp, by show cP D I Z F ad u t.heap; rw [ht]; exact hW.1⟩, hW.2.F ht⟩) hW.2.2.2 hd
end CMET
