section CMET2
variable {l : Launch} {D : va_G} {I Z F : ClassId} {ad : Nat → Nat} {M : Nat → Nat → Int32} {sz : Nat} {y : MethodName} {ws ws' : List Cond} {rm : Room} {cc : ByteArray} {maxL : Nat} {av : List Value}
theorem cMet_z {post : Int32 → (Nat → Nat → Int32) → Prop} (hI : cI ad) (hy : plainName y.cls = true) (hw : ws = Cond.code y cc maxL (some .boolean) :: ws') (hrm : rm.cells = 0 ∧ rm.slots = 0) (C : String) (hC : y.cls = C) (hle : (lg_sl av).length ≤ maxL) {lv : List (Nat × Value)} (hlv : lv_args 0 av = lv)
    (body : ∀ (p : Program) (e : Env) (s : State) (m : MethodId) (args : Array Value) (below : List Frame) (meth : Method) (c : Code) (Q : State → Prop) (A : Nat → Prop) (ls : Array Slot), s.heap.size = sz → cX p s m meth c args av D I Z F ad A ws C cc maxL → cB9 D I Z F ad A s.heap M s.heap [] → lv_has ls maxL lv →
      (∀ (pc : Nat) (ls : Array Slot) (H : Heap) (locs : List Loc) (r : Int32) (u : Nat → Nat → Int32), decode cc pc = .ok (.ireturn, 1) → post r u → (r = 0 ∨ r = 1) → cB9 D I Z F ad A s.heap u H locs → W p l e rm s m args below meth c H locs 0 0 Q (F0 m pc ls [.int r])) →
      W p l e rm s m args below meth c s.heap [] 0 0 Q (F0 m 0 ls [])) :
    Met l y ws rm (va_Pc av (cU D I Z F ad sz M)) (va_Qi post (fun u t => cP D I Z F ad u t.heap) (cA ad sz)) 0 0 (cA ad sz) := by
  refine Met.ofW (cc := cc) (maxL := maxL) (ret := (some .boolean)) hy hw ?_
  intro p e s m args below meth c s₁ B hml hv
  obtain ⟨hargs, hsz, hP, hK, hN⟩ := hv
  have hown : s.vm.findClass C = some m.cls := by rw [← hC]; exact findClass_of_methodNamed B.named
  have hl := lv_entry av (n := maxL) hle
  rw [hlv] at hl
  have he : entryFrame m args maxL = F0 m 0 ((lg_sl av ++ List.replicate (maxL - (lg_sl av).length) Slot.unset).toArray) [] := by rw [hargs]; exact lg_entry_eq m av maxL
  rw [he]
  refine body p e s m args below meth c _ (cA ad s.heap.size) _ hsz ⟨B.exec, B.bytes, hml, atoms_spec (ws := ws) B.pre, hown, B.notSynchronized, hK, hN, hI.d s.heap.size, fun q h => Or.inr h, hargs⟩ ⟨hP, va_S.rf⟩ hl (fun pc ls H locs r u hd hp h01 hW => ?_)
  rw [← hsz]
  exact W.zret (v := r) (ty := .boolean) B.exec B.bytes B.returns (by rcases h01 with rfl | rfl <;> rfl) (fun t ht _ => ⟨⟨r, u, rfl, hp, by show cP D I Z F ad u t.heap; rw [ht]; exact hW.1⟩, hW.2.F ht⟩) hW.2.2.2 hd
end CMET2
/-- a sum of the first k -/
def sI (f : Nat → Int32) : Nat → Int32
  | 0 => 0
  | k + 1 => sI f k + f k
theorem sI_s {f : Nat → Int32} {k : Nat} {v : Int32} (h : f k = v) : sI f k + v = sI f (k + 1) := by rw [sI, h]
theorem vp_narZn {x : Int32} (h : x = 0 ∨ x = 1) : narrow .boolean (.int x) = .int x := by rcases h with rfl | rfl <;> rfl
theorem vp_narZf {x : Int32} (h : x = 0 ∨ x = 1) : fits .boolean (.int x) = true := by rcases h with rfl | rfl <;> rfl
/-- a truth as an int -/
def b2 (P : Prop) [Decidable P] : Int32 := if P then 1 else 0
theorem b2_01 (P : Prop) [Decidable P] : b2 P = 0 ∨ b2 P = 1 := by unfold b2; split <;> simp
