section CMET3
variable {l : Launch} {D : va_G} {I Z F : ClassId} {ad : Nat → Nat} {M : Nat → Nat → Int32} {sz : Nat} {y : MethodName} {ws ws' : List Cond} {rm : Room} {cc : ByteArray} {maxL : Nat} {av : List Value}
theorem cMet_l {post : Int64 → (Nat → Nat → Int32) → Prop} (hI : cI ad) (hy : plainName y.cls = true) (hw : ws = Cond.code y cc maxL (some .long) :: ws') (hrm : rm.cells = 0 ∧ rm.slots = 0) (C : String) (hC : y.cls = C) (hle : (lg_sl av).length ≤ maxL) {lv : List (Nat × Value)} (hlv : lv_args 0 av = lv)
    (body : ∀ (p : Program) (e : Env) (s : State) (m : MethodId) (args : Array Value) (below : List Frame) (meth : Method) (c : Code) (Q : State → Prop) (A : Nat → Prop) (ls : Array Slot), s.heap.size = sz → cX p s m meth c args av D I Z F ad A ws C cc maxL → cB9 D I Z F ad A s.heap M s.heap [] → lv_has ls maxL lv →
      (∀ (pc : Nat) (ls : Array Slot) (H : Heap) (locs : List Loc) (r : Int64) (u : Nat → Nat → Int32), decode cc pc = .ok (.lreturn, 1) → post r u → cB9 D I Z F ad A s.heap u H locs → W p l e rm s m args below meth c H locs 0 0 Q (F0 m pc ls [.long r])) →
      W p l e rm s m args below meth c s.heap [] 0 0 Q (F0 m 0 ls [])) :
    Met l y ws rm (va_Pc av (cU D I Z F ad sz M)) (va_Ql post (fun u t => cP D I Z F ad u t.heap) (cA ad sz)) 0 0 (cA ad sz) := by
  refine Met.ofW (cc := cc) (maxL := maxL) (ret := (some .long)) hy hw ?_
  intro p e s m args below meth c s₁ B hml hv
  obtain ⟨hargs, hsz, hP, hK, hN⟩ := hv
  have hown : s.vm.findClass C = some m.cls := by rw [← hC]; exact findClass_of_methodNamed B.named
  have hl := lv_entry av (n := maxL) hle
  rw [hlv] at hl
  have he : entryFrame m args maxL = F0 m 0 ((lg_sl av ++ List.replicate (maxL - (lg_sl av).length) Slot.unset).toArray) [] := by rw [hargs]; exact lg_entry_eq m av maxL
  rw [he]
  refine body p e s m args below meth c _ (cA ad s.heap.size) _ hsz ⟨B.exec, B.bytes, hml, atoms_spec (ws := ws) B.pre, hown, B.notSynchronized, hK, hN, hI.d s.heap.size, fun q h => Or.inr h, hargs⟩ ⟨hP, va_S.rf⟩ hl (fun pc ls H locs r u hd hp hW => ?_)
  rw [← hsz]
  exact W.lret (v := r) B.exec B.bytes B.returns (fun t ht _ => ⟨⟨r, u, rfl, hp, by show cP D I Z F ad u t.heap; rw [ht]; exact hW.1⟩, hW.2.F ht⟩) hW.2.2.2 hd
theorem cMet_d {post : UInt64 → (Nat → Nat → Int32) → Prop} (hI : cI ad) (hy : plainName y.cls = true) (hw : ws = Cond.code y cc maxL (some .double) :: ws') (hrm : rm.cells = 0 ∧ rm.slots = 0) (C : String) (hC : y.cls = C) (hle : (lg_sl av).length ≤ maxL) {lv : List (Nat × Value)} (hlv : lv_args 0 av = lv)
    (body : ∀ (p : Program) (e : Env) (s : State) (m : MethodId) (args : Array Value) (below : List Frame) (meth : Method) (c : Code) (Q : State → Prop) (A : Nat → Prop) (ls : Array Slot), s.heap.size = sz → cX p s m meth c args av D I Z F ad A ws C cc maxL → cB9 D I Z F ad A s.heap M s.heap [] → lv_has ls maxL lv →
      (∀ (pc : Nat) (ls : Array Slot) (H : Heap) (locs : List Loc) (r : UInt64) (u : Nat → Nat → Int32), decode cc pc = .ok (.dreturn, 1) → post r u → cB9 D I Z F ad A s.heap u H locs → W p l e rm s m args below meth c H locs 0 0 Q (F0 m pc ls [.double r])) →
      W p l e rm s m args below meth c s.heap [] 0 0 Q (F0 m 0 ls [])) :
    Met l y ws rm (va_Pc av (cU D I Z F ad sz M)) (va_Qd post (fun u t => cP D I Z F ad u t.heap) (cA ad sz)) 0 0 (cA ad sz) := by
  refine Met.ofW (cc := cc) (maxL := maxL) (ret := (some .double)) hy hw ?_
  intro p e s m args below meth c s₁ B hml hv
  obtain ⟨hargs, hsz, hP, hK, hN⟩ := hv
  have hown : s.vm.findClass C = some m.cls := by rw [← hC]; exact findClass_of_methodNamed B.named
  have hl := lv_entry av (n := maxL) hle
  rw [hlv] at hl
  have he : entryFrame m args maxL = F0 m 0 ((lg_sl av ++ List.replicate (maxL - (lg_sl av).length) Slot.unset).toArray) [] := by rw [hargs]; exact lg_entry_eq m av maxL
  rw [he]
  refine body p e s m args below meth c _ (cA ad s.heap.size) _ hsz ⟨B.exec, B.bytes, hml, atoms_spec (ws := ws) B.pre, hown, B.notSynchronized, hK, hN, hI.d s.heap.size, fun q h => Or.inr h, hargs⟩ ⟨hP, va_S.rf⟩ hl (fun pc ls H locs r u hd hp hW => ?_)
  rw [← hsz]
  exact W.dret (v := r) B.exec B.bytes B.returns (fun t ht _ => ⟨⟨r, u, rfl, hp, by show cP D I Z F ad u t.heap; rw [ht]; exact hW.1⟩, hW.2.F ht⟩) hW.2.2.2 hd B.notSynchronized
end CMET3
section CCALLS2
variable {p : Program} {l : Launch} {e : Env} {R : Room} {s : State} {m : MethodId} {args : Array Value} {below : List Frame} {meth : Method} {c : Code} {cc : ByteArray} {H H0 : Heap} {locs : List Loc} {cells slots : Nat} {Q : State → Prop} {pc : Nat} {ls : Array Slot} {rest st0 : List Value} {D : va_G} {A : Nat → Prop} {I Z F : ClassId} {ad : Nat → Nat} {M : Nat → Nat → Int32} {a : Array Value}
theorem cr_calll {post : Int64 → (Nat → Nat → Int32) → Prop} (hr : va_Run p l e R s m args below meth c H locs cells slots 0 0 (F0 m pc ls st0) rest (va_Ql post (fun u t => cP D I Z F ad u t.heap) (cA ad H.size) a) (cA ad H.size)) (hA : ∀ q : Nat, H0.size ≤ q → A q) (hDa : cD ad A) (hW : cB9 D I Z F ad A H0 M H locs)
    (kk : ∀ (r : Int64) (u : Nat → Nat → Int32) (H1 : Heap) (locs1 : List Loc), post r u → cB9 D I Z F ad A H0 u H1 locs1 → W p l e R s m args below meth c H1 locs1 cells slots Q (F0 m (pc + 3) ls (.long r :: rest))) : W p l e R s m args below meth c H locs cells slots Q (F0 m pc ls st0) :=
  va_calll hr hW.2 (fun q _ h => hW.2.sub hA hDa q h) (hW.2.sub hA hDa) (fun r u t H1 locs1 ht _ hp hB _ _ hS => kk r u H1 locs1 hp ⟨by rw [← ht]; exact hB, hS⟩)
end CCALLS2
theorem caL_in (M : Nat → Nat → Int32) (b : Nat) (ans : Int32) : ∀ (q : Nat) (at0 : Int32) (c0 : Nat), ∃ c : Nat, c0 ≤ c ∧ c ≤ c0 + q ∧ caL M b ans q at0 (nI c0) = nI c := by
  intro q
  induction q with
  | zero => intro at0 c0; exact ⟨c0, Nat.le_refl _, by omega, rfl⟩
  | succ q ih =>
    intro at0 c0
    rw [caL]
    split
    · exact ⟨c0, Nat.le_refl _, by omega, rfl⟩
    · split
      · exact ⟨c0, Nat.le_refl _, by omega, rfl⟩
      · rw [nI_1]
        obtain ⟨c, h1, h2, h3⟩ := ih (if isF ans (M (3 + 1) (M (b + 2) at0.toNatClampNeg).toNatClampNeg) = 0 then M (b + 3) at0.toNatClampNeg else M (b + 4) at0.toNatClampNeg) (c0 + 1)
        exact ⟨c, by omega, by omega, h3⟩
theorem caF_in (M : Nat → Nat → Int32) (b : Nat) (ans : Int32) : ∃ c : Nat, c ≤ 8 ∧ caF M b ans = nI c := by
  obtain ⟨c, -, h2, h3⟩ := caL_in M b ans 8 (if M b 2 = 0 then -1 else 0) 0
  exact ⟨c, by omega, h3⟩
theorem sI_in {F : Nat → Int32} {m : Nat} : ∀ N : Nat, (∀ k : Nat, k < N → ∃ v : Nat, v ≤ m ∧ F k = nI v) → ∃ t : Nat, t ≤ m * N ∧ sI F N = nI t := by
  intro N
  induction N with
  | zero => intro _; exact ⟨0, by omega, rfl⟩
  | succ N ih =>
    intro h
    obtain ⟨t, h1, h2⟩ := ih (fun k hk => h k (by omega))
    obtain ⟨v, h3, h4⟩ := h N (by omega)
    exact ⟨t + v, by rw [Nat.mul_succ]; omega, by rw [sI, h2, h4, nI_add]⟩
/-- how two folds stand: what the second has of the first, the first of the second, whether they are apart -/
def cmS (x y : Int32) (s : Int32 × Int32 × Int32) : Int32 × Int32 × Int32 := if ¬ x = 0 ∧ ¬ y = 0 then (s.1, s.2.1, 0) else if ¬ x = 0 then (0, s.2.1, s.2.2) else if ¬ y = 0 then (s.1, 0, s.2.2) else s
def cmL (X Y : Nat → Int32) : Nat → Int32 × Int32 × Int32
  | 0 => (1, 1, 1)
  | j + 1 => cmS (X j) (Y j) (cmL X Y j)
def cmR (s : Int32 × Int32 × Int32) : Int32 := if s.1 = 0 then (if s.2.1 = 0 then (if s.2.2 = 0 then 4 else 3) else 2) else if s.2.1 = 0 then 1 else 0
/-- digests -/
def dgS (d : Int64) (x : Int32) : Int64 := d * 31 + x.toInt64
def dgA (d : Int64) (T : Nat → Int32) : Nat → Int64
  | 0 => d
  | k + 1 => dgS (dgA d T k) (T k)
def dgR (M : Nat → Nat → Int32) (b : Nat) (d : Int64) : Nat → Int64
  | 0 => d
  | i + 1 => dgA (dgR M b d i) (tfF M b i) 5
def dgD (M : Nat → Nat → Int32) (b z : Nat) (d : Int64) : Int64 := dgR M b (dgA d (tdF M b z) 8) z
def dgL (M : Nat → Nat → Int32) (d : Int64) : Nat → Int64
  | 0 => d
  | f + 1 => if M (25 + 6 * f) 0 = 0 then dgL M d f * 31 else dgD M (25 + 6 * f) (M (25 + 6 * f) 2).toNatClampNeg (dgL M d f * 31 + 1)
def dgF (M : Nat → Nat → Int32) (n : Nat) : Int64 := dgL M (dgA (dgA 1709 (tcF M n) 5) (M 2) 8) 12
