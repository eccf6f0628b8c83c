/-! ===== the law's own heap: what stands at each address ===== -/
abbrev hC : Type := Nat → Option va_E
def h_H (D : va_G) (A : Nat → Prop) (C : hC) (H : Heap) : Prop := ∃ W : va_W, va_P D vwCl W H ∧ va_D A W ∧ ∀ (b : Nat) (x : va_E), C b = some x ↔ (b, x) ∈ W
def h_U (C : hC) (a : Nat) (e : va_E) : hC := fun b => if b = a then some e else C b
theorem h_U_at {C : hC} {a : Nat} {e : va_E} : h_U C a e a = some e := if_pos rfl
theorem h_U_ne {C : hC} {a b : Nat} {e : va_E} (h : b ≠ a) : h_U C a e b = C b := if_neg h
theorem h_H.at {D : va_G} {A : Nat → Prop} {C : hC} {H : Heap} (h : h_H D A C H) {a : Nat} {e : va_E} (ha : C a = some e) : ∃ (W : va_W) (k : Nat), va_P D vwCl W H ∧ va_D A W ∧ (∀ (b : Nat) (x : va_E), C b = some x ↔ (b, x) ∈ W) ∧ W[k]? = some (a, e) := by
  obtain ⟨W, hP, hD, hr⟩ := h
  obtain ⟨k, hk⟩ := List.getElem?_of_mem ((hr a e).mp ha)
  exact ⟨W, k, hP, hD, hr, hk⟩
theorem h_H.lt {D : va_G} {A : Nat → Prop} {C : hC} {H : Heap} (h : h_H D A C H) {a : Nat} {e : va_E} (ha : C a = some e) : a < H.size ∧ A a := by
  obtain ⟨W, k, hP, hD, hr, hk⟩ := h.at ha
  exact ⟨(hP k _ hk).lt, hD.2 k _ hk⟩
theorem h_set {D : va_G} {A : Nat → Prop} {C : hC} {W : va_W} {H1 : Heap} {a k : Nat} {e e' : va_E} (hD : va_D A W) (hr : ∀ (b : Nat) (x : va_E), C b = some x ↔ (b, x) ∈ W) (hk : W[k]? = some (a, e)) (hP1 : va_P D vwCl (W.set k (a, e')) H1) (hD1 : va_D A (W.set k (a, e'))) : h_H D A (h_U C a e') H1 := by
  have hkl : k < W.length := (List.getElem?_eq_some_iff.mp hk).1
  refine ⟨W.set k (a, e'), hP1, hD1, fun b x => ?_⟩
  constructor
  · intro h
    by_cases c : b = a
    · subst c
      rw [h_U_at] at h
      cases h
      exact List.mem_of_getElem? (i := k) (by rw [List.getElem?_set_self hkl])
    · rw [h_U_ne c] at h
      obtain ⟨i, hi⟩ := List.getElem?_of_mem ((hr b x).mp h)
      have hne : k ≠ i := fun e2 => by
        rw [← e2, hk] at hi
        cases hi
        exact c rfl
      exact List.mem_of_getElem? (i := i) (by rw [List.getElem?_set_ne hne]; exact hi)
  · intro h
    obtain ⟨i, hi⟩ := List.getElem?_of_mem h
    by_cases c : k = i
    · subst c
      rw [List.getElem?_set_self hkl] at hi
      cases hi
      exact h_U_at
    · rw [List.getElem?_set_ne c] at hi
      have hne : b ≠ a := fun e2 => c (hD.1 k i _ _ hk hi e2.symm)
      rw [h_U_ne hne]
      exact (hr b x).mpr (List.mem_of_getElem? hi)
theorem h_push {D : va_G} {A : Nat → Prop} {C : hC} {W : va_W} {H1 : Heap} {q : Nat} {e : va_E} (hr : ∀ (b : Nat) (x : va_E), C b = some x ↔ (b, x) ∈ W) (hP1 : va_P D vwCl (W ++ [(q, e)]) H1) (hD1 : va_D A (W ++ [(q, e)])) : C q = none ∧ h_H D A (h_U C q e) H1 := by
  have hlast : (W ++ [(q, e)])[W.length]? = some (q, e) := by rw [List.getElem?_append_right (Nat.le_refl _), Nat.sub_self]; rfl
  have hn : C q = none := by
    cases hq : C q with
    | none => rfl
    | some x =>
      exfalso
      obtain ⟨i, hi⟩ := List.getElem?_of_mem ((hr q x).mp hq)
      have hl := (List.getElem?_eq_some_iff.mp hi).1
      have := hD1.1 i W.length (q, x) (q, e) (by rw [List.getElem?_append_left hl]; exact hi) hlast rfl
      omega
  refine ⟨hn, W ++ [(q, e)], hP1, hD1, fun b x => ?_⟩
  rw [List.mem_append, List.mem_singleton]
  by_cases c : b = q
  · subst c
    rw [h_U_at]
    constructor
    · intro h; cases h; exact Or.inr rfl
    · rintro (h | h)
      · rw [(hr b x).mpr h] at hn; cases hn
      · cases h; rfl
  · rw [h_U_ne c, hr b x]
    constructor
    · exact Or.inl
    · rintro (h | h)
      · exact h
      · cases h; exact absurd rfl c
theorem h_H.keep {D : va_G} {A : Nat → Prop} {C : hC} {H H1 : Heap} (h : h_H D A C H) (hk : ∀ b : Nat, C b ≠ none → b < H.size → H1[b]? = H[b]?) : h_H D A C H1 := by
  obtain ⟨W, hP, hD, hr⟩ := h
  refine ⟨W, hP.kept (fun k q hq => hk q.1 (fun e => ?_) (hP k q hq).lt), hD, hr⟩
  have := (hr q.1 q.2).mpr (List.mem_of_getElem? hq)
  rw [e] at this
  cases this
theorem h_H.mono {D : va_G} {A A' : Nat → Prop} {C : hC} {H : Heap} (h : h_H D A C H) (ha : ∀ b : Nat, C b ≠ none → A' b) : h_H D A' C H := by
  obtain ⟨W, hP, hD, hr⟩ := h
  refine ⟨W, hP, ⟨hD.1, fun k q hq => ha q.1 (fun e => ?_)⟩, hr⟩
  have := (hr q.1 q.2).mpr (List.mem_of_getElem? hq)
  rw [e] at this
  cases this
/-- what a method with the heap C may change -/
def h_A (C : hC) (sz : Nat) : Nat → Prop := fun q => C q ≠ none ∨ sz ≤ q
/-- a class of arrays whose places are arrays -/
def h_TA (U : State) (cA cE : ClassId) (t : FieldType) : Prop := ArrOfT U cA (.array t) ∧ (∃ kA : Class, U.vm.classes[cA]? = some kA ∧ kA.kind = .array cE (.array t)) ∧ U.vm.findClass ("[" ++ (FieldType.array t).toString) = some cA ∧ U.vm.findClass (FieldType.array t).toString = some cE
theorem h_TA.moved {u U : State} (hvm : u.vm.Alike U.vm) {cA cE : ClassId} {t : FieldType} (h : h_TA u cA cE t) : h_TA U cA cE t := by
  obtain ⟨h0, ⟨kA, h1, h2⟩, h3, h4⟩ := h
  obtain ⟨k', hk', he⟩ := hvm.2.2 _ _ h1
  exact ⟨arrOfT_moved hvm h0, ⟨k', hk', by rw [he]; exact h2⟩, by rw [hvm.findClass]; exact h3, by rw [hvm.findClass]; exact h4⟩
/-- the classes of the law's arrays: 0 ints, 1 longs, 2 rows of longs, 3 rows of ints, 4 rows of Row -/
abbrev hTy (cs : Nat → ClassId) : List (ClassId × FieldType) := [(cs 0, .int), (cs 1, .long), (cs 4, .object "SharedForksLaw$Row")]
def h_K (D : va_G) (cs : Nat → ClassId) (U : State) : Prop := va_K D vwCl (hTy cs) U ∧ h_TA U (cs 2) (cs 1) .long ∧ h_TA U (cs 3) (cs 0) .int
theorem h_K.moved {D : va_G} {cs : Nat → ClassId} {u U : State} (hvm : u.vm.Alike U.vm) (h : h_K D cs u) : h_K D cs U := ⟨h.1.moved hvm, h.2.1.moved hvm, h.2.2.moved hvm⟩
/-- what may lie in an array of references of the class cA -/
def h_ok (s : State) (cA : ClassId) (H : Heap) (v : Nat) : Prop := ∃ (kA : Class) (comp : ClassId) (t : FieldType) (kcomp : Class) (cellV : Cell) (kC : Class), s.vm.classes[cA]? = some kA ∧ kA.kind = .array comp t ∧ t.isReference = true ∧ s.vm.classes[comp]? = some kcomp ∧ H[v]? = some cellV ∧ cellV.vm.isStatics = false ∧ s.vm.classes[cellV.cls]? = some kC ∧ s.vm.assignable cellV.cls comp = true
theorem vp_cell_cls (cA : ClassId) (x : vp_A) : (vp_cell cA x).cls = cA ∧ (vp_cell cA x).vm = .none := by
  obtain ⟨n, f | f | f | f | f⟩ := x <;> exact ⟨rfl, rfl⟩
theorem h_asg {vm : Vm} {c : ClassId} : vm.assignable c c = true := by
  show vm.assignableAux (255 + 1) c c = true
  rw [Vm.assignableAux]
  simp only [beq_self_eq_true, Bool.true_or]
theorem h_okA {s : State} {D : va_G} {A : Nat → Prop} {C : hC} {H : Heap} (hH : h_H D A C H) {cA cE : ClassId} {t : FieldType} (hT : h_TA s cA cE t) {v : Nat} {x : vp_A} (hv : C v = some (.inl (cE, x))) : h_ok s cA H v := by
  obtain ⟨w, k, hP, -, -, hk⟩ := hH.at hv
  obtain ⟨-, ⟨kA, h1, h2⟩, -, h4⟩ := hT
  obtain ⟨kE, h5, -⟩ := Vm.findClass_spec h4
  have h6 : H[v]? = some (vp_cell cE x) := hP k _ hk
  obtain ⟨e1, e2⟩ := vp_cell_cls cE x
  refine ⟨kA, cE, .array t, kE, vp_cell cE x, kE, h1, h2, rfl, h5, h6, by rw [e2]; rfl, by rw [e1]; exact h5, ?_⟩
  rw [e1]
  exact h_asg
theorem h_okR {s : State} {D : va_G} {A : Nat → Prop} {C : hC} {H : Heap} {tys : List (ClassId × FieldType)} (hK : va_K D vwCl tys s) (hH : h_H D A C H) {cA : ClassId} (t0 : Nat) {C0 : String} {T : u_T} {N ci : Nat} (ht : tys[t0]? = some (cA, .object C0)) (hc : vwCl[ci]? = some (C0, T, N)) {v : Nat} {fs : List Value} (hv : C v = some (.inr (ci, fs))) : h_ok s cA H v := by
  obtain ⟨w, k, hP, -, -, hk⟩ := hH.at hv
  obtain ⟨r', hr', cellV, g1, g2, g3, -⟩ := hP k _ hk
  obtain ⟨kA, comp, h1, h2, h3, -⟩ := (hK.2 t0 _ ht).2
  have hr : r' = (C0, T, N) := Option.some.inj (hr'.symm.trans hc)
  subst hr
  obtain ⟨kE, hkE, -⟩ := Vm.findClass_spec h3
  obtain ⟨cell, c1, c2, c3⟩ := va_recv hK hP hc hk
  have e1 : cell = cellV := Option.some.inj (c1.symm.trans g1)
  have e2 : cell.cls = comp := Option.some.inj (c3.symm.trans h3)
  refine ⟨kA, comp, .object C0, kE, cell, kE, h1, h2, rfl, hkE, c1, c2, by rw [e2]; exact hkE, ?_⟩
  rw [e2]
  exact h_asg
/-- the nest's words -/
def hNest : List Cond := [
  .methodLinkNest RL 101 yX4_init "SharedForksLaw",
  .methodLinkNest RL 23 yX3_init "SharedForksLaw",
  .methodLinkNest RX3 21 yL_leafOf "SharedForksLaw",
  .methodLinkNest RX3 31 yL_alike "SharedForksLaw",
  .methodLinkNest RX3 35 yL_given "SharedForksLaw",
  .methodLinkNest RX4 21 yL_row "SharedForksLaw",
  .methodLinkNest RX4 42 yL_alike "SharedForksLaw"]
theorem hNest_in : ∀ w ∈ hNest, w ∈ lw_tbl := by decide +kernel
def h_AO (t : FieldType) (U : State) : Prop := (Cond.arrayOver (.array t)).before #[] U = true
theorem h_AO.use {t : FieldType} {A : Array Value} {U : State} (h : h_AO t U) : (Cond.arrayOver (.array t)).before A U = true := h
theorem h_AO.moved {t : FieldType} {u U : State} (hvm : u.vm.Alike U.vm) (h : h_AO t u) : h_AO t U := by
  obtain ⟨comp, c, k, h1, h2, h3, h4, h5⟩ := arrayOverA_spec h
  obtain ⟨k', hk', he⟩ := hvm.2.2 _ _ h3
  have hi : (U.vm.classes.findIdx? fun (x : Class) => match x.kind with | .array component _ => component == comp | _ => false) = some c := by
    refine (va_idx_bare U.vm comp).symm.trans ?_
    first | rw [hvm.bare_eq] | rw [← hvm.bare_eq]
    exact (va_idx_bare u.vm comp).trans h2
  have hkind : k'.kind = .array comp (.array t) := by rw [he]; exact h4
  have f1 : U.vm.findClass (FieldType.array t).toString = some comp := by rw [hvm.findClass]; exact h1
  have f2 : U.vm.findClass ("[" ++ (FieldType.array t).toString) = some c := by rw [hvm.findClass]; exact h5
  unfold h_AO Cond.before Cond.holds
  simp only [Cond.value]
  rw [f1, Option.bind_some]
  refine (congrArg (fun o : Option Nat => (o.bind (fun c => (U.vm.classes[c]?).map fun (k : Class) => match k.kind with | .array _ ty => decide (ty = FieldType.array t) && decide (U.vm.findClass ("[" ++ (FieldType.array t).toString) = some c) | _ => false) == some true)) hi).trans ?_
  simp [hk', hkind, f2]
def h_N (U : State) : Prop := (∀ w ∈ hNest, va_Nw w U) ∧ h_AO .long U ∧ h_AO .int U ∧ va_AO "SharedForksLaw$Row" U
theorem h_N.warm {s U : State} (hW : s.WarmedH U.vm) (h : h_N s) : h_N U := by
  refine ⟨fun w hw => ?_, h.2.1.moved hW.alike, h.2.2.1.moved hW.alike, h.2.2.2.moved hW.alike⟩
  have h1 := h.1 w hw
  simp only [hNest, List.mem_cons, List.not_mem_nil, or_false] at hw
  rcases hw with rfl | rfl | rfl | rfl | rfl | rfl | rfl <;> exact va_Nw.warmM hW h1
theorem h_N.same {u U : State} (hvm : u.vm = U.vm) (h : h_N u) : h_N U := by
  have hal : u.vm.Alike U.vm := by rw [hvm]; exact Vm.Alike.refl _
  refine ⟨fun w hw => ?_, h.2.1.moved hal, h.2.2.1.moved hal, h.2.2.2.moved hal⟩
  have h1 := h.1 w hw
  simp only [hNest, List.mem_cons, List.not_mem_nil, or_false] at hw
  rcases hw with rfl | rfl | rfl | rfl | rfl | rfl | rfl <;> exact va_Nw.same rfl hvm h1
section HROWS
variable {p : Program} {l : Launch} {e : Env} {R : Room} {s : State} {m : MethodId} {args : Array Value} {below : List Frame} {meth : Method} {c : Code} {cc : ByteArray} {H H0 : Heap} {locs : List Loc} {cells slots : Nat} {Q : State → Prop} {pc : Nat} {ls : Array Slot} {rest : List Value} {D : va_G} {A : Nat → Prop} {C : hC} {tys : List (ClassId × FieldType)} {a : Nat}
theorem h_iald (hx : p.tables.exec = Jvm.exec) (hb : c.code = cc) (hK : va_K D vwCl tys s) (hH : h_H D A C H) {cA : ClassId} {n : Nat} {f : Nat → Int32} (ha : C a = some (.inl (cA, n, .inl f))) (t0 : Nat) (ht : tys[t0]? = some (cA, .int)) (j : Nat) {i : Int32} (hj : j < n) (hn : n < 2 ^ 31) (hij : i = nI j) (hdg : decode cc pc = .ok (.iaload, 1))
    (kk : W p l e R s m args below meth c H locs cells slots Q (F0 m (pc + 1) ls (.int (f j) :: rest))) : W p l e R s m args below meth c H locs cells slots Q (F0 m pc ls (.int i :: .ref a :: rest)) := by
  subst hij
  obtain ⟨w, k, hP, -, -, hk⟩ := hH.at ha
  refine va_iald hx hb hK hP k t0 hk ht (vp_in_nI hj hn) hdg ?_
  rw [nI_clamp (Nat.lt_trans hj hn)]
  exact kk
theorem h_lald (hx : p.tables.exec = Jvm.exec) (hb : c.code = cc) (hK : va_K D vwCl tys s) (hH : h_H D A C H) {cA : ClassId} {n : Nat} {f : Nat → Int64} (ha : C a = some (.inl (cA, n, .inr (.inl f)))) (t0 : Nat) (ht : tys[t0]? = some (cA, .long)) (j : Nat) {i : Int32} (hj : j < n) (hn : n < 2 ^ 31) (hij : i = nI j) (hdg : decode cc pc = .ok (.laload, 1))
    (kk : W p l e R s m args below meth c H locs cells slots Q (F0 m (pc + 1) ls (.long (f j) :: rest))) : W p l e R s m args below meth c H locs cells slots Q (F0 m pc ls (.int i :: .ref a :: rest)) := by
  subst hij
  obtain ⟨w, k, hP, -, -, hk⟩ := hH.at ha
  refine va_lald hx hb hK hP k t0 hk ht (vp_in_nI hj hn) hdg ?_
  rw [nI_clamp (Nat.lt_trans hj hn)]
  exact kk
theorem h_aald (hx : p.tables.exec = Jvm.exec) (hb : c.code = cc) (hH : h_H D A C H) {cA : ClassId} {ty : FieldType} (hAr : ArrOfT s cA ty) (hty : ty.isReference = true) {n : Nat} {f : Nat → Option Nat} (ha : C a = some (.inl (cA, n, .inr (.inr (.inr (.inr f)))))) (j : Nat) {i : Int32} (hj : j < n) (hn : n < 2 ^ 31) (hij : i = nI j) (hdg : decode cc pc = .ok (.aaload, 1))
    (kk : W p l e R s m args below meth c H locs cells slots Q (F0 m (pc + 1) ls (va_rf (f j) :: rest))) : W p l e R s m args below meth c H locs cells slots Q (F0 m pc ls (.int i :: .ref a :: rest)) := by
  subst hij
  obtain ⟨w, k, hP, -, -, hk⟩ := hH.at ha
  have hcl : (nI j).toNatClampNeg = j := nI_clamp (Nat.lt_trans hj hn)
  refine W.aald (v := va_rf (f j)) (ty := ty) hx hb (hP k _ hk) (hAr n (fun j => va_rf (f j))) hty (fun q => by cases q) ?_ ?_ rfl rfl hdg kk
  · show ¬ (nI j < 0 ∨ (arrV _ _ _).slots.size ≤ _)
    rw [arrV_size]
    exact vp_in_nI hj hn
  · show (arrV _ _ _).slots[_]? = _
    rw [hcl, arrV_read _ _ hj]
theorem h_alenA (hx : p.tables.exec = Jvm.exec) (hb : c.code = cc) (hH : h_H D A C H) {cA : ClassId} {ty : FieldType} (hAr : ArrOfT s cA ty) {n : Nat} {f : Nat → Option Nat} (ha : C a = some (.inl (cA, n, .inr (.inr (.inr (.inr f)))))) (hdg : decode cc pc = .ok (.arraylength, 1))
    (kk : W p l e R s m args below meth c H locs cells slots Q (F0 m (pc + 1) ls (.int (nI n) :: rest))) : W p l e R s m args below meth c H locs cells slots Q (F0 m pc ls (.ref a :: rest)) := by
  obtain ⟨w, k, hP, -, -, hk⟩ := hH.at ha
  exact W.alen (n := nI n) hx hb (hP k _ hk) (hAr n (fun j => va_rf (f j))) (by rw [vp_cell_q, arrV_size]; rfl) rfl rfl hdg kk
theorem h_alen (hx : p.tables.exec = Jvm.exec) (hb : c.code = cc) (hK : va_K D vwCl tys s) (hH : h_H D A C H) {cA : ClassId} {x : vp_A} (ha : C a = some (.inl (cA, x))) {ty : FieldType} (t0 : Nat) (ht : tys[t0]? = some (cA, ty)) (hdg : decode cc pc = .ok (.arraylength, 1))
    (kk : W p l e R s m args below meth c H locs cells slots Q (F0 m (pc + 1) ls (.int (nI x.1) :: rest))) : W p l e R s m args below meth c H locs cells slots Q (F0 m pc ls (.ref a :: rest)) := by
  obtain ⟨w, k, hP, -, -, hk⟩ := hH.at ha
  exact va_alen hx hb hK hP k t0 hk ht rfl hdg kk
theorem h_iast (hx : p.tables.exec = Jvm.exec) (hb : c.code = cc) (hK : va_K D vwCl tys s) (hH : h_H D A C H) (hS : va_S A H0 H locs) {cA : ClassId} {n : Nat} {f : Nat → Int32} (ha : C a = some (.inl (cA, n, .inl f))) (t0 : Nat) (ht : tys[t0]? = some (cA, .int)) (j : Nat) {i x : Int32} (hj : j < n) (hn : n < 2 ^ 31) (hij : i = nI j) (hdg : decode cc pc = .ok (.iastore, 1))
    (kk : ∀ (H1 : Heap) (locs1 : List Loc), h_H D A (h_U C a (.inl (cA, n, .inl (upd f j x)))) H1 → va_S A H0 H1 locs1 → W p l e R s m args below meth c H1 locs1 cells slots Q (F0 m (pc + 1) ls rest)) : W p l e R s m args below meth c H locs cells slots Q (F0 m pc ls (.int x :: .int i :: .ref a :: rest)) := by
  subst hij
  obtain ⟨w, k, hP, hD, hr, hk⟩ := hH.at ha
  refine va_iast hx hb hK hP hD hS k t0 hk ht (vp_in_nI hj hn) hdg fun H1 locs1 hP1 hD1 hS1 => ?_
  rw [nI_clamp (Nat.lt_trans hj hn)] at hP1 hD1
  exact kk H1 locs1 (h_set hD hr hk hP1 hD1) hS1
theorem h_last (hx : p.tables.exec = Jvm.exec) (hb : c.code = cc) (hK : va_K D vwCl tys s) (hH : h_H D A C H) (hS : va_S A H0 H locs) {cA : ClassId} {n : Nat} {f : Nat → Int64} (ha : C a = some (.inl (cA, n, .inr (.inl f)))) (t0 : Nat) (ht : tys[t0]? = some (cA, .long)) (j : Nat) {i : Int32} {x : Int64} (hj : j < n) (hn : n < 2 ^ 31) (hij : i = nI j) (hdg : decode cc pc = .ok (.lastore, 1))
    (kk : ∀ (H1 : Heap) (locs1 : List Loc), h_H D A (h_U C a (.inl (cA, n, .inr (.inl (vp_updL f j x))))) H1 → va_S A H0 H1 locs1 → W p l e R s m args below meth c H1 locs1 cells slots Q (F0 m (pc + 1) ls rest)) : W p l e R s m args below meth c H locs cells slots Q (F0 m pc ls (.long x :: .int i :: .ref a :: rest)) := by
  subst hij
  obtain ⟨w, k, hP, hD, hr, hk⟩ := hH.at ha
  refine va_last hx hb hK hP hD hS k t0 hk ht (vp_in_nI hj hn) hdg fun H1 locs1 hP1 hD1 hS1 => ?_
  rw [nI_clamp (Nat.lt_trans hj hn)] at hP1 hD1
  exact kk H1 locs1 (h_set hD hr hk hP1 hD1) hS1
theorem h_aast (hx : p.tables.exec = Jvm.exec) (hb : c.code = cc) (hH : h_H D A C H) (hS : va_S A H0 H locs) {cA : ClassId} {n v : Nat} {f : Nat → Option Nat} (ha : C a = some (.inl (cA, n, .inr (.inr (.inr (.inr f)))))) (hv : h_ok s cA H v) (j : Nat) {i : Int32} (hj : j < n) (hn : n < 2 ^ 31) (hij : i = nI j) (hdg : decode cc pc = .ok (.aastore, 1))
    (kk : ∀ (H1 : Heap) (locs1 : List Loc), h_H D A (h_U C a (.inl (cA, n, .inr (.inr (.inr (.inr (va_up f j (some v)))))))) H1 → va_S A H0 H1 locs1 → W p l e R s m args below meth c H1 locs1 cells slots Q (F0 m (pc + 1) ls rest)) : W p l e R s m args below meth c H locs cells slots Q (F0 m pc ls (.ref v :: .int i :: .ref a :: rest)) := by
  subst hij
  obtain ⟨w, k, hP, hD, hr, hk⟩ := hH.at ha
  obtain ⟨kA, comp, t, kcomp, cellV, kC, k1, k2, k3, k4, g1, g3, g4, g5⟩ := hv
  have hcl : (nI j).toNatClampNeg = j := nI_clamp (Nat.lt_trans hj hn)
  refine W.aast hx hb (hP k _ hk) (fun q h => by cases h) (fun h => by cases h) k1 k2 k3 k4 ⟨nI_pos (Nat.lt_trans hj hn), by show _ < (arrV _ _ _).slots.size; rw [arrV_size, hcl]; exact hj⟩ g1 (fun q h => by rw [h] at g3; cases g3) g4 g5 rfl rfl hdg fun H1 e1 z oq => ?_
  rw [hcl] at e1
  have he : va_at D vwCl (a, .inl (cA, n, .inr (.inr (.inr (.inr (va_up f j (some v))))))) H1 := by
    show H1[a]? = some (vp_cell _ _)
    rw [e1]
    rw [vp_cell_q, vp_cell_q, arrV_store]
    congr 2
    funext q
    by_cases hq : q = j
    · subst hq
      simp [updV, va_up, va_rf]
    · simp [updV, va_up, hq]
  exact kk H1 _ (h_set hD hr hk (hP.set hD hk he oq) (hD.set hk)) (hS.put z oq (hD.2 k _ hk))
theorem h_aastN0 {T : State} (X : Stand p l e R s m args below meth c T locs cells slots) (hexec : p.tables.exec = Jvm.exec) {a : Addr} {cell : Cell} {t : FieldType} {j : Int32} (hcell : T.heap[a]? = some cell) (harr : s.isArrayOf cell (.array t)) (hknown : cell.vm ≠ .unknown) (hin : ¬ (j < 0 ∨ cell.slots.size ≤ j.toNatClampNeg))
    {g : JFrame} (hg : g.method = m) {rest : List Value} (hstack : g.stack = .null :: .int j :: .ref a :: rest) (hdg : decode c.code g.pc = .ok (.aastore, 1)) :
    Stand p l e R s m args below meth c (T.setCell a (cell.setSlot j.toNatClampNeg .null)) (locs ++ [⟨a, j.toNatClampNeg⟩]) cells slots ∧
      ∀ target, Steps p.tables e below ((T.setCell a (cell.setSlot j.toNatClampNeg .null)).setTop { g with pc := g.pc + 1, stack := rest }) target → Steps p.tables e below (T.setTop g) target := by
  have hT := State.isArrayOf_alike X.warmed.alike harr
  have hfit : T.fitsSlot cell.cls cell.vm j.toNatClampNeg .null = true := by
    obtain ⟨hobj, k, hk, comp, hkind⟩ := hT
    cases hvm : cell.vm <;> first | exact absurd hvm (hobj _) | simp [State.fitsSlot, State.slotType?, hk, hkind, fits]
  refine ⟨X.stored hcell _ _, fun target hrest => ?_⟩
  subst hg
  jvm_step X.here [hexec, hdg]
  refine aastore.wp_of_null (c := cell) (t := .array t) X.here.top hstack hcell hT hin hknown (Nat.not_le.mp fun q => hin (Or.inr q)) hfit ?_
  intro acts
  rw [afterInstr_ok]
  exact hrest
theorem h_aastN (hx : p.tables.exec = Jvm.exec) (hb : c.code = cc) (hH : h_H D A C H) (hS : va_S A H0 H locs) {cA : ClassId} {t : FieldType} (hAr : ArrOfT s cA (.array t)) {n : Nat} {f : Nat → Option Nat} (ha : C a = some (.inl (cA, n, .inr (.inr (.inr (.inr f)))))) (j : Nat) {i : Int32} (hj : j < n) (hn : n < 2 ^ 31) (hij : i = nI j) (hdg : decode cc pc = .ok (.aastore, 1))
    (kk : ∀ (H1 : Heap) (locs1 : List Loc), h_H D A (h_U C a (.inl (cA, n, .inr (.inr (.inr (.inr (va_up f j none))))))) H1 → va_S A H0 H1 locs1 → W p l e R s m args below meth c H1 locs1 cells slots Q (F0 m (pc + 1) ls rest)) : W p l e R s m args below meth c H locs cells slots Q (F0 m pc ls (.null :: .int i :: .ref a :: rest)) := by
  subst hij
  obtain ⟨w, k, hP, hD, hr, hk⟩ := hH.at ha
  have hcl : (nI j).toNatClampNeg = j := nI_clamp (Nat.lt_trans hj hn)
  have hcell : H[a]? = some (vp_cell cA (n, .inr (.inr (.inr (.inr f))))) := hP k _ hk
  have hin : ¬ (nI j < 0 ∨ (vp_cell cA (n, .inr (.inr (.inr (.inr f))))).slots.size ≤ (nI j).toNatClampNeg) := by
    show ¬ (nI j < 0 ∨ (arrV _ _ _).slots.size ≤ _)
    rw [arrV_size]
    exact vp_in_nI hj hn
  intro T hT X
  have hT' : T.heap[a]? = some (vp_cell cA (n, .inr (.inr (.inr (.inr f))))) := by rw [hT]; exact hcell
  obtain ⟨X', st⟩ := h_aastN0 (g := F0 m pc ls (.null :: .int (nI j) :: .ref a :: rest)) X hx hT' (hAr n (fun j => va_rf (f j))) (fun h => by cases h) hin rfl rfl (by rw [hb]; exact hdg)
  have hlt : a < T.heap.size := (Array.getElem?_eq_some_iff.mp hT').1
  have e1 : (T.setCell a ((vp_cell cA (n, .inr (.inr (.inr (.inr f))))).setSlot (nI j).toNatClampNeg .null)).heap[a]? = some ((vp_cell cA (n, .inr (.inr (.inr (.inr f))))).setSlot (nI j).toNatClampNeg .null) := heapAt_setCell_self _ hlt
  have z : (T.setCell a ((vp_cell cA (n, .inr (.inr (.inr (.inr f))))).setSlot (nI j).toNatClampNeg .null)).heap.size = H.size := by rw [size_setCell, hT]
  have oq : ∀ q : Nat, q ≠ a → (T.setCell a ((vp_cell cA (n, .inr (.inr (.inr (.inr f))))).setSlot (nI j).toNatClampNeg .null)).heap[q]? = H[q]? := fun q hq => by rw [heapAt_setCell_ne _ (Ne.symm hq), hT]
  have he : va_at D vwCl (a, .inl (cA, n, .inr (.inr (.inr (.inr (va_up f j none)))))) (T.setCell a ((vp_cell cA (n, .inr (.inr (.inr (.inr f))))).setSlot (nI j).toNatClampNeg .null)).heap := by
    show (T.setCell a ((vp_cell cA (n, .inr (.inr (.inr (.inr f))))).setSlot (nI j).toNatClampNeg .null)).heap[a]? = some (vp_cell _ _)
    rw [e1, hcl, vp_cell_q, vp_cell_q, arrV_store]
    congr 2
    funext q
    by_cases hq : q = j
    · subst hq
      simp [updV, va_up, va_rf]
    · simp [updV, va_up, hq]
  obtain ⟨t', a1, b1⟩ := kk _ _ (h_set hD hr hk (hP.set hD hk he oq) (hD.set hk)) (hS.put (k := (nI j).toNatClampNeg) z oq (hD.2 k _ hk)) (T.setCell a ((vp_cell cA (n, .inr (.inr (.inr (.inr f))))).setSlot (nI j).toNatClampNeg .null)) rfl X'
  exact ⟨t', st t' a1, b1⟩
theorem h_newa (hx : p.tables.exec = Jvm.exec) (hb : c.code = cc) {atype : ArrayType} (harr : (Cond.arrayClass (newarray.typeOf atype)).before args s = true) {ty : FieldType} (hty : newarray.typeOf atype = ty) (hno : ∀ E, ty ≠ .object E) (hK : va_K D vwCl tys s) (hH : h_H D A C H) (hS : va_S A H0 H locs) (hA : ∀ q, H0.size ≤ q → A q) {cA : ClassId} (t0 : Nat) (ht : tys[t0]? = some (cA, ty)) {n : Int32} {N' : Nat} {a0 : vp_A} (hz : ∀ cA : ClassId, vp_cell cA a0 = arrV cA N' (fun _ => defaultValue ty)) (hn : ¬ n < 0) (hN : n.toNatClampNeg = N') (hbytes : N' * componentBytes ty ≤ 536870912) (hcells : cells + 1 ≤ R.cells) (hslots : slots + N' ≤ R.slots) (hdg : decode cc pc = .ok (.newarray atype, 2))
    (kk : ∀ (q : Nat) (H1 : Heap), C q = none → h_H D A (h_U C q (.inl (cA, a0))) H1 → va_S A H0 H1 locs → W p l e R s m args below meth c H1 locs (cells + 1) (slots + N') Q (F0 m (pc + 2) ls (.ref q :: rest))) : W p l e R s m args below meth c H locs cells slots Q (F0 m pc ls (.int n :: rest)) := by
  obtain ⟨w, hP, hD, hr⟩ := hH
  refine va_newa hx hb harr hty hK hP hD hS hA hz hn hN hbytes hcells hslots hdg fun q cB H1 hK1 hP1 hD1 hS1 => ?_
  have e1 : cA = cB := va_K_one hK1 t0 tys.length (by rw [List.getElem?_append_left (List.getElem?_eq_some_iff.mp ht).1]; exact ht) (by rw [List.getElem?_append_right (Nat.le_refl _), Nat.sub_self]; rfl) hno
  subst e1
  obtain ⟨h1, h2⟩ := h_push hr hP1 hD1
  exact kk q H1 h1 h2 hS1
theorem h_newq (hx : p.tables.exec = Jvm.exec) (hb : c.code = cc) {own E : String} {index : Nat} (hown : s.vm.findClass own = some m.cls) (hclink : (Cond.classLink own index E).before args s = true) (hover : va_AO E s) (hK : va_K D vwCl tys s) (hH : h_H D A C H) (hS : va_S A H0 H locs) (hA : ∀ q, H0.size ≤ q → A q) {cA : ClassId} (t0 : Nat) (ht : tys[t0]? = some (cA, .object E)) {n : Int32} {N' : Nat} (hn : ¬ n < 0) (hN : n.toNatClampNeg = N') (hbytes : N' * 4 ≤ 536870912) (hcells : cells + 1 ≤ R.cells) (hslots : slots + N' ≤ R.slots) (hdg : decode cc pc = .ok (.anewarray index, 3))
    (kk : ∀ (q : Nat) (H1 : Heap), C q = none → h_H D A (h_U C q (.inl (cA, N', .inr (.inr (.inr (.inr (fun _ => none))))))) H1 → va_S A H0 H1 locs → W p l e R s m args below meth c H1 locs (cells + 1) (slots + N') Q (F0 m (pc + 3) ls (.ref q :: rest))) : W p l e R s m args below meth c H locs cells slots Q (F0 m pc ls (.int n :: rest)) := by
  obtain ⟨w, hP, hD, hr⟩ := hH
  refine va_newq hx hb hown hclink hover hK hP hD hS hA hn hN hbytes hcells hslots hdg fun q cB H1 hK1 hP1 hD1 hS1 => ?_
  have e1 : cB = cA := by
    obtain ⟨-, -, -, -, -, h1⟩ := (hK.2 t0 _ ht).2
    obtain ⟨-, -, -, -, -, h2⟩ := (hK1.2 tys.length (cB, FieldType.object E) (by rw [List.getElem?_append_right (Nat.le_refl _), Nat.sub_self]; rfl)).2
    exact Option.some.inj (h2.symm.trans h1)
  subst e1
  obtain ⟨h1, h2⟩ := h_push hr hP1 hD1
  exact kk q H1 h1 h2 hS1
theorem h_newA (hx : p.tables.exec = Jvm.exec) (hb : c.code = cc) {own nm : String} {index : Nat} {t : FieldType} (hnm : (FieldType.array t).toString = nm) (hown : s.vm.findClass own = some m.cls) (hclink : (Cond.classLink own index nm).before args s = true) (hover : (Cond.arrayOver (.array t)).before args s = true) (hH : h_H D A C H) (hS : va_S A H0 H locs) (hA : ∀ q, H0.size ≤ q → A q) {cA cE : ClassId} (hT : h_TA s cA cE t) {n : Int32} {N' : Nat} (hn : ¬ n < 0) (hN : n.toNatClampNeg = N') (hbytes : N' * 4 ≤ 536870912) (hcells : cells + 1 ≤ R.cells) (hslots : slots + N' ≤ R.slots) (hdg : decode cc pc = .ok (.anewarray index, 3))
    (kk : ∀ (q : Nat) (H1 : Heap), C q = none → h_H D A (h_U C q (.inl (cA, N', .inr (.inr (.inr (.inr (fun _ => none))))))) H1 → va_S A H0 H1 locs → W p l e R s m args below meth c H1 locs (cells + 1) (slots + N') Q (F0 m (pc + 3) ls (.ref q :: rest))) : W p l e R s m args below meth c H locs cells slots Q (F0 m pc ls (.int n :: rest)) := by
  obtain ⟨w, hP, hD, hr⟩ := hH
  subst hN
  subst hnm
  refine W.anewA hx hb hown hclink hover rfl hdg rfl hn hbytes hcells hslots fun cB kB comp f1 f2 f3 f4 => ?_
  have e0 : cB = cA := Option.some.inj (f1.symm.trans hT.2.2.1)
  subst e0
  generalize hH1 : H.push ({ cls := cB, slots := Array.replicate n.toNatClampNeg .null, vm := .none } : Cell) = H1
  have z1 : H1.size = H.size + 1 := by rw [← hH1, Array.size_push]
  have e1 : H1[H.size]? = some (arrV cB n.toNatClampNeg (fun _ => .null)) := by rw [← hH1, Array.getElem?_push_size, ← arrV_new]
  have o1 : ∀ q : Nat, q < H.size → H1[q]? = H[q]? := fun q hq => by rw [← hH1, Array.getElem?_push, if_neg (Nat.ne_of_lt hq)]
  have hk : ∀ (k : Nat) (x : Nat × va_E), w[k]? = some x → H1[x.1]? = H[x.1]? := fun k x hx => o1 x.1 ((hP k x hx).lt)
  have hP1 : va_P D vwCl (w ++ [(H.size, .inl (cB, n.toNatClampNeg, .inr (.inr (.inr (.inr (fun _ => none))))))]) H1 := by
    refine (hP.kept hk).app (fun k x hx => ?_)
    have hz : k < 1 := (List.getElem?_eq_some_iff.mp hx).1
    rw [show k = 0 by omega] at hx
    cases hx
    show H1[H.size]? = some (vp_cell _ _)
    rw [vp_cell_q]
    exact e1
  obtain ⟨g1, g2⟩ := h_push hr hP1 (hD.push hP rfl (hA _ hS.1))
  exact kk H.size H1 g1 g2 ⟨Nat.le_trans hS.1 (by omega), fun x h1 h2 => (o1 x (Nat.lt_of_lt_of_le h1 hS.1)).trans (hS.2.1 x h1 h2), hS.2.2⟩
theorem h_new (hx : p.tables.exec = Jvm.exec) (hb : c.code = cc) {own C0 : String} {T : u_T} {N ci index : Nat} {Ts : List Cond} (hts : ∀ w ∈ Ts, w.before args s = true) (hin : ∀ w ∈ u_ws C0 T N, w ∈ Ts) (ty : Nat → FieldType) (hty : ∀ k, k < N → parseFieldDescriptor (T k).2.2.1 = some (ty k)) (hown : s.vm.findClass own = some m.cls) (hcl : (Cond.classLink own index C0).before args s = true) (hinst : (Cond.instantiable C0 N).before args s = true) (hini : (Cond.initialized C0).before args s = true) (hK : va_K D vwCl tys s) (hH : h_H D A C H) (hS : va_S A H0 H locs) (hA : ∀ q, H0.size ≤ q → A q) (hc : vwCl[ci]? = some (C0, T, N)) {fs : List Value} (hfs : ∀ j, j < N → defaultValue (ty j) = vp_V fs j) (hcells : cells + 1 ≤ R.cells) (hslots : slots + N ≤ R.slots) (hdg : decode cc pc = .ok (.new index, 3))
    (kk : ∀ (q : Nat) (H1 : Heap), C q = none → h_H D A (h_U C q (.inr (ci, fs))) H1 → va_S A H0 H1 locs → W p l e R s m args below meth c H1 locs (cells + 1) (slots + N) Q (F0 m (pc + 3) ls (.ref q :: rest))) : W p l e R s m args below meth c H locs cells slots Q (F0 m pc ls rest) := by
  obtain ⟨w, hP, hD, hr⟩ := hH
  refine va_new hx hb hts hin ty hty hown hcl hinst hini hK hP hD hS hA hc hfs hcells hslots hdg fun q H1 hP1 hD1 hS1 => ?_
  obtain ⟨g1, g2⟩ := h_push hr hP1 hD1
  exact kk q H1 g1 g2 hS1
theorem h_get (hx : p.tables.exec = Jvm.exec) (hb : c.code = cc) {own C0 n0 d0 : String} {T : u_T} {N ci index : Nat} {Ts : List Cond} (hts : ∀ w ∈ Ts, w.before args s = true) (hin : ∀ w ∈ u_ws C0 T N, w ∈ Ts) (hown : s.vm.findClass own = some m.cls) (hK : va_K D vwCl tys s) (hH : h_H D A C H) {fs : List Value} (ha : C a = some (.inr (ci, fs))) (hc : vwCl[ci]? = some (C0, T, N)) (k : Nat) (hk : k < N) (hT : T k = (C0, n0, d0, (T k).2.2.2)) (hlink : Cond.fieldLink own index C0 n0 d0 ∈ Ts) {v : Value} (hv : fs[k]? = some v) (hdg : decode cc pc = .ok (.getfield index, 3))
    (kk : W p l e R s m args below meth c H locs cells slots Q (F0 m (pc + 3) ls (v :: rest))) : W p l e R s m args below meth c H locs cells slots Q (F0 m pc ls (.ref a :: rest)) := by
  obtain ⟨w, k0, hP, -, -, hk0⟩ := hH.at ha
  exact va_get (ref := C0) hx hb hts hin hown hK hP k0 hk0 hc k hk (by rw [hT]; exact hts _ hlink) (fun x h => by rw [hT] at h ⊢; exact h) hv hdg kk
theorem h_put (hx : p.tables.exec = Jvm.exec) (hb : c.code = cc) {own C0 n0 d0 : String} {T : u_T} {N ci index : Nat} {Ts : List Cond} (hts : ∀ w ∈ Ts, w.before args s = true) (hin : ∀ w ∈ u_ws C0 T N, w ∈ Ts) (ty0 : Nat → FieldType) (hty : ∀ k, k < N → parseFieldDescriptor (T k).2.2.1 = some (ty0 k)) (hnm : ∀ a, a < N → ∀ b, b < N → a ≠ b → (T a).2.1 ≠ (T b).2.1) (hown : s.vm.findClass own = some m.cls) (hK : va_K D vwCl tys s) (hH : h_H D A C H) (hS : va_S A H0 H locs) {fs : List Value} (ha : C a = some (.inr (ci, fs))) (hc : vwCl[ci]? = some (C0, T, N)) (k : Nat) (hk : k < N) (hT : T k = (C0, n0, d0, false)) (hlink : Cond.fieldLink own index C0 n0 d0 ∈ Ts) {ty : FieldType} {v : Value} (hd : parseFieldDescriptor d0 = some ty) (hn : narrow ty v = v) (hfit : fits ty v = true) (hl : k < fs.length) (hdg : decode cc pc = .ok (.putfield index, 3))
    (kk : ∀ (H1 : Heap) (locs1 : List Loc), h_H D A (h_U C a (.inr (ci, fs.set k v))) H1 → va_S A H0 H1 locs1 → W p l e R s m args below meth c H1 locs1 cells slots Q (F0 m (pc + 3) ls rest)) : W p l e R s m args below meth c H locs cells slots Q (F0 m pc ls (v :: .ref a :: rest)) := by
  obtain ⟨w, k0, hP, hD, hr, hk0⟩ := hH.at ha
  exact va_put (ref := C0) (ty := ty) hx hb hts hin ty0 hty hnm hown hK hP hD hS k0 hk0 hc k hk (by rw [hT]; exact hts _ hlink) (fun x h => by rw [hT] at h ⊢; exact h) (by rw [hT]) (by rw [hT]; exact hd) hn hfit hl hdg fun H1 locs1 hP1 hD1 hS1 => kk H1 locs1 (h_set hD hr hk0 hP1 hD1) hS1
theorem h_putF (hx : p.tables.exec = Jvm.exec) (hb : c.code = cc) {own n0 d0 : String} {T : u_T} {N ci index : Nat} {Ts : List Cond} (hts : ∀ w ∈ Ts, w.before args s = true) (hin : ∀ w ∈ u_ws own T N, w ∈ Ts) (ty0 : Nat → FieldType) (hty : ∀ k, k < N → parseFieldDescriptor (T k).2.2.1 = some (ty0 k)) (hnm : ∀ a, a < N → ∀ b, b < N → a ≠ b → (T a).2.1 ≠ (T b).2.1) (hown : s.vm.findClass own = some m.cls) (hK : va_K D vwCl tys s) (hH : h_H D A C H) (hS : va_S A H0 H locs) {fs : List Value} (ha : C a = some (.inr (ci, fs))) (hc : vwCl[ci]? = some (own, T, N)) (k : Nat) (hk : k < N) (hT : T k = (own, n0, d0, true)) (hin2 : meth.name = "<init>") (hlink : Cond.fieldLink own index own n0 d0 ∈ Ts) {ty : FieldType} {v : Value} (hd : parseFieldDescriptor d0 = some ty) (hn : narrow ty v = v) (hfit : fits ty v = true) (hl : k < fs.length) (hdg : decode cc pc = .ok (.putfield index, 3))
    (kk : ∀ (H1 : Heap) (locs1 : List Loc), h_H D A (h_U C a (.inr (ci, fs.set k v))) H1 → va_S A H0 H1 locs1 → W p l e R s m args below meth c H1 locs1 cells slots Q (F0 m (pc + 3) ls rest)) : W p l e R s m args below meth c H locs cells slots Q (F0 m pc ls (v :: .ref a :: rest)) := by
  obtain ⟨w, k0, hP, hD, hr, hk0⟩ := hH.at ha
  exact va_putF (ref := own) (ty := ty) hx hb hts hin ty0 hty hnm hown hK hP hD hS k0 hk0 hc k hk (by rw [hT]; exact hts _ hlink) (fun x h => by rw [hT] at h ⊢; exact h) (by rw [hT]) hin2 (by rw [hT]) (by rw [hT]; exact hd) hn hfit hl hdg fun H1 locs1 hP1 hD1 hS1 => kk H1 locs1 (h_set hD hr hk0 hP1 hD1) hS1
end HROWS
