section MCALLS
variable {p : Program} {l : Launch} {e : Env} {R : Room} {s : State} {m : MethodId} {args : Array Value} {below : List Frame} {meth : Method} {c : Code} {cc : ByteArray} {H H0 : Heap} {locs : List Loc} {cells slots : Nat} {Q : State → Prop} {pc : Nat} {ls : Array Slot} {rest st0 : List Value} {D : va_G} {A : Nat → Prop} {I Z J : ClassId} {ad : Nat → Nat} {M : Nat → Nat → Int32} {L : Nat → Nat → Int64} {a : Array Value}
theorem mU_blind {av : List Value} {sz : Nat} : FrameBlind (va_Pc av (mU D I Z J ad sz M L)) := by
  rintro a U g mk ⟨h1, h2, h3, h4⟩
  exact ⟨h1, h2, h3, va_K.moved (u := U) (U := U.calling g mk a) (Vm.Alike.refl U.vm) h4⟩
theorem mU_mk {av : List Value} (hK : va_K D vwCl (mT I Z J) s) (hW : mB9 D I Z J ad A H0 M L H locs) : ∀ U : State, U.heap = H → s.WarmedH U.vm → va_Pc av (mU D I Z J ad H.size M L) av.toArray U :=
  fun U hU hW1 => ⟨rfl, by rw [hU], by rw [hU]; exact hW.1, va_K.moved hW1.alike hK⟩
theorem mr_preV {av : List Value} (hK : va_K D vwCl (mT I Z J) s) (hW : mB9 D I Z J ad A H0 M L H locs) : PreV s H RX3 (ad 0) (va_Pc (.ref (ad 0) :: av) (mU D I Z J ad H.size M L)) av :=
  ⟨mU_blind, va_recv (ci := 3) (q0 := 0) (q := (RX3, TX3, 15)) hK hW.1 rfl (by rw [mW, cWn_get ad _ (by decide)]; rfl), mU_mk hK hW⟩
theorem mr_preS {av : List Value} (hK : va_K D vwCl (mT I Z J) s) (hW : mB9 D I Z J ad A H0 M L H locs) : PreS s H (va_Pc av (mU D I Z J ad H.size M L)) av := ⟨mU_blind, mU_mk hK hW⟩
theorem mr_calli {post : Int32 → mU8 → Prop} (hr : va_Run p l e R s m args below meth c H locs cells slots 0 0 (F0 m pc ls st0) rest (va_Qi post (fun (u : mU8) t => mP D I Z J ad u.1 u.2 t.heap) (mA ad H.size) a) (mA ad H.size)) (hA : ∀ q : Nat, H0.size ≤ q → A q) (hDa : mD ad A) (hW : mB9 D I Z J ad A H0 M L H locs)
    (kk : ∀ (r : Int32) (u : mU8) (H1 : Heap) (locs1 : List Loc), post r u → mB9 D I Z J ad A H0 u.1 u.2 H1 locs1 → W p l e R s m args below meth c H1 locs1 cells slots Q (F0 m (pc + 3) ls (.int r :: rest))) : W p l e R s m args below meth c H locs cells slots Q (F0 m pc ls st0) :=
  va_calli hr hW.2 (fun q _ h => hW.2.subm hA hDa q h) (hW.2.subm hA hDa) (fun r u t H1 locs1 ht _ hp hB _ _ hS => kk r u H1 locs1 hp ⟨by rw [← ht]; exact hB, hS⟩)
theorem mr_calll {post : Int64 → mU8 → Prop} (hr : va_Run p l e R s m args below meth c H locs cells slots 0 0 (F0 m pc ls st0) rest (va_Ql post (fun (u : mU8) t => mP D I Z J ad u.1 u.2 t.heap) (mA ad H.size) a) (mA ad H.size)) (hA : ∀ q : Nat, H0.size ≤ q → A q) (hDa : mD ad A) (hW : mB9 D I Z J ad A H0 M L H locs)
    (kk : ∀ (r : Int64) (u : mU8) (H1 : Heap) (locs1 : List Loc), post r u → mB9 D I Z J ad A H0 u.1 u.2 H1 locs1 → W p l e R s m args below meth c H1 locs1 cells slots Q (F0 m (pc + 3) ls (.long r :: rest))) : W p l e R s m args below meth c H locs cells slots Q (F0 m pc ls st0) :=
  va_calll hr hW.2 (fun q _ h => hW.2.subm hA hDa q h) (hW.2.subm hA hDa) (fun r u t H1 locs1 ht _ hp hB _ _ hS => kk r u H1 locs1 hp ⟨by rw [← ht]; exact hB, hS⟩)
theorem mr_calld {post : UInt64 → mU8 → Prop} (hr : va_Run p l e R s m args below meth c H locs cells slots 0 0 (F0 m pc ls st0) rest (va_Qd post (fun (u : mU8) t => mP D I Z J ad u.1 u.2 t.heap) (mA ad H.size) a) (mA ad H.size)) (hA : ∀ q : Nat, H0.size ≤ q → A q) (hDa : mD ad A) (hW : mB9 D I Z J ad A H0 M L H locs)
    (kk : ∀ (r : UInt64) (u : mU8) (H1 : Heap) (locs1 : List Loc), post r u → mB9 D I Z J ad A H0 u.1 u.2 H1 locs1 → W p l e R s m args below meth c H1 locs1 cells slots Q (F0 m (pc + 3) ls (.double r :: rest))) : W p l e R s m args below meth c H locs cells slots Q (F0 m pc ls st0) :=
  va_calld hr hW.2 (fun q _ h => hW.2.subm hA hDa q h) (hW.2.subm hA hDa) (fun r u t H1 locs1 ht _ hp hB _ _ hS => kk r u H1 locs1 hp ⟨by rw [← ht]; exact hB, hS⟩)
theorem mr_callv {post : mU8 → Prop} (hr : va_Run p l e R s m args below meth c H locs cells slots 0 0 (F0 m pc ls st0) rest (va_Qv post (fun (u : mU8) t => mP D I Z J ad u.1 u.2 t.heap) (mA ad H.size) a) (mA ad H.size)) (hA : ∀ q : Nat, H0.size ≤ q → A q) (hDa : mD ad A) (hW : mB9 D I Z J ad A H0 M L H locs)
    (kk : ∀ (u : mU8) (H1 : Heap) (locs1 : List Loc), post u → mB9 D I Z J ad A H0 u.1 u.2 H1 locs1 → W p l e R s m args below meth c H1 locs1 cells slots Q (F0 m (pc + 3) ls (rest))) : W p l e R s m args below meth c H locs cells slots Q (F0 m pc ls st0) :=
  va_callv hr hW.2 (fun q _ h => hW.2.subm hA hDa q h) (hW.2.subm hA hDa) (fun u t H1 locs1 ht _ hp hB _ _ hS => kk u H1 locs1 hp ⟨by rw [← ht]; exact hB, hS⟩)
/-- System.arraycopy between two long arrays -/
theorem mr_copyl (hx : p.tables.exec = Jvm.exec) (hb : c.code = cc) (hml : c.maxLocals = ls.size) {index : Nat} {Ts : List Cond} (hts : ∀ w ∈ Ts, w.before args s = true) (hown : s.vm.findClass RX3 = some m.cls) (hlink : Cond.methodLink RX3 index arraycopyName ∈ Ts) (hnat : Cond.native arraycopyName ∈ Ts) (hstat : Cond.static arraycopyName ∈ Ts) (hini : Cond.initialized "java/lang/System" ∈ Ts)
    (hK : va_K D vwCl (mT I Z J) s) (hDa : mD ad A) (hW : mB9 D I Z J ad A H0 M L H locs) (i j : Nat) (hi : i < 13) (hj : j < 13) {n0 n1 : Nat} (hei : ∀ (f : Nat → Int32) (g : Nat → Int64), mS I Z J ad i f g = .inl (J, n0, .inr (.inl g))) (hej : ∀ (f : Nat → Int32) (g : Nat → Int64), mS I Z J ad j f g = .inl (J, n1, .inr (.inl g))) (sp dp n : Nat) {x y z : Int32} (hxs : x = nI sp) (hyd : y = nI dp) (hzn : z = nI n) (hs31 : sp < 2 ^ 31) (hd31 : dp < 2 ^ 31) (hn : n < 2 ^ 31) (h0 : sp + n ≤ n0) (h1 : dp + n ≤ n1)
    (hframes : 1 ≤ R.frames) (hlocals : (rest.map fun v => v.category).sum + (nativeFrameWords "java/lang/System" "arraycopy" 5 + 11) ≤ R.locals) (hdg : decode cc pc = .ok (.invokestatic index, 3))
    (kk : ∀ (H1 : Heap) (locs1 : List Loc), mB9 D I Z J ad A H0 M (lrow L j (va_cpy (L i) (L j) sp dp n)) H1 locs1 → W p l e R s m args below meth c H1 locs1 cells slots Q (F0 m (pc + 3) ls rest)) : W p l e R s m args below meth c H locs cells slots Q (F0 m pc ls (.int z :: .int y :: .ref (ad j) :: .int x :: .ref (ad i) :: rest)) := by
  subst hxs; subst hyd; subst hzn
  refine va_copyl hx hb hml hown (hts _ hlink) (hts _ hnat) (hts _ hstat) (hts _ hini) hK hW.1 (hDa.d _) hW.2 i j 2 2 (f := L i) (g := L j) (by rw [mW, cWn_get ad _ hi]; exact congrArg (fun z => some (ad i, z)) (hei _ _)) (by rw [mW, cWn_get ad _ hj]; exact congrArg (fun z => some (ad j, z)) (hej _ _)) rfl rfl rfl (nI_pos hs31) (nI_pos hd31) (nI_pos hn) (by rw [nI_clamp hs31, nI_clamp hn]; exact h0) (by rw [nI_clamp hd31, nI_clamp hn]; exact h1) (fun _ _ => rfl) hframes hlocals hdg fun H1 locs1 hP _ hS => ?_
  rw [nI_clamp hs31, nI_clamp hd31, nI_clamp hn] at hP
  exact kk H1 locs1 (mB9.setl (hej _ _) hP hS)
/-- what stands at the entry of one of the reference's methods, and stays -/
def mX (p : Program) (s : State) (m : MethodId) (meth : Method) (c : Code) (args : Array Value) (av : List Value) (D : va_G) (I Z J : ClassId) (ad : Nat → Nat) (A : Nat → Prop) (ws : List Cond) (cc : ByteArray) (maxL : Nat) : Prop :=
  p.tables.exec = Jvm.exec ∧ c.code = cc ∧ c.maxLocals = maxL ∧ (∀ w ∈ ws, w.before args s = true) ∧ s.vm.findClass RX3 = some m.cls ∧ meth.locks = false ∧ va_K D vwCl (mT I Z J) s ∧ mD ad A ∧ (∀ q : Nat, s.heap.size ≤ q → A q) ∧ args = av.toArray
theorem mMet_i {y : MethodName} {ws ws' : List Cond} {rm : Room} {maxL sz : Nat} {av : List Value} {post : Int32 → mU8 → Prop} (hI : mI ad) (hy : plainName y.cls = true) (hw : ws = Cond.code y cc maxL (some .int) :: ws') (hC : y.cls = RX3) (hle : (lg_sl av).length ≤ maxL) {lv : List (Nat × Value)} (hlv : lv_args 0 av = lv)
    (body : ∀ (p : Program) (e : Env) (s : State) (m : MethodId) (args : Array Value) (below : List Frame) (meth : Method) (c : Code) (Q : State → Prop) (A : Nat → Prop) (ls : Array Slot), s.heap.size = sz → mX p s m meth c args av D I Z J ad A ws cc maxL → mB9 D I Z J ad A s.heap M L s.heap [] → lv_has ls maxL lv →
      (∀ (pc : Nat) (ls : Array Slot) (H : Heap) (locs : List Loc) (r : Int32) (u : mU8), decode cc pc = .ok (.ireturn, 1) → post r u → mB9 D I Z J ad A s.heap u.1 u.2 H locs → W p l e rm s m args below meth c H locs 0 0 Q (F0 m pc ls [.int r])) →
      W p l e rm s m args below meth c s.heap [] 0 0 Q (F0 m 0 ls [])) :
    Met l y ws rm (va_Pc av (mU D I Z J ad sz M L)) (va_Qi post (fun (u : mU8) t => mP D I Z J ad u.1 u.2 t.heap) (mA ad sz)) 0 0 (mA ad sz) := by
  refine Met.ofW (cc := cc) (maxL := maxL) (ret := (some .int)) hy hw ?_
  intro p e s m args below meth c s₁ B hml hv
  obtain ⟨hargs, hsz, hP, hK⟩ := hv
  have hown : s.vm.findClass RX3 = some m.cls := by rw [← hC]; exact findClass_of_methodNamed B.named
  have hl := lv_entry av (n := maxL) hle
  rw [hlv] at hl
  have he : entryFrame m args maxL = F0 m 0 ((lg_sl av ++ List.replicate (maxL - (lg_sl av).length) Slot.unset).toArray) [] := by rw [hargs]; exact lg_entry_eq m av maxL
  rw [he]
  refine body p e s m args below meth c _ (mA ad s.heap.size) _ hsz ⟨B.exec, B.bytes, hml, atoms_spec (ws := ws) B.pre, hown, B.notSynchronized, hK, hI.d s.heap.size, fun q h => Or.inr h, hargs⟩ ⟨hP, va_S.rf⟩ hl (fun pc ls H locs r u hd hp hW => ?_)
  rw [← hsz]
  exact W.iret (v := r) B.exec B.bytes B.returns (fun t ht _ => ⟨⟨r, u, rfl, hp, by show mP D I Z J ad u.1 u.2 t.heap; rw [ht]; exact hW.1⟩, hW.2.F ht⟩) hW.2.2.2 hd
theorem mMet_z {y : MethodName} {ws ws' : List Cond} {rm : Room} {maxL sz : Nat} {av : List Value} {post : Int32 → mU8 → Prop} (hI : mI ad) (hy : plainName y.cls = true) (hw : ws = Cond.code y cc maxL (some .boolean) :: ws') (hC : y.cls = RX3) (hle : (lg_sl av).length ≤ maxL) {lv : List (Nat × Value)} (hlv : lv_args 0 av = lv)
    (body : ∀ (p : Program) (e : Env) (s : State) (m : MethodId) (args : Array Value) (below : List Frame) (meth : Method) (c : Code) (Q : State → Prop) (A : Nat → Prop) (ls : Array Slot), s.heap.size = sz → mX p s m meth c args av D I Z J ad A ws cc maxL → mB9 D I Z J ad A s.heap M L s.heap [] → lv_has ls maxL lv →
      (∀ (pc : Nat) (ls : Array Slot) (H : Heap) (locs : List Loc) (r : Int32) (u : mU8), decode cc pc = .ok (.ireturn, 1) → post r u → (r = 0 ∨ r = 1) → mB9 D I Z J ad A s.heap u.1 u.2 H locs → W p l e rm s m args below meth c H locs 0 0 Q (F0 m pc ls [.int r])) →
      W p l e rm s m args below meth c s.heap [] 0 0 Q (F0 m 0 ls [])) :
    Met l y ws rm (va_Pc av (mU D I Z J ad sz M L)) (va_Qi post (fun (u : mU8) t => mP D I Z J ad u.1 u.2 t.heap) (mA ad sz)) 0 0 (mA ad sz) := by
  refine Met.ofW (cc := cc) (maxL := maxL) (ret := (some .boolean)) hy hw ?_
  intro p e s m args below meth c s₁ B hml hv
  obtain ⟨hargs, hsz, hP, hK⟩ := hv
  have hown : s.vm.findClass RX3 = some m.cls := by rw [← hC]; exact findClass_of_methodNamed B.named
  have hl := lv_entry av (n := maxL) hle
  rw [hlv] at hl
  have he : entryFrame m args maxL = F0 m 0 ((lg_sl av ++ List.replicate (maxL - (lg_sl av).length) Slot.unset).toArray) [] := by rw [hargs]; exact lg_entry_eq m av maxL
  rw [he]
  refine body p e s m args below meth c _ (mA ad s.heap.size) _ hsz ⟨B.exec, B.bytes, hml, atoms_spec (ws := ws) B.pre, hown, B.notSynchronized, hK, hI.d s.heap.size, fun q h => Or.inr h, hargs⟩ ⟨hP, va_S.rf⟩ hl (fun pc ls H locs r u hd hp h01 hW => ?_)
  rw [← hsz]
  exact W.zret (v := r) (ty := .boolean) B.exec B.bytes B.returns (by rcases h01 with rfl | rfl <;> rfl) (fun t ht _ => ⟨⟨r, u, rfl, hp, by show mP D I Z J ad u.1 u.2 t.heap; rw [ht]; exact hW.1⟩, hW.2.F ht⟩) hW.2.2.2 hd
theorem mMet_l {y : MethodName} {ws ws' : List Cond} {rm : Room} {maxL sz : Nat} {av : List Value} {post : Int64 → mU8 → Prop} (hI : mI ad) (hy : plainName y.cls = true) (hw : ws = Cond.code y cc maxL (some .long) :: ws') (hC : y.cls = RX3) (hle : (lg_sl av).length ≤ maxL) {lv : List (Nat × Value)} (hlv : lv_args 0 av = lv)
    (body : ∀ (p : Program) (e : Env) (s : State) (m : MethodId) (args : Array Value) (below : List Frame) (meth : Method) (c : Code) (Q : State → Prop) (A : Nat → Prop) (ls : Array Slot), s.heap.size = sz → mX p s m meth c args av D I Z J ad A ws cc maxL → mB9 D I Z J ad A s.heap M L s.heap [] → lv_has ls maxL lv →
      (∀ (pc : Nat) (ls : Array Slot) (H : Heap) (locs : List Loc) (r : Int64) (u : mU8), decode cc pc = .ok (.lreturn, 1) → post r u → mB9 D I Z J ad A s.heap u.1 u.2 H locs → W p l e rm s m args below meth c H locs 0 0 Q (F0 m pc ls [.long r])) →
      W p l e rm s m args below meth c s.heap [] 0 0 Q (F0 m 0 ls [])) :
    Met l y ws rm (va_Pc av (mU D I Z J ad sz M L)) (va_Ql post (fun (u : mU8) t => mP D I Z J ad u.1 u.2 t.heap) (mA ad sz)) 0 0 (mA ad sz) := by
  refine Met.ofW (cc := cc) (maxL := maxL) (ret := (some .long)) hy hw ?_
  intro p e s m args below meth c s₁ B hml hv
  obtain ⟨hargs, hsz, hP, hK⟩ := hv
  have hown : s.vm.findClass RX3 = some m.cls := by rw [← hC]; exact findClass_of_methodNamed B.named
  have hl := lv_entry av (n := maxL) hle
  rw [hlv] at hl
  have he : entryFrame m args maxL = F0 m 0 ((lg_sl av ++ List.replicate (maxL - (lg_sl av).length) Slot.unset).toArray) [] := by rw [hargs]; exact lg_entry_eq m av maxL
  rw [he]
  refine body p e s m args below meth c _ (mA ad s.heap.size) _ hsz ⟨B.exec, B.bytes, hml, atoms_spec (ws := ws) B.pre, hown, B.notSynchronized, hK, hI.d s.heap.size, fun q h => Or.inr h, hargs⟩ ⟨hP, va_S.rf⟩ hl (fun pc ls H locs r u hd hp hW => ?_)
  rw [← hsz]
  exact W.lret (v := r) B.exec B.bytes B.returns (fun t ht _ => ⟨⟨r, u, rfl, hp, by show mP D I Z J ad u.1 u.2 t.heap; rw [ht]; exact hW.1⟩, hW.2.F ht⟩) hW.2.2.2 hd
theorem mMet_d {y : MethodName} {ws ws' : List Cond} {rm : Room} {maxL sz : Nat} {av : List Value} {post : UInt64 → mU8 → Prop} (hI : mI ad) (hy : plainName y.cls = true) (hw : ws = Cond.code y cc maxL (some .double) :: ws') (hC : y.cls = RX3) (hle : (lg_sl av).length ≤ maxL) {lv : List (Nat × Value)} (hlv : lv_args 0 av = lv)
    (body : ∀ (p : Program) (e : Env) (s : State) (m : MethodId) (args : Array Value) (below : List Frame) (meth : Method) (c : Code) (Q : State → Prop) (A : Nat → Prop) (ls : Array Slot), s.heap.size = sz → mX p s m meth c args av D I Z J ad A ws cc maxL → mB9 D I Z J ad A s.heap M L s.heap [] → lv_has ls maxL lv →
      (∀ (pc : Nat) (ls : Array Slot) (H : Heap) (locs : List Loc) (r : UInt64) (u : mU8), decode cc pc = .ok (.dreturn, 1) → post r u → mB9 D I Z J ad A s.heap u.1 u.2 H locs → W p l e rm s m args below meth c H locs 0 0 Q (F0 m pc ls [.double r])) →
      W p l e rm s m args below meth c s.heap [] 0 0 Q (F0 m 0 ls [])) :
    Met l y ws rm (va_Pc av (mU D I Z J ad sz M L)) (va_Qd post (fun (u : mU8) t => mP D I Z J ad u.1 u.2 t.heap) (mA ad sz)) 0 0 (mA ad sz) := by
  refine Met.ofW (cc := cc) (maxL := maxL) (ret := (some .double)) hy hw ?_
  intro p e s m args below meth c s₁ B hml hv
  obtain ⟨hargs, hsz, hP, hK⟩ := hv
  have hown : s.vm.findClass RX3 = some m.cls := by rw [← hC]; exact findClass_of_methodNamed B.named
  have hl := lv_entry av (n := maxL) hle
  rw [hlv] at hl
  have he : entryFrame m args maxL = F0 m 0 ((lg_sl av ++ List.replicate (maxL - (lg_sl av).length) Slot.unset).toArray) [] := by rw [hargs]; exact lg_entry_eq m av maxL
  rw [he]
  refine body p e s m args below meth c _ (mA ad s.heap.size) _ hsz ⟨B.exec, B.bytes, hml, atoms_spec (ws := ws) B.pre, hown, B.notSynchronized, hK, hI.d s.heap.size, fun q h => Or.inr h, hargs⟩ ⟨hP, va_S.rf⟩ hl (fun pc ls H locs r u hd hp hW => ?_)
  rw [← hsz]
  exact W.dret (v := r) B.exec B.bytes B.returns (fun t ht _ => ⟨⟨r, u, rfl, hp, by show mP D I Z J ad u.1 u.2 t.heap; rw [ht]; exact hW.1⟩, hW.2.F ht⟩) hW.2.2.2 hd B.notSynchronized
theorem mMet_v {y : MethodName} {ws ws' : List Cond} {rm : Room} {maxL sz : Nat} {av : List Value} {post : mU8 → Prop} (hI : mI ad) (hy : plainName y.cls = true) (hw : ws = Cond.code y cc maxL none :: ws') (hC : y.cls = RX3) (hle : (lg_sl av).length ≤ maxL) {lv : List (Nat × Value)} (hlv : lv_args 0 av = lv)
    (body : ∀ (p : Program) (e : Env) (s : State) (m : MethodId) (args : Array Value) (below : List Frame) (meth : Method) (c : Code) (Q : State → Prop) (A : Nat → Prop) (ls : Array Slot), s.heap.size = sz → mX p s m meth c args av D I Z J ad A ws cc maxL → mB9 D I Z J ad A s.heap M L s.heap [] → lv_has ls maxL lv →
      (∀ (pc : Nat) (ls : Array Slot) (H : Heap) (locs : List Loc) (u : mU8), decode cc pc = .ok (.return_, 1) → post u → mB9 D I Z J ad A s.heap u.1 u.2 H locs → W p l e rm s m args below meth c H locs 0 0 Q (F0 m pc ls [])) →
      W p l e rm s m args below meth c s.heap [] 0 0 Q (F0 m 0 ls [])) :
    Met l y ws rm (va_Pc av (mU D I Z J ad sz M L)) (va_Qv post (fun (u : mU8) t => mP D I Z J ad u.1 u.2 t.heap) (mA ad sz)) 0 0 (mA ad sz) := by
  refine Met.ofW (cc := cc) (maxL := maxL) (ret := none) hy hw ?_
  intro p e s m args below meth c s₁ B hml hv
  obtain ⟨hargs, hsz, hP, hK⟩ := hv
  have hown : s.vm.findClass RX3 = some m.cls := by rw [← hC]; exact findClass_of_methodNamed B.named
  have hl := lv_entry av (n := maxL) hle
  rw [hlv] at hl
  have he : entryFrame m args maxL = F0 m 0 ((lg_sl av ++ List.replicate (maxL - (lg_sl av).length) Slot.unset).toArray) [] := by rw [hargs]; exact lg_entry_eq m av maxL
  rw [he]
  refine body p e s m args below meth c _ (mA ad s.heap.size) _ hsz ⟨B.exec, B.bytes, hml, atoms_spec (ws := ws) B.pre, hown, B.notSynchronized, hK, hI.d s.heap.size, fun q h => Or.inr h, hargs⟩ ⟨hP, va_S.rf⟩ hl (fun pc ls H locs u hd hp hW => ?_)
  rw [← hsz]
  exact W.vret B.exec B.bytes B.returns (fun t ht _ => ⟨⟨u, rfl, hp, by show mP D I Z J ad u.1 u.2 t.heap; rw [ht]; exact hW.1⟩, hW.2.F ht⟩) hW.2.2.2 hd
end MCALLS
