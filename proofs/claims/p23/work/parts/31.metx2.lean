section CMETX2
variable {p : Program} {l : Launch} {e : Env} {R : Room} {s : State} {m : MethodId} {args : Array Value} {below : List Frame} {meth : Method} {c : Code} {H H0 : Heap} {locs : List Loc} {cells slots : Nat} {Q : State → Prop} {pc : Nat} {ls : Array Slot} {rest st0 : List Value} {A : Nat → Prop} {a : Array Value}
variable {D : va_G} {I Z F : ClassId} {ad : Nat → Nat} {sa : Nat → Nat} {M : Nat → Nat → Int32} {sz : Nat} {y : MethodName} {ws ws' : List Cond} {rm : Room} {cc : ByteArray} {maxL : Nat} {av : List Value}
theorem cMetX_i {post : Int32 → (Nat → Nat → Int32) → Prop} {XP : String → Prop} {mc ms : Nat} (hst : l.stackTraces = false) (hI : cI ad) (hy : plainName y.cls = true) (hw : ws = Cond.code y cc maxL (some .int) :: ws') (hrm : rm.cells = mc ∧ rm.slots = ms ∧ 6 ≤ rm.frames ∧ 82 ≤ rm.locals) (C : String) (hC : y.cls = C) (hle : (lg_sl av).length ≤ maxL) {lv : List (Nat × Value)} (hlv : lv_args 0 av = lv)
    (body : ∀ (p : Program) (e : Env) (s : State) (m : MethodId) (args : Array Value) (below : List Frame) (meth : Method) (c : Code) (Q : State → Prop) (A : Nat → Prop) (ls : Array Slot), s.heap.size = sz → cX p s m meth c args av D I Z F ad A ws C cc maxL → xE sa A s s.heap → cB9 D I Z F ad A s.heap M s.heap [] → lv_has ls maxL lv →
      (∀ (pc : Nat) (ls : Array Slot) (H : Heap) (locs : List Loc) (cells slots : Nat) (r : Int32) (u : Nat → Nat → Int32), decode cc pc = .ok (.ireturn, 1) → cells ≤ mc → slots ≤ ms → post r u → cB9 D I Z F ad A s.heap u H locs → W p l e rm s m args below meth c H locs cells slots Q (F0 m pc ls [.int r])) →
      xThr D I Z F ad sa M XP ws C cc mc ms p l e rm s m args below meth c Q A maxL → xPrp D I Z F ad M XP mc ms p l e rm s m args below meth c Q A →
      W p l e rm s m args below meth c s.heap [] 0 0 Q (F0 m 0 ls [])) :
    vx_Met l y ws rm (va_Pc av (cUX D I Z F ad sa sz M)) (va_Qi post (fun u t => cP D I Z F ad u t.heap) (cA ad sz)) (xQ D I Z F ad M sz XP) mc ms (cA ad sz) := by
  refine cMetX_body (ret := (some .int)) hst hI hy hw hrm C hC hle hlv ?_
  intro p e s m args below meth c Q A ls hsz hA9 hr hQ C0 hX hW hl hthr hprp
  refine body p e s m args below meth c Q A ls hsz C0 hX hW hl ?_ hthr hprp
  intro pc ls H locs cells slots r u hd hc1 hs1 hp hW
  obtain ⟨hx, hb, hml, hts, hown, hlocks, hK, hN, hDa, hA, hargs⟩ := C0
  rw [hQ]
  subst hA9
  have hF : ∀ t : State, t.heap = H → va_F (cA ad sz) s t := fun t ht => hW.2.F ht
  exact vx_ret (W.widen hc1 hs1 (W.iret (v := r) hx hb hr (fun t ht _ => ⟨⟨r, u, rfl, hp, by show cP D I Z F ad u t.heap; rw [ht]; exact hW.1⟩, hF t ht⟩) hW.2.2.2 hd))
theorem cMetX_z {post : Int32 → (Nat → Nat → Int32) → Prop} {XP : String → Prop} {mc ms : Nat} (hst : l.stackTraces = false) (hI : cI ad) (hy : plainName y.cls = true) (hw : ws = Cond.code y cc maxL (some .boolean) :: ws') (hrm : rm.cells = mc ∧ rm.slots = ms ∧ 6 ≤ rm.frames ∧ 82 ≤ rm.locals) (C : String) (hC : y.cls = C) (hle : (lg_sl av).length ≤ maxL) {lv : List (Nat × Value)} (hlv : lv_args 0 av = lv)
    (body : ∀ (p : Program) (e : Env) (s : State) (m : MethodId) (args : Array Value) (below : List Frame) (meth : Method) (c : Code) (Q : State → Prop) (A : Nat → Prop) (ls : Array Slot), s.heap.size = sz → cX p s m meth c args av D I Z F ad A ws C cc maxL → xE sa A s s.heap → cB9 D I Z F ad A s.heap M s.heap [] → lv_has ls maxL lv →
      (∀ (pc : Nat) (ls : Array Slot) (H : Heap) (locs : List Loc) (cells slots : Nat) (r : Int32) (u : Nat → Nat → Int32), decode cc pc = .ok (.ireturn, 1) → cells ≤ mc → slots ≤ ms → post r u → (r = 0 ∨ r = 1) → cB9 D I Z F ad A s.heap u H locs → W p l e rm s m args below meth c H locs cells slots Q (F0 m pc ls [.int r])) →
      xThr D I Z F ad sa M XP ws C cc mc ms p l e rm s m args below meth c Q A maxL → xPrp D I Z F ad M XP mc ms p l e rm s m args below meth c Q A →
      W p l e rm s m args below meth c s.heap [] 0 0 Q (F0 m 0 ls [])) :
    vx_Met l y ws rm (va_Pc av (cUX D I Z F ad sa sz M)) (va_Qi post (fun u t => cP D I Z F ad u t.heap) (cA ad sz)) (xQ D I Z F ad M sz XP) mc ms (cA ad sz) := by
  refine cMetX_body (ret := (some .boolean)) hst hI hy hw hrm C hC hle hlv ?_
  intro p e s m args below meth c Q A ls hsz hA9 hr hQ C0 hX hW hl hthr hprp
  refine body p e s m args below meth c Q A ls hsz C0 hX hW hl ?_ hthr hprp
  intro pc ls H locs cells slots r u hd hc1 hs1 hp h01 hW
  obtain ⟨hx, hb, hml, hts, hown, hlocks, hK, hN, hDa, hA, hargs⟩ := C0
  rw [hQ]
  subst hA9
  have hF : ∀ t : State, t.heap = H → va_F (cA ad sz) s t := fun t ht => hW.2.F ht
  exact vx_ret (W.widen hc1 hs1 (W.zret (v := r) (ty := .boolean) hx hb hr (by rcases h01 with rfl | rfl <;> rfl) (fun t ht _ => ⟨⟨r, u, rfl, hp, by show cP D I Z F ad u t.heap; rw [ht]; exact hW.1⟩, hF t ht⟩) hW.2.2.2 hd))
theorem cMetX_v {post : (Nat → Nat → Int32) → Prop} {XP : String → Prop} {mc ms : Nat} (hst : l.stackTraces = false) (hI : cI ad) (hy : plainName y.cls = true) (hw : ws = Cond.code y cc maxL none :: ws') (hrm : rm.cells = mc ∧ rm.slots = ms ∧ 6 ≤ rm.frames ∧ 82 ≤ rm.locals) (C : String) (hC : y.cls = C) (hle : (lg_sl av).length ≤ maxL) {lv : List (Nat × Value)} (hlv : lv_args 0 av = lv)
    (body : ∀ (p : Program) (e : Env) (s : State) (m : MethodId) (args : Array Value) (below : List Frame) (meth : Method) (c : Code) (Q : State → Prop) (A : Nat → Prop) (ls : Array Slot), s.heap.size = sz → cX p s m meth c args av D I Z F ad A ws C cc maxL → xE sa A s s.heap → cB9 D I Z F ad A s.heap M s.heap [] → lv_has ls maxL lv →
      (∀ (pc : Nat) (ls : Array Slot) (H : Heap) (locs : List Loc) (cells slots : Nat) (u : Nat → Nat → Int32), decode cc pc = .ok (.return_, 1) → cells ≤ mc → slots ≤ ms → post u → cB9 D I Z F ad A s.heap u H locs → W p l e rm s m args below meth c H locs cells slots Q (F0 m pc ls [])) →
      xThr D I Z F ad sa M XP ws C cc mc ms p l e rm s m args below meth c Q A maxL → xPrp D I Z F ad M XP mc ms p l e rm s m args below meth c Q A →
      W p l e rm s m args below meth c s.heap [] 0 0 Q (F0 m 0 ls [])) :
    vx_Met l y ws rm (va_Pc av (cUX D I Z F ad sa sz M)) (va_Qv post (fun u t => cP D I Z F ad u t.heap) (cA ad sz)) (xQ D I Z F ad M sz XP) mc ms (cA ad sz) := by
  refine cMetX_body (ret := none) hst hI hy hw hrm C hC hle hlv ?_
  intro p e s m args below meth c Q A ls hsz hA9 hr hQ C0 hX hW hl hthr hprp
  refine body p e s m args below meth c Q A ls hsz C0 hX hW hl ?_ hthr hprp
  intro pc ls H locs cells slots u hd hc1 hs1 hp hW
  obtain ⟨hx, hb, hml, hts, hown, hlocks, hK, hN, hDa, hA, hargs⟩ := C0
  rw [hQ]
  subst hA9
  have hF : ∀ t : State, t.heap = H → va_F (cA ad sz) s t := fun t ht => hW.2.F ht
  exact vx_ret (W.widen hc1 hs1 (W.vret hx hb hr (fun t ht _ => ⟨⟨u, rfl, hp, by show cP D I Z F ad u t.heap; rw [ht]; exact hW.1⟩, hF t ht⟩) hW.2.2.2 hd))
theorem cMetX_d {post : UInt64 → (Nat → Nat → Int32) → Prop} {XP : String → Prop} {mc ms : Nat} (hst : l.stackTraces = false) (hI : cI ad) (hy : plainName y.cls = true) (hw : ws = Cond.code y cc maxL (some .double) :: ws') (hrm : rm.cells = mc ∧ rm.slots = ms ∧ 6 ≤ rm.frames ∧ 82 ≤ rm.locals) (C : String) (hC : y.cls = C) (hle : (lg_sl av).length ≤ maxL) {lv : List (Nat × Value)} (hlv : lv_args 0 av = lv)
    (body : ∀ (p : Program) (e : Env) (s : State) (m : MethodId) (args : Array Value) (below : List Frame) (meth : Method) (c : Code) (Q : State → Prop) (A : Nat → Prop) (ls : Array Slot), s.heap.size = sz → cX p s m meth c args av D I Z F ad A ws C cc maxL → xE sa A s s.heap → cB9 D I Z F ad A s.heap M s.heap [] → lv_has ls maxL lv →
      (∀ (pc : Nat) (ls : Array Slot) (H : Heap) (locs : List Loc) (cells slots : Nat) (r : UInt64) (u : Nat → Nat → Int32), decode cc pc = .ok (.dreturn, 1) → cells ≤ mc → slots ≤ ms → post r u → cB9 D I Z F ad A s.heap u H locs → W p l e rm s m args below meth c H locs cells slots Q (F0 m pc ls [.double r])) →
      xThr D I Z F ad sa M XP ws C cc mc ms p l e rm s m args below meth c Q A maxL → xPrp D I Z F ad M XP mc ms p l e rm s m args below meth c Q A →
      W p l e rm s m args below meth c s.heap [] 0 0 Q (F0 m 0 ls [])) :
    vx_Met l y ws rm (va_Pc av (cUX D I Z F ad sa sz M)) (va_Qd post (fun u t => cP D I Z F ad u t.heap) (cA ad sz)) (xQ D I Z F ad M sz XP) mc ms (cA ad sz) := by
  refine cMetX_body (ret := (some .double)) hst hI hy hw hrm C hC hle hlv ?_
  intro p e s m args below meth c Q A ls hsz hA9 hr hQ C0 hX hW hl hthr hprp
  refine body p e s m args below meth c Q A ls hsz C0 hX hW hl ?_ hthr hprp
  intro pc ls H locs cells slots r u hd hc1 hs1 hp hW
  obtain ⟨hx, hb, hml, hts, hown, hlocks, hK, hN, hDa, hA, hargs⟩ := C0
  rw [hQ]
  subst hA9
  have hF : ∀ t : State, t.heap = H → va_F (cA ad sz) s t := fun t ht => hW.2.F ht
  exact vx_ret (W.widen hc1 hs1 (W.dret (v := r) hx hb hr (fun t ht _ => ⟨⟨r, u, rfl, hp, by show cP D I Z F ad u t.heap; rw [ht]; exact hW.1⟩, hF t ht⟩) hW.2.2.2 hd))
theorem cMetX_q {post : Option Nat → Nat → Prop} {XP : String → Prop} {mc ms : Nat} (hst : l.stackTraces = false) (hI : cI ad) (hy : plainName y.cls = true) (hw : ws = Cond.code y cc maxL (some (.object "SharedForks$Fold")) :: ws') (hrm : rm.cells = mc ∧ rm.slots = ms ∧ 6 ≤ rm.frames ∧ 82 ≤ rm.locals) (C : String) (hC : y.cls = C) (hle : (lg_sl av).length ≤ maxL) {lv : List (Nat × Value)} (hlv : lv_args 0 av = lv)
    (body : ∀ (p : Program) (e : Env) (s : State) (m : MethodId) (args : Array Value) (below : List Frame) (meth : Method) (c : Code) (Q : State → Prop) (A : Nat → Prop) (ls : Array Slot), s.heap.size = sz → cX p s m meth c args av D I Z F ad A ws C cc maxL → xE sa A s s.heap → cB9 D I Z F ad A s.heap M s.heap [] → lv_has ls maxL lv →
      (∀ (pc : Nat) (ls : Array Slot) (H : Heap) (locs : List Loc) (cells slots : Nat) (r : Nat) (k : Nat), decode cc pc = .ok (.areturn, 1) → cells ≤ mc → slots ≤ ms → post (some r) k → cB9 D I Z F ad A s.heap M H locs → W p l e rm s m args below meth c H locs cells slots Q (F0 m pc ls [.ref r])) →
      xThr D I Z F ad sa M XP ws C cc mc ms p l e rm s m args below meth c Q A maxL → xPrp D I Z F ad M XP mc ms p l e rm s m args below meth c Q A →
      W p l e rm s m args below meth c s.heap [] 0 0 Q (F0 m 0 ls [])) :
    vx_Met l y ws rm (va_Pc av (cUX D I Z F ad sa sz M)) (va_Qq post (fun (_ : Nat) t => cP D I Z F ad M t.heap) (cA ad sz)) (xQ D I Z F ad M sz XP) mc ms (cA ad sz) := by
  refine cMetX_body (ret := (some (.object "SharedForks$Fold"))) hst hI hy hw hrm C hC hle hlv ?_
  intro p e s m args below meth c Q A ls hsz hA9 hr hQ C0 hX hW hl hthr hprp
  refine body p e s m args below meth c Q A ls hsz C0 hX hW hl ?_ hthr hprp
  intro pc ls H locs cells slots r k hd hc1 hs1 hp hW
  obtain ⟨hx, hb, hml, hts, hown, hlocks, hK, hN, hDa, hA, hargs⟩ := C0
  rw [hQ]
  subst hA9
  have hF : ∀ t : State, t.heap = H → va_F (cA ad sz) s t := fun t ht => hW.2.F ht
  exact vx_ret (W.widen hc1 hs1 (W.aret (v := .ref r) hx hb hr (Or.inl ⟨_, rfl⟩) (Or.inr ⟨_, rfl⟩) (fun t ht _ => ⟨⟨some r, k, rfl, hp, by show cP D I Z F ad M t.heap; rw [ht]; exact hW.1⟩, hF t ht⟩) hW.2.2.2 hd))
/-- a call of a method that may throw: what it throws goes on to the caller's caller -/
theorem cx_calli {post : Int32 → (Nat → Nat → Int32) → Prop} {XP : String → Prop} {mc ms : Nat} (hr : vx_Run p l e R s m args below meth c H locs cells slots mc ms (F0 m pc ls st0) rest (va_Qi post (fun u t => cP D I Z F ad u t.heap) (cA ad H.size) a) (xQ D I Z F ad M H.size XP) (cA ad H.size)) (hA : ∀ q : Nat, H0.size ≤ q → A q) (hDa : cD ad A) (hW : cB9 D I Z F ad A H0 M H locs)
    (kx : ∀ (E : String) (ce : Cell) (q : Addr) (H1 : Heap) (locs1 : List Loc), XP E → cB9 D I Z F ad A H0 M H1 locs1 → H1[q]? = some ce → ce.vm = .none → s.vm.findClass E = some ce.cls → vx_W p l e R s m args below meth c H1 locs1 (cells + mc) (slots + ms) Q (F0 m pc ls rest) q)
    (kk : ∀ (r : Int32) (u : Nat → Nat → Int32) (H1 : Heap) (locs1 : List Loc), post r u → cB9 D I Z F ad A H0 u H1 locs1 → W p l e R s m args below meth c H1 locs1 (cells + mc) (slots + ms) Q (F0 m (pc + 3) ls (.int r :: rest))) : W p l e R s m args below meth c H locs cells slots Q (F0 m pc ls st0) :=
  vx_calli hr hW.2 (fun q _ h => hW.2.sub hA hDa q h) (hW.2.sub hA hDa) (fun q _ h => hW.2.sub hA hDa q h) (fun E ce q9 u t H1 locs1 ht _ _ hB _ _ hS h1 h2 h3 => kx E ce q9 H1 locs1 hB.1 ⟨by rw [← ht]; exact hB.2, hS⟩ h1 h2 h3) (fun r u t H1 locs1 ht _ hp hB _ _ hS => kk r u H1 locs1 hp ⟨by rw [← ht]; exact hB, hS⟩)
theorem cx_calld {post : UInt64 → (Nat → Nat → Int32) → Prop} {XP : String → Prop} {mc ms : Nat} (hr : vx_Run p l e R s m args below meth c H locs cells slots mc ms (F0 m pc ls st0) rest (va_Qd post (fun u t => cP D I Z F ad u t.heap) (cA ad H.size) a) (xQ D I Z F ad M H.size XP) (cA ad H.size)) (hA : ∀ q : Nat, H0.size ≤ q → A q) (hDa : cD ad A) (hW : cB9 D I Z F ad A H0 M H locs)
    (kx : ∀ (E : String) (ce : Cell) (q : Addr) (H1 : Heap) (locs1 : List Loc), XP E → cB9 D I Z F ad A H0 M H1 locs1 → H1[q]? = some ce → ce.vm = .none → s.vm.findClass E = some ce.cls → vx_W p l e R s m args below meth c H1 locs1 (cells + mc) (slots + ms) Q (F0 m pc ls rest) q)
    (kk : ∀ (r : UInt64) (u : Nat → Nat → Int32) (H1 : Heap) (locs1 : List Loc), post r u → cB9 D I Z F ad A H0 u H1 locs1 → W p l e R s m args below meth c H1 locs1 (cells + mc) (slots + ms) Q (F0 m (pc + 3) ls (.double r :: rest))) : W p l e R s m args below meth c H locs cells slots Q (F0 m pc ls st0) :=
  vx_calld hr hW.2 (fun q _ h => hW.2.sub hA hDa q h) (hW.2.sub hA hDa) (fun q _ h => hW.2.sub hA hDa q h) (fun E ce q9 u t H1 locs1 ht _ _ hB _ _ hS h1 h2 h3 => kx E ce q9 H1 locs1 hB.1 ⟨by rw [← ht]; exact hB.2, hS⟩ h1 h2 h3) (fun r u t H1 locs1 ht _ hp hB _ _ hS => kk r u H1 locs1 hp ⟨by rw [← ht]; exact hB, hS⟩)
theorem cx_callv {post : (Nat → Nat → Int32) → Prop} {XP : String → Prop} {mc ms : Nat} (hr : vx_Run p l e R s m args below meth c H locs cells slots mc ms (F0 m pc ls st0) rest (va_Qv post (fun u t => cP D I Z F ad u t.heap) (cA ad H.size) a) (xQ D I Z F ad M H.size XP) (cA ad H.size)) (hA : ∀ q : Nat, H0.size ≤ q → A q) (hDa : cD ad A) (hW : cB9 D I Z F ad A H0 M H locs)
    (kx : ∀ (E : String) (ce : Cell) (q : Addr) (H1 : Heap) (locs1 : List Loc), XP E → cB9 D I Z F ad A H0 M H1 locs1 → H1[q]? = some ce → ce.vm = .none → s.vm.findClass E = some ce.cls → vx_W p l e R s m args below meth c H1 locs1 (cells + mc) (slots + ms) Q (F0 m pc ls rest) q)
    (kk : ∀  (u : Nat → Nat → Int32) (H1 : Heap) (locs1 : List Loc), post u → cB9 D I Z F ad A H0 u H1 locs1 → W p l e R s m args below meth c H1 locs1 (cells + mc) (slots + ms) Q (F0 m (pc + 3) ls (rest))) : W p l e R s m args below meth c H locs cells slots Q (F0 m pc ls st0) :=
  vx_callv hr hW.2 (fun q _ h => hW.2.sub hA hDa q h) (hW.2.sub hA hDa) (fun q _ h => hW.2.sub hA hDa q h) (fun E ce q9 u t H1 locs1 ht _ _ hB _ _ hS h1 h2 h3 => kx E ce q9 H1 locs1 hB.1 ⟨by rw [← ht]; exact hB.2, hS⟩ h1 h2 h3) (fun u t H1 locs1 ht _ hp hB _ _ hS => kk u H1 locs1 hp ⟨by rw [← ht]; exact hB, hS⟩)
theorem cx_callq {post : Option Nat → Nat → Prop} {XP : String → Prop} {mc ms : Nat} (hr : vx_Run p l e R s m args below meth c H locs cells slots mc ms (F0 m pc ls st0) rest (va_Qq post (fun (_ : Nat) t => cP D I Z F ad M t.heap) (cA ad H.size) a) (xQ D I Z F ad M H.size XP) (cA ad H.size)) (hA : ∀ q : Nat, H0.size ≤ q → A q) (hDa : cD ad A) (hW : cB9 D I Z F ad A H0 M H locs)
    (kx : ∀ (E : String) (ce : Cell) (q : Addr) (H1 : Heap) (locs1 : List Loc), XP E → cB9 D I Z F ad A H0 M H1 locs1 → H1[q]? = some ce → ce.vm = .none → s.vm.findClass E = some ce.cls → vx_W p l e R s m args below meth c H1 locs1 (cells + mc) (slots + ms) Q (F0 m pc ls rest) q)
    (kk : ∀ (r : Option Nat) (k : Nat) (H1 : Heap) (locs1 : List Loc), post r k → cB9 D I Z F ad A H0 M H1 locs1 → W p l e R s m args below meth c H1 locs1 (cells + mc) (slots + ms) Q (F0 m (pc + 3) ls (va_rf r :: rest))) : W p l e R s m args below meth c H locs cells slots Q (F0 m pc ls st0) :=
  vx_callq hr hW.2 (fun q _ h => hW.2.sub hA hDa q h) (hW.2.sub hA hDa) (fun q _ h => hW.2.sub hA hDa q h) (fun E ce q9 u t H1 locs1 ht _ _ hB _ _ hS h1 h2 h3 => kx E ce q9 H1 locs1 hB.1 ⟨by rw [← ht]; exact hB.2, hS⟩ h1 h2 h3) (fun r k t H1 locs1 ht _ hp hB _ _ hS => kk r k H1 locs1 hp ⟨by rw [← ht]; exact hB, hS⟩)
end CMETX2
