/-! ===== the law's own methods that catch ===== -/
/-- what such a method may change: the class's cells, and the row for its answer -/
def lA (ad : Nat → Nat) (o sz : Nat) : Nat → Prop := fun q => cA ad sz q ∨ q = o
/-- the row for an answer -/
def oW (J : ClassId) (o : Nat) (g : Nat → Int64) : va_W := [(o, .inl (J, 1, .inr (.inl g)))]
theorem xE.to {sa : Nat → Nat} {A B : Nat → Prop} {s : State} {H : Heap} (h : xE sa A s s.heap) (hk : ∀ q : Nat, q < s.heap.size → ¬ A q → H[q]? = s.heap[q]?) (hs : ∀ q, B q → A q) : ∀ U : State, U.heap = H → s.WarmedH U.vm → xE sa B U U.heap := by
  intro U hU hW1
  obtain ⟨h1, h2, h3, h4, h5, h6, h7⟩ := h
  rw [hU]
  exact ⟨cXw_warm hW1 h1, vk_R.warm hW1 h2, vk_R.warm hW1 h3, vk_R.warm hW1 h4, vk_R.warm hW1 h5, vx_Zq.moved hW1.alike ((h6.kept hk).narrow hs), vx_Zq.moved hW1.alike ((h7.kept hk).narrow hs)⟩
def lU (D : va_G) (I Z F J : ClassId) (ad sa : Nat → Nat) (o sz : Nat) (M : Nat → Nat → Int32) (g : Nat → Int64) (U : State) : Prop := cU D I Z F ad sz M U ∧ xE sa (lA ad o sz) U U.heap ∧ va_P D vwCl (oW J o g) U.heap ∧ va_K D vwCl [(J, .long)] U
theorem lU_blind {D : va_G} {I Z F J : ClassId} {ad sa : Nat → Nat} {o sz : Nat} {M : Nat → Nat → Int32} {g : Nat → Int64} {av : List Value} : FrameBlind (va_Pc av (lU D I Z F J ad sa o sz M g)) := by
  rintro a U g9 mk ⟨h0, hU, ⟨h1, h2, h3, h4, h5, h6, h7⟩, hO, hJ⟩
  have hb := cU_blind (av := av) (sz := sz) a U g9 mk ⟨h0, hU⟩
  exact ⟨h0, hb.2, ⟨cXw_same (u := U) (U := U.calling g9 mk a) rfl h1, vk_R.same (u := U) (U := U.calling g9 mk a) rfl h2, vk_R.same (u := U) (U := U.calling g9 mk a) rfl h3, vk_R.same (u := U) (U := U.calling g9 mk a) rfl h4, vk_R.same (u := U) (U := U.calling g9 mk a) rfl h5, vx_Zq.moved (u := U) (U := U.calling g9 mk a) (Vm.Alike.refl U.vm) h6, vx_Zq.moved (u := U) (U := U.calling g9 mk a) (Vm.Alike.refl U.vm) h7⟩, hO, va_K.moved (u := U) (U := U.calling g9 mk a) (Vm.Alike.refl U.vm) hJ⟩
theorem va_P.keep {D : va_G} {cl : List vw_C} {ws : va_W} {H H1 : Heap} (h : va_P D cl ws H) (hk : ∀ (k : Nat) (q : Nat × va_E), ws[k]? = some q → q.1 < H.size → H1[q.1]? = H[q.1]?) : va_P D cl ws H1 := h.kept (fun k q hq => hk k q hq (h k q hq).lt)
theorem oW_of {J : ClassId} {o k : Nat} {g : Nat → Int64} {q : Nat × va_E} (h : (oW J o g)[k]? = some q) : q.1 = o := by
  match k, h with
  | 0, h => cases h; rfl
  | k + 1, h => simp [oW] at h
theorem oW_d {J : ClassId} {o : Nat} {g : Nat → Int64} {A : Nat → Prop} (h : A o) : va_D A (oW J o g) := by
  refine ⟨fun i j x y hi hj _ => ?_, fun k q hq => by rw [oW_of hq]; exact h⟩
  match i, j, hi, hj with
  | 0, 0, _, _ => rfl
  | i + 1, _, hi, _ => simp [oW] at hi
  | 0, j + 1, _, hj => simp [oW] at hj
set_option maxHeartbeats 1000000 in
theorem lMet {l : Launch} {D : va_G} {I Z F J : ClassId} {ad sa : Nat → Nat} {o sz : Nat} {M : Nat → Nat → Int32} {g : Nat → Int64} {y : MethodName} {ws ws' : List Cond} {rm : Room} {cc : ByteArray} {maxL : Nat} {av : List Value} {hh : List (Nat × Nat × Nat × Nat)} {mc ms : Nat} {post : Int32 → (Nat → Int64) → Prop}
    (hI : cI ad) (hy : plainName y.cls = true) (hw : ws = Cond.codeWith y cc maxL (some .int) hh :: ws') (hC : y.cls = RL) (hle : (lg_sl av).length ≤ maxL) {lv : List (Nat × Value)} (hlv : lv_args 0 av = lv)
    (body : ∀ (p : Program) (e : Env) (s : State) (m : MethodId) (args : Array Value) (below : List Frame) (meth : Method) (c : Code) (Q : State → Prop) (A : Nat → Prop) (ls : Array Slot), s.heap.size = sz → A = lA ad o sz → p.tables.exec = Jvm.exec → c.code = cc → c.maxLocals = maxL → (∀ w ∈ ws, w.before args s = true) → s.vm.findClass RL = some m.cls → c.exceptionTable.toList = tableOf hh → va_K D vwCl (cT I Z F) s → va_K D vwCl [(J, .long)] s → cN s → xE sa A s s.heap → cD ad A → A o → (∀ q : Nat, s.heap.size ≤ q → A q) → cB9 D I Z F ad A s.heap M s.heap [] → va_P D vwCl (oW J o g) s.heap → lv_has ls maxL lv →
      (∀ (pc : Nat) (ls : Array Slot) (H : Heap) (locs : List Loc) (cells slots : Nat) (r : Int32) (u : Nat → Int64), decode cc pc = .ok (.ireturn, 1) → cells ≤ mc → slots ≤ ms → post r u → va_P D vwCl (oW J o u) H → va_S A s.heap H locs → W p l e rm s m args below meth c H locs cells slots Q (F0 m pc ls [.int r])) →
      W p l e rm s m args below meth c s.heap [] 0 0 Q (F0 m 0 ls [])) :
    Met l y ws rm (va_Pc av (lU D I Z F J ad sa o sz M g)) (va_Qi post (fun (u : Nat → Int64) t => va_P D vwCl (oW J o u) t.heap) (lA ad o sz)) mc ms (lA ad o sz) := by
  refine va_MetW (cc := cc) (maxL := maxL) (ret := (some .int)) (hh := hh) hy hw ?_
  intro p e s m args below meth c s₁ B hml hv
  obtain ⟨hargs, ⟨hsz, hP, hK, hN⟩, hX, hO, hJ⟩ := hv
  have hown : s.vm.findClass RL = some m.cls := by rw [← hC]; exact findClass_of_methodNamed B.named
  have hl := lv_entry av (n := maxL) hle
  rw [hlv] at hl
  have he : entryFrame m args maxL = F0 m 0 ((lg_sl av ++ List.replicate (maxL - (lg_sl av).length) Slot.unset).toArray) [] := by rw [hargs]; exact lg_entry_eq m av maxL
  rw [he]
  have hts := atoms_spec (ws := ws) B.pre
  have htab : c.exceptionTable.toList = tableOf hh := vx_table (x := y) B (hts _ (by rw [hw]; exact List.mem_cons_self))
  refine body p e s m args below meth c _ (lA ad o sz) _ hsz rfl B.exec B.bytes hml hts hown htab hK hJ hN hX ⟨hI, fun k hk => Or.inl (cA.in hk)⟩ (Or.inr rfl) (fun q h => Or.inl (Or.inr (by rw [← hsz]; exact h))) ⟨hP, va_S.rf⟩ hO hl (fun pc ls H locs cells slots r u hd hc1 hs1 hp hO2 hS => ?_)
  exact W.widen hc1 hs1 (W.iret (v := r) B.exec B.bytes B.returns (fun t ht _ => ⟨⟨r, u, rfl, hp, by show va_P D vwCl (oW J o u) t.heap; rw [ht]; exact hO2⟩, hS.F ht⟩) hS.2.2 hd)
