/-! ===== the class's cells among the law's own ===== -/
def kM (I Z F : ClassId) (ad : Nat → Nat) (M : Nat → Nat → Int32) (C : hC) : Prop := ∀ i : Nat, i < 97 → C (ad i) = some (cE I Z F ad M i)
/-- an address that is none of the class's -/
def k_o (ad : Nat → Nat) (b : Nat) : Prop := ∀ i : Nat, i < 97 → b ≠ ad i
noncomputable def kE (I Z F : ClassId) (ad : Nat → Nat) (M : Nat → Nat → Int32) (b : Nat) (x : va_E) : va_E := cIf (∃ i : Nat, i < 97 ∧ b = ad i) (cE I Z F ad M (Classical.epsilon (fun i => i < 97 ∧ b = ad i))) x
noncomputable def kC (I Z F : ClassId) (ad : Nat → Nat) (M : Nat → Nat → Int32) (C : hC) : hC := fun b => (C b).map (kE I Z F ad M b)
theorem kE_at {I Z F : ClassId} {ad : Nat → Nat} {M : Nat → Nat → Int32} {x : va_E} (hI : cI ad) {i : Nat} (hi : i < 97) : kE I Z F ad M (ad i) x = cE I Z F ad M i := by
  have h : ∃ j : Nat, j < 97 ∧ ad i = ad j := ⟨i, hi, rfl⟩
  have h2 := Classical.epsilon_spec h
  unfold kE
  rw [cIf_pos h, ← hI i _ hi h2.1 h2.2]
theorem kE_ne {I Z F : ClassId} {ad : Nat → Nat} {M : Nat → Nat → Int32} {b : Nat} {x : va_E} (h : k_o ad b) : kE I Z F ad M b x = x := by
  unfold kE
  rw [cIf_neg (fun ⟨i, hi, e⟩ => h i hi e)]
theorem kC_ne {I Z F : ClassId} {ad : Nat → Nat} {M : Nat → Nat → Int32} {C : hC} {b : Nat} (h : k_o ad b) : kC I Z F ad M C b = C b := by
  unfold kC
  cases C b with
  | none => rfl
  | some x => rw [Option.map_some, kE_ne h]
theorem kC_M {I Z F : ClassId} {ad : Nat → Nat} {M M' : Nat → Nat → Int32} {C : hC} (hI : cI ad) (hM : kM I Z F ad M C) : kM I Z F ad M' (kC I Z F ad M' C) := by
  intro i hi
  unfold kC
  rw [hM i hi, Option.map_some, kE_at hI hi]
theorem kC_off {I Z F : ClassId} {ad : Nat → Nat} {M : Nat → Nat → Int32} {C : hC} {b : Nat} : kC I Z F ad M C b = none ↔ C b = none := by
  unfold kC
  cases C b with
  | none => exact ⟨fun _ => rfl, fun _ => rfl⟩
  | some x => exact ⟨fun h => (by cases h), fun h => (by cases h)⟩
theorem k_in (ad : Nat → Nat) (b : Nat) : (∃ i : Nat, i < 97 ∧ b = ad i) ∨ k_o ad b := by
  by_cases h : ∃ i : Nat, i < 97 ∧ b = ad i
  · exact Or.inl h
  · exact Or.inr (fun i hi e => h ⟨i, hi, e⟩)
theorem kC_self {I Z F : ClassId} {ad : Nat → Nat} {M : Nat → Nat → Int32} {C : hC} (hI : cI ad) (hM : kM I Z F ad M C) : kC I Z F ad M C = C := by
  funext b
  rcases k_in ad b with ⟨i, hi, rfl⟩ | h
  · rw [kC_M hI hM i hi, hM i hi]
  · exact kC_ne h
theorem kM.off {I Z F : ClassId} {ad : Nat → Nat} {M : Nat → Nat → Int32} {C : hC} (hM : kM I Z F ad M C) {b : Nat} (hb : C b = none) : k_o ad b := fun i hi e => by
  rw [e, hM i hi] at hb
  cases hb
theorem kM.P {D : va_G} {A : Nat → Prop} {I Z F : ClassId} {ad : Nat → Nat} {M : Nat → Nat → Int32} {C : hC} {H : Heap} (hM : kM I Z F ad M C) (hH : h_H D A C H) : cP D I Z F ad M H := by
  intro k q hk
  obtain ⟨h1, rfl⟩ := cW_of hk
  obtain ⟨W, k', hP, -, -, hk'⟩ := hH.at (hM k h1)
  exact hP k' _ hk'
theorem kM.D {D : va_G} {A : Nat → Prop} {I Z F : ClassId} {ad : Nat → Nat} {M : Nat → Nat → Int32} {C : hC} {H : Heap} (hI : cI ad) (hM : kM I Z F ad M C) (hH : h_H D A C H) : cD ad A := ⟨hI, fun i hi => (hH.lt (hM i hi)).2⟩
theorem kH {D : va_G} {A : Nat → Prop} {I Z F : ClassId} {ad : Nat → Nat} {M M' : Nat → Nat → Int32} {C : hC} {H H1 : Heap} (hI : cI ad) (hM : kM I Z F ad M C) (hH : h_H D A C H) (hP : cP D I Z F ad M' H1) (hk : ∀ q : Nat, q < H.size → ¬ cA ad H.size q → H1[q]? = H[q]?) : h_H D A (kC I Z F ad M' C) H1 := by
  obtain ⟨W, hP0, hD0, hr⟩ := hH
  have get : ∀ (k : Nat) (q : Nat × va_E), (W.map (fun q => (q.1, kE I Z F ad M' q.1 q.2)))[k]? = some q → ∃ q0 : Nat × va_E, W[k]? = some q0 ∧ q = (q0.1, kE I Z F ad M' q0.1 q0.2) := by
    intro k q hq
    rw [List.getElem?_map] at hq
    cases h0 : W[k]? with
    | none => rw [h0] at hq; cases hq
    | some q0 => rw [h0] at hq; exact ⟨q0, rfl, (Option.some.inj hq).symm⟩
  refine ⟨W.map (fun q => (q.1, kE I Z F ad M' q.1 q.2)), fun k q hq => ?_, ⟨fun i j x y hx hy hxy => ?_, fun k q hq => ?_⟩, fun b x => ?_⟩
  · obtain ⟨q0, h0, rfl⟩ := get k q hq
    have hv := hP0 k q0 h0
    rcases k_in ad q0.1 with ⟨i, hi, e⟩ | h
    · have h1 := hP i _ (cW_get ad _ hi)
      rw [e, kE_at hI hi]
      exact h1
    · rw [kE_ne h]
      have h2 : ¬ cA ad H.size q0.1 := by
        rintro (⟨i, hi, e⟩ | h3)
        · exact h i hi e
        · have := hv.lt; omega
      exact hv.kept (hk q0.1 hv.lt h2)
  · obtain ⟨x0, h0, rfl⟩ := get i x hx
    obtain ⟨y0, h1, rfl⟩ := get j y hy
    exact hD0.1 i j x0 y0 h0 h1 hxy
  · obtain ⟨q0, h0, rfl⟩ := get k q hq
    exact hD0.2 k q0 h0
  · unfold kC
    rw [List.mem_map]
    constructor
    · intro h
      cases hb : C b with
      | none => rw [hb] at h; cases h
      | some y =>
        rw [hb, Option.map_some] at h
        exact ⟨(b, y), (hr b y).mp hb, by rw [← Option.some.inj h]⟩
    · rintro ⟨⟨b0, y⟩, h1, h2⟩
      cases h2
      rw [(hr b0 y).mpr h1]
      rfl
section KCALL
variable {p : Program} {l : Launch} {e : Env} {R : Room} {s : State} {m : MethodId} {args : Array Value} {below : List Frame} {meth : Method} {c : Code} {H H0 : Heap} {locs : List Loc} {cells slots : Nat} {Q : State → Prop} {pc : Nat} {ls : Array Slot} {rest st0 : List Value} {D : va_G} {A : Nat → Prop} {C : hC} {a : Array Value} {mc ms : Nat} {I Z F : ClassId} {ad sa : Nat → Nat} {M : Nat → Nat → Int32}
theorem k_preV {av : List Value} (hK : va_K D vwCl (cT I Z F) s) (hN : cN s) (hX : xE sa A s s.heap) (hA : ∀ q : Nat, s.heap.size ≤ q → A q) (hI : cI ad) (hM : kM I Z F ad M C) (hH : h_H D A C H) (hS : va_S A s.heap H locs) : PreV s H RX2 (ad 0) (va_Pc (.ref (ad 0) :: av) (cUX D I Z F ad sa H.size M)) av :=
  cx_preV hK hN hX hA (hM.D hI hH) ⟨hM.P hH, hS⟩ 0 (by decide) (cE_x I Z F ad M) rfl
theorem k_preV0 {av : List Value} (hK : va_K D vwCl (cT I Z F) s) (hN : cN s) (hM : kM I Z F ad M C) (hH : h_H D A C H) (hS : va_S A s.heap H locs) : PreV s H RX2 (ad 0) (va_Pc (.ref (ad 0) :: av) (cU D I Z F ad H.size M)) av :=
  cr_preV (A := A) (H0 := s.heap) (locs := locs) hK hN ⟨hM.P hH, hS⟩ 0 (by decide) (cE_x I Z F ad M) rfl
/-- a call of the class's that throws nothing here -/
theorem kx_calli {post : Int32 → (Nat → Nat → Int32) → Prop} {XP : String → Prop} (hr : vx_Run p l e R s m args below meth c H locs cells slots mc ms (F0 m pc ls st0) rest (va_Qi post (fun u t => cP D I Z F ad u t.heap) (cA ad H.size) a) (xQ D I Z F ad M H.size XP) (cA ad H.size)) (hI : cI ad) (hM : kM I Z F ad M C) (hH : h_H D A C H) (hS : va_S A H0 H locs) (hA : ∀ q : Nat, H0.size ≤ q → A q) (hno : ∀ E : String, ¬ XP E)
    (kk : ∀ (r : Int32) (u : Nat → Nat → Int32) (H1 : Heap) (locs1 : List Loc), post r u → h_H D A (kC I Z F ad u C) H1 → kM I Z F ad u (kC I Z F ad u C) → va_S A H0 H1 locs1 → W p l e R s m args below meth c H1 locs1 (cells + mc) (slots + ms) Q (F0 m (pc + 3) ls (.int r :: rest))) : W p l e R s m args below meth c H locs cells slots Q (F0 m pc ls st0) :=
  vx_calli hr hS (fun q _ h => hS.sub hA (hM.D hI hH) q h) (hS.sub hA (hM.D hI hH)) (fun q _ h => hS.sub hA (hM.D hI hH) q h) (fun E ce q9 u t H1 locs1 _ _ _ hB _ _ _ _ _ _ => (hno E hB.1).elim) (fun r u t H1 locs1 ht _ hp hB _ hk hS1 => kk r u H1 locs1 hp (kH hI hM hH (by rw [← ht]; exact hB) hk) (kC_M hI hM) hS1)
theorem kx_same {post : Int32 → (Nat → Nat → Int32) → Prop} {XP : String → Prop} (hr : vx_Run p l e R s m args below meth c H locs cells slots mc ms (F0 m pc ls st0) rest (va_Qi post (fun u t => cP D I Z F ad u t.heap) (cA ad H.size) a) (xQ D I Z F ad M H.size XP) (cA ad H.size)) (hI : cI ad) (hM : kM I Z F ad M C) (hH : h_H D A C H) (hS : va_S A H0 H locs) (hA : ∀ q : Nat, H0.size ≤ q → A q) (hno : ∀ E : String, ¬ XP E) (hs : ∀ r u, post r u → u = M)
    (kk : ∀ (r : Int32) (H1 : Heap) (locs1 : List Loc), post r M → h_H D A C H1 → va_S A H0 H1 locs1 → W p l e R s m args below meth c H1 locs1 (cells + mc) (slots + ms) Q (F0 m (pc + 3) ls (.int r :: rest))) : W p l e R s m args below meth c H locs cells slots Q (F0 m pc ls st0) :=
  kx_calli hr hI hM hH hS hA hno (fun r u H1 locs1 hp hH1 _ hS1 => by
    have e := hs r u hp
    subst e
    rw [kC_self hI hM] at hH1
    exact kk r H1 locs1 hp hH1 hS1)
theorem kx_samed {post : UInt64 → (Nat → Nat → Int32) → Prop} {XP : String → Prop} (hr : vx_Run p l e R s m args below meth c H locs cells slots mc ms (F0 m pc ls st0) rest (va_Qd post (fun u t => cP D I Z F ad u t.heap) (cA ad H.size) a) (xQ D I Z F ad M H.size XP) (cA ad H.size)) (hI : cI ad) (hM : kM I Z F ad M C) (hH : h_H D A C H) (hS : va_S A H0 H locs) (hA : ∀ q : Nat, H0.size ≤ q → A q) (hno : ∀ E : String, ¬ XP E) (hs : ∀ r u, post r u → u = M)
    (kk : ∀ (r : UInt64) (H1 : Heap) (locs1 : List Loc), post r M → h_H D A C H1 → va_S A H0 H1 locs1 → W p l e R s m args below meth c H1 locs1 (cells + mc) (slots + ms) Q (F0 m (pc + 3) ls (.double r :: rest))) : W p l e R s m args below meth c H locs cells slots Q (F0 m pc ls st0) :=
  vx_calld hr hS (fun q _ h => hS.sub hA (hM.D hI hH) q h) (hS.sub hA (hM.D hI hH)) (fun q _ h => hS.sub hA (hM.D hI hH) q h) (fun E ce q9 u t H1 locs1 _ _ _ hB _ _ _ _ _ _ => (hno E hB.1).elim) (fun r u t H1 locs1 ht _ hp hB _ hk hS1 => by
    have e := hs r u hp
    subst e
    have hH1 := kH hI hM hH (by rw [← ht]; exact hB) hk
    rw [kC_self hI hM] at hH1
    exact kk r H1 locs1 hp hH1 hS1)
theorem kr_calli {post : Int32 → (Nat → Nat → Int32) → Prop} (hr : va_Run p l e R s m args below meth c H locs cells slots mc ms (F0 m pc ls st0) rest (va_Qi post (fun u t => cP D I Z F ad u t.heap) (cA ad H.size) a) (cA ad H.size)) (hI : cI ad) (hM : kM I Z F ad M C) (hH : h_H D A C H) (hS : va_S A H0 H locs) (hA : ∀ q : Nat, H0.size ≤ q → A q)
    (kk : ∀ (r : Int32) (u : Nat → Nat → Int32) (H1 : Heap) (locs1 : List Loc), post r u → h_H D A (kC I Z F ad u C) H1 → kM I Z F ad u (kC I Z F ad u C) → va_S A H0 H1 locs1 → W p l e R s m args below meth c H1 locs1 (cells + mc) (slots + ms) Q (F0 m (pc + 3) ls (.int r :: rest))) : W p l e R s m args below meth c H locs cells slots Q (F0 m pc ls st0) :=
  va_calli hr hS (fun q _ h => hS.sub hA (hM.D hI hH) q h) (hS.sub hA (hM.D hI hH)) (fun r u t H1 locs1 ht _ hp hB _ hk hS1 => kk r u H1 locs1 hp (kH hI hM hH (by rw [← ht]; exact hB) hk) (kC_M hI hM) hS1)
theorem kr_samed {post : UInt64 → (Nat → Nat → Int32) → Prop} (hr : va_Run p l e R s m args below meth c H locs cells slots mc ms (F0 m pc ls st0) rest (va_Qd post (fun u t => cP D I Z F ad u t.heap) (cA ad H.size) a) (cA ad H.size)) (hI : cI ad) (hM : kM I Z F ad M C) (hH : h_H D A C H) (hS : va_S A H0 H locs) (hA : ∀ q : Nat, H0.size ≤ q → A q) (hs : ∀ r u, post r u → u = M)
    (kk : ∀ (r : UInt64) (H1 : Heap) (locs1 : List Loc), post r M → h_H D A C H1 → va_S A H0 H1 locs1 → W p l e R s m args below meth c H1 locs1 (cells + mc) (slots + ms) Q (F0 m (pc + 3) ls (.double r :: rest))) : W p l e R s m args below meth c H locs cells slots Q (F0 m pc ls st0) :=
  va_calld hr hS (fun q _ h => hS.sub hA (hM.D hI hH) q h) (hS.sub hA (hM.D hI hH)) (fun r u t H1 locs1 ht _ hp hB _ hk hS1 => by
    have e := hs r u hp
    subst e
    have hH1 := kH hI hM hH (by rw [← ht]; exact hB) hk
    rw [kC_self hI hM] at hH1
    exact kk r H1 locs1 hp hH1 hS1)
end KCALL
/-! ===== heads of the methods that know more of their start ===== -/
section GMET
variable {l : Launch} {D : va_G} {cs : Nat → ClassId} {C : hC} {sz : Nat} {y : MethodName} {ws ws' : List Cond} {rm : Room} {cc : ByteArray} {maxL : Nat} {av : List Value} {mc ms : Nat} {X9 : State → Prop}
def gU (D : va_G) (cs : Nat → ClassId) (C : hC) (sz : Nat) (X9 : State → Prop) (U : State) : Prop := hU D cs C sz U ∧ X9 U
theorem g_preS {s : State} {H : Heap} {A : Nat → Prop} (hK : h_K D cs s) (hN : h_N s) (hH : h_H D A C H) (hb9 : ∀ (U : State) (g : JFrame) (mk : MethodId) (a : Array Value), X9 U → X9 (U.calling g mk a)) (hm9 : ∀ U : State, U.heap = H → s.WarmedH U.vm → X9 U) : PreS s H (va_Pc av (gU D cs C H.size X9)) av :=
  ⟨by
    rintro a U g mk ⟨h1, h2, h3⟩
    have hb := hU_blind (av := av) (D := D) (cs := cs) (C := C) (sz := H.size) a U g mk ⟨h1, h2⟩
    exact ⟨h1, hb.2, hb9 U g mk a h3⟩, fun U hU9 hW1 => ⟨rfl, (hU_mk (av := av) hK hN hH U hU9 hW1).2, hm9 U hU9 hW1⟩⟩
theorem g_preV {s : State} {H : Heap} {A : Nat → Prop} {a ci : Nat} {fs : List Value} {C0 : String} {T : u_T} {N : Nat} (hK : h_K D cs s) (hN : h_N s) (hH : h_H D A C H) (ha : C a = some (.inr (ci, fs))) (hc : vwCl[ci]? = some (C0, T, N)) (hb9 : ∀ (U : State) (g : JFrame) (mk : MethodId) (a : Array Value), X9 U → X9 (U.calling g mk a)) (hm9 : ∀ U : State, U.heap = H → s.WarmedH U.vm → X9 U) : PreV s H C0 a (va_Pc (.ref a :: av) (gU D cs C H.size X9)) av := by
  obtain ⟨h1, h2⟩ := g_preS (av := .ref a :: av) hK hN hH hb9 hm9
  obtain ⟨w, k, hP, -, -, hk⟩ := hH.at ha
  exact ⟨h1, va_recv hK.1 hP hc hk, h2⟩
set_option maxHeartbeats 1000000 in
theorem gMet_i {post : Int32 → hC → Prop} (hy : plainName y.cls = true) (hw : ws = Cond.code y cc maxL (some .int) :: ws') (Cn : String) (hcn : y.cls = Cn) (hle : (lg_sl av).length ≤ maxL) {lv : List (Nat × Value)} (hlv : lv_args 0 av = lv)
    (body : ∀ (p : Program) (e : Env) (s : State) (m : MethodId) (args : Array Value) (below : List Frame) (meth : Method) (c : Code) (Q : State → Prop) (A : Nat → Prop) (ls : Array Slot), s.heap.size = sz → A = h_A C sz → X9 s → hX p s m meth c args av D cs A ws Cn cc maxL → h_H D A C s.heap → va_S A s.heap s.heap [] → lv_has ls maxL lv →
      (∀ (pc : Nat) (ls : Array Slot) (H : Heap) (locs : List Loc) (cells slots : Nat) (r : Int32) (u : hC), decode cc pc = .ok (.ireturn, 1) → cells ≤ mc → slots ≤ ms → post r u → h_H D A u H → va_S A s.heap H locs → W p l e rm s m args below meth c H locs cells slots Q (F0 m pc ls [.int r])) →
      W p l e rm s m args below meth c s.heap [] 0 0 Q (F0 m 0 ls [])) :
    Met l y ws rm (va_Pc av (gU D cs C sz X9)) (va_Qi post (fun u t => h_H D (h_A C sz) u t.heap) (h_A C sz)) mc ms (h_A C sz) := by
  refine Met.ofW (cc := cc) (maxL := maxL) (ret := (some .int)) hy hw ?_
  intro p e s m args below meth c s₁ B hml hv
  obtain ⟨hargs, ⟨hsz, hH, hK, hN⟩, hX9⟩ := hv
  have hown : s.vm.findClass Cn = some m.cls := by rw [← hcn]; exact findClass_of_methodNamed B.named
  have hl := lv_entry av (n := maxL) hle
  rw [hlv] at hl
  have he : entryFrame m args maxL = F0 m 0 ((lg_sl av ++ List.replicate (maxL - (lg_sl av).length) Slot.unset).toArray) [] := by rw [hargs]; exact lg_entry_eq m av maxL
  rw [he]
  refine body p e s m args below meth c _ (h_A C s.heap.size) _ hsz (by rw [hsz]) hX9 ⟨B.exec, B.bytes, hml, atoms_spec (ws := ws) B.pre, hown, B.notSynchronized, hK, hN, fun q h => Or.inr h, hargs⟩ (hH.mono (fun b hb => Or.inl hb)) va_S.rf hl (fun pc ls H locs cells slots r u hd hc1 hs1 hp hH1 hS => ?_)
  rw [← hsz]
  exact W.widen hc1 hs1 (W.iret (v := r) B.exec B.bytes B.returns (fun t ht _ => ⟨⟨r, u, rfl, hp, by show h_H D _ u t.heap; rw [ht]; exact hH1⟩, hS.F ht⟩) hS.2.2 hd)
set_option maxHeartbeats 1000000 in
theorem gMet_z {post : Int32 → hC → Prop} (hy : plainName y.cls = true) (hw : ws = Cond.code y cc maxL (some .boolean) :: ws') (Cn : String) (hcn : y.cls = Cn) (hle : (lg_sl av).length ≤ maxL) {lv : List (Nat × Value)} (hlv : lv_args 0 av = lv)
    (body : ∀ (p : Program) (e : Env) (s : State) (m : MethodId) (args : Array Value) (below : List Frame) (meth : Method) (c : Code) (Q : State → Prop) (A : Nat → Prop) (ls : Array Slot), s.heap.size = sz → A = h_A C sz → X9 s → hX p s m meth c args av D cs A ws Cn cc maxL → h_H D A C s.heap → va_S A s.heap s.heap [] → lv_has ls maxL lv →
      (∀ (pc : Nat) (ls : Array Slot) (H : Heap) (locs : List Loc) (cells slots : Nat) (r : Int32) (u : hC), decode cc pc = .ok (.ireturn, 1) → cells ≤ mc → slots ≤ ms → (post r u ∧ (r = 0 ∨ r = 1)) → h_H D A u H → va_S A s.heap H locs → W p l e rm s m args below meth c H locs cells slots Q (F0 m pc ls [.int r])) →
      W p l e rm s m args below meth c s.heap [] 0 0 Q (F0 m 0 ls [])) :
    Met l y ws rm (va_Pc av (gU D cs C sz X9)) (va_Qi post (fun u t => h_H D (h_A C sz) u t.heap) (h_A C sz)) mc ms (h_A C sz) := by
  refine Met.ofW (cc := cc) (maxL := maxL) (ret := (some .boolean)) hy hw ?_
  intro p e s m args below meth c s₁ B hml hv
  obtain ⟨hargs, ⟨hsz, hH, hK, hN⟩, hX9⟩ := hv
  have hown : s.vm.findClass Cn = some m.cls := by rw [← hcn]; exact findClass_of_methodNamed B.named
  have hl := lv_entry av (n := maxL) hle
  rw [hlv] at hl
  have he : entryFrame m args maxL = F0 m 0 ((lg_sl av ++ List.replicate (maxL - (lg_sl av).length) Slot.unset).toArray) [] := by rw [hargs]; exact lg_entry_eq m av maxL
  rw [he]
  refine body p e s m args below meth c _ (h_A C s.heap.size) _ hsz (by rw [hsz]) hX9 ⟨B.exec, B.bytes, hml, atoms_spec (ws := ws) B.pre, hown, B.notSynchronized, hK, hN, fun q h => Or.inr h, hargs⟩ (hH.mono (fun b hb => Or.inl hb)) va_S.rf hl (fun pc ls H locs cells slots r u hd hc1 hs1 hp hH1 hS => ?_)
  rw [← hsz]
  exact W.widen hc1 hs1 (W.zret (v := r) (ty := .boolean) B.exec B.bytes B.returns (by rcases hp.2 with rfl | rfl <;> rfl) (fun t ht _ => ⟨⟨r, u, rfl, hp.1, by show h_H D _ u t.heap; rw [ht]; exact hH1⟩, hS.F ht⟩) hS.2.2 hd)
set_option maxHeartbeats 1000000 in
theorem gMet_a {rt : FieldType} {post : Nat → hC → Prop} (hy : plainName y.cls = true) (hw : ws = Cond.code y cc maxL (some rt) :: ws') (Cn : String) (hcn : y.cls = Cn) (hrt : (∃ n, rt = .object n) ∨ ∃ t, rt = .array t) (hle : (lg_sl av).length ≤ maxL) {lv : List (Nat × Value)} (hlv : lv_args 0 av = lv)
    (body : ∀ (p : Program) (e : Env) (s : State) (m : MethodId) (args : Array Value) (below : List Frame) (meth : Method) (c : Code) (Q : State → Prop) (A : Nat → Prop) (ls : Array Slot), s.heap.size = sz → A = h_A C sz → X9 s → hX p s m meth c args av D cs A ws Cn cc maxL → h_H D A C s.heap → va_S A s.heap s.heap [] → lv_has ls maxL lv →
      (∀ (pc : Nat) (ls : Array Slot) (H : Heap) (locs : List Loc) (cells slots : Nat) (r : Nat) (u : hC), decode cc pc = .ok (.areturn, 1) → cells ≤ mc → slots ≤ ms → post r u → h_H D A u H → va_S A s.heap H locs → W p l e rm s m args below meth c H locs cells slots Q (F0 m pc ls [.ref r])) →
      W p l e rm s m args below meth c s.heap [] 0 0 Q (F0 m 0 ls [])) :
    Met l y ws rm (va_Pc av (gU D cs C sz X9)) (va_Qr (fun _ : hC => True) (fun u a t => post a u ∧ h_H D (h_A C sz) u t.heap) (h_A C sz)) mc ms (h_A C sz) := by
  refine Met.ofW (cc := cc) (maxL := maxL) (ret := (some rt)) hy hw ?_
  intro p e s m args below meth c s₁ B hml hv
  obtain ⟨hargs, ⟨hsz, hH, hK, hN⟩, hX9⟩ := hv
  have hown : s.vm.findClass Cn = some m.cls := by rw [← hcn]; exact findClass_of_methodNamed B.named
  have hl := lv_entry av (n := maxL) hle
  rw [hlv] at hl
  have he : entryFrame m args maxL = F0 m 0 ((lg_sl av ++ List.replicate (maxL - (lg_sl av).length) Slot.unset).toArray) [] := by rw [hargs]; exact lg_entry_eq m av maxL
  rw [he]
  refine body p e s m args below meth c _ (h_A C s.heap.size) _ hsz (by rw [hsz]) hX9 ⟨B.exec, B.bytes, hml, atoms_spec (ws := ws) B.pre, hown, B.notSynchronized, hK, hN, fun q h => Or.inr h, hargs⟩ (hH.mono (fun b hb => Or.inl hb)) va_S.rf hl (fun pc ls H locs cells slots r u hd hc1 hs1 hp hH1 hS => ?_)
  rw [← hsz]
  exact W.widen hc1 hs1 (W.aret (v := .ref r) B.exec B.bytes B.returns hrt (Or.inr ⟨_, rfl⟩) (fun t ht _ => ⟨⟨u, r, rfl, trivial, hp, by show h_H D _ u t.heap; rw [ht]; exact hH1⟩, hS.F ht⟩) hS.2.2 hd)
end GMET
/-- what a method of the law's that calls the class knows more -/
def kX (D : va_G) (I Z F : ClassId) (sa : Nat → Nat) (C : hC) (sz : Nat) (U : State) : Prop := va_K D vwCl (cT I Z F) U ∧ cN U ∧ xE sa (h_A C sz) U U.heap
theorem xE.to {sa : Nat → Nat} {A B : Nat → Prop} {s : State} {H : Heap} (h : xE sa A s s.heap) (hk : ∀ q : Nat, q < s.heap.size → ¬ A q → H[q]? = s.heap[q]?) (hs : ∀ q, B q → A q) : ∀ U : State, U.heap = H → s.WarmedH U.vm → xE sa B U U.heap := by
  intro U hU hW1
  obtain ⟨h1, h2, h3, h4, h5, h6, h7⟩ := h
  rw [hU]
  exact ⟨cXw_warm hW1 h1, vk_R.warm hW1 h2, vk_R.warm hW1 h3, vk_R.warm hW1 h4, vk_R.warm hW1 h5, vx_Zq.moved hW1.alike ((h6.kept hk).narrow hs), vx_Zq.moved hW1.alike ((h7.kept hk).narrow hs)⟩
theorem xE.same {sa : Nat → Nat} {A : Nat → Prop} {U : State} (h : xE sa A U U.heap) (g : JFrame) (mk : MethodId) (a : Array Value) : xE sa A (U.calling g mk a) (U.calling g mk a).heap := by
  obtain ⟨h1, h2, h3, h4, h5, h6, h7⟩ := h
  exact ⟨cXw_same (u := U) (U := U.calling g mk a) rfl h1, vk_R.same (u := U) (U := U.calling g mk a) rfl h2, vk_R.same (u := U) (U := U.calling g mk a) rfl h3, vk_R.same (u := U) (U := U.calling g mk a) rfl h4, vk_R.same (u := U) (U := U.calling g mk a) rfl h5, vx_Zq.moved (u := U) (U := U.calling g mk a) (Vm.Alike.refl U.vm) h6, vx_Zq.moved (u := U) (U := U.calling g mk a) (Vm.Alike.refl U.vm) h7⟩
theorem kX.same {D : va_G} {I Z F : ClassId} {sa : Nat → Nat} {C : hC} {sz : Nat} (U : State) (g : JFrame) (mk : MethodId) (a : Array Value) (h : kX D I Z F sa C sz U) : kX D I Z F sa C sz (U.calling g mk a) :=
  ⟨va_K.moved (u := U) (U := U.calling g mk a) (Vm.Alike.refl U.vm) h.1, cN.same (u := U) (U := U.calling g mk a) rfl h.2.1, h.2.2.same g mk a⟩
theorem kX_mk {D : va_G} {I Z F : ClassId} {sa : Nat → Nat} {C : hC} {A : Nat → Prop} {s : State} {H : Heap} {locs : List Loc} (hK : va_K D vwCl (cT I Z F) s) (hN : cN s) (hX : xE sa A s s.heap) (hA : ∀ q : Nat, s.heap.size ≤ q → A q) (hH : h_H D A C H) (hS : va_S A s.heap H locs) : ∀ U : State, U.heap = H → s.WarmedH U.vm → kX D I Z F sa C H.size U :=
  fun U hU hW1 => ⟨va_K.moved hW1.alike hK, cN.warm hW1 hN, hX.to hS.2.1 (h_A.sub hH hS hA) U hU hW1⟩
/-- the script -/
def sX (b L : Nat) (xs : Nat → Int32) (U : State) : Prop := va_X b L xs U U.heap
theorem sX.same {b L : Nat} {xs : Nat → Int32} (U : State) (g : JFrame) (mk : MethodId) (a : Array Value) (h : sX b L xs U) : sX b L xs (U.calling g mk a) := va_X.moved (u := U) (U := U.calling g mk a) (Vm.Alike.refl U.vm) h
theorem sX_mk {b L : Nat} {xs : Nat → Int32} {A : Nat → Prop} {s : State} {H : Heap} {locs : List Loc} (h : sX b L xs s) (hbl : b < s.heap.size) (hbA : ¬ A b) (hS : va_S A s.heap H locs) : ∀ U : State, U.heap = H → s.WarmedH U.vm → sX b L xs U := fun U hU hW1 => by
  have h2 : va_X b L xs U U.heap := by
    rw [hU]
    exact va_X.moved hW1.alike (va_X.kept h (hS.2.1 b hbl hbA))
  exact h2
