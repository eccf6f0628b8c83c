section CCALLS
variable {p : Program} {l : Launch} {e : Env} {R : Room} {s : State} {m : MethodId} {args : Array Value} {below : List Frame} {meth : Method} {c : Code} {cc : ByteArray} {H H0 : Heap} {locs : List Loc} {cells slots : Nat} {Q : State → Prop} {pc : Nat} {ls : Array Slot} {rest st0 : List Value} {D : va_G} {A : Nat → Prop} {I Z F : ClassId} {ad : Nat → Nat} {M : Nat → Nat → Int32} {a : Array Value}
theorem cU_blind {av : List Value} {sz : Nat} : FrameBlind (va_Pc av (cU D I Z F ad sz M)) := by
  rintro a U g mk ⟨h1, h2, h3, h4, h5⟩
  exact ⟨h1, h2, h3, va_K.moved (u := U) (U := U.calling g mk a) (Vm.Alike.refl U.vm) h4, cN.same (u := U) (U := U.calling g mk a) rfl h5⟩
theorem cU_mk {av : List Value} (hK : va_K D vwCl (cT I Z F) s) (hN : cN s) (hW : cB9 D I Z F ad A H0 M H locs) : ∀ U : State, U.heap = H → s.WarmedH U.vm → va_Pc av (cU D I Z F ad H.size M) av.toArray U :=
  fun U hU hW1 => ⟨rfl, by rw [hU], by rw [hU]; exact hW.1, va_K.moved hW1.alike hK, cN.warm hW1 hN⟩
theorem cr_recv (hK : va_K D vwCl (cT I Z F) s) (hW : cB9 D I Z F ad A H0 M H locs) (i : Nat) (hi : i < 97) {ci : Nat} {fs : List Value} {C : String} {T : u_T} {N : Nat} (he : cE I Z F ad M i = .inr (ci, fs)) (hc : vwCl[ci]? = some (C, T, N)) : ∃ cell : Cell, H[ad i]? = some cell ∧ cell.vm.isStatics = false ∧ s.vm.findClass C = some cell.cls :=
  va_recv hK hW.1 hc (by rw [cW_get ad _ hi, he])
theorem cr_preV {av : List Value} (hK : va_K D vwCl (cT I Z F) s) (hN : cN s) (hW : cB9 D I Z F ad A H0 M H locs) (i : Nat) (hi : i < 97) {ci : Nat} {fs : List Value} {C : String} {T : u_T} {N : Nat} (he : cE I Z F ad M i = .inr (ci, fs)) (hc : vwCl[ci]? = some (C, T, N)) : PreV s H C (ad i) (va_Pc (.ref (ad i) :: av) (cU D I Z F ad H.size M)) av :=
  ⟨cU_blind, cr_recv hK hW i hi he hc, cU_mk hK hN hW⟩
theorem cr_preS {av : List Value} (hK : va_K D vwCl (cT I Z F) s) (hN : cN s) (hW : cB9 D I Z F ad A H0 M H locs) : PreS s H (va_Pc av (cU D I Z F ad H.size M)) av := ⟨cU_blind, cU_mk hK hN hW⟩
theorem cr_calli {post : Int32 → (Nat → Nat → Int32) → Prop} (hr : va_Run p l e R s m args below meth c H locs cells slots 0 0 (F0 m pc ls st0) rest (va_Qi post (fun u t => cP D I Z F ad u t.heap) (cA ad H.size) a) (cA ad H.size)) (hA : ∀ q : Nat, H0.size ≤ q → A q) (hDa : cD ad A) (hW : cB9 D I Z F ad A H0 M H locs)
    (kk : ∀ (r : Int32) (u : Nat → Nat → Int32) (H1 : Heap) (locs1 : List Loc), post r u → cB9 D I Z F ad A H0 u H1 locs1 → W p l e R s m args below meth c H1 locs1 cells slots Q (F0 m (pc + 3) ls (.int r :: rest))) : W p l e R s m args below meth c H locs cells slots Q (F0 m pc ls st0) :=
  va_calli hr hW.2 (fun q _ h => hW.2.sub hA hDa q h) (hW.2.sub hA hDa) (fun r u t H1 locs1 ht _ hp hB _ _ hS => kk r u H1 locs1 hp ⟨by rw [← ht]; exact hB, hS⟩)
theorem cr_callv {post : (Nat → Nat → Int32) → Prop} (hr : va_Run p l e R s m args below meth c H locs cells slots 0 0 (F0 m pc ls st0) rest (va_Qv post (fun u t => cP D I Z F ad u t.heap) (cA ad H.size) a) (cA ad H.size)) (hA : ∀ q : Nat, H0.size ≤ q → A q) (hDa : cD ad A) (hW : cB9 D I Z F ad A H0 M H locs)
    (kk : ∀ (u : Nat → Nat → Int32) (H1 : Heap) (locs1 : List Loc), post u → cB9 D I Z F ad A H0 u H1 locs1 → W p l e R s m args below meth c H1 locs1 cells slots Q (F0 m (pc + 3) ls rest)) : W p l e R s m args below meth c H locs cells slots Q (F0 m pc ls st0) :=
  va_callv hr hW.2 (fun q _ h => hW.2.sub hA hDa q h) (hW.2.sub hA hDa) (fun u t H1 locs1 ht _ hp hB _ _ hS => kk u H1 locs1 hp ⟨by rw [← ht]; exact hB, hS⟩)
theorem cE_arr {i n : Nat} {C : ClassId} (he : cE I Z F ad M i = .inl (C, n, .inl (M i))) (M' : Nat → Nat → Int32) : cE I Z F ad M' i = .inl (C, n, .inl (M' i)) := cS_arr he (M' i)
/-- the length of an array among the cells -/
theorem cr_alenI (hx : p.tables.exec = Jvm.exec) (hb : c.code = cc) (hK : va_K D vwCl (cT I Z F) s) (hW : cB9 D I Z F ad A H0 M H locs) (i : Nat) (hi : i < 97) {n : Nat} {f : Nat → Int32} (he : cE I Z F ad M i = .inl (I, n, .inl f)) (hdg : decode cc pc = .ok (.arraylength, 1))
    (kk : W p l e R s m args below meth c H locs cells slots Q (F0 m (pc + 1) ls (.int (nI n) :: rest))) : W p l e R s m args below meth c H locs cells slots Q (F0 m pc ls (.ref (ad i) :: rest)) :=
  va_alen (x := (n, .inl f)) hx hb hK hW.1 i 0 (ty := .int) (by rw [cW_get ad _ hi, he]) rfl rfl hdg kk
/-- System.arraycopy between two int arrays among the cells, from their starts -/
theorem cr_copy (hx : p.tables.exec = Jvm.exec) (hb : c.code = cc) (hml : c.maxLocals = ls.size) {own : String} {index : Nat} {Ts : List Cond} (hts : ∀ w ∈ Ts, w.before args s = true) (hown : s.vm.findClass own = some m.cls) (hlink : Cond.methodLink own index arraycopyName ∈ Ts) (hnat : Cond.native arraycopyName ∈ Ts) (hstat : Cond.static arraycopyName ∈ Ts) (hini : Cond.initialized "java/lang/System" ∈ Ts)
    (hK : va_K D vwCl (cT I Z F) s) (hDa : cD ad A) (hW : cB9 D I Z F ad A H0 M H locs) (i j : Nat) (hi : i < 97) (hj : j < 97) {n0 n1 : Nat} (hei : cE I Z F ad M i = .inl (I, n0, .inl (M i))) (hej : cE I Z F ad M j = .inl (I, n1, .inl (M j))) (n : Nat) {x : Int32} (hxn : x = nI n) (hn : n < 2 ^ 31) (h0 : n ≤ n0) (h1 : n ≤ n1)
    (hframes : 1 ≤ R.frames) (hlocals : (rest.map fun v => v.category).sum + (nativeFrameWords "java/lang/System" "arraycopy" 5 + 11) ≤ R.locals) (hdg : decode cc pc = .ok (.invokestatic index, 3))
    (kk : ∀ (H1 : Heap) (locs1 : List Loc), cB9 D I Z F ad A H0 (mrow M j (va_cpy (M i) (M j) 0 0 n)) H1 locs1 → W p l e R s m args below meth c H1 locs1 cells slots Q (F0 m (pc + 3) ls rest)) : W p l e R s m args below meth c H locs cells slots Q (F0 m pc ls (.int x :: .int 0 :: .ref (ad j) :: .int 0 :: .ref (ad i) :: rest)) := by
  subst hxn
  have z0 : (0 : Int32).toNatClampNeg = 0 := rfl
  refine va_copyi hx hb hml hown (hts _ hlink) (hts _ hnat) (hts _ hstat) (hts _ hini) hK hW.1 (hDa.d _) hW.2 i j 0 0 (ty := .int) (by rw [cW_get ad _ hi, hei]) (by rw [cW_get ad _ hj, hej]) rfl rfl rfl (by decide) (by decide) (nI_pos hn) (by rw [nI_clamp hn, z0]; omega) (by rw [nI_clamp hn, z0]; omega) (fun _ _ => rfl) hframes hlocals hdg fun H1 locs1 hP _ hS => ?_
  rw [nI_clamp hn, z0] at hP
  refine kk H1 locs1 ⟨?_, hS⟩
  show va_P D vwCl (cW ad (cE I Z F ad (mrow M j _))) H1
  rw [← cE_row, ← cW_set, cS_arr (show cS I Z F ad j (M j) = _ from hej) (va_cpy (M i) (M j) 0 0 n)]
  exact hP
end CCALLS
