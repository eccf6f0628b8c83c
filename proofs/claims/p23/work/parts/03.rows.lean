section CROWS
variable {p : Program} {l : Launch} {e : Env} {R : Room} {s : State} {m : MethodId} {args : Array Value} {below : List Frame} {meth : Method} {c : Code} {cc : ByteArray} {H H0 : Heap} {locs : List Loc} {cells slots : Nat} {Q : State → Prop} {pc : Nat} {ls : Array Slot} {rest : List Value} {D : va_G} {A : Nat → Prop} {I Z F : ClassId} {ad : Nat → Nat} {M : Nat → Nat → Int32}
/-- a field of an object among the cells -/
theorem cr_get (hx : p.tables.exec = Jvm.exec) (hb : c.code = cc) {own C d0 n0 : String} {T : u_T} {N ci index : Nat} {Ts : List Cond} (hts : ∀ w ∈ Ts, w.before args s = true) (hin : ∀ w ∈ u_ws C T N, w ∈ Ts) (hown : s.vm.findClass own = some m.cls) (hK : va_K D vwCl (cT I Z F) s) (hW : cB9 D I Z F ad A H0 M H locs) (i : Nat) (hi : i < 97) {fs : List Value} (he : cE I Z F ad M i = .inr (ci, fs)) (hc : vwCl[ci]? = some (C, T, N)) (k : Nat) (hk : k < N) (hT : T k = (C, n0, d0, (T k).2.2.2)) (hlink : Cond.fieldLink own index C n0 d0 ∈ Ts) {v : Value} (hv : fs[k]? = some v) (hdg : decode cc pc = .ok (.getfield index, 3))
    (kk : W p l e R s m args below meth c H locs cells slots Q (F0 m (pc + 3) ls (v :: rest))) : W p l e R s m args below meth c H locs cells slots Q (F0 m pc ls (.ref (ad i) :: rest)) := by
  refine va_get (ref := C) hx hb hts hin hown hK hW.1 i (fs := fs) (by rw [cW_get ad _ hi, he]) hc k hk (by rw [hT]; exact hts _ hlink) (fun x h => by rw [hT] at h ⊢; exact h) hv hdg kk
theorem cr_getN (hx : p.tables.exec = Jvm.exec) (hb : c.code = cc) {own C d0 n0 host : String} {T : u_T} {N ci index : Nat} {Ts : List Cond} (hts : ∀ w ∈ Ts, w.before args s = true) (hin : ∀ w ∈ u_ws C T N, w ∈ Ts) (hown : s.vm.findClass own = some m.cls) (hK : va_K D vwCl (cT I Z F) s) (hW : cB9 D I Z F ad A H0 M H locs) (i : Nat) (hi : i < 97) {fs : List Value} (he : cE I Z F ad M i = .inr (ci, fs)) (hc : vwCl[ci]? = some (C, T, N)) (k : Nat) (hk : k < N) (hT : T k = (C, n0, d0, (T k).2.2.2)) (hN : cN s) (hlink : Cond.fieldLinkNest own index C n0 d0 host ∈ cNest) {v : Value} (hv : fs[k]? = some v) (hdg : decode cc pc = .ok (.getfield index, 3))
    (kk : W p l e R s m args below meth c H locs cells slots Q (F0 m (pc + 3) ls (v :: rest))) : W p l e R s m args below meth c H locs cells slots Q (F0 m pc ls (.ref (ad i) :: rest)) := by
  refine va_getN (ref := C) (host := host) hx hb hts hin hown hK hW.1 i (fs := fs) (by rw [cW_get ad _ hi, he]) hc k hk (by rw [hT]; exact va_Nw.use rfl (hN _ hlink)) (fun x h => by rw [hT] at h ⊢; exact h) hv hdg kk
/-- a place of an int array among the cells -/
theorem cr_iald (hx : p.tables.exec = Jvm.exec) (hb : c.code = cc) (hK : va_K D vwCl (cT I Z F) s) (hW : cB9 D I Z F ad A H0 M H locs) (i : Nat) (hi : i < 97) {n : Nat} {f : Nat → Int32} (he : cE I Z F ad M i = .inl (I, n, .inl f)) (j : Nat) {x : Int32} (hj : j < n) (hn : n < 2 ^ 31) (hxj : x = nI j) (hdg : decode cc pc = .ok (.iaload, 1))
    (kk : W p l e R s m args below meth c H locs cells slots Q (F0 m (pc + 1) ls (.int (f j) :: rest))) : W p l e R s m args below meth c H locs cells slots Q (F0 m pc ls (.int x :: .ref (ad i) :: rest)) := by
  subst hxj
  refine va_iald hx hb hK hW.1 i 0 (by rw [cW_get ad _ hi, he]) rfl (vp_in_nI hj hn) hdg ?_
  rw [nI_clamp (Nat.lt_trans hj hn)]
  exact kk
theorem cr_zald (hx : p.tables.exec = Jvm.exec) (hb : c.code = cc) (hK : va_K D vwCl (cT I Z F) s) (hW : cB9 D I Z F ad A H0 M H locs) (i : Nat) (hi : i < 97) {n : Nat} {f : Nat → Int32} (he : cE I Z F ad M i = .inl (Z, n, .inl f)) (j : Nat) {x : Int32} (hj : j < n) (hn : n < 2 ^ 31) (hxj : x = nI j) (hdg : decode cc pc = .ok (.baload, 1))
    (kk : W p l e R s m args below meth c H locs cells slots Q (F0 m (pc + 1) ls (.int (f j) :: rest))) : W p l e R s m args below meth c H locs cells slots Q (F0 m pc ls (.int x :: .ref (ad i) :: rest)) := by
  subst hxj
  refine va_zald hx hb hK hW.1 i 1 (by rw [cW_get ad _ hi, he]) rfl (vp_in_nI hj hn) hdg ?_
  rw [nI_clamp (Nat.lt_trans hj hn)]
  exact kk
/-- a fold out of the row of folds -/
theorem cr_fald (hx : p.tables.exec = Jvm.exec) (hb : c.code = cc) (hK : va_K D vwCl (cT I Z F) s) (hW : cB9 D I Z F ad A H0 M H locs) (j : Nat) {x : Int32} (hj : j < 12) (hxj : x = nI j) (hdg : decode cc pc = .ok (.aaload, 1))
    (kk : W p l e R s m args below meth c H locs cells slots Q (F0 m (pc + 1) ls (.ref (ad (25 + 6 * j)) :: rest))) : W p l e R s m args below meth c H locs cells slots Q (F0 m pc ls (.int x :: .ref (ad 1) :: rest)) := by
  subst hxj
  refine va_aldq hx hb hK hW.1 1 2 (by rw [cW_get ad _ (by decide), cE_folds]) rfl (vp_in_nI hj (by decide)) hdg ?_
  rw [nI_clamp (by omega)]
  show W p l e R s m args below meth c H locs cells slots Q (F0 m (pc + 1) ls (va_rf (if j < 12 then some (ad (25 + 6 * j)) else none) :: rest))
  rw [if_pos hj]
  exact kk
theorem cB9.setA {i n : Nat} {C : ClassId} {x : Int32} {H1 : Heap} {locs1 : List Loc} {j : Nat} (he : cE I Z F ad M i = .inl (C, n, .inl (M i))) (hP : va_P D vwCl ((cW ad (cE I Z F ad M)).set i (ad i, .inl (C, n, .inl (upd (M i) j x)))) H1) (hS : va_S A H0 H1 locs1) : cB9 D I Z F ad A H0 (mst M i j x) H1 locs1 := by
  refine ⟨?_, hS⟩
  show va_P D vwCl (cW ad (cE I Z F ad (mst M i j x))) H1
  rw [mst_row, ← cE_row, ← cW_set, cS_arr (show cS I Z F ad i (M i) = _ from he) (upd (M i) j x)]
  exact hP
theorem cr_iast (hx : p.tables.exec = Jvm.exec) (hb : c.code = cc) (hK : va_K D vwCl (cT I Z F) s) (hDa : cD ad A) (hW : cB9 D I Z F ad A H0 M H locs) (i : Nat) (hi : i < 97) {n : Nat} (he : cE I Z F ad M i = .inl (I, n, .inl (M i))) (j : Nat) {y x : Int32} (hj : j < n) (hn : n < 2 ^ 31) (hyj : y = nI j) (hdg : decode cc pc = .ok (.iastore, 1))
    (kk : ∀ (H1 : Heap) (locs1 : List Loc), cB9 D I Z F ad A H0 (mst M i j x) H1 locs1 → W p l e R s m args below meth c H1 locs1 cells slots Q (F0 m (pc + 1) ls rest)) : W p l e R s m args below meth c H locs cells slots Q (F0 m pc ls (.int x :: .int y :: .ref (ad i) :: rest)) := by
  subst hyj
  refine va_iast hx hb hK hW.1 (hDa.d _) hW.2 i 0 (by rw [cW_get ad _ hi, he]) rfl (vp_in_nI hj hn) hdg fun H1 locs1 hP _ hS => ?_
  rw [nI_clamp (Nat.lt_trans hj hn)] at hP
  exact kk H1 locs1 (cB9.setA he hP hS)
theorem vp_narZ {x : Int32} (h : x = 0 ∨ x = 1) : vp_nar .boolean x = x := by rcases h with rfl | rfl <;> decide
theorem cr_zast (hx : p.tables.exec = Jvm.exec) (hb : c.code = cc) (hK : va_K D vwCl (cT I Z F) s) (hDa : cD ad A) (hW : cB9 D I Z F ad A H0 M H locs) (i : Nat) (hi : i < 97) {n : Nat} (he : cE I Z F ad M i = .inl (Z, n, .inl (M i))) (j : Nat) {y x : Int32} (hj : j < n) (hn : n < 2 ^ 31) (hyj : y = nI j) (h01 : x = 0 ∨ x = 1) (hdg : decode cc pc = .ok (.bastore, 1))
    (kk : ∀ (H1 : Heap) (locs1 : List Loc), cB9 D I Z F ad A H0 (mst M i j x) H1 locs1 → W p l e R s m args below meth c H1 locs1 cells slots Q (F0 m (pc + 1) ls rest)) : W p l e R s m args below meth c H locs cells slots Q (F0 m pc ls (.int x :: .int y :: .ref (ad i) :: rest)) := by
  subst hyj
  refine va_zast hx hb hK hW.1 (hDa.d _) hW.2 i 1 (by rw [cW_get ad _ hi, he]) rfl (vp_in_nI hj hn) hdg fun H1 locs1 hP _ hS => ?_
  rw [nI_clamp (Nat.lt_trans hj hn), vp_narZ h01] at hP
  exact kk H1 locs1 (cB9.setA he hP hS)
/-- an int field of an object among the cells; he': the same object with the new field is the cell of the new row -/
theorem cr_put (hx : p.tables.exec = Jvm.exec) (hb : c.code = cc) {own C d0 n0 : String} {T : u_T} {N ci index : Nat} {Ts : List Cond} (hts : ∀ w ∈ Ts, w.before args s = true) (hin : ∀ w ∈ u_ws C T N, w ∈ Ts) (ty0 : Nat → FieldType) (hty : ∀ k, k < N → parseFieldDescriptor (T k).2.2.1 = some (ty0 k)) (hnm : ∀ a, a < N → ∀ b, b < N → a ≠ b → (T a).2.1 ≠ (T b).2.1) (hown : s.vm.findClass own = some m.cls) (hK : va_K D vwCl (cT I Z F) s) (hDa : cD ad A) (hW : cB9 D I Z F ad A H0 M H locs) (i : Nat) (hi : i < 97) {fs : List Value} (he : cE I Z F ad M i = .inr (ci, fs)) (hc : vwCl[ci]? = some (C, T, N)) (k : Nat) (hk : k < N) (hT : T k = (C, n0, d0, false)) (hlink : Cond.fieldLink own index C n0 d0 ∈ Ts) {ty : FieldType} {x : Int32} (hd : parseFieldDescriptor d0 = some ty) (hn : narrow ty (.int x) = .int x) (hfit : fits ty (.int x) = true) (hl : k < fs.length) (he' : cS I Z F ad i (upd (M i) k x) = .inr (ci, fs.set k (.int x))) (hdg : decode cc pc = .ok (.putfield index, 3))
    (kk : ∀ (H1 : Heap) (locs1 : List Loc), cB9 D I Z F ad A H0 (mst M i k x) H1 locs1 → W p l e R s m args below meth c H1 locs1 cells slots Q (F0 m (pc + 3) ls rest)) : W p l e R s m args below meth c H locs cells slots Q (F0 m pc ls (.int x :: .ref (ad i) :: rest)) := by
  refine va_put (ref := C) (ty := ty) hx hb hts hin ty0 hty hnm hown hK hW.1 (hDa.d _) hW.2 i (fs := fs) (by rw [cW_get ad _ hi, he]) hc k hk (by rw [hT]; exact hts _ hlink) (fun x h => by rw [hT] at h ⊢; exact h) (by rw [hT]) (by rw [hT]; exact hd) hn hfit hl hdg fun H1 locs1 hP _ hS => ?_
  refine kk H1 locs1 ⟨?_, hS⟩
  show va_P D vwCl (cW ad (cE I Z F ad (mst M i k x))) H1
  rw [mst_row, ← cE_row, ← cW_set, he']
  exact hP
theorem cr_putN (hx : p.tables.exec = Jvm.exec) (hb : c.code = cc) {own C d0 n0 host : String} {T : u_T} {N ci index : Nat} {Ts : List Cond} (hts : ∀ w ∈ Ts, w.before args s = true) (hin : ∀ w ∈ u_ws C T N, w ∈ Ts) (ty0 : Nat → FieldType) (hty : ∀ k, k < N → parseFieldDescriptor (T k).2.2.1 = some (ty0 k)) (hnm : ∀ a, a < N → ∀ b, b < N → a ≠ b → (T a).2.1 ≠ (T b).2.1) (hown : s.vm.findClass own = some m.cls) (hK : va_K D vwCl (cT I Z F) s) (hDa : cD ad A) (hW : cB9 D I Z F ad A H0 M H locs) (i : Nat) (hi : i < 97) {fs : List Value} (he : cE I Z F ad M i = .inr (ci, fs)) (hc : vwCl[ci]? = some (C, T, N)) (k : Nat) (hk : k < N) (hT : T k = (C, n0, d0, false)) (hN : cN s) (hlink : Cond.fieldLinkNest own index C n0 d0 host ∈ cNest) {ty : FieldType} {x : Int32} (hd : parseFieldDescriptor d0 = some ty) (hn : narrow ty (.int x) = .int x) (hfit : fits ty (.int x) = true) (hl : k < fs.length) (he' : cS I Z F ad i (upd (M i) k x) = .inr (ci, fs.set k (.int x))) (hdg : decode cc pc = .ok (.putfield index, 3))
    (kk : ∀ (H1 : Heap) (locs1 : List Loc), cB9 D I Z F ad A H0 (mst M i k x) H1 locs1 → W p l e R s m args below meth c H1 locs1 cells slots Q (F0 m (pc + 3) ls rest)) : W p l e R s m args below meth c H locs cells slots Q (F0 m pc ls (.int x :: .ref (ad i) :: rest)) := by
  refine va_putN (ref := C) (host := host) (ty := ty) hx hb hts hin ty0 hty hnm hown hK hW.1 (hDa.d _) hW.2 i (fs := fs) (by rw [cW_get ad _ hi, he]) hc k hk (by rw [hT]; exact va_Nw.use rfl (hN _ hlink)) (fun x h => by rw [hT] at h ⊢; exact h) (by rw [hT]) (by rw [hT]; exact hd) hn hfit hl hdg fun H1 locs1 hP _ hS => ?_
  refine kk H1 locs1 ⟨?_, hS⟩
  show va_P D vwCl (cW ad (cE I Z F ad (mst M i k x))) H1
  rw [mst_row, ← cE_row, ← cW_set, he']
  exact hP
theorem cS_f0p {g : Nat} (hg : g = 3 ∨ g = 15) (f : Nat → Int32) (x : Int32) : cS I Z F ad g (upd f 0 x) = .inr (1, [.int x, .ref (ad (g + 1)), .ref (ad (g + 2)), .ref (ad (g + 3)), .ref (ad (g + 4)), .ref (ad (g + 5)), .ref (ad (g + 6)), .ref (ad (g + 7)), .ref (ad (g + 8)), .ref (ad (g + 9))]) := by rcases hg with rfl | rfl <;> rfl
theorem cS_d0p0 (k : Nat) (f : Nat → Int32) (x : Int32) : cS I Z F ad (25 + 6 * k) (upd f 0 x) = .inr (0, [.int x, .ref (ad (25 + 6 * k + 1)), .int (f 2), .ref (ad (25 + 6 * k + 2)), .ref (ad (25 + 6 * k + 3)), .ref (ad (25 + 6 * k + 4)), .ref (ad (25 + 6 * k + 5))]) := by rw [cS_0]; rfl
theorem cS_d0p2 (k : Nat) (f : Nat → Int32) (x : Int32) : cS I Z F ad (25 + 6 * k) (upd f 2 x) = .inr (0, [.int (f 0), .ref (ad (25 + 6 * k + 1)), .int x, .ref (ad (25 + 6 * k + 2)), .ref (ad (25 + 6 * k + 3)), .ref (ad (25 + 6 * k + 4)), .ref (ad (25 + 6 * k + 5))]) := by rw [cS_0]; rfl
end CROWS
