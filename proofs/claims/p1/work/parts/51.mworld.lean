/-! ===== the cells of one SharedForksModel: 13 cells; M i j and L i j are the ints and longs in cell i at place j ===== -/
def mW (ad : Nat → Nat) (E : Nat → va_E) : va_W := cWn ad E 13
def mS (I Z J : ClassId) (ad : Nat → Nat) (i : Nat) (f : Nat → Int32) (g : Nat → Int64) : va_E := match i with
  | 0 => .inr (3, [.int (f 0), .ref (ad 1), .ref (ad 2), .ref (ad 3), .int (f 4), .ref (ad 4), .ref (ad 5), .ref (ad 6), .ref (ad 7), .ref (ad 8), .ref (ad 9), .ref (ad 10), .ref (ad 11), .ref (ad 12), .int (f 14)])
  | 1 => .inl (Z, 12, .inl f)
  | 2 => .inl (J, 48, .inr (.inl g))
  | 3 => .inl (I, 8, .inl f)
  | 4 => .inl (J, 3840, .inr (.inl g))
  | 5 => .inl (I, 960, .inl f)
  | 6 => .inl (I, 960, .inl f)
  | 7 => .inl (I, 960, .inl f)
  | 8 => .inl (I, 960, .inl f)
  | 9 => .inl (I, 12, .inl f)
  | 10 => .inl (J, 40, .inr (.inl g))
  | 11 => .inl (I, 80, .inl f)
  | _ => .inl (I, 960, .inl f)
def mE (I Z J : ClassId) (ad : Nat → Nat) (M : Nat → Nat → Int32) (L : Nat → Nat → Int64) : Nat → va_E := fun i => mS I Z J ad i (M i) (L i)
def lrow (L : Nat → Nat → Int64) (i : Nat) (g : Nat → Int64) : Nat → Nat → Int64 := fun a => if a = i then g else L a
def lst (L : Nat → Nat → Int64) (i j : Nat) (x : Int64) : Nat → Nat → Int64 := lrow L i (vp_updL (L i) j x)
theorem lrow_same (L : Nat → Nat → Int64) (i : Nat) (f : Nat → Int64) : lrow L i f i = f := if_pos rfl
theorem lrow_ne {L : Nat → Nat → Int64} {i a : Nat} {f : Nat → Int64} (h : a ≠ i) : lrow L i f a = L a := if_neg h
theorem lrow_id (L : Nat → Nat → Int64) (i : Nat) : lrow L i (L i) = L := by
  funext a; by_cases h : a = i
  · subst h; rw [lrow_same]
  · rw [lrow_ne h]
theorem mE_row (I Z J : ClassId) (ad : Nat → Nat) (M : Nat → Nat → Int32) (L : Nat → Nat → Int64) (i : Nat) (f : Nat → Int32) (g : Nat → Int64) : va_up (mE I Z J ad M L) i (mS I Z J ad i f g) = mE I Z J ad (mrow M i f) (lrow L i g) := by
  funext a
  by_cases h : a = i
  · subst h; rw [va_up_self]; show _ = mS I Z J ad a (mrow M a f a) (lrow L a g a); rw [mrow_same, lrow_same]
  · rw [va_up_ne _ _ h]; show _ = mS I Z J ad a (mrow M i f a) (lrow L i g a); rw [mrow_ne h, lrow_ne h]; rfl
def mD (ad : Nat → Nat) (A : Nat → Prop) : Prop := (∀ i j : Nat, i < 13 → j < 13 → ad i = ad j → i = j) ∧ ∀ i : Nat, i < 13 → A (ad i)
theorem mD.d {ad : Nat → Nat} {A : Nat → Prop} (h : mD ad A) (E : Nat → va_E) : va_D A (mW ad E) := by
  refine ⟨fun i j x y hx hy hxy => ?_, fun k q hk => ?_⟩
  · obtain ⟨h1, rfl⟩ := cWn_of hx
    obtain ⟨h2, rfl⟩ := cWn_of hy
    exact h.1 i j h1 h2 hxy
  · obtain ⟨h1, rfl⟩ := cWn_of hk
    exact h.2 k h1
def mA (ad : Nat → Nat) (sz : Nat) : Nat → Prop := fun q => (∃ k : Nat, k < 13 ∧ q = ad k) ∨ sz ≤ q
theorem mA.in {ad : Nat → Nat} {sz k : Nat} (h : k < 13) : mA ad sz (ad k) := Or.inl ⟨k, h, rfl⟩
def mI (ad : Nat → Nat) : Prop := ∀ i j : Nat, i < 13 → j < 13 → ad i = ad j → i = j
theorem mI.d {ad : Nat → Nat} (h : mI ad) (sz : Nat) : mD ad (mA ad sz) := ⟨h, fun _ hk => mA.in hk⟩
def mP (D : va_G) (I Z J : ClassId) (ad : Nat → Nat) (M : Nat → Nat → Int32) (L : Nat → Nat → Int64) (H : Heap) : Prop := va_P D vwCl (mW ad (mE I Z J ad M L)) H
abbrev mT (I Z J : ClassId) : List (ClassId × FieldType) := [(I, .int), (Z, .boolean), (J, .long)]
abbrev mU8 : Type := (Nat → Nat → Int32) × (Nat → Nat → Int64)
def mU (D : va_G) (I Z J : ClassId) (ad : Nat → Nat) (sz : Nat) (M : Nat → Nat → Int32) (L : Nat → Nat → Int64) (U : State) : Prop := U.heap.size = sz ∧ mP D I Z J ad M L U.heap ∧ va_K D vwCl (mT I Z J) U
def mB9 (D : va_G) (I Z J : ClassId) (ad : Nat → Nat) (A : Nat → Prop) (H0 : Heap) (M : Nat → Nat → Int32) (L : Nat → Nat → Int64) (H : Heap) (locs : List Loc) : Prop := mP D I Z J ad M L H ∧ va_S A H0 H locs
theorem va_S.subm {A : Nat → Prop} {H0 H : Heap} {locs : List Loc} {ad : Nat → Nat} (h : va_S A H0 H locs) (hA : ∀ q, H0.size ≤ q → A q) (hD : mD ad A) : ∀ q, mA ad H.size q → A q := by
  rintro q (⟨k, hk, rfl⟩ | h2)
  · exact hD.2 k hk
  · exact hA q (Nat.le_trans h.1 h2)
section MROWS
variable {p : Program} {l : Launch} {e : Env} {R : Room} {s : State} {m : MethodId} {args : Array Value} {below : List Frame} {meth : Method} {c : Code} {cc : ByteArray} {H H0 : Heap} {locs : List Loc} {cells slots : Nat} {Q : State → Prop} {pc : Nat} {ls : Array Slot} {rest st0 : List Value} {D : va_G} {A : Nat → Prop} {I Z J : ClassId} {ad : Nat → Nat} {M : Nat → Nat → Int32} {L : Nat → Nat → Int64} {a : Array Value}
theorem mr_get (hx : p.tables.exec = Jvm.exec) (hb : c.code = cc) {d0 n0 : String} {index : Nat} {Ts : List Cond} (hts : ∀ w ∈ Ts, w.before args s = true) (hin : ∀ w ∈ u_ws RX3 TX3 15, w ∈ Ts) (hown : s.vm.findClass RX3 = some m.cls) (hK : va_K D vwCl (mT I Z J) s) (hW : mB9 D I Z J ad A H0 M L H locs) {fs : List Value} (he : mE I Z J ad M L 0 = .inr (3, fs)) (k : Nat) (hk : k < 15) (hT : TX3 k = (RX3, n0, d0, (TX3 k).2.2.2)) (hlink : Cond.fieldLink RX3 index RX3 n0 d0 ∈ Ts) {v : Value} (hv : fs[k]? = some v) (hdg : decode cc pc = .ok (.getfield index, 3))
    (kk : W p l e R s m args below meth c H locs cells slots Q (F0 m (pc + 3) ls (v :: rest))) : W p l e R s m args below meth c H locs cells slots Q (F0 m pc ls (.ref (ad 0) :: rest)) := by
  refine va_get (ref := RX3) hx hb hts hin hown hK hW.1 0 (fs := fs) (by rw [mW, cWn_get ad _ (by decide), he]) rfl k hk (by rw [hT]; exact hts _ hlink) (fun x h => by rw [hT] at h ⊢; exact h) hv hdg kk
theorem mr_put (hx : p.tables.exec = Jvm.exec) (hb : c.code = cc) {d0 n0 : String} {index : Nat} {Ts : List Cond} (hts : ∀ w ∈ Ts, w.before args s = true) (hin : ∀ w ∈ u_ws RX3 TX3 15, w ∈ Ts) (hown : s.vm.findClass RX3 = some m.cls) (hK : va_K D vwCl (mT I Z J) s) (hDa : mD ad A) (hW : mB9 D I Z J ad A H0 M L H locs) {fs : List Value} (he : mE I Z J ad M L 0 = .inr (3, fs)) (k : Nat) (hk : k < 15) (hT : TX3 k = (RX3, n0, d0, false)) (hlink : Cond.fieldLink RX3 index RX3 n0 d0 ∈ Ts) {x : Int32} (hd : parseFieldDescriptor d0 = some .int) (hl : k < fs.length) (he' : mS I Z J ad 0 (upd (M 0) k x) (L 0) = .inr (3, fs.set k (.int x))) (hdg : decode cc pc = .ok (.putfield index, 3))
    (kk : ∀ (H1 : Heap) (locs1 : List Loc), mB9 D I Z J ad A H0 (mst M 0 k x) L H1 locs1 → W p l e R s m args below meth c H1 locs1 cells slots Q (F0 m (pc + 3) ls rest)) : W p l e R s m args below meth c H locs cells slots Q (F0 m pc ls (.int x :: .ref (ad 0) :: rest)) := by
  refine va_put (ref := RX3) (ty := .int) hx hb hts hin tyX3 tyX3_ok nmX3 hown hK hW.1 (hDa.d _) hW.2 0 (fs := fs) (by rw [mW, cWn_get ad _ (by decide), he]) rfl k hk (by rw [hT]; exact hts _ hlink) (fun x h => by rw [hT] at h ⊢; exact h) (by rw [hT]) (by rw [hT]; exact hd) rfl rfl hl hdg fun H1 locs1 hP _ hS => ?_
  refine kk H1 locs1 ⟨?_, hS⟩
  show va_P D vwCl (cWn ad (mE I Z J ad (mst M 0 k x) L) 13) H1
  have e := mE_row I Z J ad M L 0 (upd (M 0) k x) (L 0)
  rw [lrow_id] at e
  rw [mst_row, ← e, ← cWn_set, he']
  exact hP
theorem mr_iald (hx : p.tables.exec = Jvm.exec) (hb : c.code = cc) (hK : va_K D vwCl (mT I Z J) s) (hW : mB9 D I Z J ad A H0 M L H locs) (i : Nat) (hi : i < 13) {n : Nat} (he : mE I Z J ad M L i = .inl (I, n, .inl (M i))) (j : Nat) {x : Int32} (hj : j < n) (hn : n < 2 ^ 31) (hxj : x = nI j) (hdg : decode cc pc = .ok (.iaload, 1))
    (kk : W p l e R s m args below meth c H locs cells slots Q (F0 m (pc + 1) ls (.int (M i j) :: rest))) : W p l e R s m args below meth c H locs cells slots Q (F0 m pc ls (.int x :: .ref (ad i) :: rest)) := by
  subst hxj
  refine va_iald hx hb hK hW.1 i 0 (by rw [mW, cWn_get ad _ hi, he]) rfl (vp_in_nI hj hn) hdg ?_
  rw [nI_clamp (Nat.lt_trans hj hn)]
  exact kk
theorem mr_zald (hx : p.tables.exec = Jvm.exec) (hb : c.code = cc) (hK : va_K D vwCl (mT I Z J) s) (hW : mB9 D I Z J ad A H0 M L H locs) (i : Nat) (hi : i < 13) {n : Nat} (he : mE I Z J ad M L i = .inl (Z, n, .inl (M i))) (j : Nat) {x : Int32} (hj : j < n) (hn : n < 2 ^ 31) (hxj : x = nI j) (hdg : decode cc pc = .ok (.baload, 1))
    (kk : W p l e R s m args below meth c H locs cells slots Q (F0 m (pc + 1) ls (.int (M i j) :: rest))) : W p l e R s m args below meth c H locs cells slots Q (F0 m pc ls (.int x :: .ref (ad i) :: rest)) := by
  subst hxj
  refine va_zald hx hb hK hW.1 i 1 (by rw [mW, cWn_get ad _ hi, he]) rfl (vp_in_nI hj hn) hdg ?_
  rw [nI_clamp (Nat.lt_trans hj hn)]
  exact kk
theorem mr_jald (hx : p.tables.exec = Jvm.exec) (hb : c.code = cc) (hK : va_K D vwCl (mT I Z J) s) (hW : mB9 D I Z J ad A H0 M L H locs) (i : Nat) (hi : i < 13) {n : Nat} (he : mE I Z J ad M L i = .inl (J, n, .inr (.inl (L i)))) (j : Nat) {x : Int32} (hj : j < n) (hn : n < 2 ^ 31) (hxj : x = nI j) (hdg : decode cc pc = .ok (.laload, 1))
    (kk : W p l e R s m args below meth c H locs cells slots Q (F0 m (pc + 1) ls (.long (L i j) :: rest))) : W p l e R s m args below meth c H locs cells slots Q (F0 m pc ls (.int x :: .ref (ad i) :: rest)) := by
  subst hxj
  refine va_lald hx hb hK hW.1 i 2 (by rw [mW, cWn_get ad _ hi, he]) rfl (vp_in_nI hj hn) hdg ?_
  rw [nI_clamp (Nat.lt_trans hj hn)]
  exact kk
theorem mB9.seti {i n : Nat} {C : ClassId} {f' : Nat → Int32} {H1 : Heap} {locs1 : List Loc} (he : mS I Z J ad i f' (L i) = .inl (C, n, .inl f')) (hP : va_P D vwCl ((mW ad (mE I Z J ad M L)).set i (ad i, .inl (C, n, .inl f'))) H1) (hS : va_S A H0 H1 locs1) : mB9 D I Z J ad A H0 (mrow M i f') L H1 locs1 := by
  refine ⟨?_, hS⟩
  show va_P D vwCl (cWn ad (mE I Z J ad (mrow M i f') L) 13) H1
  have e := mE_row I Z J ad M L i f' (L i)
  rw [lrow_id] at e
  rw [← e, ← cWn_set, he]
  exact hP
theorem mB9.setl {i n : Nat} {C : ClassId} {g' : Nat → Int64} {H1 : Heap} {locs1 : List Loc} (he : mS I Z J ad i (M i) g' = .inl (C, n, .inr (.inl g'))) (hP : va_P D vwCl ((mW ad (mE I Z J ad M L)).set i (ad i, .inl (C, n, .inr (.inl g')))) H1) (hS : va_S A H0 H1 locs1) : mB9 D I Z J ad A H0 M (lrow L i g') H1 locs1 := by
  refine ⟨?_, hS⟩
  show va_P D vwCl (cWn ad (mE I Z J ad M (lrow L i g')) 13) H1
  have e := mE_row I Z J ad M L i (M i) g'
  rw [mrow_id] at e
  rw [← e, ← cWn_set, he]
  exact hP
theorem mr_iast (hx : p.tables.exec = Jvm.exec) (hb : c.code = cc) (hK : va_K D vwCl (mT I Z J) s) (hDa : mD ad A) (hW : mB9 D I Z J ad A H0 M L H locs) (i : Nat) (hi : i < 13) {n : Nat} (he : ∀ (f : Nat → Int32) (g : Nat → Int64), mS I Z J ad i f g = .inl (I, n, .inl f)) (j : Nat) {y x : Int32} (hj : j < n) (hn : n < 2 ^ 31) (hyj : y = nI j) (hdg : decode cc pc = .ok (.iastore, 1))
    (kk : ∀ (H1 : Heap) (locs1 : List Loc), mB9 D I Z J ad A H0 (mst M i j x) L H1 locs1 → W p l e R s m args below meth c H1 locs1 cells slots Q (F0 m (pc + 1) ls rest)) : W p l e R s m args below meth c H locs cells slots Q (F0 m pc ls (.int x :: .int y :: .ref (ad i) :: rest)) := by
  subst hyj
  refine va_iast hx hb hK hW.1 (hDa.d _) hW.2 i 0 (f := M i) (by rw [mW, cWn_get ad _ hi]; exact congrArg (fun z => some (ad i, z)) (he _ _)) rfl (vp_in_nI hj hn) hdg fun H1 locs1 hP _ hS => ?_
  rw [nI_clamp (Nat.lt_trans hj hn)] at hP
  rw [mst_row] at kk
  exact kk H1 locs1 (mB9.seti (he _ _) hP hS)
theorem mr_zast (hx : p.tables.exec = Jvm.exec) (hb : c.code = cc) (hK : va_K D vwCl (mT I Z J) s) (hDa : mD ad A) (hW : mB9 D I Z J ad A H0 M L H locs) (i : Nat) (hi : i < 13) {n : Nat} (he : ∀ (f : Nat → Int32) (g : Nat → Int64), mS I Z J ad i f g = .inl (Z, n, .inl f)) (j : Nat) {y x : Int32} (hj : j < n) (hn : n < 2 ^ 31) (hyj : y = nI j) (h01 : x = 0 ∨ x = 1) (hdg : decode cc pc = .ok (.bastore, 1))
    (kk : ∀ (H1 : Heap) (locs1 : List Loc), mB9 D I Z J ad A H0 (mst M i j x) L H1 locs1 → W p l e R s m args below meth c H1 locs1 cells slots Q (F0 m (pc + 1) ls rest)) : W p l e R s m args below meth c H locs cells slots Q (F0 m pc ls (.int x :: .int y :: .ref (ad i) :: rest)) := by
  subst hyj
  refine va_zast hx hb hK hW.1 (hDa.d _) hW.2 i 1 (f := M i) (by rw [mW, cWn_get ad _ hi]; exact congrArg (fun z => some (ad i, z)) (he _ _)) rfl (vp_in_nI hj hn) hdg fun H1 locs1 hP _ hS => ?_
  rw [nI_clamp (Nat.lt_trans hj hn), vp_narZ h01] at hP
  rw [mst_row] at kk
  exact kk H1 locs1 (mB9.seti (he _ _) hP hS)
theorem mr_jast (hx : p.tables.exec = Jvm.exec) (hb : c.code = cc) (hK : va_K D vwCl (mT I Z J) s) (hDa : mD ad A) (hW : mB9 D I Z J ad A H0 M L H locs) (i : Nat) (hi : i < 13) {n : Nat} (he : ∀ (f : Nat → Int32) (g : Nat → Int64), mS I Z J ad i f g = .inl (J, n, .inr (.inl g))) (j : Nat) {y : Int32} {x : Int64} (hj : j < n) (hn : n < 2 ^ 31) (hyj : y = nI j) (hdg : decode cc pc = .ok (.lastore, 1))
    (kk : ∀ (H1 : Heap) (locs1 : List Loc), mB9 D I Z J ad A H0 M (lst L i j x) H1 locs1 → W p l e R s m args below meth c H1 locs1 cells slots Q (F0 m (pc + 1) ls rest)) : W p l e R s m args below meth c H locs cells slots Q (F0 m pc ls (.long x :: .int y :: .ref (ad i) :: rest)) := by
  subst hyj
  refine va_last hx hb hK hW.1 (hDa.d _) hW.2 i 2 (f := L i) (by rw [mW, cWn_get ad _ hi]; exact congrArg (fun z => some (ad i, z)) (he _ _)) rfl (vp_in_nI hj hn) hdg fun H1 locs1 hP _ hS => ?_
  rw [nI_clamp (Nat.lt_trans hj hn)] at hP
  exact kk H1 locs1 (mB9.setl (he _ _) hP hS)
end MROWS
