abbrev rm_X1_init : Room := { frames := 1, cells := 9, slots := 4674, locals := 100 }
set_option maxHeartbeats 4000000 in
set_option maxRecDepth 100000 in
theorem c_X1_init (l : Launch) (D : va_G) (I : ClassId) (h0 sz : Nat) : Met l yX1_init wsX1_init rm_X1_init (va_Pc [.ref h0] (fun U => U.heap.size = sz ∧ va_P D vwCl [(h0, .inr (1, [.int 0, .null, .null, .null, .null, .null, .null, .null, .null, .null]))] U.heap ∧ va_K D vwCl [(I, .int)] U ∧ va_D (fun _ => True) [(h0, .inr (1, [.int 0, .null, .null, .null, .null, .null, .null, .null, .null, .null]))])) (va_Qv (fun (_ : Nat → Nat) => True) (fun q t => va_P D vwCl (fkCells I h0 q) t.heap ∧ va_D (va_A [(h0, .inr (1, [.int 0, .null, .null, .null, .null, .null, .null, .null, .null, .null]))] sz) (fkCells I h0 q)) (va_A [(h0, .inr (1, [.int 0, .null, .null, .null, .null, .null, .null, .null, .null, .null]))] sz)) 9 4674 (va_A [(h0, .inr (1, [.int 0, .null, .null, .null, .null, .null, .null, .null, .null, .null]))] sz) := by
  refine Met.ofW (cc := cX1_init) (maxL := 1) (ret := none) (by decide) rfl ?_
  intro p e s m args below meth c s₁ B hml hv
  obtain ⟨rfl, hsz, hP, hK, hD0⟩ := hv
  have hx := B.exec
  have hb := B.bytes
  have hr := B.returns
  have hts := atoms_spec (ws := wsX1_init) B.pre
  have hown : s.vm.findClass RX1 = some m.cls := findClass_of_methodNamed B.named
  have hlocks := B.notSynchronized
  have hin : meth.name = "<init>" := (name_of_methodNamed B.named B.method).1
  have hinw : ∀ w ∈ u_ws RX1 TX1 10, w ∈ wsX1_init := by decide +kernel
  subst hsz
  have hD := hD0.self (sz := s.heap.size)
  generalize hAe : va_A [(h0, .inr (1, [.int 0, .null, .null, .null, .null, .null, .null, .null, .null, .null]))] s.heap.size = A at hD ⊢
  have hA : ∀ q : Nat, s.heap.size ≤ q → A q := fun q h => by rw [← hAe]; exact Or.inr h
  have hS : va_S A s.heap s.heap [] := va_S.rf
  have hl := lv_entry ([.ref h0]) (n := 1) (Nat.le_of_ble_eq_true rfl)
  rw [lg_entry_eq]
  generalize (lg_sl ([.ref h0]) ++ List.replicate (1 - (lg_sl ([.ref h0])).length) Slot.unset).toArray = ls at hl ⊢
  have hl : lv_has ls 1 [(0, .ref h0)] := hl
  refine lv_aload_n hx hb dX1_init_0 rfl (lv_at hl 0 rfl) ?_
  refine W.objInit hx hb hown (hts (.methodLink RX1 3 objectInit) (by decide +kernel)) (hts (.instanceMethod objectInit) (by decide +kernel)) (hts (.code objectInit ⟨#[0xb1]⟩ 1 none) (by decide +kernel)) rfl (by rw [hml]; exact hl.1) rfl dX1_init_1 (Nat.le_of_ble_eq_true rfl) (Nat.le_of_ble_eq_true rfl) ?_
  refine W.eq (g2 := F0 m 4 ls []) rfl ?_
  refine lv_aload_n hx hb dX1_init_4 rfl (lv_at hl 0 rfl) ?_
  refine lv_sipush (v := 626) hx hb dX1_init_5 (by decide) ?_
  refine va_newa (atype := .int) (ty := .int) (a0 := (626, .inl (fun _ => 0))) hx hb (hts (.arrayClass .int) (by decide +kernel)) rfl hK hP hD hS hA (N' := 626) (fun _ => rfl) (by decide) (by decide) (by decide) (Nat.le_of_ble_eq_true rfl) (Nat.le_of_ble_eq_true rfl) dX1_init_8 (fun q1 cA H hK2 hP hD hS => ?_)
  obtain rfl : I = cA := va_K_one hK2 0 1 rfl rfl (fun _ h => by cases h)
  have hK := hK2.sub (tys' := [(I, .int)]) [0] rfl
  have hP : va_P D vwCl [(h0, .inr (1, [.int 0, .null, .null, .null, .null, .null, .null, .null, .null, .null])), (q1, .inl (I, 626, .inl (fun _ => 0)))] H := hP
  have hD : va_D A [(h0, .inr (1, [.int 0, .null, .null, .null, .null, .null, .null, .null, .null, .null])), (q1, .inl (I, 626, .inl (fun _ => 0)))] := hD
  refine va_putF (D := D) (ci := 1) (v := .ref q1) (ty := .array .int) (C := RX1) (T := TX1) (N := 10) hx hb hts hinw tyX1 tyX1_ok nmX1 hown hK hP hD hS 0 rfl rfl 1 (by decide) (hts (.fieldLink RX1 9 "SharedForks$Forks" "question" "[I") (by decide +kernel)) (fun _ h9 => h9) rfl hin rfl (by decide +kernel) rfl rfl (Nat.le_of_ble_eq_true rfl) dX1_init_10 (fun H locs hP hD hS => ?_)
  have hP : va_P D vwCl [(h0, .inr (1, [.int 0, .ref q1, .null, .null, .null, .null, .null, .null, .null, .null])), (q1, .inl (I, 626, .inl (fun _ => 0)))] H := hP
  have hD : va_D A [(h0, .inr (1, [.int 0, .ref q1, .null, .null, .null, .null, .null, .null, .null, .null])), (q1, .inl (I, 626, .inl (fun _ => 0)))] := hD
  refine lv_aload_n hx hb dX1_init_13 rfl (lv_at hl 0 rfl) ?_
  refine lv_sipush (v := 626) hx hb dX1_init_14 (by decide) ?_
  refine va_newa (atype := .int) (ty := .int) (a0 := (626, .inl (fun _ => 0))) hx hb (hts (.arrayClass .int) (by decide +kernel)) rfl hK hP hD hS hA (N' := 626) (fun _ => rfl) (by decide) (by decide) (by decide) (Nat.le_of_ble_eq_true rfl) (Nat.le_of_ble_eq_true rfl) dX1_init_17 (fun q2 cA H hK2 hP hD hS => ?_)
  obtain rfl : I = cA := va_K_one hK2 0 1 rfl rfl (fun _ h => by cases h)
  have hK := hK2.sub (tys' := [(I, .int)]) [0] rfl
  have hP : va_P D vwCl [(h0, .inr (1, [.int 0, .ref q1, .null, .null, .null, .null, .null, .null, .null, .null])), (q1, .inl (I, 626, .inl (fun _ => 0))), (q2, .inl (I, 626, .inl (fun _ => 0)))] H := hP
  have hD : va_D A [(h0, .inr (1, [.int 0, .ref q1, .null, .null, .null, .null, .null, .null, .null, .null])), (q1, .inl (I, 626, .inl (fun _ => 0))), (q2, .inl (I, 626, .inl (fun _ => 0)))] := hD
  refine va_putF (D := D) (ci := 1) (v := .ref q2) (ty := .array .int) (C := RX1) (T := TX1) (N := 10) hx hb hts hinw tyX1 tyX1_ok nmX1 hown hK hP hD hS 0 rfl rfl 2 (by decide) (hts (.fieldLink RX1 15 "SharedForks$Forks" "low" "[I") (by decide +kernel)) (fun _ h9 => h9) rfl hin rfl (by decide +kernel) rfl rfl (Nat.le_of_ble_eq_true rfl) dX1_init_19 (fun H locs hP hD hS => ?_)
  have hP : va_P D vwCl [(h0, .inr (1, [.int 0, .ref q1, .ref q2, .null, .null, .null, .null, .null, .null, .null])), (q1, .inl (I, 626, .inl (fun _ => 0))), (q2, .inl (I, 626, .inl (fun _ => 0)))] H := hP
  have hD : va_D A [(h0, .inr (1, [.int 0, .ref q1, .ref q2, .null, .null, .null, .null, .null, .null, .null])), (q1, .inl (I, 626, .inl (fun _ => 0))), (q2, .inl (I, 626, .inl (fun _ => 0)))] := hD
  refine lv_aload_n hx hb dX1_init_22 rfl (lv_at hl 0 rfl) ?_
  refine lv_sipush (v := 626) hx hb dX1_init_23 (by decide) ?_
  refine va_newa (atype := .int) (ty := .int) (a0 := (626, .inl (fun _ => 0))) hx hb (hts (.arrayClass .int) (by decide +kernel)) rfl hK hP hD hS hA (N' := 626) (fun _ => rfl) (by decide) (by decide) (by decide) (Nat.le_of_ble_eq_true rfl) (Nat.le_of_ble_eq_true rfl) dX1_init_26 (fun q3 cA H hK2 hP hD hS => ?_)
  obtain rfl : I = cA := va_K_one hK2 0 1 rfl rfl (fun _ h => by cases h)
  have hK := hK2.sub (tys' := [(I, .int)]) [0] rfl
  have hP : va_P D vwCl [(h0, .inr (1, [.int 0, .ref q1, .ref q2, .null, .null, .null, .null, .null, .null, .null])), (q1, .inl (I, 626, .inl (fun _ => 0))), (q2, .inl (I, 626, .inl (fun _ => 0))), (q3, .inl (I, 626, .inl (fun _ => 0)))] H := hP
  have hD : va_D A [(h0, .inr (1, [.int 0, .ref q1, .ref q2, .null, .null, .null, .null, .null, .null, .null])), (q1, .inl (I, 626, .inl (fun _ => 0))), (q2, .inl (I, 626, .inl (fun _ => 0))), (q3, .inl (I, 626, .inl (fun _ => 0)))] := hD
  refine va_putF (D := D) (ci := 1) (v := .ref q3) (ty := .array .int) (C := RX1) (T := TX1) (N := 10) hx hb hts hinw tyX1 tyX1_ok nmX1 hown hK hP hD hS 0 rfl rfl 3 (by decide) (hts (.fieldLink RX1 18 "SharedForks$Forks" "high" "[I") (by decide +kernel)) (fun _ h9 => h9) rfl hin rfl (by decide +kernel) rfl rfl (Nat.le_of_ble_eq_true rfl) dX1_init_28 (fun H locs hP hD hS => ?_)
  have hP : va_P D vwCl [(h0, .inr (1, [.int 0, .ref q1, .ref q2, .ref q3, .null, .null, .null, .null, .null, .null])), (q1, .inl (I, 626, .inl (fun _ => 0))), (q2, .inl (I, 626, .inl (fun _ => 0))), (q3, .inl (I, 626, .inl (fun _ => 0)))] H := hP
  have hD : va_D A [(h0, .inr (1, [.int 0, .ref q1, .ref q2, .ref q3, .null, .null, .null, .null, .null, .null])), (q1, .inl (I, 626, .inl (fun _ => 0))), (q2, .inl (I, 626, .inl (fun _ => 0))), (q3, .inl (I, 626, .inl (fun _ => 0)))] := hD
  refine lv_aload_n hx hb dX1_init_31 rfl (lv_at hl 0 rfl) ?_
  refine lv_sipush (v := 626) hx hb dX1_init_32 (by decide) ?_
  refine va_newa (atype := .int) (ty := .int) (a0 := (626, .inl (fun _ => 0))) hx hb (hts (.arrayClass .int) (by decide +kernel)) rfl hK hP hD hS hA (N' := 626) (fun _ => rfl) (by decide) (by decide) (by decide) (Nat.le_of_ble_eq_true rfl) (Nat.le_of_ble_eq_true rfl) dX1_init_35 (fun q4 cA H hK2 hP hD hS => ?_)
  obtain rfl : I = cA := va_K_one hK2 0 1 rfl rfl (fun _ h => by cases h)
  have hK := hK2.sub (tys' := [(I, .int)]) [0] rfl
  have hP : va_P D vwCl [(h0, .inr (1, [.int 0, .ref q1, .ref q2, .ref q3, .null, .null, .null, .null, .null, .null])), (q1, .inl (I, 626, .inl (fun _ => 0))), (q2, .inl (I, 626, .inl (fun _ => 0))), (q3, .inl (I, 626, .inl (fun _ => 0))), (q4, .inl (I, 626, .inl (fun _ => 0)))] H := hP
  have hD : va_D A [(h0, .inr (1, [.int 0, .ref q1, .ref q2, .ref q3, .null, .null, .null, .null, .null, .null])), (q1, .inl (I, 626, .inl (fun _ => 0))), (q2, .inl (I, 626, .inl (fun _ => 0))), (q3, .inl (I, 626, .inl (fun _ => 0))), (q4, .inl (I, 626, .inl (fun _ => 0)))] := hD
  refine va_putF (D := D) (ci := 1) (v := .ref q4) (ty := .array .int) (C := RX1) (T := TX1) (N := 10) hx hb hts hinw tyX1 tyX1_ok nmX1 hown hK hP hD hS 0 rfl rfl 4 (by decide) (hts (.fieldLink RX1 21 "SharedForks$Forks" "owners" "[I") (by decide +kernel)) (fun _ h9 => h9) rfl hin rfl (by decide +kernel) rfl rfl (Nat.le_of_ble_eq_true rfl) dX1_init_37 (fun H locs hP hD hS => ?_)
  have hP : va_P D vwCl [(h0, .inr (1, [.int 0, .ref q1, .ref q2, .ref q3, .ref q4, .null, .null, .null, .null, .null])), (q1, .inl (I, 626, .inl (fun _ => 0))), (q2, .inl (I, 626, .inl (fun _ => 0))), (q3, .inl (I, 626, .inl (fun _ => 0))), (q4, .inl (I, 626, .inl (fun _ => 0)))] H := hP
  have hD : va_D A [(h0, .inr (1, [.int 0, .ref q1, .ref q2, .ref q3, .ref q4, .null, .null, .null, .null, .null])), (q1, .inl (I, 626, .inl (fun _ => 0))), (q2, .inl (I, 626, .inl (fun _ => 0))), (q3, .inl (I, 626, .inl (fun _ => 0))), (q4, .inl (I, 626, .inl (fun _ => 0)))] := hD
  refine lv_aload_n hx hb dX1_init_40 rfl (lv_at hl 0 rfl) ?_
  refine lv_sipush (v := 1024) hx hb dX1_init_41 (by decide) ?_
  refine va_newa (atype := .int) (ty := .int) (a0 := (1024, .inl (fun _ => 0))) hx hb (hts (.arrayClass .int) (by decide +kernel)) rfl hK hP hD hS hA (N' := 1024) (fun _ => rfl) (by decide) (by decide) (by decide) (Nat.le_of_ble_eq_true rfl) (Nat.le_of_ble_eq_true rfl) dX1_init_44 (fun q5 cA H hK2 hP hD hS => ?_)
  obtain rfl : I = cA := va_K_one hK2 0 1 rfl rfl (fun _ h => by cases h)
  have hK := hK2.sub (tys' := [(I, .int)]) [0] rfl
  have hP : va_P D vwCl [(h0, .inr (1, [.int 0, .ref q1, .ref q2, .ref q3, .ref q4, .null, .null, .null, .null, .null])), (q1, .inl (I, 626, .inl (fun _ => 0))), (q2, .inl (I, 626, .inl (fun _ => 0))), (q3, .inl (I, 626, .inl (fun _ => 0))), (q4, .inl (I, 626, .inl (fun _ => 0))), (q5, .inl (I, 1024, .inl (fun _ => 0)))] H := hP
  have hD : va_D A [(h0, .inr (1, [.int 0, .ref q1, .ref q2, .ref q3, .ref q4, .null, .null, .null, .null, .null])), (q1, .inl (I, 626, .inl (fun _ => 0))), (q2, .inl (I, 626, .inl (fun _ => 0))), (q3, .inl (I, 626, .inl (fun _ => 0))), (q4, .inl (I, 626, .inl (fun _ => 0))), (q5, .inl (I, 1024, .inl (fun _ => 0)))] := hD
  refine va_putF (D := D) (ci := 1) (v := .ref q5) (ty := .array .int) (C := RX1) (T := TX1) (N := 10) hx hb hts hinw tyX1 tyX1_ok nmX1 hown hK hP hD hS 0 rfl rfl 5 (by decide) (hts (.fieldLink RX1 24 "SharedForks$Forks" "slots" "[I") (by decide +kernel)) (fun _ h9 => h9) rfl hin rfl (by decide +kernel) rfl rfl (Nat.le_of_ble_eq_true rfl) dX1_init_46 (fun H locs hP hD hS => ?_)
  have hP : va_P D vwCl [(h0, .inr (1, [.int 0, .ref q1, .ref q2, .ref q3, .ref q4, .ref q5, .null, .null, .null, .null])), (q1, .inl (I, 626, .inl (fun _ => 0))), (q2, .inl (I, 626, .inl (fun _ => 0))), (q3, .inl (I, 626, .inl (fun _ => 0))), (q4, .inl (I, 626, .inl (fun _ => 0))), (q5, .inl (I, 1024, .inl (fun _ => 0)))] H := hP
  have hD : va_D A [(h0, .inr (1, [.int 0, .ref q1, .ref q2, .ref q3, .ref q4, .ref q5, .null, .null, .null, .null])), (q1, .inl (I, 626, .inl (fun _ => 0))), (q2, .inl (I, 626, .inl (fun _ => 0))), (q3, .inl (I, 626, .inl (fun _ => 0))), (q4, .inl (I, 626, .inl (fun _ => 0))), (q5, .inl (I, 1024, .inl (fun _ => 0)))] := hD
  refine lv_aload_n hx hb dX1_init_49 rfl (lv_at hl 0 rfl) ?_
  refine lv_bipush (v := 8) hx hb dX1_init_50 (by decide) ?_
  refine va_newa (atype := .int) (ty := .int) (a0 := (8, .inl (fun _ => 0))) hx hb (hts (.arrayClass .int) (by decide +kernel)) rfl hK hP hD hS hA (N' := 8) (fun _ => rfl) (by decide) (by decide) (by decide) (Nat.le_of_ble_eq_true rfl) (Nat.le_of_ble_eq_true rfl) dX1_init_52 (fun q6 cA H hK2 hP hD hS => ?_)
  obtain rfl : I = cA := va_K_one hK2 0 1 rfl rfl (fun _ h => by cases h)
  have hK := hK2.sub (tys' := [(I, .int)]) [0] rfl
  have hP : va_P D vwCl [(h0, .inr (1, [.int 0, .ref q1, .ref q2, .ref q3, .ref q4, .ref q5, .null, .null, .null, .null])), (q1, .inl (I, 626, .inl (fun _ => 0))), (q2, .inl (I, 626, .inl (fun _ => 0))), (q3, .inl (I, 626, .inl (fun _ => 0))), (q4, .inl (I, 626, .inl (fun _ => 0))), (q5, .inl (I, 1024, .inl (fun _ => 0))), (q6, .inl (I, 8, .inl (fun _ => 0)))] H := hP
  have hD : va_D A [(h0, .inr (1, [.int 0, .ref q1, .ref q2, .ref q3, .ref q4, .ref q5, .null, .null, .null, .null])), (q1, .inl (I, 626, .inl (fun _ => 0))), (q2, .inl (I, 626, .inl (fun _ => 0))), (q3, .inl (I, 626, .inl (fun _ => 0))), (q4, .inl (I, 626, .inl (fun _ => 0))), (q5, .inl (I, 1024, .inl (fun _ => 0))), (q6, .inl (I, 8, .inl (fun _ => 0)))] := hD
  refine va_putF (D := D) (ci := 1) (v := .ref q6) (ty := .array .int) (C := RX1) (T := TX1) (N := 10) hx hb hts hinw tyX1 tyX1_ok nmX1 hown hK hP hD hS 0 rfl rfl 6 (by decide) (hts (.fieldLink RX1 27 "SharedForks$Forks" "questionAt" "[I") (by decide +kernel)) (fun _ h9 => h9) rfl hin rfl (by decide +kernel) rfl rfl (Nat.le_of_ble_eq_true rfl) dX1_init_54 (fun H locs hP hD hS => ?_)
  have hP : va_P D vwCl [(h0, .inr (1, [.int 0, .ref q1, .ref q2, .ref q3, .ref q4, .ref q5, .ref q6, .null, .null, .null])), (q1, .inl (I, 626, .inl (fun _ => 0))), (q2, .inl (I, 626, .inl (fun _ => 0))), (q3, .inl (I, 626, .inl (fun _ => 0))), (q4, .inl (I, 626, .inl (fun _ => 0))), (q5, .inl (I, 1024, .inl (fun _ => 0))), (q6, .inl (I, 8, .inl (fun _ => 0)))] H := hP
  have hD : va_D A [(h0, .inr (1, [.int 0, .ref q1, .ref q2, .ref q3, .ref q4, .ref q5, .ref q6, .null, .null, .null])), (q1, .inl (I, 626, .inl (fun _ => 0))), (q2, .inl (I, 626, .inl (fun _ => 0))), (q3, .inl (I, 626, .inl (fun _ => 0))), (q4, .inl (I, 626, .inl (fun _ => 0))), (q5, .inl (I, 1024, .inl (fun _ => 0))), (q6, .inl (I, 8, .inl (fun _ => 0)))] := hD
  refine lv_aload_n hx hb dX1_init_57 rfl (lv_at hl 0 rfl) ?_
  refine lv_sipush (v := 256) hx hb dX1_init_58 (by decide) ?_
  refine va_newa (atype := .int) (ty := .int) (a0 := (256, .inl (fun _ => 0))) hx hb (hts (.arrayClass .int) (by decide +kernel)) rfl hK hP hD hS hA (N' := 256) (fun _ => rfl) (by decide) (by decide) (by decide) (Nat.le_of_ble_eq_true rfl) (Nat.le_of_ble_eq_true rfl) dX1_init_61 (fun q7 cA H hK2 hP hD hS => ?_)
  obtain rfl : I = cA := va_K_one hK2 0 1 rfl rfl (fun _ h => by cases h)
  have hK := hK2.sub (tys' := [(I, .int)]) [0] rfl
  have hP : va_P D vwCl [(h0, .inr (1, [.int 0, .ref q1, .ref q2, .ref q3, .ref q4, .ref q5, .ref q6, .null, .null, .null])), (q1, .inl (I, 626, .inl (fun _ => 0))), (q2, .inl (I, 626, .inl (fun _ => 0))), (q3, .inl (I, 626, .inl (fun _ => 0))), (q4, .inl (I, 626, .inl (fun _ => 0))), (q5, .inl (I, 1024, .inl (fun _ => 0))), (q6, .inl (I, 8, .inl (fun _ => 0))), (q7, .inl (I, 256, .inl (fun _ => 0)))] H := hP
  have hD : va_D A [(h0, .inr (1, [.int 0, .ref q1, .ref q2, .ref q3, .ref q4, .ref q5, .ref q6, .null, .null, .null])), (q1, .inl (I, 626, .inl (fun _ => 0))), (q2, .inl (I, 626, .inl (fun _ => 0))), (q3, .inl (I, 626, .inl (fun _ => 0))), (q4, .inl (I, 626, .inl (fun _ => 0))), (q5, .inl (I, 1024, .inl (fun _ => 0))), (q6, .inl (I, 8, .inl (fun _ => 0))), (q7, .inl (I, 256, .inl (fun _ => 0)))] := hD
  refine va_putF (D := D) (ci := 1) (v := .ref q7) (ty := .array .int) (C := RX1) (T := TX1) (N := 10) hx hb hts hinw tyX1 tyX1_ok nmX1 hown hK hP hD hS 0 rfl rfl 7 (by decide) (hts (.fieldLink RX1 30 "SharedForks$Forks" "answersOfWay" "[I") (by decide +kernel)) (fun _ h9 => h9) rfl hin rfl (by decide +kernel) rfl rfl (Nat.le_of_ble_eq_true rfl) dX1_init_63 (fun H locs hP hD hS => ?_)
  have hP : va_P D vwCl [(h0, .inr (1, [.int 0, .ref q1, .ref q2, .ref q3, .ref q4, .ref q5, .ref q6, .ref q7, .null, .null])), (q1, .inl (I, 626, .inl (fun _ => 0))), (q2, .inl (I, 626, .inl (fun _ => 0))), (q3, .inl (I, 626, .inl (fun _ => 0))), (q4, .inl (I, 626, .inl (fun _ => 0))), (q5, .inl (I, 1024, .inl (fun _ => 0))), (q6, .inl (I, 8, .inl (fun _ => 0))), (q7, .inl (I, 256, .inl (fun _ => 0)))] H := hP
  have hD : va_D A [(h0, .inr (1, [.int 0, .ref q1, .ref q2, .ref q3, .ref q4, .ref q5, .ref q6, .ref q7, .null, .null])), (q1, .inl (I, 626, .inl (fun _ => 0))), (q2, .inl (I, 626, .inl (fun _ => 0))), (q3, .inl (I, 626, .inl (fun _ => 0))), (q4, .inl (I, 626, .inl (fun _ => 0))), (q5, .inl (I, 1024, .inl (fun _ => 0))), (q6, .inl (I, 8, .inl (fun _ => 0))), (q7, .inl (I, 256, .inl (fun _ => 0)))] := hD
  refine lv_aload_n hx hb dX1_init_66 rfl (lv_at hl 0 rfl) ?_
  refine lv_sipush (v := 256) hx hb dX1_init_67 (by decide) ?_
  refine va_newa (atype := .int) (ty := .int) (a0 := (256, .inl (fun _ => 0))) hx hb (hts (.arrayClass .int) (by decide +kernel)) rfl hK hP hD hS hA (N' := 256) (fun _ => rfl) (by decide) (by decide) (by decide) (Nat.le_of_ble_eq_true rfl) (Nat.le_of_ble_eq_true rfl) dX1_init_70 (fun q8 cA H hK2 hP hD hS => ?_)
  obtain rfl : I = cA := va_K_one hK2 0 1 rfl rfl (fun _ h => by cases h)
  have hK := hK2.sub (tys' := [(I, .int)]) [0] rfl
  have hP : va_P D vwCl [(h0, .inr (1, [.int 0, .ref q1, .ref q2, .ref q3, .ref q4, .ref q5, .ref q6, .ref q7, .null, .null])), (q1, .inl (I, 626, .inl (fun _ => 0))), (q2, .inl (I, 626, .inl (fun _ => 0))), (q3, .inl (I, 626, .inl (fun _ => 0))), (q4, .inl (I, 626, .inl (fun _ => 0))), (q5, .inl (I, 1024, .inl (fun _ => 0))), (q6, .inl (I, 8, .inl (fun _ => 0))), (q7, .inl (I, 256, .inl (fun _ => 0))), (q8, .inl (I, 256, .inl (fun _ => 0)))] H := hP
  have hD : va_D A [(h0, .inr (1, [.int 0, .ref q1, .ref q2, .ref q3, .ref q4, .ref q5, .ref q6, .ref q7, .null, .null])), (q1, .inl (I, 626, .inl (fun _ => 0))), (q2, .inl (I, 626, .inl (fun _ => 0))), (q3, .inl (I, 626, .inl (fun _ => 0))), (q4, .inl (I, 626, .inl (fun _ => 0))), (q5, .inl (I, 1024, .inl (fun _ => 0))), (q6, .inl (I, 8, .inl (fun _ => 0))), (q7, .inl (I, 256, .inl (fun _ => 0))), (q8, .inl (I, 256, .inl (fun _ => 0)))] := hD
  refine va_putF (D := D) (ci := 1) (v := .ref q8) (ty := .array .int) (C := RX1) (T := TX1) (N := 10) hx hb hts hinw tyX1 tyX1_ok nmX1 hown hK hP hD hS 0 rfl rfl 8 (by decide) (hts (.fieldLink RX1 33 "SharedForks$Forks" "partOfWay" "[I") (by decide +kernel)) (fun _ h9 => h9) rfl hin rfl (by decide +kernel) rfl rfl (Nat.le_of_ble_eq_true rfl) dX1_init_72 (fun H locs hP hD hS => ?_)
  have hP : va_P D vwCl [(h0, .inr (1, [.int 0, .ref q1, .ref q2, .ref q3, .ref q4, .ref q5, .ref q6, .ref q7, .ref q8, .null])), (q1, .inl (I, 626, .inl (fun _ => 0))), (q2, .inl (I, 626, .inl (fun _ => 0))), (q3, .inl (I, 626, .inl (fun _ => 0))), (q4, .inl (I, 626, .inl (fun _ => 0))), (q5, .inl (I, 1024, .inl (fun _ => 0))), (q6, .inl (I, 8, .inl (fun _ => 0))), (q7, .inl (I, 256, .inl (fun _ => 0))), (q8, .inl (I, 256, .inl (fun _ => 0)))] H := hP
  have hD : va_D A [(h0, .inr (1, [.int 0, .ref q1, .ref q2, .ref q3, .ref q4, .ref q5, .ref q6, .ref q7, .ref q8, .null])), (q1, .inl (I, 626, .inl (fun _ => 0))), (q2, .inl (I, 626, .inl (fun _ => 0))), (q3, .inl (I, 626, .inl (fun _ => 0))), (q4, .inl (I, 626, .inl (fun _ => 0))), (q5, .inl (I, 1024, .inl (fun _ => 0))), (q6, .inl (I, 8, .inl (fun _ => 0))), (q7, .inl (I, 256, .inl (fun _ => 0))), (q8, .inl (I, 256, .inl (fun _ => 0)))] := hD
  refine lv_aload_n hx hb dX1_init_75 rfl (lv_at hl 0 rfl) ?_
  refine lv_sipush (v := 626) hx hb dX1_init_76 (by decide) ?_
  refine va_newa (atype := .int) (ty := .int) (a0 := (626, .inl (fun _ => 0))) hx hb (hts (.arrayClass .int) (by decide +kernel)) rfl hK hP hD hS hA (N' := 626) (fun _ => rfl) (by decide) (by decide) (by decide) (Nat.le_of_ble_eq_true rfl) (Nat.le_of_ble_eq_true rfl) dX1_init_79 (fun q9 cA H hK2 hP hD hS => ?_)
  obtain rfl : I = cA := va_K_one hK2 0 1 rfl rfl (fun _ h => by cases h)
  have hK := hK2.sub (tys' := [(I, .int)]) [0] rfl
  have hP : va_P D vwCl [(h0, .inr (1, [.int 0, .ref q1, .ref q2, .ref q3, .ref q4, .ref q5, .ref q6, .ref q7, .ref q8, .null])), (q1, .inl (I, 626, .inl (fun _ => 0))), (q2, .inl (I, 626, .inl (fun _ => 0))), (q3, .inl (I, 626, .inl (fun _ => 0))), (q4, .inl (I, 626, .inl (fun _ => 0))), (q5, .inl (I, 1024, .inl (fun _ => 0))), (q6, .inl (I, 8, .inl (fun _ => 0))), (q7, .inl (I, 256, .inl (fun _ => 0))), (q8, .inl (I, 256, .inl (fun _ => 0))), (q9, .inl (I, 626, .inl (fun _ => 0)))] H := hP
  have hD : va_D A [(h0, .inr (1, [.int 0, .ref q1, .ref q2, .ref q3, .ref q4, .ref q5, .ref q6, .ref q7, .ref q8, .null])), (q1, .inl (I, 626, .inl (fun _ => 0))), (q2, .inl (I, 626, .inl (fun _ => 0))), (q3, .inl (I, 626, .inl (fun _ => 0))), (q4, .inl (I, 626, .inl (fun _ => 0))), (q5, .inl (I, 1024, .inl (fun _ => 0))), (q6, .inl (I, 8, .inl (fun _ => 0))), (q7, .inl (I, 256, .inl (fun _ => 0))), (q8, .inl (I, 256, .inl (fun _ => 0))), (q9, .inl (I, 626, .inl (fun _ => 0)))] := hD
  refine va_putF (D := D) (ci := 1) (v := .ref q9) (ty := .array .int) (C := RX1) (T := TX1) (N := 10) hx hb hts hinw tyX1 tyX1_ok nmX1 hown hK hP hD hS 0 rfl rfl 9 (by decide) (hts (.fieldLink RX1 36 "SharedForks$Forks" "placeOf" "[I") (by decide +kernel)) (fun _ h9 => h9) rfl hin rfl (by decide +kernel) rfl rfl (Nat.le_of_ble_eq_true rfl) dX1_init_81 (fun H locs hP hD hS => ?_)
  have hP : va_P D vwCl [(h0, .inr (1, [.int 0, .ref q1, .ref q2, .ref q3, .ref q4, .ref q5, .ref q6, .ref q7, .ref q8, .ref q9])), (q1, .inl (I, 626, .inl (fun _ => 0))), (q2, .inl (I, 626, .inl (fun _ => 0))), (q3, .inl (I, 626, .inl (fun _ => 0))), (q4, .inl (I, 626, .inl (fun _ => 0))), (q5, .inl (I, 1024, .inl (fun _ => 0))), (q6, .inl (I, 8, .inl (fun _ => 0))), (q7, .inl (I, 256, .inl (fun _ => 0))), (q8, .inl (I, 256, .inl (fun _ => 0))), (q9, .inl (I, 626, .inl (fun _ => 0)))] H := hP
  have hD : va_D A [(h0, .inr (1, [.int 0, .ref q1, .ref q2, .ref q3, .ref q4, .ref q5, .ref q6, .ref q7, .ref q8, .ref q9])), (q1, .inl (I, 626, .inl (fun _ => 0))), (q2, .inl (I, 626, .inl (fun _ => 0))), (q3, .inl (I, 626, .inl (fun _ => 0))), (q4, .inl (I, 626, .inl (fun _ => 0))), (q5, .inl (I, 1024, .inl (fun _ => 0))), (q6, .inl (I, 8, .inl (fun _ => 0))), (q7, .inl (I, 256, .inl (fun _ => 0))), (q8, .inl (I, 256, .inl (fun _ => 0))), (q9, .inl (I, 626, .inl (fun _ => 0)))] := hD
  refine W.widen (k := 9) (n := 4674) (by decide) (by decide) ?_
  exact W.vret hx hb hr (fun t ht hW => ⟨⟨(fun i => match i with | 1 => q1 | 2 => q2 | 3 => q3 | 4 => q4 | 5 => q5 | 6 => q6 | 7 => q7 | 8 => q8 | _ => q9), rfl, trivial, by rw [ht]; exact hP, hD⟩, hS.F ht⟩) hS.2.2 dX1_init_84

abbrev rm_X0_init : Room := { frames := 1, cells := 5, slots := 564, locals := 100 }
set_option maxHeartbeats 4000000 in
set_option maxRecDepth 100000 in
theorem c_X0_init (l : Launch) (D : va_G) (I Z : ClassId) (h0 sz : Nat) : Met l yX0_init wsX0_init rm_X0_init (va_Pc [.ref h0] (fun U => U.heap.size = sz ∧ va_P D vwCl [(h0, .inr (0, [.int 0, .null, .int 0, .null, .null, .null, .null]))] U.heap ∧ va_K D vwCl [(I, .int), (Z, .boolean)] U ∧ va_D (fun _ => True) [(h0, .inr (0, [.int 0, .null, .int 0, .null, .null, .null, .null]))])) (va_Qv (fun (_ : Nat → Nat) => True) (fun q t => va_P D vwCl (fdCells I Z h0 q) t.heap ∧ va_D (va_A [(h0, .inr (0, [.int 0, .null, .int 0, .null, .null, .null, .null]))] sz) (fdCells I Z h0 q)) (va_A [(h0, .inr (0, [.int 0, .null, .int 0, .null, .null, .null, .null]))] sz)) 5 564 (va_A [(h0, .inr (0, [.int 0, .null, .int 0, .null, .null, .null, .null]))] sz) := by
  refine Met.ofW (cc := cX0_init) (maxL := 1) (ret := none) (by decide) rfl ?_
  intro p e s m args below meth c s₁ B hml hv
  obtain ⟨rfl, hsz, hP, hK, hD0⟩ := hv
  have hx := B.exec
  have hb := B.bytes
  have hr := B.returns
  have hts := atoms_spec (ws := wsX0_init) B.pre
  have hown : s.vm.findClass RX0 = some m.cls := findClass_of_methodNamed B.named
  have hlocks := B.notSynchronized
  have hin : meth.name = "<init>" := (name_of_methodNamed B.named B.method).1
  have hinw : ∀ w ∈ u_ws RX0 TX0 7, w ∈ wsX0_init := by decide +kernel
  subst hsz
  have hD := hD0.self (sz := s.heap.size)
  generalize hAe : va_A [(h0, .inr (0, [.int 0, .null, .int 0, .null, .null, .null, .null]))] s.heap.size = A at hD ⊢
  have hA : ∀ q : Nat, s.heap.size ≤ q → A q := fun q h => by rw [← hAe]; exact Or.inr h
  have hS : va_S A s.heap s.heap [] := va_S.rf
  have hl := lv_entry ([.ref h0]) (n := 1) (Nat.le_of_ble_eq_true rfl)
  rw [lg_entry_eq]
  generalize (lg_sl ([.ref h0]) ++ List.replicate (1 - (lg_sl ([.ref h0])).length) Slot.unset).toArray = ls at hl ⊢
  have hl : lv_has ls 1 [(0, .ref h0)] := hl
  refine lv_aload_n hx hb dX0_init_0 rfl (lv_at hl 0 rfl) ?_
  refine W.objInit hx hb hown (hts (.methodLink RX0 3 objectInit) (by decide +kernel)) (hts (.instanceMethod objectInit) (by decide +kernel)) (hts (.code objectInit ⟨#[0xb1]⟩ 1 none) (by decide +kernel)) rfl (by rw [hml]; exact hl.1) rfl dX0_init_1 (Nat.le_of_ble_eq_true rfl) (Nat.le_of_ble_eq_true rfl) ?_
  refine W.eq (g2 := F0 m 4 ls []) rfl ?_
  refine lv_aload_n hx hb dX0_init_4 rfl (lv_at hl 0 rfl) ?_
  refine lv_sipush (v := 256) hx hb dX0_init_5 (by decide) ?_
  refine va_newa (atype := .boolean) (ty := .boolean) (a0 := (256, .inl (fun _ => 0))) hx hb (hts (.arrayClass .boolean) (by decide +kernel)) rfl hK hP hD hS hA (N' := 256) (fun _ => rfl) (by decide) (by decide) (by decide) (Nat.le_of_ble_eq_true rfl) (Nat.le_of_ble_eq_true rfl) dX0_init_8 (fun q1 cA H hK2 hP hD hS => ?_)
  obtain rfl : Z = cA := va_K_one hK2 1 2 rfl rfl (fun _ h => by cases h)
  have hK := hK2.sub (tys' := [(I, .int), (Z, .boolean)]) [0, 1] rfl
  have hP : va_P D vwCl [(h0, .inr (0, [.int 0, .null, .int 0, .null, .null, .null, .null])), (q1, .inl (Z, 256, .inl (fun _ => 0)))] H := hP
  have hD : va_D A [(h0, .inr (0, [.int 0, .null, .int 0, .null, .null, .null, .null])), (q1, .inl (Z, 256, .inl (fun _ => 0)))] := hD
  refine va_putF (D := D) (ci := 0) (v := .ref q1) (ty := .array .boolean) (C := RX0) (T := TX0) (N := 7) hx hb hts hinw tyX0 tyX0_ok nmX0 hown hK hP hD hS 0 rfl rfl 1 (by decide) (hts (.fieldLink RX0 9 "SharedForks$Fold" "yes" "[Z") (by decide +kernel)) (fun _ h9 => h9) rfl hin rfl (by decide +kernel) rfl rfl (Nat.le_of_ble_eq_true rfl) dX0_init_10 (fun H locs hP hD hS => ?_)
  have hP : va_P D vwCl [(h0, .inr (0, [.int 0, .ref q1, .int 0, .null, .null, .null, .null])), (q1, .inl (Z, 256, .inl (fun _ => 0)))] H := hP
  have hD : va_D A [(h0, .inr (0, [.int 0, .ref q1, .int 0, .null, .null, .null, .null])), (q1, .inl (Z, 256, .inl (fun _ => 0)))] := hD
  refine lv_aload_n hx hb dX0_init_13 rfl (lv_at hl 0 rfl) ?_
  refine lv_bipush (v := 77) hx hb dX0_init_14 (by decide) ?_
  refine va_newa (atype := .int) (ty := .int) (a0 := (77, .inl (fun _ => 0))) hx hb (hts (.arrayClass .int) (by decide +kernel)) rfl hK hP hD hS hA (N' := 77) (fun _ => rfl) (by decide) (by decide) (by decide) (Nat.le_of_ble_eq_true rfl) (Nat.le_of_ble_eq_true rfl) dX0_init_16 (fun q2 cA H hK2 hP hD hS => ?_)
  obtain rfl : I = cA := va_K_one hK2 0 2 rfl rfl (fun _ h => by cases h)
  have hK := hK2.sub (tys' := [(I, .int), (Z, .boolean)]) [0, 1] rfl
  have hP : va_P D vwCl [(h0, .inr (0, [.int 0, .ref q1, .int 0, .null, .null, .null, .null])), (q1, .inl (Z, 256, .inl (fun _ => 0))), (q2, .inl (I, 77, .inl (fun _ => 0)))] H := hP
  have hD : va_D A [(h0, .inr (0, [.int 0, .ref q1, .int 0, .null, .null, .null, .null])), (q1, .inl (Z, 256, .inl (fun _ => 0))), (q2, .inl (I, 77, .inl (fun _ => 0)))] := hD
  refine va_putF (D := D) (ci := 0) (v := .ref q2) (ty := .array .int) (C := RX0) (T := TX0) (N := 7) hx hb hts hinw tyX0 tyX0_ok nmX0 hown hK hP hD hS 0 rfl rfl 3 (by decide) (hts (.fieldLink RX0 15 "SharedForks$Fold" "forkAt" "[I") (by decide +kernel)) (fun _ h9 => h9) rfl hin rfl (by decide +kernel) rfl rfl (Nat.le_of_ble_eq_true rfl) dX0_init_18 (fun H locs hP hD hS => ?_)
  have hP : va_P D vwCl [(h0, .inr (0, [.int 0, .ref q1, .int 0, .ref q2, .null, .null, .null])), (q1, .inl (Z, 256, .inl (fun _ => 0))), (q2, .inl (I, 77, .inl (fun _ => 0)))] H := hP
  have hD : va_D A [(h0, .inr (0, [.int 0, .ref q1, .int 0, .ref q2, .null, .null, .null])), (q1, .inl (Z, 256, .inl (fun _ => 0))), (q2, .inl (I, 77, .inl (fun _ => 0)))] := hD
  refine lv_aload_n hx hb dX0_init_21 rfl (lv_at hl 0 rfl) ?_
  refine lv_bipush (v := 77) hx hb dX0_init_22 (by decide) ?_
  refine va_newa (atype := .int) (ty := .int) (a0 := (77, .inl (fun _ => 0))) hx hb (hts (.arrayClass .int) (by decide +kernel)) rfl hK hP hD hS hA (N' := 77) (fun _ => rfl) (by decide) (by decide) (by decide) (Nat.le_of_ble_eq_true rfl) (Nat.le_of_ble_eq_true rfl) dX0_init_24 (fun q3 cA H hK2 hP hD hS => ?_)
  obtain rfl : I = cA := va_K_one hK2 0 2 rfl rfl (fun _ h => by cases h)
  have hK := hK2.sub (tys' := [(I, .int), (Z, .boolean)]) [0, 1] rfl
  have hP : va_P D vwCl [(h0, .inr (0, [.int 0, .ref q1, .int 0, .ref q2, .null, .null, .null])), (q1, .inl (Z, 256, .inl (fun _ => 0))), (q2, .inl (I, 77, .inl (fun _ => 0))), (q3, .inl (I, 77, .inl (fun _ => 0)))] H := hP
  have hD : va_D A [(h0, .inr (0, [.int 0, .ref q1, .int 0, .ref q2, .null, .null, .null])), (q1, .inl (Z, 256, .inl (fun _ => 0))), (q2, .inl (I, 77, .inl (fun _ => 0))), (q3, .inl (I, 77, .inl (fun _ => 0)))] := hD
  refine va_putF (D := D) (ci := 0) (v := .ref q3) (ty := .array .int) (C := RX0) (T := TX0) (N := 7) hx hb hts hinw tyX0 tyX0_ok nmX0 hown hK hP hD hS 0 rfl rfl 4 (by decide) (hts (.fieldLink RX0 19 "SharedForks$Fold" "lowAt" "[I") (by decide +kernel)) (fun _ h9 => h9) rfl hin rfl (by decide +kernel) rfl rfl (Nat.le_of_ble_eq_true rfl) dX0_init_26 (fun H locs hP hD hS => ?_)
  have hP : va_P D vwCl [(h0, .inr (0, [.int 0, .ref q1, .int 0, .ref q2, .ref q3, .null, .null])), (q1, .inl (Z, 256, .inl (fun _ => 0))), (q2, .inl (I, 77, .inl (fun _ => 0))), (q3, .inl (I, 77, .inl (fun _ => 0)))] H := hP
  have hD : va_D A [(h0, .inr (0, [.int 0, .ref q1, .int 0, .ref q2, .ref q3, .null, .null])), (q1, .inl (Z, 256, .inl (fun _ => 0))), (q2, .inl (I, 77, .inl (fun _ => 0))), (q3, .inl (I, 77, .inl (fun _ => 0)))] := hD
  refine lv_aload_n hx hb dX0_init_29 rfl (lv_at hl 0 rfl) ?_
  refine lv_bipush (v := 77) hx hb dX0_init_30 (by decide) ?_
  refine va_newa (atype := .int) (ty := .int) (a0 := (77, .inl (fun _ => 0))) hx hb (hts (.arrayClass .int) (by decide +kernel)) rfl hK hP hD hS hA (N' := 77) (fun _ => rfl) (by decide) (by decide) (by decide) (Nat.le_of_ble_eq_true rfl) (Nat.le_of_ble_eq_true rfl) dX0_init_32 (fun q4 cA H hK2 hP hD hS => ?_)
  obtain rfl : I = cA := va_K_one hK2 0 2 rfl rfl (fun _ h => by cases h)
  have hK := hK2.sub (tys' := [(I, .int), (Z, .boolean)]) [0, 1] rfl
  have hP : va_P D vwCl [(h0, .inr (0, [.int 0, .ref q1, .int 0, .ref q2, .ref q3, .null, .null])), (q1, .inl (Z, 256, .inl (fun _ => 0))), (q2, .inl (I, 77, .inl (fun _ => 0))), (q3, .inl (I, 77, .inl (fun _ => 0))), (q4, .inl (I, 77, .inl (fun _ => 0)))] H := hP
  have hD : va_D A [(h0, .inr (0, [.int 0, .ref q1, .int 0, .ref q2, .ref q3, .null, .null])), (q1, .inl (Z, 256, .inl (fun _ => 0))), (q2, .inl (I, 77, .inl (fun _ => 0))), (q3, .inl (I, 77, .inl (fun _ => 0))), (q4, .inl (I, 77, .inl (fun _ => 0)))] := hD
  refine va_putF (D := D) (ci := 0) (v := .ref q4) (ty := .array .int) (C := RX0) (T := TX0) (N := 7) hx hb hts hinw tyX0 tyX0_ok nmX0 hown hK hP hD hS 0 rfl rfl 5 (by decide) (hts (.fieldLink RX0 22 "SharedForks$Fold" "highAt" "[I") (by decide +kernel)) (fun _ h9 => h9) rfl hin rfl (by decide +kernel) rfl rfl (Nat.le_of_ble_eq_true rfl) dX0_init_34 (fun H locs hP hD hS => ?_)
  have hP : va_P D vwCl [(h0, .inr (0, [.int 0, .ref q1, .int 0, .ref q2, .ref q3, .ref q4, .null])), (q1, .inl (Z, 256, .inl (fun _ => 0))), (q2, .inl (I, 77, .inl (fun _ => 0))), (q3, .inl (I, 77, .inl (fun _ => 0))), (q4, .inl (I, 77, .inl (fun _ => 0)))] H := hP
  have hD : va_D A [(h0, .inr (0, [.int 0, .ref q1, .int 0, .ref q2, .ref q3, .ref q4, .null])), (q1, .inl (Z, 256, .inl (fun _ => 0))), (q2, .inl (I, 77, .inl (fun _ => 0))), (q3, .inl (I, 77, .inl (fun _ => 0))), (q4, .inl (I, 77, .inl (fun _ => 0)))] := hD
  refine lv_aload_n hx hb dX0_init_37 rfl (lv_at hl 0 rfl) ?_
  refine lv_bipush (v := 77) hx hb dX0_init_38 (by decide) ?_
  refine va_newa (atype := .int) (ty := .int) (a0 := (77, .inl (fun _ => 0))) hx hb (hts (.arrayClass .int) (by decide +kernel)) rfl hK hP hD hS hA (N' := 77) (fun _ => rfl) (by decide) (by decide) (by decide) (Nat.le_of_ble_eq_true rfl) (Nat.le_of_ble_eq_true rfl) dX0_init_40 (fun q5 cA H hK2 hP hD hS => ?_)
  obtain rfl : I = cA := va_K_one hK2 0 2 rfl rfl (fun _ h => by cases h)
  have hK := hK2.sub (tys' := [(I, .int), (Z, .boolean)]) [0, 1] rfl
  have hP : va_P D vwCl [(h0, .inr (0, [.int 0, .ref q1, .int 0, .ref q2, .ref q3, .ref q4, .null])), (q1, .inl (Z, 256, .inl (fun _ => 0))), (q2, .inl (I, 77, .inl (fun _ => 0))), (q3, .inl (I, 77, .inl (fun _ => 0))), (q4, .inl (I, 77, .inl (fun _ => 0))), (q5, .inl (I, 77, .inl (fun _ => 0)))] H := hP
  have hD : va_D A [(h0, .inr (0, [.int 0, .ref q1, .int 0, .ref q2, .ref q3, .ref q4, .null])), (q1, .inl (Z, 256, .inl (fun _ => 0))), (q2, .inl (I, 77, .inl (fun _ => 0))), (q3, .inl (I, 77, .inl (fun _ => 0))), (q4, .inl (I, 77, .inl (fun _ => 0))), (q5, .inl (I, 77, .inl (fun _ => 0)))] := hD
  refine va_putF (D := D) (ci := 0) (v := .ref q5) (ty := .array .int) (C := RX0) (T := TX0) (N := 7) hx hb hts hinw tyX0 tyX0_ok nmX0 hown hK hP hD hS 0 rfl rfl 6 (by decide) (hts (.fieldLink RX0 25 "SharedForks$Fold" "aheadAt" "[I") (by decide +kernel)) (fun _ h9 => h9) rfl hin rfl (by decide +kernel) rfl rfl (Nat.le_of_ble_eq_true rfl) dX0_init_42 (fun H locs hP hD hS => ?_)
  have hP : va_P D vwCl [(h0, .inr (0, [.int 0, .ref q1, .int 0, .ref q2, .ref q3, .ref q4, .ref q5])), (q1, .inl (Z, 256, .inl (fun _ => 0))), (q2, .inl (I, 77, .inl (fun _ => 0))), (q3, .inl (I, 77, .inl (fun _ => 0))), (q4, .inl (I, 77, .inl (fun _ => 0))), (q5, .inl (I, 77, .inl (fun _ => 0)))] H := hP
  have hD : va_D A [(h0, .inr (0, [.int 0, .ref q1, .int 0, .ref q2, .ref q3, .ref q4, .ref q5])), (q1, .inl (Z, 256, .inl (fun _ => 0))), (q2, .inl (I, 77, .inl (fun _ => 0))), (q3, .inl (I, 77, .inl (fun _ => 0))), (q4, .inl (I, 77, .inl (fun _ => 0))), (q5, .inl (I, 77, .inl (fun _ => 0)))] := hD
  refine W.widen (k := 5) (n := 564) (by decide) (by decide) ?_
  exact W.vret hx hb hr (fun t ht hW => ⟨⟨(fun i => match i with | 1 => q1 | 2 => q2 | 3 => q3 | 4 => q4 | _ => q5), rfl, trivial, by rw [ht]; exact hP, hD⟩, hS.F ht⟩) hS.2.2 dX0_init_45
