/-! ===== four longs that say what a fold says ===== -/
theorem lgc_0 {x y : Int64} : lg_cmp x y = 0 ↔ x = y := by
  unfold lg_cmp
  constructor
  · intro h
    split at h
    · cases h
    · split at h
      · assumption
      · cases h
  · intro h
    subst h
    simp
def j_b (x : Int64) (m : Nat) : Bool := x.toBitVec.getLsbD m
theorem j_ext {x y : Int64} (h : ∀ m : Nat, m < 64 → j_b x m = j_b y m) : x = y := Int64.toBitVec_inj.mp (BitVec.eq_of_getLsbD_eq (fun m hm => h m hm))
theorem j_or (x y : Int64) (m : Nat) : j_b (x ||| y) m = (j_b x m || j_b y m) := by unfold j_b; rw [Int64.toBitVec_or, BitVec.getLsbD_or]
theorem j_z (m : Nat) : j_b 0 m = false := BitVec.getLsbD_zero
theorem j_m : ∀ m : Nat, m < 64 → j_b (-1) m = true := by decide +kernel
theorem j_one : ∀ k : Nat, k < 64 → ∀ m : Nat, m < 64 → j_b ((1 : Int64) <<< ((nI k).toInt64 &&& 63)) m = decide (m = k) := by decide +kernel
theorem j_sh1 : ∀ k : Nat, k < 256 → nI k &&& 63 = nI (k % 64) := by decide +kernel
theorem j_sh2 : ∀ k : Nat, k < 256 → nI k >>> ((6 : Int32) &&& 31) = nI (k / 64) := by decide +kernel
theorem j_cu : ∀ k : Nat, k < 64 → ((nI k).toInt64.toUInt64 &&& Int64.toUInt64 63).toNat = k := by decide +kernel
theorem j_says {x : Int64} {k : Nat} (hk : k < 64) : ((x.toUInt64 >>> ((nI k).toInt64.toUInt64 &&& Int64.toUInt64 63)).toInt64 &&& 1) = 1 ↔ j_b x k = true := by
  have e : (x.toUInt64 >>> ((nI k).toInt64.toUInt64 &&& Int64.toUInt64 63)).toInt64.toBitVec = x.toBitVec >>> k := by
    apply BitVec.eq_of_toNat_eq
    show (x.toUInt64 >>> ((nI k).toInt64.toUInt64 &&& Int64.toUInt64 63)).toNat = _
    rw [UInt64.toNat_shiftRight, j_cu k hk, Nat.mod_eq_of_lt hk, BitVec.toNat_ushiftRight]
    rfl
  rw [← Int64.toBitVec_inj, Int64.toBitVec_and, e]
  show x.toBitVec >>> k &&& 1#64 = 1#64 ↔ x.toBitVec.getLsbD k = true
  constructor
  · intro h
    have t := congrArg (fun x => x.getLsbD 0) h
    simpa using t
  · intro h
    apply BitVec.eq_of_getLsbD_eq
    intro i hi
    cases i with
    | zero => simp [h]
    | succ i => simp
/-- F says g -/
def j_S (F : Nat → Int64) (g : Nat → Bool) : Prop := b_S g ∧ ∀ k : Nat, k < 256 → g k = j_b (F (k / 64)) (k % 64)
theorem j_S0 : j_S (fun _ => 0) b_0 := ⟨b_0S, fun k _ => (j_z _).symm⟩
theorem j_S1 : j_S (fun _ => -1) b_1 := ⟨b_1S, fun k hk => by
  rw [j_m _ (Nat.mod_lt _ (by decide))]
  exact decide_eq_true hk⟩
theorem j_alike {F F' : Nat → Int64} {g g' : Nat → Bool} (h : j_S F g) (h' : j_S F' g') : (F 0 = F' 0 ∧ F 1 = F' 1 ∧ F 2 = F' 2 ∧ F 3 = F' 3) ↔ g = g' := by
  constructor
  · rintro ⟨h0, h1, h2, h3⟩
    refine h.1.ext h'.1 (fun k hk => ?_)
    rw [h.2 k hk, h'.2 k hk]
    congr 1
    rcases (show k / 64 = 0 ∨ k / 64 = 1 ∨ k / 64 = 2 ∨ k / 64 = 3 by omega) with e | e | e | e <;> rw [e] <;> assumption
  · intro e
    have key : ∀ i : Nat, i < 4 → F i = F' i := fun i hi => j_ext (fun m hm => by
      have a1 := h.2 (64 * i + m) (by omega)
      have a2 := h'.2 (64 * i + m) (by omega)
      rw [show (64 * i + m) / 64 = i by omega, show (64 * i + m) % 64 = m by omega] at a1 a2
      rw [← a1, ← a2, e])
    exact ⟨key 0 (by decide), key 1 (by decide), key 2 (by decide), key 3 (by decide)⟩
theorem j_set {F : Nat → Int64} {g : Nat → Bool} (h : j_S F g) {k : Nat} (hk : k < 256) : j_S (vp_updL F (k / 64) (F (k / 64) ||| ((1 : Int64) <<< ((nI (k % 64)).toInt64 &&& 63)))) (fun j => g j || decide (j = k)) := by
  refine ⟨fun j hj => ?_, fun j hj => ?_⟩
  · show (g j || decide (j = k)) = false
    rw [h.1 j hj, decide_eq_false (by omega)]
    rfl
  · show (g j || decide (j = k)) = j_b (if j / 64 = k / 64 then _ else F (j / 64)) (j % 64)
    by_cases c : j / 64 = k / 64
    · rw [if_pos c, j_or, j_one _ (Nat.mod_lt _ (by decide)) _ (Nat.mod_lt _ (by decide)), h.2 j hj, c]
      congr 1
      exact decide_eq_decide.mpr (by omega)
    · rw [if_neg c, h.2 j hj, decide_eq_false (by omega), Bool.or_false]
/-- a row of longs filled up to i -/
def b_t (P : Nat → Bool) (i : Nat) : Nat → Bool := fun k => decide (k < i) && P k
theorem b_t0 (P : Nat → Bool) : b_t P 0 = b_0 := by funext k; simp [b_t, b_0]
theorem b_ts1 {P : Nat → Bool} {i : Nat} (h : P i = true) : (fun j => b_t P i j || decide (j = i)) = b_t P (i + 1) := by
  funext k
  by_cases c : k = i
  · subst c; simp [b_t, h]
  · simp only [b_t, c, decide_false, Bool.or_false]
    congr 1
    exact decide_eq_decide.mpr (by omega)
theorem b_ts0 {P : Nat → Bool} {i : Nat} (h : P i = false) : b_t P i = b_t P (i + 1) := by
  funext k
  by_cases c : k = i
  · subst c; simp [b_t, h]
  · simp only [b_t]
    congr 1
    exact decide_eq_decide.mpr (by omega)
theorem b_t256 {P : Nat → Bool} (h : b_S P) : b_t P 256 = P := by
  funext k
  by_cases c : k < 256
  · simp [b_t, c]
  · simp [b_t, c, h k (by omega)]
theorem j_giv : ∀ k : Nat, k < 256 → ∀ q : Nat, q < 8 → ∀ b : Nat, b < 2 → (nI k &&& (((1 : Int32) <<< (nI q &&& 31)) ^^^ (-1))) ||| (nI b <<< (nI q &&& 31)) = nI (sB k q b) := by decide +kernel
