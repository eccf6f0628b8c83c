/-! ===== what is told of a fold ===== -/
theorem sI_cnt {F : Nat → Int32} {P : Nat → Bool} : ∀ N : Nat, (∀ k : Nat, k < N → F k = nI (if P k = true then 1 else 0)) → sI F N = nI ((List.range N).filter P).length := by
  intro N
  induction N with
  | zero => intro _; rfl
  | succ N ih =>
    intro h
    rw [sI, ih (fun k hk => h k (by omega)), h N (by omega), nI_add, List.range_succ, List.filter_append, List.length_append, List.filter_cons, List.filter_nil]
    cases P N <;> rfl
theorem cnt_list {α : Type} (P : α → Bool) (d : α) : ∀ l : List α, ((List.range l.length).filter (fun i => P (l.getD i d))).length = (l.filter P).length := by
  intro l
  have h1 : l.filter P = ((List.range l.length).map (fun i => l.getD i d)).filter P := by
    congr 1
    apply List.ext_getElem?
    intro i
    rw [List.getElem?_map]
    rcases Nat.lt_or_ge i l.length with c | c
    · rw [List.getElem?_range c, List.getElem?_eq_getElem c, Option.map_some, List.getD_eq_getElem?_getD, List.getElem?_eq_getElem c]
      rfl
    · rw [List.getElem?_eq_none c, List.getElem?_eq_none (by rw [List.length_range]; exact c)]
      rfl
  rw [h1, List.filter_map, List.length_map]
  rfl
theorem getD_of {α : Type} {l : List α} {i : Nat} {x d : α} (h : l[i]? = some x) : l.getD i d = x := by rw [List.getD_eq_getElem?_getD, h]; rfl
theorem of_getD {α : Type} {l : List α} {i : Nat} {d : α} (h : i < l.length) : l[i]? = some (l.getD i d) := by rw [List.getD_eq_getElem?_getD, List.getElem?_eq_getElem h]; rfl
/-- a fork's question -/
noncomputable def t_q (o : Nat → Nat) (g : Nat → Bool) : Nat := o (r_p o g)
/-- what a row holds, with what the table says of it -/
def t_W (M : Nat → Nat → Int32) (b : Nat) (o : Nat → Nat) (kp : Nat → Prop) (Y : Nat → Nat → Bool) (R : List (Nat → Bool)) : Prop := M b 2 = nI R.length ∧ R.length ≤ 77 ∧ ∀ (i : Nat) (g : Nat → Bool), R[i]? = some g → (∃ k : Nat, k < 626 ∧ M (b + 2) i = nI k ∧ M 4 k = nI (t_q o g) ∧ M 7 k = nI (o_N o kp Y g 12)) ∧ b_A o g (r_p o g) ∧ r_c R (r_k o g 0) (M (b + 3) i) ∧ r_c R (r_k o g 1) (M (b + 4) i)
theorem a_S.row {M : Nat → Nat → Int32} {o : Nat → Nat} {n : Nat} {tb : Nat → Nat → Bool} {pl : Nat → Nat} (h : a_S M o n tb pl) {f : Nat} (hf : f < 12) (hk : a_k M f) : t_W M (25 + 6 * f) o (a_k M) (a_Y M) (r_R o (a_Y M f)) ∧ ∀ (i : Nat) (g : Nat → Bool), (r_R o (a_Y M f))[i]? = some g → M (25 + 6 * f + 5) i = nI (r_A o (a_Y M f) g) ∧ r_A o (a_Y M f) g ≤ 7 := by
  obtain ⟨ho, hord, hM, hW, hmem, hrow, hown⟩ := h
  obtain ⟨hR, -⟩ := hrow f hf hk
  refine ⟨⟨hR.1, r_R_77 ho (y_fS _), fun i g hi => ?_⟩, fun i g hi => (hR.2 i g hi).2.2.2⟩
  obtain ⟨⟨k, hk', e1, e2⟩, h3, h4, -⟩ := hR.2 i g hi
  obtain ⟨p, u, hA, hu, e⟩ := r_R_w ho (y_fS _) g (get_mem hi)
  have hA2 : b_A o g (r_p o g) := by rw [r_p_eq hA]; exact hA
  refine ⟨⟨k, Nat.lt_of_lt_of_le hk' hM.1, e1, ?_, ?_⟩, hA2, h3, h4⟩
  · have h5 := (hM.2.2.2.1 k hk').1
    rw [show (3 : Nat) + 1 = 4 from rfl] at h5
    rw [h5, t_q]
    have h6 := (hM.2.2.1.1 k hk').2
    rw [e2] at h6
    rw [h6.uniq hA2]
  · rw [hown k hk', e2]
/-- the questions of a row, as bits -/
def tq_N (q : Nat → Nat) : Nat → Nat
  | 0 => 0
  | i + 1 => tq_N q i ||| (1 <<< q i)
theorem tq_lt {q : Nat → Nat} : ∀ N : Nat, (∀ i : Nat, i < N → q i < 8) → tq_N q N < 256 := by
  intro N
  induction N with
  | zero => intro _; show 0 < 256; decide
  | succ N ih => intro h; exact (ao_s2 _ (ih (fun i hi => h i (by omega))) _ (h N (by omega)) 1 (by decide)).2
theorem tq_bit {q : Nat → Nat} {j : Nat} : ∀ N : Nat, (tq_N q N).testBit j = decide (∃ i : Nat, i < N ∧ q i = j) := by
  intro N
  induction N with
  | zero => rw [tq_N, Nat.zero_testBit]; exact (decide_eq_false (fun ⟨i, h, _⟩ => absurd h (Nat.not_lt_zero _))).symm
  | succ N ih =>
    rw [tq_N, Nat.testBit_or, ih, Nat.one_shiftLeft, Nat.testBit_two_pow, ← Bool.decide_or]
    apply decide_eq_decide.mpr
    constructor
    · rintro (⟨i, h, e⟩ | e)
      · exact ⟨i, by omega, e⟩
      · exact ⟨N, by omega, e⟩
    · rintro ⟨i, h, e⟩
      by_cases c : i = N
      · subst c; exact Or.inr e
      · exact Or.inl ⟨i, by omega, e⟩
noncomputable def t_qs (o : Nat → Nat) (R : List (Nat → Bool)) : Nat → Nat := fun i => t_q o (R.getD i b_0)
noncomputable def t_Q (o : Nat → Nat) (R : List (Nat → Bool)) : Nat := tq_N (t_qs o R) R.length
theorem t_W.q {M : Nat → Nat → Int32} {b : Nat} {o : Nat → Nat} {kp : Nat → Prop} {Y : Nat → Nat → Bool} {R : List (Nat → Bool)} (h : t_W M b o kp Y R) {i : Nat} (hi : i < R.length) : M 4 (M (b + 2) i).toNatClampNeg = nI (t_qs o R i) := by
  obtain ⟨⟨k, hk, e1, e2, -⟩, -⟩ := h.2.2 i _ (of_getD (d := b_0) hi)
  rw [e1, nI_clamp (by omega), e2]; rfl
theorem t_W.q8 {M : Nat → Nat → Int32} {b : Nat} {o : Nat → Nat} (ho : b_O o) {kp : Nat → Prop} {Y : Nat → Nat → Bool} {R : List (Nat → Bool)} (h : t_W M b o kp Y R) {i : Nat} (hi : i < R.length) : t_qs o R i < 8 := ho.1 _ (h.2.2 i _ (of_getD (d := b_0) hi)).2.1.1
theorem t_W.qm {M : Nat → Nat → Int32} {b : Nat} {o : Nat → Nat} (ho : b_O o) {kp : Nat → Prop} {Y : Nat → Nat → Bool} {R : List (Nat → Bool)} (h : t_W M b o kp Y R) : ∀ i : Nat, i ≤ R.length → qmL M b i = nI (tq_N (t_qs o R) i) ∧ tq_N (t_qs o R) i < 256 := by
  intro i
  induction i with
  | zero => intro _; exact ⟨rfl, by show 0 < 256; decide⟩
  | succ i ih =>
    intro hi
    obtain ⟨h1, h2⟩ := ih (by omega)
    obtain ⟨h3, h4⟩ := ao_s2 _ h2 _ (h.q8 ho (show i < R.length by omega)) 1 (by decide)
    refine ⟨?_, h4⟩
    rw [qmL, h1, show (3 : Nat) + 1 = 4 from rfl, h.q (show i < R.length by omega)]
    exact h3
/-- how many questions matter -/
def pc_N (Q : Nat) : Nat := ((List.range 8).filter (fun q => Q.testBit q)).length
theorem pc_bit : ∀ Q : Nat, Q < 256 → ∀ q : Nat, q < 8 → (nI Q >>> (nI q &&& 31)) &&& 1 = nI (if Q.testBit q = true then 1 else 0) := by decide +kernel
theorem pc_s {Q : Nat} (h : Q < 256) : sI (fun q => (nI Q >>> (nI q &&& 31)) &&& 1) 8 = nI (pc_N Q) := sI_cnt 8 (fun q hq => pc_bit Q h q hq)
theorem pc_8 (Q : Nat) : pc_N Q ≤ 8 := Nat.le_trans (List.length_filter_le _ _) (by rw [List.length_range]; exact Nat.le_refl _)
theorem pc_len (o : Nat → Nat) (R : List (Nat → Bool)) : pc_N (t_Q o R) ≤ R.length := by
  have h := pig_rel ((List.range 8).filter (fun q => (t_Q o R).testBit q)) (List.range R.length) (fun q i => t_qs o R i = q) (List.nodup_range.filter _) (fun q hq => by
    have h1 := (List.mem_filter.mp hq).2
    rw [t_Q, tq_bit] at h1
    obtain ⟨i, hi, e⟩ := of_decide_eq_true h1
    exact ⟨i, List.mem_range.mpr hi, e⟩) (fun q q' i _ _ e e' => e.symm.trans e')
  rw [List.length_range] at h
  exact h
theorem pc_0 {o : Nat → Nat} {R : List (Nat → Bool)} (h8 : ∀ i : Nat, i < R.length → t_qs o R i < 8) : pc_N (t_Q o R) = 0 ↔ R.length = 0 := by
  constructor
  · intro h
    rcases Nat.eq_zero_or_pos R.length with c | c
    · exact c
    · exfalso
      have h1 : t_qs o R 0 ∈ (List.range 8).filter (fun q => (t_Q o R).testBit q) := List.mem_filter.mpr ⟨List.mem_range.mpr (h8 0 c), by rw [t_Q, tq_bit]; exact decide_eq_true ⟨0, c, rfl⟩⟩
      have h2 := List.length_pos_of_mem h1
      unfold pc_N at h
      omega
  · intro h
    have := pc_len o R
    omega
/-- the questions that matter, from a place on -/
def pp_N (o : Nat → Nat) (Q p : Nat) : Nat := ((List.range 8).filter (fun p' => decide (p ≤ p') && Q.testBit (o p'))).length
theorem pp_lt {o : Nat → Nat} {Q p p' : Nat} (hp : p < 8) (hQ : Q.testBit (o p) = true) (h : p < p') : pp_N o Q p' + 1 ≤ pp_N o Q p := by
  have h1 := nodup_le (p :: (List.range 8).filter (fun x => decide (p' ≤ x) && Q.testBit (o x))) ((List.range 8).filter (fun x => decide (p ≤ x) && Q.testBit (o x))) (List.nodup_cons.mpr ⟨fun hm => by
    have := (List.mem_filter.mp hm).2
    rw [Bool.and_eq_true] at this
    have := of_decide_eq_true this.1
    omega, List.nodup_range.filter _⟩) (fun x hx => by
    rcases List.mem_cons.mp hx with e | hx
    · subst e; exact List.mem_filter.mpr ⟨List.mem_range.mpr hp, by rw [hQ]; simp⟩
    · obtain ⟨h2, h3⟩ := List.mem_filter.mp hx
      rw [Bool.and_eq_true] at h3
      have h4 := of_decide_eq_true h3.1
      exact List.mem_filter.mpr ⟨h2, by rw [h3.2, Bool.and_true]; exact decide_eq_true (by omega)⟩)
  rw [List.length_cons] at h1
  exact h1
theorem pp_1 {o : Nat → Nat} {Q p : Nat} (hp : p < 8) (hQ : Q.testBit (o p) = true) : 1 ≤ pp_N o Q p := List.length_pos_of_mem (a := p) (List.mem_filter.mpr ⟨List.mem_range.mpr hp, by rw [hQ]; simp⟩)
theorem pp_pc {o : Nat → Nat} (ho : b_O o) {Q p : Nat} : pp_N o Q p ≤ pc_N Q := by
  have h := nodup_le (((List.range 8).filter (fun x => decide (p ≤ x) && Q.testBit (o x))).map o) ((List.range 8).filter (fun q => Q.testBit q)) (nodup_map o (List.nodup_range.filter _) (fun x y hx hy e => ho.2.1 x y (List.mem_range.mp (List.mem_filter.mp hx).1) (List.mem_range.mp (List.mem_filter.mp hy).1) e)) (fun q hq => by
    obtain ⟨x, hx, rfl⟩ := List.mem_map.mp hq
    obtain ⟨h1, h2⟩ := List.mem_filter.mp hx
    rw [Bool.and_eq_true] at h2
    exact List.mem_filter.mpr ⟨List.mem_range.mpr (ho.1 x (List.mem_range.mp h1)), h2.2⟩)
  rw [List.length_map] at h
  exact h
theorem t_W.bit {M : Nat → Nat → Int32} {b : Nat} {o : Nat → Nat} {kp : Nat → Prop} {Y : Nat → Nat → Bool} {R : List (Nat → Bool)} (_h : t_W M b o kp Y R) {i : Nat} {g : Nat → Bool} (hi : R[i]? = some g) : (t_Q o R).testBit (o (r_p o g)) = true := by
  rw [t_Q, tq_bit]
  exact decide_eq_true ⟨i, get_lt hi, by rw [t_qs, getD_of hi]; rfl⟩
/-- no more questions are asked than matter -/
theorem t_ca {M : Nat → Nat → Int32} {b : Nat} {o : Nat → Nat} (ho : b_O o) {kp : Nat → Prop} {Y : Nat → Nat → Bool} {R : List (Nat → Bool)} (h : t_W M b o kp Y R) (hS : ∀ g ∈ R, b_S g) (ans : Int32) : ∀ (q i : Nat) (g : Nat → Bool) (c0 : Nat), R[i]? = some g → ∃ c : Nat, c0 ≤ c ∧ (0 < q → c0 + 1 ≤ c) ∧ c ≤ c0 + pp_N o (t_Q o R) (r_p o g) ∧ caL M b ans q (nI i) (nI c0) = nI c := by
  intro q
  induction q with
  | zero =>
    intro i g c0 hi
    exact ⟨c0, Nat.le_refl _, fun h => absurd h (Nat.lt_irrefl 0), Nat.le_add_right _ _, rfl⟩
  | succ q ih =>
    intro i g c0 hi
    have hil := get_lt hi
    have h77 := h.2.1
    obtain ⟨-, hA, hk0, hk1⟩ := h.2.2 i g hi
    have hbit := h.bit hi
    have h1 := pp_1 (o := o) hA.1 hbit
    rw [caL, if_neg (nI_nn (by omega)), if_neg (by rw [h.1]; exact fun e => nI_ge hil (by omega) e), nI_clamp (by omega), nI_1]
    have key : ∀ (bb : Nat) (x : Int32), bb < 2 → r_c R (r_k o g bb) x → ∃ c : Nat, c0 ≤ c ∧ (0 < q + 1 → c0 + 1 ≤ c) ∧ c ≤ c0 + pp_N o (t_Q o R) (r_p o g) ∧ caL M b ans q x (nI (c0 + 1)) = nI c := by
      intro bb x hbb hx
      have leaf : x < 0 → caL M b ans q x (nI (c0 + 1)) = nI (c0 + 1) := by
        intro hx0
        cases q with
        | zero => rfl
        | succ q => rw [caL, if_pos hx0]
      rcases hx with ⟨-, e⟩ | ⟨-, e⟩ | ⟨i', hi', e⟩
      · exact ⟨c0 + 1, Nat.le_succ _, fun _ => Nat.le_refl _, by omega, leaf (by rw [e]; decide)⟩
      · exact ⟨c0 + 1, Nat.le_succ _, fun _ => Nat.le_refl _, by omega, leaf (by rw [e]; decide)⟩
      · obtain ⟨c, h2, -, h3, h4⟩ := ih i' (r_k o g bb) (c0 + 1) hi'
        have hA' := (h.2.2 i' _ hi').2.1
        have hlt : r_p o g < r_p o (r_k o g bb) := by
          have h5 := hA'
          rw [r_k_eq hA] at h5
          have h6 := hA.clt ho hbb h5
          rw [r_k_eq hA]
          exact h6
        have := pp_lt (o := o) hA.1 hbit hlt
        exact ⟨c, by omega, fun _ => h2, by omega, by rw [e]; exact h4⟩
    split
    · exact key 0 _ (by decide) hk0
    · exact key 1 _ (by decide) hk1
theorem t_caF {M : Nat → Nat → Int32} {b : Nat} {o : Nat → Nat} (ho : b_O o) {kp : Nat → Prop} {Y : Nat → Nat → Bool} {R : List (Nat → Bool)} (h : t_W M b o kp Y R) (hS : ∀ g ∈ R, b_S g) (ans : Int32) : ∃ c : Nat, (0 < R.length → 1 ≤ c) ∧ c ≤ pc_N (t_Q o R) ∧ caF M b ans = nI c := by
  rw [caF]
  rcases Nat.eq_zero_or_pos R.length with c | c
  · rw [if_pos (by rw [h.1, c]; rfl)]
    exact ⟨0, fun h => by omega, Nat.zero_le _, by rw [caL, if_pos (by decide)]; rfl⟩
  · rw [if_neg (by rw [h.1]; intro e; have := (nI_eq (a := R.length) (b := 0) (by have := h.2.1; omega) (by decide)).mp e; omega)]
    obtain ⟨c1, -, h2, h3, h4⟩ := t_ca ho h hS ans 8 0 _ 0 (of_getD (d := b_0) c)
    refine ⟨c1, fun _ => by have := h2 (by decide); omega, ?_, h4⟩
    have := pp_pc ho (Q := t_Q o R) (p := r_p o (R.getD 0 b_0))
    omega
/-- the least and the most of 256 -/
theorem mnmx {F : Nat → Int32} {v : Nat → Nat} {m : Nat} (hm : m ≤ 8) : ∀ N : Nat, (∀ k : Nat, k < N → v k ≤ m ∧ F k = nI (v k)) → ∃ a b : Nat, mnL F N = nI a ∧ mxL F N = nI b ∧ a ≤ 8 ∧ b ≤ m ∧ ∀ k : Nat, k < N → a ≤ v k ∧ v k ≤ b := by
  intro N
  induction N with
  | zero => intro _; exact ⟨8, 0, rfl, rfl, Nat.le_refl _, Nat.zero_le _, fun k hk => absurd hk (Nat.not_lt_zero _)⟩
  | succ N ih =>
    intro h
    obtain ⟨a, b, e1, e2, h1, h2, h3⟩ := ih (fun k hk => h k (by omega))
    obtain ⟨h4, h5⟩ := h N (by omega)
    rw [mnL, mxL, e1, e2, h5]
    have lt : ∀ x y : Nat, x ≤ 8 → y ≤ 8 → (nI x < nI y ↔ x < y) := fun x y hx hy => by
      rw [← Int32.not_le, nI_le_of (by omega) (by omega)]; omega
    have c1 := lt (v N) a (by omega) h1
    have c2 := lt b (v N) (by omega) (by omega)
    by_cases d1 : v N < a <;> by_cases d2 : b < v N
    · rw [if_pos (c1.mpr d1), if_pos (c2.mpr d2)]
      refine ⟨_, _, rfl, rfl, by omega, h4, fun k hk => ?_⟩
      by_cases c : k = N
      · rw [c]; omega
      · have := h3 k (by omega); omega
    · rw [if_pos (c1.mpr d1), if_neg (fun h => d2 (c2.mp h))]
      refine ⟨_, _, rfl, rfl, by omega, h2, fun k hk => ?_⟩
      by_cases c : k = N
      · rw [c]; omega
      · have := h3 k (by omega); omega
    · rw [if_neg (fun h => d1 (c1.mp h)), if_pos (c2.mpr d2)]
      refine ⟨_, _, rfl, rfl, h1, h4, fun k hk => ?_⟩
      by_cases c : k = N
      · rw [c]; omega
      · have := h3 k (by omega); omega
    · rw [if_neg (fun h => d1 (c1.mp h)), if_neg (fun h => d2 (c2.mp h))]
      refine ⟨_, _, rfl, rfl, h1, h2, fun k hk => ?_⟩
      by_cases c : k = N
      · rw [c]; omega
      · have := h3 k (by omega); omega
def sN (v : Nat → Nat) : Nat → Nat
  | 0 => 0
  | k + 1 => sN v k + v k
theorem sI_N {F : Nat → Int32} {v : Nat → Nat} : ∀ N : Nat, (∀ k : Nat, k < N → F k = nI (v k)) → sI F N = nI (sN v N) := by
  intro N
  induction N with
  | zero => intro _; rfl
  | succ N ih => intro h; rw [sI, ih (fun k hk => h k (by omega)), h N (by omega), nI_add]; rfl
theorem sN_in {v : Nat → Nat} {a b : Nat} : ∀ N : Nat, (∀ k : Nat, k < N → a ≤ v k ∧ v k ≤ b) → a * N ≤ sN v N ∧ sN v N ≤ b * N := by
  intro N
  induction N with
  | zero => intro _; exact ⟨Nat.le_refl _, Nat.le_refl _⟩
  | succ N ih =>
    intro h
    obtain ⟨h1, h2⟩ := ih (fun k hk => h k (by omega))
    have := h N (by omega)
    rw [sN, Nat.mul_succ, Nat.mul_succ]
    omega
/-- how many are asked: at the least, at the most, and all added -/
theorem t_asked {M : Nat → Nat → Int32} {b : Nat} {o : Nat → Nat} (ho : b_O o) {kp : Nat → Prop} {Y : Nat → Nat → Bool} {R : List (Nat → Bool)} (h : t_W M b o kp Y R) (hS : ∀ g ∈ R, b_S g) : ∃ mn mx s : Nat, mnL (caT M b) 256 = nI mn ∧ mxL (caT M b) 256 = nI mx ∧ sI (caT M b) 256 = nI s ∧ mn ≤ mx ∧ mx ≤ pc_N (t_Q o R) ∧ (0 < R.length → 1 ≤ mn) ∧ 256 * mn ≤ s ∧ s ≤ 256 * mx := by
  obtain ⟨v, hv⟩ : ∃ v : Nat → Nat, ∀ k : Nat, (0 < R.length → 1 ≤ v k) ∧ v k ≤ pc_N (t_Q o R) ∧ caT M b k = nI (v k) := ⟨fun k => Classical.choose (t_caF ho h hS (nI k)), fun k => Classical.choose_spec (t_caF ho h hS (nI k))⟩
  have h8 := pc_8 (t_Q o R)
  obtain ⟨mn, mx, e1, e2, h1, h2, h3⟩ := mnmx (F := caT M b) (v := v) h8 256 (fun k _ => (hv k).2)
  have e3 := sI_N (F := caT M b) (v := v) 256 (fun k _ => (hv k).2.2)
  have h4 := sN_in 256 h3
  have h5 := h3 0 (by decide)
  refine ⟨mn, mx, sN v 256, e1, e2, e3, by omega, h2, fun hp => ?_, by omega, by omega⟩
  -- the least is one of them, or 8
  have key : ∀ N : Nat, (∀ k : Nat, k < N → 1 ≤ v k ∧ v k ≤ 8) → ∃ a : Nat, 1 ≤ a ∧ a ≤ 8 ∧ mnL (caT M b) N = nI a := by
    intro N
    induction N with
    | zero => intro _; exact ⟨8, by decide, by decide, rfl⟩
    | succ N ih =>
      intro hN
      obtain ⟨a, ha, ha8, ea⟩ := ih (fun k hk => hN k (by omega))
      rw [mnL]
      split
      · exact ⟨v N, (hN N (by omega)).1, (hN N (by omega)).2, (hv N).2.2⟩
      · exact ⟨a, ha, ha8, ea⟩
  obtain ⟨a, ha, ha8, ea⟩ := key 256 (fun k _ => ⟨(hv k).1 hp, by have := (hv k).2.1; omega⟩)
  have : a = mn := (nI_eq (by omega) (by omega)).mp (ea.symm.trans e1)
  omega
