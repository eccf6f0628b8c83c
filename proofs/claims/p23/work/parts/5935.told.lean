/-! ===== what the class tells, in numbers ===== -/
theorem r_R_S {o : Nat → Nat} (ho : b_O o) {f : Nat → Bool} (hf : b_S f) : ∀ g ∈ r_R o f, b_S g := fun g hg => by
  obtain ⟨p, u, hA, -, e⟩ := r_R_w ho hf g hg
  rw [e]
  exact b_s_S ho hf p (by have := hA.1; omega) u
/-- the row of a fold -/
noncomputable def kR (M : Nat → Nat → Int32) (o : Nat → Nat) (f : Nat) : List (Nat → Bool) := r_R o (a_Y M f)
theorem kR_77 {M : Nat → Nat → Int32} {o : Nat → Nat} (h : k_S M o) {f : Nat} : (kR M o f).length ≤ 77 := r_R_77 h.o.1 (y_fS _)
theorem k_S.rws {M : Nat → Nat → Int32} {o : Nat → Nat} (h : k_S M o) : ∃ n : Nat, n = (u_L o (a_k M) (a_Y M) 12).length ∧ M 3 0 = nI n ∧ rwsOk M n := by
  obtain ⟨⟨n, tb, pl, hS⟩, -⟩ := h
  exact ⟨n, hS.n, hS.2.2.1.2.1, hS.rws⟩
theorem k_S.tW {M : Nat → Nat → Int32} {o : Nat → Nat} (h : k_S M o) {f : Nat} (hf : f < 12) (hk : a_k M f) : t_W M (25 + 6 * f) o (a_k M) (a_Y M) (kR M o f) ∧ ∀ (i : Nat) (g : Nat → Bool), (kR M o f)[i]? = some g → M (25 + 6 * f + 5) i = nI (r_A o (a_Y M f) g) ∧ r_A o (a_Y M f) g ≤ 7 := by
  obtain ⟨⟨n, tb, pl, hS⟩, -⟩ := h
  exact hS.row hf hk
theorem ab_eq {M : Nat → Nat → Int32} {o : Nat → Nat} (h : k_S M o) {f wh : Nat} (hf : f < 12) (hk : a_k M f) (hwh : wh < 8) {r : Int32} (hp : ∃ k z wh1 : Nat, fdOk M (nI f) k ∧ wh1 < 8 ∧ nI wh = nI wh1 ∧ z ≤ 77 ∧ M (25 + 6 * k) 2 = nI z ∧ M = M ∧ r = tdF M (25 + 6 * k) z wh1) : r = tdF M (25 + 6 * f) (kR M o f).length wh := by
  obtain ⟨k, z, wh1, h1, h2, h3, h4, h5, -, h6⟩ := hp
  have e1 := fd_one hf h1
  subst e1
  have e2 : wh1 = wh := ((nI_eq (by omega) (by omega)).mp h3).symm
  subst e2
  have h7 := (h.tW h1.1 hk).1.1
  have h77 := kR_77 h (f := k)
  have e3 : z = (kR M o k).length := (nI_eq (by omega) (by omega)).mp (h5.symm.trans h7)
  rw [h6, e3]
theorem fk_eq {M : Nat → Nat → Int32} {f i wh : Nat} (hf : f < 12) (hi : i < 77) (hwh : wh < 5) {r : Int32} (hp : ∃ k z i1 wh1 : Nat, fdOk M (nI f) k ∧ wh1 < 5 ∧ nI wh = nI wh1 ∧ z ≤ 77 ∧ M (25 + 6 * k) 2 = nI z ∧ i1 < z ∧ nI i = nI i1 ∧ M = M ∧ r = tfF M (25 + 6 * k) i1 wh1) : r = tfF M (25 + 6 * f) i wh := by
  obtain ⟨k, z, i1, wh1, h1, h2, h3, h4, h5, h6, h7, -, h8⟩ := hp
  have e1 := fd_one hf h1
  subst e1
  have e2 : wh1 = wh := ((nI_eq (by omega) (by omega)).mp h3).symm
  subst e2
  have e3 : i1 = i := ((nI_eq (by omega) (by omega)).mp h7).symm
  subst e3
  exact h8
theorem ab_no {M : Nat → Nat → Int32} {f wh : Nat} (hf : f < 12) (hk : a_k M f) (hwh : wh < 8) : ∀ E : String, ¬ (E = xIO ∧ ¬ ((∃ k : Nat, fdOk M (nI f) k) ∧ inB (nI wh) 8)) := fun E h => h.2 ⟨⟨f, fdOk_of hf hk⟩, wh, hwh, rfl⟩
theorem fk_no {M : Nat → Nat → Int32} {o : Nat → Nat} (h : k_S M o) {f i wh : Nat} (hf : f < 12) (hk : a_k M f) (hi : i < (kR M o f).length) (hwh : wh < 5) : ∀ E : String, ¬ (E = xIO ∧ ¬ ∃ k : Nat, fdOk M (nI f) k ∧ ¬ nI i < 0 ∧ nI i < M (25 + 6 * k) 2 ∧ inB (nI wh) 5) := fun E h9 => by
  have h77 := kR_77 h (f := f)
  exact h9.2 ⟨f, fdOk_of hf hk, nI_pos (by omega), by rw [(h.tW hf hk).1.1]; exact nI_lt hi (by omega), wh, hwh, rfl⟩
theorem co_row {M : Nat → Nat → Int32} {o : Nat → Nat} {kp : Nat → Prop} {Y : Nat → Nat → Bool} {b : Nat} {R : List (Nat → Bool)} (h : t_W M b o kp Y R) : sI (coT M b) R.length = nI (R.filter (fun g => decide (o_N o kp Y g 12 = 1))).length := by
  rw [← cnt_list (fun g => decide (o_N o kp Y g 12 = 1)) b_0]
  refine sI_cnt _ (fun k hk => ?_)
  obtain ⟨⟨j, hj, e1, -, e3⟩, -⟩ := h.2.2 k _ (of_getD (d := b_0) hk)
  unfold coT
  rw [e1, nI_clamp (by omega), show (3 : Nat) + 4 = 7 from rfl, e3]
  have h12 := o_N_le (o := o) (kp := kp) (Y := Y) (g := R.getD k b_0) 12
  by_cases c : o_N o kp Y (R.getD k b_0) 12 = 1
  · rw [if_pos (by rw [c]; rfl), if_pos (decide_eq_true c)]; rfl
  · rw [if_neg (show ¬ nI (o_N o kp Y (R.getD k b_0) 12) = 1 from fun e => c ((nI_eq (b := 1) (by omega) (by decide)).mp e)), if_neg (fun e => c (of_decide_eq_true e))]; rfl
theorem fk_0 {M : Nat → Nat → Int32} {o : Nat → Nat} {kp : Nat → Prop} {Y : Nat → Nat → Bool} {b : Nat} {R : List (Nat → Bool)} (h : t_W M b o kp Y R) {i : Nat} (hi : i < R.length) : tfF M b i 0 = nI (t_qs o R i) := h.q hi
theorem fk_4 {M : Nat → Nat → Int32} {o : Nat → Nat} {kp : Nat → Prop} {Y : Nat → Nat → Bool} {b : Nat} {R : List (Nat → Bool)} (h : t_W M b o kp Y R) {i : Nat} {g : Nat → Bool} (hi : R[i]? = some g) : tfF M b i 4 = nI (o_N o kp Y g 12) := by
  obtain ⟨⟨j, hj, e1, -, e3⟩, -⟩ := h.2.2 i g hi
  show M (3 + 4) (M (b + 2) i).toNatClampNeg = _
  rw [e1, nI_clamp (by omega), show (3 : Nat) + 4 = 7 from rfl, e3]
/-- all numbers of a fold -/
theorem told_all {M : Nat → Nat → Int32} {o : Nat → Nat} (h : k_S M o) {f : Nat} (hf : f < 12) (hk : a_k M f) : ∃ (c mn mx su : Nat) (sm gr : Int32),
    tdF M (25 + 6 * f) (kR M o f).length 1 = nI c ∧ tdF M (25 + 6 * f) (kR M o f).length 2 = nI (t_Q o (kR M o f)) ∧ tdF M (25 + 6 * f) (kR M o f).length 3 = nI mn ∧ tdF M (25 + 6 * f) (kR M o f).length 4 = nI mx ∧ tdF M (25 + 6 * f) (kR M o f).length 5 = sm ∧ tdF M (25 + 6 * f) (kR M o f).length 6 = gr ∧ tdF M (25 + 6 * f) (kR M o f).length 7 = nI (u_own o (a_k M) (a_Y M) f).length ∧ akF M (25 + 6 * f) = FP.ddiv (FP.i2d (nI su)) 4643211215818981376 ∧
    t_Q o (kR M o f) < 256 ∧ mn ≤ mx ∧ mx ≤ pc_N (t_Q o (kR M o f)) ∧ (0 < (kR M o f).length → 1 ≤ mn) ∧ 256 * mn ≤ su ∧ su ≤ 256 * mx ∧ c ≤ 256 ∧ (u_own o (a_k M) (a_Y M) f).length ≤ (kR M o f).length ∧
    ((c = 0 ∧ sm = -1 ∧ gr = -1) ∨ ∃ s g : Nat, s ≤ g ∧ g < 256 ∧ sm = nI s ∧ gr = nI g ∧ ¬ M (25 + 6 * f + 1) s = 0 ∧ ¬ M (25 + 6 * f + 1) g = 0 ∧ 1 ≤ c ∧ c ≤ g - s + 1) := by
  have ho := h.o.1
  obtain ⟨hW, -⟩ := h.tW hf hk
  obtain ⟨mn, mx, su, e1, e2, e3, h1, h2, h3, h4, h5⟩ := t_asked ho hW (r_R_S ho (y_fS _))
  obtain ⟨h6, h7⟩ := v_all M (25 + 6 * f)
  obtain ⟨h8, h9⟩ := hW.qm ho (kR M o f).length (Nat.le_refl _)
  refine ⟨v_c M (25 + 6 * f), mn, mx, su, _, _, v_cy M (25 + 6 * f), h8, e1, e2, rfl, rfl, co_row hW, by rw [akF, e3], h9, h1, h2, h3, h4, h5, h6, List.length_filter_le _ _, ?_⟩
  rcases h7 with ⟨a1, a2, a3⟩ | ⟨s, g, a1, a2, a3, a4, a5⟩
  · exact Or.inl ⟨a1, a2, a3⟩
  · exact Or.inr ⟨s, g, a1, a2, a3, a4, a5⟩
/-! ===== sums ===== -/
theorem af_sum {M : Nat → Nat → Int32} {o : Nat → Nat} (h : k_S M o) : ∀ f : Nat, f ≤ 12 → sI (afT M) f = nI (u_sum (a_k M) (fun e => (kR M o e).length) f) ∧ u_sum (a_k M) (fun e => (kR M o e).length) f ≤ 77 * f := by
  intro f
  induction f with
  | zero => intro _; exact ⟨rfl, Nat.le_refl _⟩
  | succ f ih =>
    intro hf
    obtain ⟨h1, h2⟩ := ih (by omega)
    have h77 := kR_77 h (f := f)
    rw [sI, h1, u_sum]
    by_cases c : a_k M f
    · rw [cIf_pos c]
      have e : afT M f = nI (kR M o f).length := by
        unfold afT
        rw [if_neg c, (h.tW (by omega) c).1.1]
      rw [e, nI_add]
      exact ⟨rfl, by omega⟩
    · rw [cIf_neg c]
      have e : afT M f = 0 := by
        unfold afT
        rw [if_pos (Classical.not_not.mp c)]
      rw [e]
      exact ⟨Int32.add_zero _, by omega⟩
theorem cf_le {M : Nat → Nat → Int32} (n : Nat) (hn : n < 2 ^ 31) : ∃ k : Nat, k ≤ n ∧ sI (cfT M) n = nI k := by
  refine ⟨((List.range n).filter (fun k => decide (M (3 + 1) k = M 2 0))).length, Nat.le_trans (List.length_filter_le _ _) (by rw [List.length_range]; exact Nat.le_refl _), sI_cnt n (fun k _ => ?_)⟩
  unfold cfT
  by_cases c : M (3 + 1) k = M 2 0
  · rw [if_pos c, if_pos (decide_eq_true c)]; rfl
  · rw [if_neg c, if_neg (fun e => c (of_decide_eq_true e))]; rfl
/-! ===== advice ===== -/
theorem ad_ok {M : Nat → Nat → Int32} {o : Nat → Nat} (h : k_S M o) {n : Nat} (hn : n = (u_L o (a_k M) (a_Y M) 12).length) (h0 : M 3 0 = nI n) (hn6 : n ≤ 626) : ∀ k : Nat, k ≤ 7 → (∀ i : Nat, i < 13 ∨ 24 < i → (adL M k).1 i = M i) ∧ (((adL M k).2.1 = nI n ∧ (adL M k).2.2 = -1) ∨ ∃ p m : Nat, p < k ∧ m < n ∧ (adL M k).2.1 = nI m ∧ (adL M k).2.2 = nI p ∧ m = (u_L (o_x o p) (a_k M) (a_Y M) 12).length) := by
  intro k
  induction k with
  | zero => intro _; exact ⟨fun _ _ => rfl, Or.inl ⟨h0, rfl⟩⟩
  | succ k ih =>
    intro hk
    obtain ⟨hs, hb⟩ := ih (by omega)
    have hcs : csF (adL M k).1 k 15 0 = nI (u_L (o_x o k) (a_k M) (a_Y M) 12).length := by
      have := ta_cs (M := (adL M k).1) h.o.1 (fun p hp => by rw [hs 2 (by omega)]; exact h.o.2 p hp) (show k < 7 by omega)
      rw [sa_k hs, sa_Y hs] at this
      exact this
    have hs' : ∀ i : Nat, i < 13 ∨ 24 < i → csF (adL M k).1 k i = M i := fun i hi => by rw [cs_row (by omega)]; exact hs i hi
    have hcap : (u_L (o_x o k) (a_k M) (a_Y M) 12).length ≤ 626 := by
      obtain ⟨n2, e2, -, h2⟩ := (h.swap (show k < 7 by omega)).rws
      have e3 : a_k (laF (exF M 2 k)) = a_k M := by funext e; exact propext sw_k
      have e4 : a_Y (laF (exF M 2 k)) = a_Y M := by funext e; exact sw_Y
      rw [e3, e4] at e2
      rw [← e2]
      exact h2.1
    rw [adL]
    obtain ⟨X, hX⟩ : ∃ X : Nat → Nat → Int32, X = csF (adL M k).1 k := ⟨_, rfl⟩
    obtain ⟨Y, hY⟩ : ∃ Y : Int32 × Int32, Y = (adL M k).2 := ⟨_, rfl⟩
    rw [← hX] at hcs hs' ⊢
    rw [← hY] at hb ⊢
    clear hX hY hs ih
    obtain ⟨Y1, Y2⟩ := Y
    dsimp only at hb ⊢
    by_cases c : X 15 0 < Y1
    · rw [if_pos c]
      refine ⟨hs', Or.inr ⟨k, _, Nat.lt_succ_self _, ?_, hcs, rfl, rfl⟩⟩
      rw [hcs] at c
      rcases hb with ⟨e1, -⟩ | ⟨p, m, -, hm, e1, -⟩
      · rw [e1] at c; exact (nI_ltI (by omega) (by omega)).mp c
      · rw [e1] at c; have := (nI_ltI (by omega) (by omega)).mp c; omega
    · rw [if_neg c]
      refine ⟨hs', ?_⟩
      rcases hb with hb | ⟨p, m, hp, hm⟩
      · exact Or.inl hb
      · exact Or.inr ⟨p, m, by omega, hm⟩
theorem kC_kC {I Z F : ClassId} {ad : Nat → Nat} {M M' : Nat → Nat → Int32} {C : hC} (hI : cI ad) : kC I Z F ad M' (kC I Z F ad M C) = kC I Z F ad M' C := by
  funext b
  unfold kC
  cases C b with
  | none => rfl
  | some x =>
    simp only [Option.map_some]
    rcases k_in ad b with ⟨i, hi, rfl⟩ | h
    · rw [kE_at hI hi, kE_at hI hi]
    · rw [kE_ne h, kE_ne h, kE_ne h]
/-! ===== a fold joined to itself ===== -/
theorem sj_self {M : Nat → Nat → Int32} (h : ysOk M) {f0 wh j : Nat} (hf0 : f0 < 12) (hwh : wh < 2) (hj : j < 256) : sjT M f0 f0 wh j = M (25 + 6 * f0 + 1) j := by
  unfold sjT
  rcases (show wh = 0 ∨ wh = 1 by omega) with rfl | rfl <;> rcases h f0 hf0 j hj with e | e <;> rw [e] <;> decide
theorem sj_selfY {M : Nat → Nat → Int32} (h : ysOk M) {f0 wh : Nat} (hf0 : f0 < 12) (hwh : wh < 2) : y_f (sjT M f0 f0 wh) = a_Y M f0 := y_f_ext (fun j hj => by rw [sj_self h hf0 hwh hj])
theorem cq_eq {X Y : Nat → Int32} : ∀ N : Nat, (∀ j : Nat, j < N → X j = Y j) → (cmL X Y N).1 = 1 ∧ (cmL X Y N).2.1 = 1 := by
  intro N
  induction N with
  | zero => intro _; exact ⟨rfl, rfl⟩
  | succ N ih =>
    intro h
    obtain ⟨h1, h2⟩ := ih (fun j hj => h j (by omega))
    rw [cmL, cmS, h N (by omega)]
    by_cases c : Y N = 0
    · rw [if_neg (fun h9 => h9.1 c), if_neg (fun h9 => h9 c), if_neg (fun h9 => h9 c)]; exact ⟨h1, h2⟩
    · rw [if_pos ⟨c, c⟩]; exact ⟨h1, h2⟩
theorem cm_0 {X Y : Nat → Int32} (h : ∀ j : Nat, j < 256 → X j = Y j) : cmR (cmL X Y 256) = 0 := by
  obtain ⟨h1, h2⟩ := cq_eq 256 h
  rw [cmR, h1, h2, if_neg (by decide), if_neg (by decide)]
section TWIN
variable {M : Nat → Nat → Int32} {o : Nat → Nat} {f f0 : Nat} {T : Nat → Int32}
/-- a new fold that says what the fold f0 says: nothing of it is its own, there are no more forks -/
theorem tw_Y (hne : f0 ≠ f) (hT : y_f T = a_Y M f0) : a_Y (nwF M f T) f = a_Y M f0 ∧ a_Y (nwF M f T) f0 = a_Y M f0 := ⟨by rw [nw_Y, if_pos rfl]; exact hT, by rw [nw_Y, if_neg hne]⟩
theorem tw_own (hf : f < 12) (hf0 : f0 < 12) (hk0 : a_k M f0) (hne : f0 ≠ f) (hT : y_f T = a_Y M f0) : (u_own o (a_k (nwF M f T)) (a_Y (nwF M f T)) f).length = 0 := by
  obtain ⟨e1, e2⟩ := tw_Y hne hT
  unfold u_own
  rw [List.filter_eq_nil_iff.mpr (fun g hg h9 => ?_)]
  · rfl
  · have h1 := of_decide_eq_true h9
    have h2 := (o_N_2 (o := o) (kp := a_k (nwF M f T)) (Y := a_Y (nwF M f T)) (g := g) 12).2 f f0 hf hf0 (Ne.symm hne) (nw_k.mpr (Or.inl rfl)) (nw_k.mpr (Or.inr hk0)) hg (by rw [e2, ← e1]; exact hg)
    omega
theorem tw_n (hf : f < 12) (hf0 : f0 < 12) (hk0 : a_k M f0) (hnk : ¬ a_k M f) (hne : f0 ≠ f) (hT : y_f T = a_Y M f0) : (u_L o (a_k (nwF M f T)) (a_Y (nwF M f T)) 12).length = (u_L o (a_k M) (a_Y M) 12).length := by
  obtain ⟨e1, e2⟩ := tw_Y hne hT
  refine nodup_eq (u_nd 12) (u_nd 12) (fun g => ?_)
  rw [u_mem, u_mem]
  constructor
  · rintro ⟨e, h1, h2, h3⟩
    by_cases c : e = f
    · subst c
      exact ⟨f0, hf0, hk0, by rw [← e1]; exact h3⟩
    · rw [nw_Y, if_neg c] at h3
      exact ⟨e, h1, (nw_k.mp h2).resolve_left c, h3⟩
  · rintro ⟨e, h1, h2, h3⟩
    have c : e ≠ f := fun c => hnk (by rw [← c]; exact h2)
    exact ⟨e, h1, nw_k.mpr (Or.inr h2), by rw [nw_Y, if_neg c]; exact h3⟩
/-- and it is dropped again -/
theorem tw_k (hnk : ¬ a_k M f) {k : Nat} : a_k (laF (mst (nwF M f T) (25 + 6 * f) 0 0)) k ↔ a_k M k := by
  rw [dr_k, nw_k]
  constructor
  · rintro ⟨h1, h2⟩; exact h2.resolve_left h1
  · intro h; exact ⟨fun c => hnk (by rw [← c]; exact h), Or.inr h⟩
theorem tw_Yk (hnk : ¬ a_k M f) {k : Nat} (hk : a_k M k) : a_Y (laF (mst (nwF M f T) (25 + 6 * f) 0 0)) k = a_Y M k := by
  rw [dr_Y, nw_Y, if_neg (fun c => hnk (by rw [← c]; exact hk))]
end TWIN
