/-! ===== doubles ===== -/
theorem fp_ge : ∀ mn : Nat, mn < 9 → ∀ s : Nat, s < 2049 → 256 * mn ≤ s → ¬ Op.cmpValue (FP.dcmp (FP.ddiv (FP.i2d (nI s)) 4643211215818981376) (FP.i2d (nI mn))) .g < 0 := by decide +kernel
theorem fp_le : ∀ mx : Nat, mx < 9 → ∀ s : Nat, s < 2049 → s ≤ 256 * mx → ¬ 0 < Op.cmpValue (FP.dcmp (FP.ddiv (FP.i2d (nI s)) 4643211215818981376) (FP.i2d (nI mx))) .l := by decide +kernel
theorem fp_eq0 : Op.cmpValue (FP.dcmp FP.dconst0 FP.dconst0) .l = 0 := by decide +kernel
theorem fp_eq : ∀ n : Nat, n < 12 → ∀ a : Nat, a < 925 → Op.cmpValue (FP.dcmp (FP.ddiv (FP.i2d (nI a)) (FP.i2d (nI (n + 1)))) (FP.ddiv (FP.i2d (nI a)) (FP.i2d (nI (n + 1))))) .l = 0 := by decide +kernel
