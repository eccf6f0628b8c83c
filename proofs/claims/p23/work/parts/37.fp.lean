theorem fp_256' : ∀ s : Nat, s < 2049 → FP.ddiv (FP.i2d (nI s)) 4643211215818981376 &&& 0x7fffffffffffffff ≤ 0x7ff0000000000000 := by decide +kernel
theorem fp_256 {s : Nat} (h : s < 2049) : vf_n64 (FP.ddiv (FP.i2d (nI s)) 4643211215818981376) := fp_256' s h
theorem fp_mean' : ∀ n : Nat, n < 12 → ∀ a : Nat, a < 925 → FP.ddiv (FP.i2d (nI a)) (FP.i2d (nI (n + 1))) &&& 0x7fffffffffffffff ≤ 0x7ff0000000000000 := by decide +kernel
theorem fp_mean {n a : Nat} (h : n < 12) (h2 : a < 925) : vf_n64 (FP.ddiv (FP.i2d (nI a)) (FP.i2d (nI (n + 1)))) := fp_mean' n h a h2
