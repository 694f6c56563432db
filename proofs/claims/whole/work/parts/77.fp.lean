/-! the floats that the class takes apart -/
theorem v_of (n : Nat) (h : n < 2 ^ 64) : (UInt64.ofNat n).toNat = n := by
  rw [UInt64.toNat_ofNat]; exact Nat.mod_eq_of_lt h
theorem v_nrm {n : Nat} (h1 : 2 ^ 52 ≤ n) (h2 : n < 2047 * 2 ^ 52) : Jvm.FP.Core.val64 (UInt64.ofNat n) = .fin false (2 ^ 52 + n % 2 ^ 52) ((n / 2 ^ 52 : Nat) - 1075) := by
  unfold Jvm.FP.Core.val64 Jvm.FP.Core.decode Jvm.FP.Core.fieldE Jvm.FP.Core.fieldT Jvm.FP.Core.fieldS
  rw [v_of n (by omega), show Jvm.FP.Core.b64.tails = 2 ^ 52 from Jvm.FP.Core.tails_b64, show Jvm.FP.Core.b64.exps = 2048 by decide, show Jvm.FP.Core.b64.qmin = -1074 from Jvm.FP.Core.qmin_b64]
  have e : n / 2 ^ 52 % 2048 = n / 2 ^ 52 := by omega
  have e2 : n / 2 ^ 52 / 2048 = 0 := by omega
  rw [e, e2, if_neg (by omega), if_neg (by omega)]
  show Jvm.FP.Core.Datum.fin false _ _ = _
  congr 1
  omega
theorem v_sub {n : Nat} (h1 : n < 2 ^ 52) : Jvm.FP.Core.val64 (UInt64.ofNat n) = .fin false n (-1074) := by
  unfold Jvm.FP.Core.val64 Jvm.FP.Core.decode Jvm.FP.Core.fieldE Jvm.FP.Core.fieldT Jvm.FP.Core.fieldS
  rw [v_of n (by omega), show Jvm.FP.Core.b64.tails = 2 ^ 52 from Jvm.FP.Core.tails_b64, show Jvm.FP.Core.b64.exps = 2048 by decide, show Jvm.FP.Core.b64.qmin = -1074 from Jvm.FP.Core.qmin_b64]
  have e : n / 2 ^ 52 % 2048 = 0 := by omega
  have e2 : n / 2 ^ 52 / 2048 = 0 := by omega
  rw [e, e2, if_neg (by omega), if_pos rfl, Nat.mod_eq_of_lt h1]
  rfl
theorem v_half : Jvm.FP.Core.val64 (4602678819172646912 : UInt64) = .fin false (2 ^ 52) (-53) := by decide +kernel
theorem v_two : Jvm.FP.Core.val64 (4611686018427387904 : UInt64) = .fin false (2 ^ 52) (-51) := by decide +kernel
theorem mul_to {x y : UInt64} {m : Nat} {c d c' : Nat} {q r q' : Int} (hx : Jvm.FP.Core.val64 x = .fin false c q) (hy : Jvm.FP.Core.val64 y = .fin false d r) (hm : Jvm.FP.Core.val64 (UInt64.ofNat m) = .fin false c' q') (h : c * d * 2 ^ (q + r - q').toNat = c' * 2 ^ (q' - (q + r)).toNat) : FP.dmul x y = UInt64.ofNat m := by
  refine Jvm.FP.Core.val64_inj ?_ ?_
  · show Jvm.FP.Core.val64 (Jvm.FP.Core.dmul x y) ≠ _
    rw [Jvm.FP.Core.val64_dmul, hx, hy]
    exact Jvm.FP.Core.roundRatio_ne_nan ..
  · show Jvm.FP.Core.val64 (Jvm.FP.Core.dmul x y) = _
    rw [Jvm.FP.Core.val64_dmul, hx, hy, hm]
    refine Jvm.FP.Core.roundRatio_exact Jvm.FP.Core.good_b64 (by decide) ?_ ?_
    · rw [← hm]; exact Jvm.FP.Core.val64_fits _
    · rw [Nat.mul_one]; exact h
theorem mul_half {n : Nat} (h1 : 2 * 2 ^ 52 ≤ n) (h2 : n < 2047 * 2 ^ 52) : FP.dmul (UInt64.ofNat n) 4602678819172646912 = UInt64.ofNat (n - 2 ^ 52) := by
  refine mul_to (v_nrm (by omega) h2) v_half (v_nrm (n := n - 2 ^ 52) (by omega) (by omega)) ?_
  rw [show (((n / 2 ^ 52 : Nat) : Int) - 1075 + -53 - (((n - 2 ^ 52) / 2 ^ 52 : Nat) - 1075)).toNat = 0 by omega, show ((((n - 2 ^ 52) / 2 ^ 52 : Nat) : Int) - 1075 - (((n / 2 ^ 52 : Nat) : Int) - 1075 + -53)).toNat = 52 by omega, show (n - 2 ^ 52) % 2 ^ 52 = n % 2 ^ 52 by omega, Nat.pow_zero, Nat.mul_one]
def dbl (n : Nat) : Nat := if n < 2 ^ 52 then 2 * n else n + 2 ^ 52
theorem mul_two {n : Nat} (h2 : n < 2046 * 2 ^ 52) : FP.dmul (UInt64.ofNat n) 4611686018427387904 = UInt64.ofNat (dbl n) := by
  unfold dbl
  by_cases c : n < 2 ^ 52
  · rw [if_pos c]
    by_cases c2 : 2 * n < 2 ^ 52
    · refine mul_to (v_sub c) v_two (v_sub c2) ?_
      rw [show ((-1074 : Int) + -51 - -1074).toNat = 0 by decide, show ((-1074 : Int) - (-1074 + -51)).toNat = 51 by decide]
      omega
    · refine mul_to (v_sub c) v_two (v_nrm (by omega) (by omega)) ?_
      rw [show 2 * n / 2 ^ 52 = 1 by omega, show ((-1074 : Int) + -51 - ((1 : Nat) - 1075)).toNat = 0 by decide, show (((1 : Nat) : Int) - 1075 - (-1074 + -51)).toNat = 51 by decide]
      omega
  · rw [if_neg c]
    refine mul_to (v_nrm (by omega) (by omega)) v_two (v_nrm (by omega) (by omega)) ?_
    rw [show (((n / 2 ^ 52 : Nat) : Int) - 1075 + -51 - (((n + 2 ^ 52) / 2 ^ 52 : Nat) - 1075)).toNat = 0 by omega, show ((((n + 2 ^ 52) / 2 ^ 52 : Nat) : Int) - 1075 - (((n / 2 ^ 52 : Nat) : Int) - 1075 + -51)).toNat = 52 by omega, show (n + 2 ^ 52) % 2 ^ 52 = n % 2 ^ 52 by omega, Nat.pow_zero, Nat.mul_one]
