/-! the floats that the class takes apart -/
theorem v_of (n : Nat) (h : n < 2 ^ 64) : (UInt64.ofNat n).toNat = n := Nat.mod_eq_of_lt h
theorem v_nrm {n : Nat} (h1 : 2 ^ 52 ≤ n) (h2 : n < 2047 * 2 ^ 52) : Jvm.FP.Core.val64 (UInt64.ofNat n) = .fin false (2 ^ 52 + n % 2 ^ 52) ((n / 2 ^ 52 : Nat) - 1075) := by
  unfold Jvm.FP.Core.val64 Jvm.FP.Core.decode Jvm.FP.Core.fieldE Jvm.FP.Core.fieldT Jvm.FP.Core.fieldS
  rw [v_of n (by omega), show Jvm.FP.Core.b64.tails = 2 ^ 52 from Jvm.FP.Core.tails_b64, show Jvm.FP.Core.b64.exps = 2048 by decide, show Jvm.FP.Core.b64.qmin = -1074 from Jvm.FP.Core.qmin_b64]
  have e : n / 2 ^ 52 % 2048 = n / 2 ^ 52 := by omega
  have e2 : n / 2 ^ 52 / 2048 = 0 := by omega
  rw [e, e2, if_neg (by omega), if_neg (by omega)]
  show Jvm.FP.Core.Datum.fin false _ _ = _
  congr 1
  omega
theorem v_sub {n : Nat} (h1 : n < 2 ^ 52) : Jvm.FP.Core.val64 (UInt64.ofNat n) = .fin false n (-1074) := by
  unfold Jvm.FP.Core.val64 Jvm.FP.Core.decode Jvm.FP.Core.fieldE Jvm.FP.Core.fieldT Jvm.FP.Core.fieldS
  rw [v_of n (by omega), show Jvm.FP.Core.b64.tails = 2 ^ 52 from Jvm.FP.Core.tails_b64, show Jvm.FP.Core.b64.exps = 2048 by decide, show Jvm.FP.Core.b64.qmin = -1074 from Jvm.FP.Core.qmin_b64]
  have e : n / 2 ^ 52 % 2048 = 0 := by omega
  have e2 : n / 2 ^ 52 / 2048 = 0 := by omega
  rw [e, e2, if_neg (by omega), if_pos rfl, Nat.mod_eq_of_lt h1]
  rfl
theorem v_half : Jvm.FP.Core.val64 (4602678819172646912 : UInt64) = .fin false (2 ^ 52) (-53) := by decide +kernel
theorem v_two : Jvm.FP.Core.val64 (4611686018427387904 : UInt64) = .fin false (2 ^ 52) (-51) := by decide +kernel
theorem mul_to {x y : UInt64} {m : Nat} {c d c' : Nat} {q r q' : Int} (hx : Jvm.FP.Core.val64 x = .fin false c q) (hy : Jvm.FP.Core.val64 y = .fin false d r) (hm : Jvm.FP.Core.val64 (UInt64.ofNat m) = .fin false c' q') (h : c * d * 2 ^ (q + r - q').toNat = c' * 2 ^ (q' - (q + r)).toNat) : FP.dmul x y = UInt64.ofNat m := by
  refine Jvm.FP.Core.val64_inj ?_ ?_
  · show Jvm.FP.Core.val64 (Jvm.FP.Core.dmul x y) ≠ _
    rw [Jvm.FP.Core.val64_dmul, hx, hy]
    show Jvm.FP.Core.roundRatio Jvm.FP.Core.b64 (false != false) (c * d) 1 (q + r) ≠ .nan
    exact Jvm.FP.Core.roundRatio_ne_nan _ _ _ _ _
  · show Jvm.FP.Core.val64 (Jvm.FP.Core.dmul x y) = _
    rw [Jvm.FP.Core.val64_dmul, hx, hy, hm]
    refine Jvm.FP.Core.roundRatio_exact Jvm.FP.Core.good_b64 (by decide) ?_ ?_
    · show Jvm.FP.Core.fits Jvm.FP.Core.b64 (.fin false c' q')
      rw [← hm]; exact Jvm.FP.Core.val64_fits _
    · rw [Nat.mul_one]; exact h
theorem mul_half {n : Nat} (h1 : 2 * 2 ^ 52 ≤ n) (h2 : n < 2047 * 2 ^ 52) : FP.dmul (UInt64.ofNat n) 4602678819172646912 = UInt64.ofNat (n - 2 ^ 52) := by
  refine mul_to (v_nrm (by omega) h2) v_half (v_nrm (n := n - 2 ^ 52) (by omega) (by omega)) ?_
  rw [show (((n / 2 ^ 52 : Nat) : Int) - 1075 + -53 - (((n - 2 ^ 52) / 2 ^ 52 : Nat) - 1075)).toNat = 0 by omega, show ((((n - 2 ^ 52) / 2 ^ 52 : Nat) : Int) - 1075 - (((n / 2 ^ 52 : Nat) : Int) - 1075 + -53)).toNat = 52 by omega, show (n - 2 ^ 52) % 2 ^ 52 = n % 2 ^ 52 by omega, Nat.pow_zero, Nat.mul_one]
def dbl (n : Nat) : Nat := if n < 2 ^ 52 then 2 * n else n + 2 ^ 52
theorem mul_two {n : Nat} (h2 : n < 2046 * 2 ^ 52) : FP.dmul (UInt64.ofNat n) 4611686018427387904 = UInt64.ofNat (dbl n) := by
  unfold dbl
  by_cases c : n < 2 ^ 52
  · rw [if_pos c]
    by_cases c2 : 2 * n < 2 ^ 52
    · refine mul_to (v_sub c) v_two (v_sub c2) ?_
      rw [show ((-1074 : Int) + -51 - -1074).toNat = 0 by decide, show ((-1074 : Int) - (-1074 + -51)).toNat = 51 by decide]
      omega
    · refine mul_to (v_sub c) v_two (v_nrm (by omega) (by omega)) ?_
      rw [show 2 * n / 2 ^ 52 = 1 by omega, show ((-1074 : Int) + -51 - ((1 : Nat) - 1075)).toNat = 0 by decide, show (((1 : Nat) : Int) - 1075 - (-1074 + -51)).toNat = 51 by decide]
      omega
  · rw [if_neg c]
    refine mul_to (v_nrm (by omega) (by omega)) v_two (v_nrm (by omega) (by omega)) ?_
    rw [show (((n / 2 ^ 52 : Nat) : Int) - 1075 + -51 - (((n + 2 ^ 52) / 2 ^ 52 : Nat) - 1075)).toNat = 0 by omega, show ((((n + 2 ^ 52) / 2 ^ 52 : Nat) : Int) - 1075 - (((n / 2 ^ 52 : Nat) : Int) - 1075 + -51)).toNat = 52 by omega, show (n + 2 ^ 52) % 2 ^ 52 = n % 2 ^ 52 by omega, Nat.pow_zero, Nat.mul_one]
/-! bitsOf: the bits of a finite double that is no zero with a minus -/
theorem fin_ok {a : UInt64} (h : Jvm.FP.Core.DFin a) : a &&& 0x7fffffffffffffff ≤ 0x7ff0000000000000 := by
  rw [UInt64.le_iff_toNat_le, Jvm.FP.Core.mask_toNat]
  have := (Jvm.FP.Core.fin_bits a).mp h
  show _ ≤ 9218868437227405312
  omega
theorem fin_n {n : Nat} (h : n < 2047 * 2 ^ 52) : Jvm.FP.Core.DFin (UInt64.ofNat n) := by
  rw [Jvm.FP.Core.fin_bits, v_of n (by omega)]; omega
theorem dk_n {n : Nat} (h : n < 2 ^ 63) : Jvm.FP.Core.dkey (UInt64.ofNat n) = (n : Int) := by
  unfold Jvm.FP.Core.dkey
  rw [v_of n (by omega), if_neg (by omega)]
theorem cv_of {a b : UInt64} (ha : Jvm.FP.Core.DFin a) (hb : Jvm.FP.Core.DFin b) : FP.dcmp a b = some (compare (Jvm.FP.Core.dkey a) (Jvm.FP.Core.dkey b)) :=
  Jvm.FP.Core.dcmp_key ha.ne_nan hb.ne_nan
theorem cv_lt (a b : Int) (op) : Op.cmpValue (some (compare a b)) op < 0 ↔ a < b := by
  rw [← Jvm.FP.Core.compare_lt_iff]
  cases compare a b <;> simp [Op.cmpValue]
theorem cv_ge (a b : Int) (op) : 0 ≤ Op.cmpValue (some (compare a b)) op ↔ b ≤ a := by
  rw [← Int.not_lt, ← Jvm.FP.Core.compare_lt_iff]
  cases compare a b <;> simp [Op.cmpValue]
theorem cv_le (a b : Int) (op) : Op.cmpValue (some (compare a b)) op ≤ 0 ↔ a ≤ b := by
  rw [← Int.not_lt, ← Jvm.FP.Core.compare_gt_iff]
  cases compare a b <;> simp [Op.cmpValue]
theorem cv_eq (a b : Int) (op) : Op.cmpValue (some (compare a b)) op = 0 ↔ a = b := by
  rw [← Jvm.FP.Core.compare_eq_iff]
  cases compare a b <;> simp [Op.cmpValue]
theorem c_one : (FP.dconst1 : UInt64) = UInt64.ofNat (1023 * 2 ^ 52) := by decide +kernel
theorem c_two : (4611686018427387904 : UInt64) = UInt64.ofNat (1024 * 2 ^ 52) := by decide +kernel
theorem v_one : Jvm.FP.Core.val64 FP.dconst1 = .fin false (2 ^ 52) (-52) := by decide +kernel
theorem v_big : Jvm.FP.Core.val64 (4841369599423283200 : UInt64) = .fin false (2 ^ 52) 0 := by decide +kernel
theorem fin_dbl {n : Nat} (h : n < 2046 * 2 ^ 52) : dbl n < 2047 * 2 ^ 52 := by
  unfold dbl; split <;> omega
theorem rnd_z {s : Bool} {n v k : Nat} {e : Int} (he : -1074 ≤ e) (hv : v < 2 ^ 53) (hk : k ≤ 2045) (h : Jvm.FP.Core.inUnits n e (-1074) = v * 2 ^ k) : ∃ c q, Jvm.FP.Core.round Jvm.FP.Core.b64 (.fin s n e) = .fin s c q ∧ Jvm.FP.Core.inUnits c q (-1074) = v * 2 ^ k := by
  have eu : Jvm.FP.Core.inUnits v ((k : Int) - 1074) (-1074) = v * 2 ^ k := by
    unfold Jvm.FP.Core.inUnits
    rw [show ((k : Int) - 1074 - -1074).toNat = k by omega]
  obtain ⟨c, q, h1, h2⟩ := Jvm.FP.Core.round_exact Jvm.FP.Core.good_b64 s (c := v) (q := (k : Int) - 1074) hv (by rw [Jvm.FP.Core.qmin_b64]; omega) (by rw [show Jvm.FP.Core.b64.qmax = 971 by decide]; omega)
  rw [Jvm.FP.Core.qmin_b64, eu] at h2
  refine ⟨c, q, ?_, h2⟩
  rw [← h1, ← Jvm.FP.Core.round_inUnits s n he, ← Jvm.FP.Core.round_inUnits s v (show (-1074 : Int) ≤ (k : Int) - 1074 by omega), h, eu]
theorem sub_one {y : UInt64} {c n : Nat} {q : Int} (hn : n < 2 ^ 53) (hy : Jvm.FP.Core.val64 y = .fin false c q) (hu : Jvm.FP.Core.inUnits c q (-1074) = n * 2 ^ 1022) :
    ∃ sg m c' q', Jvm.FP.Core.val64 (FP.dsub y FP.dconst1) = .fin sg c' q' ∧ Jvm.FP.Core.signed sg m = (n : Int) - ((2 ^ 52 : Nat) : Int) ∧ m < 2 ^ 53 ∧ Jvm.FP.Core.inUnits c' q' (-1074) = m * 2 ^ 1022 := by
  have f1 : Jvm.FP.Core.fits Jvm.FP.Core.b64 (.fin false c q) := by rw [← hy]; exact Jvm.FP.Core.val64_fits y
  have f2 : Jvm.FP.Core.fits Jvm.FP.Core.b64 (.fin true (2 ^ 52) (-52)) := by
    have := Jvm.FP.Core.negate_fits (Jvm.FP.Core.val64_fits FP.dconst1)
    rwa [v_one] at this
  obtain ⟨sg, N, e, a1, a2, a3⟩ := Jvm.FP.Core.sum_units f1 f2
  rw [Jvm.FP.Core.qmin_b64] at a2 a3
  have hv : Jvm.FP.Core.val64 (FP.dsub y FP.dconst1) = Jvm.FP.Core.round Jvm.FP.Core.b64 (.fin sg N e) := by
    show Jvm.FP.Core.val64 (Jvm.FP.Core.dsub y FP.dconst1) = _
    rw [Jvm.FP.Core.val64_dsub, hy, v_one]
    exact congrArg _ a1
  have z1 : Jvm.FP.Core.zval Jvm.FP.Core.b64 (.fin false c q) = ((n * 2 ^ 1022 : Nat) : Int) := by
    show Jvm.FP.Core.signed false (Jvm.FP.Core.inUnits c q Jvm.FP.Core.b64.qmin) = _
    rw [Jvm.FP.Core.qmin_b64, hu]; rfl
  have z2 : Jvm.FP.Core.zval Jvm.FP.Core.b64 (.fin true (2 ^ 52) (-52)) = -((2 ^ 52 * 2 ^ 1022 : Nat) : Int) := by
    show Jvm.FP.Core.signed true (Jvm.FP.Core.inUnits (2 ^ 52) (-52) Jvm.FP.Core.b64.qmin) = _
    rw [Jvm.FP.Core.qmin_b64]
    unfold Jvm.FP.Core.inUnits
    rw [show ((-52 : Int) - -1074).toNat = 1022 by decide]; rfl
  rw [z1, z2] at a3
  generalize hP : (2 : Nat) ^ 1022 = P at *
  have hP0 : 0 < P := by rw [← hP]; exact Nat.two_pow_pos _
  have a4 : Jvm.FP.Core.signed sg (Jvm.FP.Core.inUnits N e (-1074)) = ((n : Int) - ((2 ^ 52 : Nat) : Int)) * (P : Int) := by
    rw [a3, Int.sub_mul, Int.natCast_mul, Int.natCast_mul]; omega
  have a5 : Jvm.FP.Core.inUnits N e (-1074) = ((n : Int) - ((2 ^ 52 : Nat) : Int)).natAbs * P := by
    rw [← Jvm.FP.Core.natAbs_signed sg (Jvm.FP.Core.inUnits N e (-1074)), a4, Int.natAbs_mul]; rfl
  have a6 : Jvm.FP.Core.signed sg ((n : Int) - ((2 ^ 52 : Nat) : Int)).natAbs = (n : Int) - ((2 ^ 52 : Nat) : Int) := by
    rw [a5, Jvm.FP.Core.signed_mul] at a4
    exact Int.eq_of_mul_eq_mul_right (by omega) a4
  subst hP
  obtain ⟨c', q', b1, b2⟩ := rnd_z (s := sg) a2 (v := ((n : Int) - ((2 ^ 52 : Nat) : Int)).natAbs) (k := 1022) (by omega) (by omega) a5
  exact ⟨sg, _, c', q', hv.trans b1, a6, by omega, b2⟩
theorem mul_big {a : UInt64} {sg : Bool} {m c : Nat} {q : Int} (hm : m < 2 ^ 53) (ha : Jvm.FP.Core.val64 a = .fin sg c q) (hu : Jvm.FP.Core.inUnits c q (-1074) = m * 2 ^ 1022) :
    Jvm.FP.Core.DInt (Jvm.FP.Core.signed sg m) (FP.dmul a (4841369599423283200 : UInt64)) := by
  have hq : -1074 ≤ q := by
    have := Jvm.FP.Core.val64_fits a
    rw [ha] at this
    have h2 := this.2.1
    rw [Jvm.FP.Core.qmin_b64] at h2; exact h2
  have hb : sg = (sg != false) := by cases sg <;> rfl
  have hv : Jvm.FP.Core.val64 (FP.dmul a (4841369599423283200 : UInt64)) = Jvm.FP.Core.round Jvm.FP.Core.b64 (.fin sg (c * 2 ^ 52) q) := by
    show Jvm.FP.Core.val64 (Jvm.FP.Core.dmul a (4841369599423283200 : UInt64)) = _
    rw [Jvm.FP.Core.val64_dmul, ha, v_big]
    show Jvm.FP.Core.round _ (.fin (sg != false) (c * 2 ^ 52) (q + 0)) = _
    rw [← hb, Int.add_zero]
  have hu2 : Jvm.FP.Core.inUnits (c * 2 ^ 52) q (-1074) = m * 2 ^ 1074 := by
    unfold Jvm.FP.Core.inUnits at hu ⊢
    rw [Nat.mul_right_comm, hu, Nat.mul_assoc, ← Nat.pow_add]
  obtain ⟨c', q', b1, b2⟩ := rnd_z (s := sg) hq hm (by omega) hu2
  unfold Jvm.FP.Core.DInt
  rw [hv, b1]
  have hq' : -1074 ≤ q' := by
    have := Jvm.FP.Core.val64_fits (FP.dmul a (4841369599423283200 : UInt64))
    rw [hv, b1] at this
    have h2 := this.2.1
    rw [Jvm.FP.Core.qmin_b64] at h2; exact h2
  show Jvm.FP.Core.signed sg (c' * 2 ^ q'.toNat) = Jvm.FP.Core.signed sg m * ((2 ^ (-q').toNat : Nat) : Int)
  rw [← Jvm.FP.Core.signed_mul]
  refine congrArg (Jvm.FP.Core.signed sg) ?_
  unfold Jvm.FP.Core.inUnits at b2
  by_cases z : 0 ≤ q'
  · rw [show (-q').toNat = 0 by omega, Nat.pow_zero, Nat.mul_one]
    rw [show (q' - -1074).toNat = q'.toNat + 1074 by omega, Nat.pow_add, ← Nat.mul_assoc] at b2
    exact Nat.eq_of_mul_eq_mul_right (Nat.two_pow_pos _) b2
  · rw [show q'.toNat = 0 by omega, Nat.pow_zero, Nat.mul_one]
    rw [show 1074 = (-q').toNat + (q' - -1074).toNat by omega, Nat.pow_add, ← Nat.mul_assoc] at b2
    exact Nat.eq_of_mul_eq_mul_right (Nat.two_pow_pos _) b2
set_option maxRecDepth 100000 in
theorem sh_52 : ∀ E, E < 2048 → (nI E).toInt64 <<< ((52 : Int32).toInt64 &&& 63) = lN (E * 2 ^ 52) := by decide +kernel
set_option maxRecDepth 100000 in
/-- the last step: the fraction, taken as a whole number -/
theorem b_end {x y : UInt64} {c n E : Nat} {q : Int} {p : Int32} (hn : n < 2 ^ 53) (hy : Jvm.FP.Core.val64 y = .fin false c q) (hu : Jvm.FP.Core.inUnits c q (-1074) = n * 2 ^ 1022) (hp : p + (1023 : Int32) = nI E) (hE : E < 2048) (hr : 2 ^ 52 ≤ E * 2 ^ 52 + n) :
    f_X7_bitsOf_c78 x y p = if (0 : Int32) ≤ Op.cmpValue (FP.dcmp x FP.dconst0) .g then some (lN (E * 2 ^ 52 + n - 2 ^ 52)) else some (lN (E * 2 ^ 52 + n - 2 ^ 52) ||| (-9223372036854775808 : Int64)) := by
  obtain ⟨sg, m, c', q', a1, a2, a3, a4⟩ := sub_one hn hy hu
  have b1 := mul_big a3 a1 a4
  have hs : (-2 ^ 63 : Int) ≤ (n : Int) - ((2 ^ 52 : Nat) : Int) ∧ (n : Int) - ((2 ^ 52 : Nat) : Int) < 2 ^ 63 := by omega
  have b2 : FP.d2l (FP.dmul (FP.dsub y FP.dconst1) (4841369599423283200 : UInt64)) = Int64.ofInt ((n : Int) - ((2 ^ 52 : Nat) : Int)) := by
    refine Jvm.FP.Core.d2l_int ?_
    rw [Int64.toInt_ofInt_of_le hs.1 hs.2, ← a2]; exact b1
  have b3 : Jvm.FP.Core.DFin (FP.dmul (FP.dsub y FP.dconst1) (4841369599423283200 : UInt64)) := by
    unfold Jvm.FP.Core.DInt at b1
    cases hv : Jvm.FP.Core.val64 (FP.dmul (FP.dsub y FP.dconst1) (4841369599423283200 : UInt64)) with
    | nan => rw [hv] at b1; exact b1.elim
    | inf s => rw [hv] at b1; exact b1.elim
    | fin s c q => exact ⟨s, c, q, hv⟩
  have b4 : lN (E * 2 ^ 52) + Int64.ofInt ((n : Int) - ((2 ^ 52 : Nat) : Int)) = lN (E * 2 ^ 52 + n - 2 ^ 52) := by
    have e : ((E * 2 ^ 52 + n - 2 ^ 52 : Nat) : Int) = ((E * 2 ^ 52 : Nat) : Int) + ((n : Int) - ((2 ^ 52 : Nat) : Int)) := by
      clear b1 b2 b3 a1 a2 a3 a4 hy hu
      omega
    show Int64.ofNat _ + _ = Int64.ofNat _
    rw [← Int64.ofInt_eq_ofNat, ← Int64.ofInt_eq_ofNat, e, Int64.ofInt_add]
  unfold f_X7_bitsOf_c78
  rw [hp, sh_52 E hE, nm_q, ckp_q (fin_ok ⟨_, _, _, a1⟩), ckp_q (fin_ok b3), b2, b4, nm_q]
set_option maxRecDepth 100000 in
theorem p_0 : ∀ k, k < 1100 → (-(nI k)) + (-1 : Int32) = -(nI (k + 1)) := by decide +kernel
set_option maxRecDepth 100000 in
theorem p_1 : ∀ k, k < 1100 → (-(nI k) ≤ (-1022 : Int32) ↔ 1022 ≤ k) := by decide +kernel
set_option maxRecDepth 100000 in
theorem p_2 : ∀ k, k < 1023 → (-(nI k)) + (1023 : Int32) = nI (1023 - k) := by decide +kernel
theorem cmp_n {m n : Nat} (hm : m < 2047 * 2 ^ 52) (hn : n < 2047 * 2 ^ 52) : FP.dcmp (UInt64.ofNat m) (UInt64.ofNat n) = some (compare (m : Int) (n : Int)) := by
  rw [cv_of (fin_n hm) (fin_n hn), dk_n (by omega), dk_n (by omega)]
set_option maxRecDepth 100000 in
theorem b_half (x : UInt64) : ∀ (d f n k : Nat), (d = 0 ∨ 1023 * 2 ^ 52 + d * 2 ^ 52 ≤ n) → n < 1024 * 2 ^ 52 + d * 2 ^ 52 → k + d ≤ 1023 → d < f → f_X7_bitsOf_c24 f x (UInt64.ofNat n) (nI k) = f_X7_bitsOf_c52 fu x (UInt64.ofNat (n - d * 2 ^ 52)) (nI (k + d))
  | 0, 0, n, k, h1, h2, h3, h4 => absurd h4 (by omega)
  | d + 1, 0, n, k, h1, h2, h3, h4 => absurd h4 (by omega)
  | 0, f + 1, n, k, h1, h2, h3, h4 => by
    unfold f_X7_bitsOf_c24
    rw [c_two, cmp_n (by omega) (by omega), if_pos (by rw [cv_lt]; omega), Nat.zero_mul, Nat.sub_zero, Nat.add_zero]
  | d + 1, f + 1, n, k, h1, h2, h3, h4 => by
    have t := b_half x d f (n - 2 ^ 52) (k + 1) (by omega) (by omega) (by omega) (by omega)
    have hm := mul_half (n := n) (by omega) (by omega)
    unfold f_X7_bitsOf_c24
    rw [c_two, cmp_n (by omega) (by omega), if_neg (by rw [cv_lt]; omega), show (1023 : Int32) = nI 1023 from rfl, if_neg (fun z => by rw [nI_leI (by omega) (by omega)] at z; omega), hm, ckp_q (fin_ok (fin_n (by omega))), nm_q, nm_q, nI_1]
    refine t.trans ?_
    rw [show n - 2 ^ 52 - d * 2 ^ 52 = n - (d + 1) * 2 ^ 52 by omega, show k + 1 + d = k + (d + 1) by omega]
set_option maxRecDepth 100000 in
theorem b_dbl (x : UInt64) : ∀ (d f n k : Nat), 2 ^ 52 ≤ n → 1023 * 2 ^ 52 ≤ n + d * 2 ^ 52 → n + d * 2 ^ 52 < 1024 * 2 ^ 52 → k + d ≤ 1022 → d < f → f_X7_bitsOf_c52 f x (UInt64.ofNat n) (-(nI k)) = f_X7_bitsOf_c78 x (UInt64.ofNat (n + d * 2 ^ 52)) (-(nI (k + d)))
  | 0, 0, n, k, h0, h1, h2, h3, h4 => absurd h4 (by omega)
  | d + 1, 0, n, k, h0, h1, h2, h3, h4 => absurd h4 (by omega)
  | 0, f + 1, n, k, h0, h1, h2, h3, h4 => by
    unfold f_X7_bitsOf_c52
    rw [c_one, cmp_n (by omega) (by omega), if_pos (by rw [cv_ge]; omega), Nat.zero_mul, Nat.add_zero, Nat.add_zero]
  | d + 1, f + 1, n, k, h0, h1, h2, h3, h4 => by
    have t := b_dbl x d f (n + 2 ^ 52) (k + 1) (by omega) (by omega) (by omega) (by omega) (by omega)
    have hm := mul_two (n := n) (by omega)
    rw [show dbl n = n + 2 ^ 52 from if_neg (by omega)] at hm
    unfold f_X7_bitsOf_c52
    rw [c_one, cmp_n (by omega) (by omega), if_neg (by rw [cv_ge]; omega), if_neg (fun z => by rw [p_1 k (by omega)] at z; omega), hm, ckp_q (fin_ok (fin_n (by omega))), nm_q, nm_q, p_0 k (by omega)]
    refine t.trans ?_
    rw [show n + 2 ^ 52 + d * 2 ^ 52 = n + (d + 1) * 2 ^ 52 by omega, show k + 1 + d = k + (d + 1) by omega]
def dblk : Nat → Nat → Nat
  | 0, n => n
  | d + 1, n => dblk d (dbl n)
set_option maxRecDepth 100000 in
theorem b_sub (x : UInt64) : ∀ (d f n k : Nat), k + d = 1022 → n < k * 2 ^ 52 + 2 ^ 52 → d < f → f_X7_bitsOf_c52 f x (UInt64.ofNat n) (-(nI k)) = f_X7_bitsOf_c78 x (UInt64.ofNat (dblk d n)) (-(nI 1022)) ∧ dblk d n < 1023 * 2 ^ 52
  | 0, 0, n, k, h1, h2, h3 => absurd h3 (by omega)
  | d + 1, 0, n, k, h1, h2, h3 => absurd h3 (by omega)
  | 0, f + 1, n, k, h1, h2, h3 => by
    obtain rfl : k = 1022 := by omega
    refine ⟨?_, by show n < 1023 * 2 ^ 52; omega⟩
    unfold f_X7_bitsOf_c52
    rw [c_one, cmp_n (by omega) (by omega), if_neg (by rw [cv_ge]; omega), if_pos ((p_1 1022 (by omega)).mpr (by omega))]
    rfl
  | d + 1, f + 1, n, k, h1, h2, h3 => by
    have t := b_sub x d f (dbl n) (k + 1) (by omega) (by unfold dbl; split <;> omega) (by omega)
    have hm := mul_two (n := n) (by omega)
    refine ⟨?_, t.2⟩
    unfold f_X7_bitsOf_c52
    rw [c_one, cmp_n (by omega) (by omega), if_neg (by rw [cv_ge]; omega), if_neg (fun z => by rw [p_1 k (by omega)] at z; omega), hm, ckp_q (fin_ok (fin_n (fin_dbl (by omega)))), nm_q, nm_q, p_0 k (by omega)]
    exact t.1
theorem un_dbl (n : Nat) : Jvm.FP.Core.unitsOf Jvm.FP.Core.b64 (dbl n) = 2 * Jvm.FP.Core.unitsOf Jvm.FP.Core.b64 n := by
  unfold Jvm.FP.Core.unitsOf dbl
  rw [show Jvm.FP.Core.b64.tails = 2 ^ 52 from Jvm.FP.Core.tails_b64]
  by_cases c : n < 2 ^ 52
  · rw [if_pos c, if_pos c]
    by_cases c2 : 2 * n < 2 ^ 52
    · rw [if_pos c2]
    · rw [if_neg c2, show 2 * n / 2 ^ 52 - 1 = 0 by omega, Nat.pow_zero, Nat.mul_one]; omega
  · rw [if_neg c, if_neg c, if_neg (by omega), show (n + 2 ^ 52) / 2 ^ 52 - 1 = (n / 2 ^ 52 - 1) + 1 by omega, show (n + 2 ^ 52) % 2 ^ 52 = n % 2 ^ 52 by omega, show (2 : Nat) ^ (n / 2 ^ 52 - 1 + 1) = 2 ^ (n / 2 ^ 52 - 1) * 2 from Nat.pow_succ ..]
    rw [Nat.mul_comm 2, Nat.mul_assoc]
theorem un_dblk : ∀ (d n : Nat), Jvm.FP.Core.unitsOf Jvm.FP.Core.b64 (dblk d n) = Jvm.FP.Core.unitsOf Jvm.FP.Core.b64 n * 2 ^ d
  | 0, n => by rw [Nat.pow_zero, Nat.mul_one]; rfl
  | d + 1, n => by
    show Jvm.FP.Core.unitsOf Jvm.FP.Core.b64 (dblk d (dbl n)) = _
    rw [un_dblk d (dbl n), un_dbl, Nat.pow_succ, Nat.mul_comm 2, Nat.mul_assoc, Nat.mul_comm 2]
set_option maxRecDepth 100000 in
/-- both loops and the end, for a number above zero -/
theorem b_all {x : UInt64} {n : Nat} (h0 : 0 < n) (h : n < 2047 * 2 ^ 52) : f_X7_bitsOf_c24 fu x (UInt64.ofNat n) 0 = if (0 : Int32) ≤ Op.cmpValue (FP.dcmp x FP.dconst0) .g then some (lN n) else some (lN n ||| (-9223372036854775808 : Int64)) := by
  have nrm : ∀ m, 1023 * 2 ^ 52 ≤ m → m < 1024 * 2 ^ 52 → ∃ c q, Jvm.FP.Core.val64 (UInt64.ofNat m) = .fin false c q ∧ Jvm.FP.Core.inUnits c q (-1074) = (m - 1022 * 2 ^ 52) * 2 ^ 1022 := by
    intro m h1 h2
    refine ⟨_, _, v_nrm (by omega) (by omega), ?_⟩
    unfold Jvm.FP.Core.inUnits
    rw [show (((m / 2 ^ 52 : Nat) : Int) - 1075 - -1074).toNat = 1022 by omega, show 2 ^ 52 + m % 2 ^ 52 = m - 1022 * 2 ^ 52 by omega]
  show f_X7_bitsOf_c24 fu x (UInt64.ofNat n) (nI 0) = _
  by_cases c1 : 1024 * 2 ^ 52 ≤ n
  · have e := b_half x (n / 2 ^ 52 - 1023) fu n 0 (by omega) (by omega) (by omega) (fu_ge (by omega))
    obtain ⟨c, q, g1, g2⟩ := nrm (n - (n / 2 ^ 52 - 1023) * 2 ^ 52) (by omega) (by omega)
    have e2 : f_X7_bitsOf_c52 fu x (UInt64.ofNat (n - (n / 2 ^ 52 - 1023) * 2 ^ 52)) (nI (0 + (n / 2 ^ 52 - 1023))) = f_X7_bitsOf_c78 x (UInt64.ofNat (n - (n / 2 ^ 52 - 1023) * 2 ^ 52)) (nI (0 + (n / 2 ^ 52 - 1023))) := by
      show f_X7_bitsOf_c52 (99999 + 1) x _ _ = _
      unfold f_X7_bitsOf_c52
      rw [c_one, cmp_n (by omega) (by omega), if_pos (by rw [cv_ge]; omega)]
    rw [e, e2, b_end (n := n - (n / 2 ^ 52 - 1023) * 2 ^ 52 - 1022 * 2 ^ 52) (E := n / 2 ^ 52) (by omega) g1 g2 (by rw [show (1023 : Int32) = nI 1023 from rfl, nI_add]; congr 1; omega) (by omega) (by omega)]
    rw [show n / 2 ^ 52 * 2 ^ 52 + (n - (n / 2 ^ 52 - 1023) * 2 ^ 52 - 1022 * 2 ^ 52) - 2 ^ 52 = n by omega]
  · have e := b_half x 0 fu n 0 (Or.inl rfl) (by omega) (by omega) (fu_ge (by omega))
    rw [Nat.zero_mul, Nat.sub_zero] at e
    rw [e, show nI (0 + 0) = -(nI 0) by decide]
    by_cases c2 : 2 ^ 52 ≤ n
    · obtain ⟨c, q, g1, g2⟩ := nrm (n + (1023 - n / 2 ^ 52) * 2 ^ 52) (by omega) (by omega)
      rw [b_dbl x (1023 - n / 2 ^ 52) fu n 0 c2 (by omega) (by omega) (by omega) (fu_ge (by omega)), b_end (n := n + (1023 - n / 2 ^ 52) * 2 ^ 52 - 1022 * 2 ^ 52) (E := 1023 - (0 + (1023 - n / 2 ^ 52))) (by omega) g1 g2 (p_2 _ (by omega)) (by omega) (by omega)]
      rw [show (1023 - (0 + (1023 - n / 2 ^ 52))) * 2 ^ 52 + (n + (1023 - n / 2 ^ 52) * 2 ^ 52 - 1022 * 2 ^ 52) - 2 ^ 52 = n by omega]
    · obtain ⟨a1, a2⟩ := b_sub x 1022 fu n 0 (by omega) (by omega) (fu_ge (by omega))
      obtain ⟨c, q, g1⟩ : ∃ c q, Jvm.FP.Core.val64 (UInt64.ofNat (dblk 1022 n)) = .fin false c q := by
        by_cases z : dblk 1022 n < 2 ^ 52
        · exact ⟨_, _, v_sub z⟩
        · exact ⟨_, _, v_nrm (by omega) (by omega)⟩
      have g2 : Jvm.FP.Core.inUnits c q (-1074) = n * 2 ^ 1022 := by
        have z := Jvm.FP.Core.zmag_bits (a := UInt64.ofNat (dblk 1022 n)) (by rw [g1]; exact Jvm.FP.Core.Datum.noConfusion)
        rw [g1, v_of _ (by omega), Nat.mod_eq_of_lt (by omega), un_dblk] at z
        have z2 : Jvm.FP.Core.inUnits c q Jvm.FP.Core.b64.qmin = _ := z
        rw [Jvm.FP.Core.qmin_b64] at z2
        rw [z2]
        congr 1
        unfold Jvm.FP.Core.unitsOf
        rw [show Jvm.FP.Core.b64.tails = 2 ^ 52 from Jvm.FP.Core.tails_b64, if_pos (by omega)]
      rw [a1, b_end (n := n) (E := 1) (by omega) g1 g2 (p_2 1022 (by omega)) (by omega) (by omega)]
      rw [show 1 * 2 ^ 52 + n - 2 ^ 52 = n by omega]
theorem xor_63 {m : Nat} (h : m < 2 ^ 63) : (2 ^ 63 + m) ^^^ 2 ^ 63 = m ∧ m ||| 2 ^ 63 = 2 ^ 63 + m := by
  have e := Nat.two_pow_add_eq_or_of_lt h 1
  rw [Nat.mul_one] at e
  constructor
  · rw [e]
    apply Nat.eq_of_testBit_eq
    intro i
    rw [Nat.testBit_xor, Nat.testBit_or, Nat.testBit_two_pow]
    by_cases hi : 63 = i
    · subst hi
      rw [Nat.testBit_lt_two_pow h]; simp
    · simp [hi]
  · rw [e, Nat.or_comm]
theorem bits_pos {n : Nat} (h0 : 0 < n) (h : n < 2047 * 2 ^ 52) : f_X7_bitsOf (UInt64.ofNat n) = some (UInt64.ofNat n).toInt64 := by
  unfold f_X7_bitsOf f_X7_bitsOf_c20
  have z : FP.dcmp (UInt64.ofNat n) FP.dconst0 = some (compare (n : Int) ((0 : Nat) : Int)) := cmp_n h (n := 0) (by omega)
  rw [b_all h0 h, z, if_pos (fun e => by rw [cv_eq] at e; omega), if_pos ((cv_ge _ _ _).mpr (by omega)), if_pos ((cv_ge _ _ _).mpr (by omega))]
  rfl
theorem bits_neg {n : Nat} (h0 : 0 < n) (h : n < 2047 * 2 ^ 52) : f_X7_bitsOf (UInt64.ofNat (2 ^ 63 + n)) = some (UInt64.ofNat (2 ^ 63 + n)).toInt64 := by
  have hf : Jvm.FP.Core.DFin (UInt64.ofNat (2 ^ 63 + n)) := by
    rw [Jvm.FP.Core.fin_bits, v_of _ (by omega)]; omega
  have z : FP.dcmp (UInt64.ofNat (2 ^ 63 + n)) FP.dconst0 = some (compare (-(n : Int)) ((0 : Nat) : Int)) := by
    rw [show (FP.dconst0 : UInt64) = UInt64.ofNat 0 by decide, cv_of hf (fin_n (n := 0) (by omega)), dk_n (n := 0) (by omega)]
    congr 2
    unfold Jvm.FP.Core.dkey
    rw [v_of _ (by omega), if_pos (by omega)]; omega
  have hd : FP.dneg (UInt64.ofNat (2 ^ 63 + n)) = UInt64.ofNat n := by
    apply UInt64.toNat_inj.mp
    unfold FP.dneg
    rw [UInt64.toNat_xor, v_of _ (by omega), v_of _ (by omega)]
    exact (xor_63 (by omega)).1
  unfold f_X7_bitsOf f_X7_bitsOf_c20
  rw [hd, b_all h0 h, z, if_pos (fun e => by rw [cv_eq] at e; omega), if_neg (fun e => by rw [cv_ge] at e; omega), if_neg (fun e => by rw [cv_ge] at e; omega)]
  congr 1
  apply Int64.toBitVec_inj.mp
  rw [Int64.toBitVec_or, lN_bv]
  show BitVec.ofNat 64 n ||| BitVec.ofNat 64 (2 ^ 63) = BitVec.ofNat 64 (2 ^ 63 + n)
  apply BitVec.eq_of_toNat_eq
  rw [BitVec.toNat_or, BitVec.toNat_ofNat, BitVec.toNat_ofNat, BitVec.toNat_ofNat, Nat.mod_eq_of_lt (by omega), Nat.mod_eq_of_lt (by omega), Nat.mod_eq_of_lt (by omega)]
  exact (xor_63 (by omega)).2
/-- no infinity, no NaN, no zero with a minus -/
def FGood (x : UInt64) : Prop := Jvm.FP.Core.DFin x ∧ x ≠ 9223372036854775808
theorem bits_of {x : UInt64} (h : FGood x) : f_X7_bitsOf x = some x.toInt64 := by
  have h1 := (Jvm.FP.Core.fin_bits x).mp h.1
  have hx : x = UInt64.ofNat x.toNat := (UInt64.ofNat_toNat).symm
  have hl := x.toNat_lt
  by_cases c : x.toNat < 2 ^ 63
  · by_cases z : x.toNat = 0
    · rw [hx, z]; decide +kernel
    · rw [hx]; exact bits_pos (by omega) (by omega)
  · have z : x.toNat ≠ 2 ^ 63 := fun z => h.2 (by rw [hx, z]; rfl)
    have e : x.toNat = 2 ^ 63 + (x.toNat - 2 ^ 63) := by omega
    rw [hx, e]; exact bits_neg (by omega) (by omega)
theorem lb_of {x : UInt64} (h : Jvm.FP.Core.val64 x ≠ .nan) : f_Jxe99ae_doubleToLongBits_ccdee x = some x.toInt64 := by
  unfold f_Jxe99ae_doubleToLongBits_ccdee f_Jxe99ae_isNaN_b9ae7
  rw [show FP.dcmp x x = some .eq from Jvm.FP.Core.dcmp_self h, if_pos (show Op.cmpValue (some .eq) .l = 0 from rfl), bd_q, if_neg (fun z => z rfl)]
/-! guess, far, many -/
theorem sg_ne {x : UInt64} (h : Jvm.FP.Core.val64 x ≠ .nan) (hs : Jvm.FP.Core.sgn (Jvm.FP.Core.val64 x) = false) : x ≠ 9223372036854775808 := by
  intro e
  rw [Jvm.FP.Core.sgn_bits h, e] at hs
  exact absurd hs (by decide)
theorem mg_ne {x : UInt64} (h : 1 ≤ x.toNat % 2 ^ 63) : x ≠ 9223372036854775808 := by
  intro e
  rw [e] at h
  exact absurd h (by decide)
theorem un_1 : Jvm.FP.Core.unitsOf Jvm.FP.Core.b64 1 = 1 := by decide +kernel
theorem un_ge {m K : Nat} (hK : 1 ≤ K) (h : K * 2 ^ 52 ≤ m) : 2 ^ 52 * 2 ^ (K - 1) ≤ Jvm.FP.Core.unitsOf Jvm.FP.Core.b64 m := by
  have := Jvm.FP.Core.unitsOf_start (f := Jvm.FP.Core.b64) hK
  rw [Jvm.FP.Core.tails_b64] at this
  rw [← this]
  exact Jvm.FP.Core.unitsOf_le_iff.mpr h
theorem l2d_good (v : Int64) : FGood (FP.l2d v) ∧ (FP.l2d v).toNat % 2 ^ 63 < 1088 * 2 ^ 52 := by
  refine ⟨⟨Jvm.FP.Core.l2d_fin v, ?_⟩, Jvm.FP.Core.l2d_mag v⟩
  by_cases h : v = 0
  · subst h
    show Jvm.FP.Core.l2d 0 ≠ _
    rw [Jvm.FP.Core.l2d_zero]; decide
  · have := (Jvm.FP.Core.l2d_big (Jvm.FP.Core.int64_ne h)).1
    exact mg_ne (by show 1 ≤ (Jvm.FP.Core.l2d v).toNat % 2 ^ 63; omega)
theorem div_good {s w : Int64} (hw : 0 < w.toInt) : FGood (FP.ddiv (FP.l2d s) (FP.l2d w)) ∧ (FP.ddiv (FP.l2d s) (FP.l2d w)).toNat % 2 ^ 63 < 1089 * 2 ^ 52 := by
  have hb := Jvm.FP.Core.l2d_big (v := w) (by omega)
  have hm : (FP.ddiv (FP.l2d s) (FP.l2d w)).toNat % 2 ^ 63 < 1089 * 2 ^ 52 := Jvm.FP.Core.ddiv_mag (K := 1088) (L := 1023) (Jvm.FP.Core.l2d_mag s) hb.1 hb.2 (by omega) (by omega)
  have hf : Jvm.FP.Core.DFin (FP.ddiv (FP.l2d s) (FP.l2d w)) := by rw [Jvm.FP.Core.fin_bits]; omega
  refine ⟨⟨hf, ?_⟩, hm⟩
  obtain ⟨c, q, e1⟩ := Jvm.FP.Core.l2d_shape s
  obtain ⟨d, r, e2⟩ := Jvm.FP.Core.l2d_shape w
  rw [decide_eq_false (by omega)] at e2
  have n1 : Jvm.FP.Core.val64 (Jvm.FP.Core.l2d s) ≠ .nan := by rw [e1]; exact Jvm.FP.Core.Datum.noConfusion
  have n2 : Jvm.FP.Core.val64 (Jvm.FP.Core.l2d w) ≠ .nan := by rw [e2]; exact Jvm.FP.Core.Datum.noConfusion
  have z1 := Jvm.FP.Core.zmag_bits n1
  have z2 := Jvm.FP.Core.zmag_bits n2
  rw [e1] at z1; rw [e2] at z2
  have z1' : Jvm.FP.Core.inUnits c q Jvm.FP.Core.b64.qmin = _ := z1
  have z2' : Jvm.FP.Core.inUnits d r Jvm.FP.Core.b64.qmin = _ := z2
  rw [Jvm.FP.Core.qmin_b64] at z1' z2'
  have y1 := un_ge (K := 1023) (by omega) hb.1
  have hd : d ≠ 0 := by
    rintro rfl
    unfold Jvm.FP.Core.inUnits at z2'
    rw [Nat.zero_mul] at z2'
    rw [← z2'] at y1
    exact absurd y1 (by decide +kernel)
  have hv : Jvm.FP.Core.val64 (FP.ddiv (FP.l2d s) (FP.l2d w)) = Jvm.FP.Core.roundRatio Jvm.FP.Core.b64 (decide (s.toInt < 0) != false) c d (q - r) := by
    show Jvm.FP.Core.val64 (Jvm.FP.Core.ddiv (Jvm.FP.Core.l2d s) (Jvm.FP.Core.l2d w)) = _
    rw [Jvm.FP.Core.val64_ddiv, e1, e2]
    simp only [Jvm.FP.Core.quotient, if_neg hd]
  by_cases hs : s.toInt < 0
  · have ha := Jvm.FP.Core.l2d_big (v := s) (by omega)
    have x1 := un_ge (K := 1023) (by omega) ha.1
    have y2 : Jvm.FP.Core.unitsOf Jvm.FP.Core.b64 ((Jvm.FP.Core.l2d w).toNat % 2 ^ 63) ≤ 2 ^ 52 * 2 ^ (1088 - 1) := by
      have h1 := Jvm.FP.Core.unitsOf_start (f := Jvm.FP.Core.b64) (K := 1088) (by omega)
      rw [Jvm.FP.Core.tails_b64] at h1
      rw [← h1]
      exact Jvm.FP.Core.unitsOf_le_iff.mpr (Nat.le_of_lt (Jvm.FP.Core.l2d_mag w))
    have hq : -1074 ≤ q := by
      have := Jvm.FP.Core.val64_fits (Jvm.FP.Core.l2d s)
      rw [e1] at this
      have h2 := this.2.1
      rw [Jvm.FP.Core.qmin_b64] at h2; exact h2
    have hr : -1074 ≤ r := by
      have := Jvm.FP.Core.val64_fits (Jvm.FP.Core.l2d w)
      rw [e2] at this
      have h2 := this.2.1
      rw [Jvm.FP.Core.qmin_b64] at h2; exact h2
    have g := Jvm.FP.Core.mag_ge Jvm.FP.Core.good_b64 (n := (FP.ddiv (FP.l2d s) (FP.l2d w)).toNat) (m := 1) hv (by omega) (e0 := 2 * (-1074) - r) (by rw [Jvm.FP.Core.qmin_b64]; omega) (by omega) (by rw [Jvm.FP.Core.infBits_b64]; omega) ?_
    · rw [Jvm.FP.Core.mag_toNat64] at g
      exact mg_ne g
    · rw [un_1, Nat.one_mul, Jvm.FP.Core.qmin_b64]
      unfold Jvm.FP.Core.inUnits at z1' z2' ⊢
      rw [show (-1074 - (2 * (-1074) - r)).toNat = (r - -1074).toNat by omega, Nat.mul_comm, z2', show (q - r - (2 * (-1074) - r)).toNat = (q - -1074).toNat + 1074 by omega, Nat.pow_add, ← Nat.mul_assoc, z1']
      refine Nat.le_trans y2 (Nat.le_trans ?_ (Nat.mul_le_mul_right _ x1))
      decide +kernel
  · refine sg_ne hf.ne_nan ?_
    rw [hv, Jvm.FP.Core.sgn_roundRatio, decide_eq_false hs]; rfl
theorem sub_good {a b : UInt64} (ha : FGood a) (hb : FGood b) (ha2 : a.toNat % 2 ^ 63 < 1089 * 2 ^ 52) (hb2 : b.toNat % 2 ^ 63 < 1089 * 2 ^ 52) : FGood (FP.dsub a b) := by
  have hm : (FP.dsub a b).toNat % 2 ^ 63 < 1091 * 2 ^ 52 := Jvm.FP.Core.dsub_mag (K := 1089) ha2 hb2 (by omega)
  have hf : Jvm.FP.Core.DFin (FP.dsub a b) := by rw [Jvm.FP.Core.fin_bits]; omega
  refine ⟨hf, ?_⟩
  obtain ⟨s, c, q, e1⟩ := ha.1
  obtain ⟨t, d, r, e2⟩ := hb.1
  have hv : Jvm.FP.Core.val64 (FP.dsub a b) = Jvm.FP.Core.round Jvm.FP.Core.b64 (.fin (Jvm.FP.Core.sumSign s (!t) (Jvm.FP.Core.sumUnits s c q (!t) d r (min q r))) (Jvm.FP.Core.sumUnits s c q (!t) d r (min q r)).natAbs (min q r)) := by
    show Jvm.FP.Core.val64 (Jvm.FP.Core.dsub a b) = _
    rw [Jvm.FP.Core.val64_dsub, e1, e2]; rfl
  have hq : -1074 ≤ q := by
    have := Jvm.FP.Core.val64_fits a
    rw [e1] at this
    have h2 := this.2.1
    rw [Jvm.FP.Core.qmin_b64] at h2; exact h2
  have hr : -1074 ≤ r := by
    have := Jvm.FP.Core.val64_fits b
    rw [e2] at this
    have h2 := this.2.1
    rw [Jvm.FP.Core.qmin_b64] at h2; exact h2
  generalize hV : Jvm.FP.Core.sumUnits s c q (!t) d r (min q r) = v at hv
  by_cases hv0 : v = 0
  · have hs : (s && !t) = false := by
      cases s with
      | false => rfl
      | true =>
        cases t with
        | true => rfl
        | false =>
          exfalso
          unfold Jvm.FP.Core.sumUnits at hV
          have k1 : -((Jvm.FP.Core.inUnits c q (min q r) : Nat) : Int) + -((Jvm.FP.Core.inUnits d r (min q r) : Nat) : Int) = v := hV
          have k2 : Jvm.FP.Core.inUnits c q (min q r) = 0 := by omega
          have k3 : c = 0 := by
            rcases Nat.mul_eq_zero.mp k2 with k | k
            · exact k
            · have := Nat.two_pow_pos (q - min q r).toNat; omega
          subst k3
          have k4 := (Jvm.FP.Core.zero_bits2 a).mp ⟨_, _, e1⟩
          have k5 := (Jvm.FP.Core.sign_bits (a := a) (s := true) (Or.inl ⟨_, _, e1⟩)).mp rfl
          have k6 := a.toNat_lt
          refine ha.2 (UInt64.toNat_inj.mp ?_)
          show a.toNat = 9223372036854775808
          omega
    refine sg_ne hf.ne_nan ?_
    rw [hv]
    show Jvm.FP.Core.sgn (Jvm.FP.Core.roundRatio _ _ _ _ _) = false
    rw [Jvm.FP.Core.sgn_roundRatio]
    unfold Jvm.FP.Core.sumSign
    rw [if_pos hv0]; exact hs
  · have g := Jvm.FP.Core.mag_ge Jvm.FP.Core.good_b64 (n := (FP.dsub a b).toNat) (m := 1) hv (by omega) (e0 := -1074) (by rw [Jvm.FP.Core.qmin_b64]; omega) (by omega) (by rw [Jvm.FP.Core.infBits_b64]; omega) ?_
    · rw [Jvm.FP.Core.mag_toNat64] at g
      exact mg_ne g
    · rw [un_1, Jvm.FP.Core.qmin_b64]
      have k : 1 ≤ v.natAbs := by omega
      have k2 := Nat.two_pow_pos (min q r - -1074).toNat
      exact Nat.mul_pos k k2
theorem ns_hit {n q m : Nat} {s ms mw : Nat → Int64} (hn : n ≤ 10) (hq : q < 1024) (h0 : s 0 = lN n) (hs1 : ∀ m, m < 10 → s (13 + m) = if tb q m then 1 else 0) (hM : RM (nI q) ms mw s) (hm : m < n) : f_X7_hasGuess (nI n) (nI q) ms mw (nI m) = some (bi (tb q m = true ∧ 0 < (mw m).toInt)) ∧ f_X8_hasGuess s (nI m) = some (bi (tb q m = true ∧ 0 < (mw m).toInt)) := by
  obtain ⟨-, m2, -⟩ := hM m (by omega)
  have hz : (mw m ≤ 0) ↔ ¬ 0 < (mw m).toInt := by
    rw [Int64.le_iff_toInt_le]; show (mw m).toInt ≤ 0 ↔ _; omega
  unfold f_X7_hasGuess f_X8_hasGuess
  rw [X7_isHere (nI m) hn hq, X8_isHere (nI m) hn h0 hs1, bd_q, bd_q, nn_I (by omega)]
  by_cases c : tb q m = true
  · rw [bi_t ⟨vp_in_nI hm (by omega), c⟩, if_neg (show ¬ (1 : Int32) = 0 by decide), if_neg (show ¬ (1 : Int32) = 0 by decide), at_1 (by omega) (by omega), bd_q, ad_43, ck_q (by omega) (by omega), nI_clamp (by omega), m2, ite_01]
    have e : bi (¬ mw m ≤ 0) = bi (tb q m = true ∧ 0 < (mw m).toInt) := bi_iff ⟨fun z => ⟨c, by rw [hz] at z; omega⟩, fun z w => by rw [hz] at w; exact w z.2⟩
    rw [e]; exact ⟨rfl, rfl⟩
  · rw [bi_f (fun z => c z.2), bi_f (fun z => c z.1)]
    exact ⟨if_pos rfl, if_pos rfl⟩
theorem ns_val {m : Nat} {s ms mw : Nat → Int64} {he : Int32} (hM : RM he ms mw s) (hm : m < 10) (hw : 0 < (mw m).toInt) : f_X7_guessOf ms mw (nI m) = some (FP.ddiv (FP.l2d (ms m)) (FP.l2d (mw m))) ∧ f_X8_guessed s (nI m) = some (FP.ddiv (FP.l2d (ms m)) (FP.l2d (mw m))) := by
  obtain ⟨m1, m2, -⟩ := hM m hm
  have g := div_good (s := ms m) hw
  unfold f_X7_guessOf f_X8_guessed
  rw [at_0 hm (by omega), at_1 hm (by omega), bd_q, bd_q, ckp_q (fin_ok g.1.1), ad_33, ad_43, ck_q (by omega) (by omega), ck_q (by omega) (by omega), nI_clamp (by omega), nI_clamp (by omega), m1, m2, ckp_q (fin_ok g.1.1)]
  exact ⟨rfl, rfl⟩
theorem op_guess {me : Int32} {he : Int32} {se : Int32} {ta : Int32} {bs : Nat → Int64} {bw : Nat → Int64} {gr : Nat → Int32} {hd : Nat → Int32} {jo : Nat → Int32} {le : Nat → Int32} {cs : Nat → Int64} {cw : Nat → Int64} {fr : Nat → Int32} {to : Nat → Int32} {ms : Nat → Int64} {mw : Nat → Int64} {os : Nat → Int64} {ow : Nat → Int64} {kn : Nat → Int32} {nu : Nat → Int32} {ox : Nat → Int32} {va : Nat → Int32} {s : Nat → Int64} {history_next : Int32} {history_size : Int32} {V : Nat → Option STv} {undos : Int32} {kept : Nat → Int64} (h : RS me he se ta bs bw gr hd jo le cs cw fr to ms mw os ow kn nu ox va s) (hH : RHi history_next history_size V undos kept) (p1 : Int32) : ∃ (r : Int64), f_X7_guess me he ms mw p1 = some r ∧ f_X8_guess s p1 = some r := by
  obtain ⟨h0, hJ, hV, hHd, hM, hK, hL, hQ⟩ := id h
  obtain ⟨n, q, hn, hq, rfl, rfl, hn2, hq2, hs0, hs1, hs2⟩ := h0.get
  unfold f_X7_guess f_X8_guess
  by_cases hm : vp_in p1 n
  · obtain ⟨m, hm', rfl⟩ := vp_in_of hm (by omega)
    obtain ⟨a1, a2⟩ := ns_hit hn hq hs0 hs1 hM hm'
    rw [a1, a2, bd_q, bd_q]
    by_cases c : tb q m = true ∧ 0 < (mw m).toInt
    · obtain ⟨b1, b2⟩ := ns_val hM (show m < 10 by omega) c.2
      have g := div_good (s := ms m) c.2
      rw [bi_t c, if_neg (show ¬ (1 : Int32) = 0 by decide), if_neg (show ¬ (1 : Int32) = 0 by decide), b1, b2, bd_q, bd_q, bits_of g.1, lb_of g.1.1.ne_nan, bd_q]
      exact ⟨_, rfl, rfl⟩
    · rw [bi_f c]
      exact ⟨-1, if_pos rfl, if_pos rfl⟩
  · have a1 : f_X7_hasGuess (nI n) (nI q) ms mw p1 = some 0 := by
      unfold f_X7_hasGuess
      rw [X7_isHere p1 hn hq, bd_q, bi_f (fun z => hm z.1)]
      exact if_pos rfl
    have a2 : f_X8_hasGuess s p1 = some 0 := by
      unfold f_X8_hasGuess
      rw [X8_isHere p1 hn hs0 hs1, bd_q, bi_f (fun z => hm z.1)]
      exact if_pos rfl
    rw [a1, a2, bd_q, bd_q]
    exact ⟨-1, if_pos rfl, if_pos rfl⟩
def FOk (x : UInt64) : Prop := FGood x ∧ x.toNat % 2 ^ 63 < 1089 * 2 ^ 52
theorem far_both {n q : Nat} {s ms mw : Nat → Int64} (hn : n ≤ 10) (hq : q < 1024) (h0 : s 0 = lN n) (hs1 : ∀ m, m < 10 → s (13 + m) = if tb q m then 1 else 0) (hs2 : ∀ m, n ≤ m → m < 10 → tb q m = false) (hM : RM (nI q) ms mw s) : ∀ (d f g i : Nat) (any : Int32) (x y : UInt64), i + d = 10 → d < f → n ≤ g + i → (any = 0 ∨ (FOk x ∧ FOk y)) → ∃ r, f_X7_far_c10 (nI n) (nI q) ms mw (g + 1) any x y (nI i) = some r ∧ f_X8_far_c10 s f any x y (nI i) = some r
  | 0, 0, g, i, any, x, y, e1, e2, e3, e4 => absurd e2 (by omega)
  | d + 1, 0, g, i, any, x, y, e1, e2, e3, e4 => absurd e2 (by omega)
  | 0, f + 1, g, i, any, x, y, e1, e2, e3, e4 => by
    unfold f_X7_far_c10 f_X8_far_c10
    rw [show (10 : Int32) = nI 10 from rfl, if_pos ((nI_leI (by omega) (by omega)).mpr (by omega)), if_pos ((nI_leI (by omega) (by omega)).mpr (by omega))]
    by_cases c : any = 0
    · rw [if_pos c, if_pos c]; exact ⟨_, rfl, rfl⟩
    · obtain ⟨k1, k2⟩ := e4.resolve_left c
      have k := sub_good k1.1 k2.1 k1.2 k2.2
      rw [if_neg c, if_neg c, ckp_q (fin_ok k.1), ckp_q (fin_ok k.1), bits_of k, lb_of k.1.ne_nan]
      exact ⟨_, rfl, rfl⟩
  | d + 1, f + 1, g, i, any, x, y, e1, e2, e3, e4 => by
    have hi : i < 10 := by omega
    have h10 : ¬ nI 10 ≤ nI i := fun h => by rw [nI_leI (by omega) (by omega)] at h; omega
    rcases Nat.lt_or_ge i n with hin | hin
    · obtain ⟨g', rfl⟩ : ∃ g', g = g' + 1 := ⟨g - 1, by omega⟩
      have t := fun any x y => far_both hn hq h0 hs1 hs2 hM d f g' (i + 1) any x y (by omega) (by omega) (by omega)
      obtain ⟨a1, a2⟩ := ns_hit hn hq h0 hs1 hM hin
      unfold f_X7_far_c10 f_X8_far_c10
      rw [show (10 : Int32) = nI 10 from rfl, if_neg h10, if_neg (fun h => by rw [nI_leI (by omega) (by omega)] at h; omega), a1, a2, bd_q, bd_q]
      by_cases c : tb q i = true ∧ 0 < (mw i).toInt
      · obtain ⟨b1, b2⟩ := ns_val hM hi c.2
        have k := div_good (s := ms i) c.2
        rw [bi_t c, if_neg (show ¬ (1 : Int32) = 0 by decide), if_neg (show ¬ (1 : Int32) = 0 by decide), b1, b2, bd_q, bd_q]
        generalize FP.ddiv (FP.l2d (ms i)) (FP.l2d (mw i)) = z at k
        unfold f_X7_far_c50 f_X7_far_c56 f_X7_far_c69 f_X7_far_c76 f_X7_far_c80 f_X8_far_c45 f_X8_far_c51 f_X8_far_c64 f_X8_far_c71 f_X8_far_c75
        simp only [nm_q, nI_1]
        by_cases c1 : any = 0
        · rw [if_pos c1, if_pos c1, if_pos c1, if_pos c1]
          exact t 1 z z (Or.inr ⟨k, k⟩)
        · obtain ⟨k1, k2⟩ := e4.resolve_left c1
          rw [if_neg c1, if_neg c1, if_neg c1, if_neg c1, if_neg c1, if_neg c1]
          by_cases c2 : Op.cmpValue (FP.dcmp z x) .l ≤ 0
          · rw [if_pos c2, if_pos c2]
            by_cases c3 : 0 ≤ Op.cmpValue (FP.dcmp z y) .g
            · rw [if_pos c3, if_pos c3]; exact t 1 x y (Or.inr ⟨k1, k2⟩)
            · rw [if_neg c3, if_neg c3]; exact t 1 x z (Or.inr ⟨k1, k⟩)
          · rw [if_neg c2, if_neg c2]
            by_cases c3 : 0 ≤ Op.cmpValue (FP.dcmp z y) .g
            · rw [if_pos c3, if_pos c3]; exact t 1 z y (Or.inr ⟨k, k2⟩)
            · rw [if_neg c3, if_neg c3]; exact t 1 z z (Or.inr ⟨k, k⟩)
      · rw [bi_f c, if_pos (show (0 : Int32) = 0 from rfl), if_pos (show (0 : Int32) = 0 from rfl)]
        unfold f_X7_far_c80 f_X8_far_c75
        rw [nm_q, nm_q, nI_1]
        exact t any x y e4
    · obtain ⟨r, t1, t2⟩ := far_both hn hq h0 hs1 hs2 hM d f g (i + 1) any x y (by omega) (by omega) (by omega) e4
      refine ⟨r, ?_, ?_⟩
      · unfold f_X7_far_c10 at t1 ⊢
        rw [if_pos ((nI_leI (by omega) (by omega)).mpr (by omega))] at t1
        rw [if_pos ((nI_leI (by omega) (by omega)).mpr (by omega))]; exact t1
      · have a2 : f_X8_hasGuess s (nI i) = some 0 := by
          unfold f_X8_hasGuess
          rw [X8_isHere (nI i) hn h0 hs1, bd_q, nn_I (by omega), bi_f (fun w => by rw [hs2 i hin hi] at w; exact absurd w.2 (by decide))]
          exact if_pos rfl
        unfold f_X8_far_c10 f_X8_far_c75
        rw [show (10 : Int32) = nI 10 from rfl, if_neg h10, a2, bd_q, if_pos rfl, nm_q, nI_1]
        exact t2
theorem op_far {me : Int32} {he : Int32} {se : Int32} {ta : Int32} {bs : Nat → Int64} {bw : Nat → Int64} {gr : Nat → Int32} {hd : Nat → Int32} {jo : Nat → Int32} {le : Nat → Int32} {cs : Nat → Int64} {cw : Nat → Int64} {fr : Nat → Int32} {to : Nat → Int32} {ms : Nat → Int64} {mw : Nat → Int64} {os : Nat → Int64} {ow : Nat → Int64} {kn : Nat → Int32} {nu : Nat → Int32} {ox : Nat → Int32} {va : Nat → Int32} {s : Nat → Int64} {history_next : Int32} {history_size : Int32} {V : Nat → Option STv} {undos : Int32} {kept : Nat → Int64} (h : RS me he se ta bs bw gr hd jo le cs cw fr to ms mw os ow kn nu ox va s) (hH : RHi history_next history_size V undos kept) : ∃ (r : Int64), f_X7_far me he ms mw = some r ∧ f_X8_far s = some r := by
  obtain ⟨h0, hJ, hV, hHd, hM, hK, hL, hQ⟩ := id h
  obtain ⟨n, q, hn, hq, rfl, rfl, hn2, hq2, hs0, hs1, hs2⟩ := h0.get
  exact far_both hn hq hs0 hs1 hs2 hM 10 fu 99999 0 0 FP.dconst0 FP.dconst0 (by omega) (fu_ge (by omega)) (by omega) (Or.inl rfl)
theorem inf_3 : FP.ddiv (4753549406689558528 : UInt64) (FP.l2d 0) = 9218868437227405312 := by decide +kernel
theorem div_3 {w : Int64} (hw : 0 < w.toInt) : FGood (FP.ddiv (4753549406689558528 : UInt64) (FP.l2d w)) := by
  have hb := Jvm.FP.Core.l2d_big (v := w) (by omega)
  have hm : (FP.ddiv (4753549406689558528 : UInt64) (FP.l2d w)).toNat % 2 ^ 63 < (1056 + (1074 - 52 - 1) - 1023 + 3) * 2 ^ 52 := Jvm.FP.Core.ddiv_mag (K := 1056) (L := 1023) (by decide) hb.1 hb.2 (by omega) (by omega)
  have hf : Jvm.FP.Core.DFin (FP.ddiv (4753549406689558528 : UInt64) (FP.l2d w)) := by rw [Jvm.FP.Core.fin_bits]; omega
  refine ⟨hf, ?_⟩
  obtain ⟨d, r, e2⟩ := Jvm.FP.Core.l2d_shape w
  rw [decide_eq_false (by omega)] at e2
  have n2 : Jvm.FP.Core.val64 (Jvm.FP.Core.l2d w) ≠ .nan := by rw [e2]; exact Jvm.FP.Core.Datum.noConfusion
  have z2 := Jvm.FP.Core.zmag_bits n2
  rw [e2] at z2
  have z2' : Jvm.FP.Core.inUnits d r Jvm.FP.Core.b64.qmin = _ := z2
  have y1 := un_ge (K := 1023) (by omega) hb.1
  have hd : d ≠ 0 := by
    rintro rfl
    unfold Jvm.FP.Core.inUnits at z2'
    rw [Nat.zero_mul] at z2'
    rw [← z2'] at y1
    exact absurd y1 (by decide +kernel)
  have e1 : Jvm.FP.Core.val64 (4753549406689558528 : UInt64) = .fin false (3 * 2 ^ 51) (-20) := by decide +kernel
  have hv : Jvm.FP.Core.val64 (FP.ddiv (4753549406689558528 : UInt64) (FP.l2d w)) = Jvm.FP.Core.roundRatio Jvm.FP.Core.b64 (false != false) (3 * 2 ^ 51) d (-20 - r) := by
    show Jvm.FP.Core.val64 (Jvm.FP.Core.ddiv (4753549406689558528 : UInt64) (Jvm.FP.Core.l2d w)) = _
    rw [Jvm.FP.Core.val64_ddiv, e1, e2]
    simp only [Jvm.FP.Core.quotient, if_neg hd]
  refine sg_ne hf.ne_nan ?_
  rw [hv, Jvm.FP.Core.sgn_roundRatio]; rfl
theorem op_many {me : Int32} {he : Int32} {se : Int32} {ta : Int32} {bs : Nat → Int64} {bw : Nat → Int64} {gr : Nat → Int32} {hd : Nat → Int32} {jo : Nat → Int32} {le : Nat → Int32} {cs : Nat → Int64} {cw : Nat → Int64} {fr : Nat → Int32} {to : Nat → Int32} {ms : Nat → Int64} {mw : Nat → Int64} {os : Nat → Int64} {ow : Nat → Int64} {kn : Nat → Int32} {nu : Nat → Int32} {ox : Nat → Int32} {va : Nat → Int32} {s : Nat → Int64} {history_next : Int32} {history_size : Int32} {V : Nat → Option STv} {undos : Int32} {kept : Nat → Int64} (h : RS me he se ta bs bw gr hd jo le cs cw fr to ms mw os ow kn nu ox va s) (hH : RHi history_next history_size V undos kept) (p1 : Int32) : ∃ (r : Int64), f_X7_many me he kn nu p1 = some r ∧ f_X8_many s p1 = some r := by
  obtain ⟨h0, hJ, hV, hHd, hM, hK, hL, hQ⟩ := id h
  obtain ⟨n, q, hn, hq, rfl, rfl, hn2, hq2, hs0, hs1, hs2⟩ := h0.get
  unfold f_X7_many f_X8_many
  rw [X7_isHere p1 hn hq, X8_isHere p1 hn hs0 hs1, bd_q, bd_q]
  by_cases hm : vp_in p1 n ∧ tb q (nn p1) = true
  · obtain ⟨m, hm', rfl⟩ := vp_in_of hm.1 (by omega)
    obtain ⟨k1, k2, k3⟩ := hK m (by omega)
    obtain ⟨k4, k5⟩ := nn_nI k1 (by omega)
    obtain ⟨k, hk⟩ : ∃ k, k = nn (kn m) := ⟨_, rfl⟩
    rw [← hk] at k3 k4 k5
    rw [bi_t hm, if_pos (show ¬ (1 : Int32) = 0 by decide), if_pos (show ¬ (1 : Int32) = 0 by decide), ck_q (show m < 11 by omega) (by omega), nm_q, ad_83, ck_q (show 83 + m < 613 by omega) (by omega), nI_clamp (show m < 2 ^ 31 by omega), nI_clamp (show 83 + m < 2 ^ 31 by omega), k2, k4, show (4 : Int32) = nI 4 from rfl, show (4 : Int64) = lN 4 from rfl, nI_l (by omega)]
    by_cases c : 4 ≤ k
    · obtain rfl : k = 4 := by omega
      obtain ⟨x1, -, x3⟩ := k3 3 (by omega)
      rw [if_pos (Int32.le_refl _), if_pos (Int64.le_refl _), show (3 : Int32) = nI 3 from rfl, num_at nu (by omega) (by omega), bd_q, pk_mul, ad_93, nI_add, ck_q (show 93 + 4 * m + 3 < 613 by omega) (by omega), nI_clamp (show 93 + 4 * m + 3 < 2 ^ 31 by omega), Nat.add_assoc 93 (4 * m) 3, x1]
      by_cases z : nu (4 * m + 3) = 0
      · refine ⟨9218868437227405312, ?_, ?_⟩
        · rw [if_neg (fun w => w z)]
        · rw [z, show (0 : Int32).toInt64 = 0 from rfl, inf_3, ckp_q (by decide), lb_of (by decide +kernel), bd_q]; rfl
      · have hp : 0 < (nu (4 * m + 3)).toInt64.toInt := by
          rw [i2l_i]
          have a0 := x_neI z (k := 0) (by decide)
          rw [Int32.lt_iff_toInt_lt] at x3
          have : (0 : Int32).toInt = 0 := rfl
          omega
        have g := div_3 hp
        have e : FP.i2d (nu (4 * m + 3)) = FP.l2d (nu (4 * m + 3)).toInt64 := Jvm.FP.Core.i2d_l2d _
        rw [if_pos z, e, ckp_q (fin_ok g.1), ckp_q (fin_ok g.1), bits_of g, lb_of g.1.ne_nan]
        exact ⟨_, rfl, rfl⟩
    · have g := (l2d_good (lN k)).1
      have e : FP.i2d (nI k) = FP.l2d (lN k) := by rw [← nI_l (by omega)]; exact Jvm.FP.Core.i2d_l2d _
      rw [if_neg (fun z => by rw [nI_leI (by omega) (by omega)] at z; omega), if_neg (fun z => by rw [lN_le (by omega) (by omega)] at z; omega), e, ck_q (show 83 + m < 613 by omega) (by omega), bits_of g, lb_of g.1.ne_nan]
      exact ⟨_, rfl, rfl⟩
  · exact ⟨-1, by rw [bi_f hm, if_neg (fun z => z rfl)], by rw [bi_f hm, if_neg (fun z => z rfl)]⟩
set_option maxHeartbeats 4000000 in
set_option maxRecDepth 100000 in
theorem cs_guess {p : Program} {l : Launch} {e : Env} {S0 : State} {m : MethodId} {args : Array Value} {below : List Frame} {meth : Method} {c : Code} {D : va_G} {A : Nat → Prop} {Q : State → Prop} {cI cJ cQ : ClassId} {ax am b L : Nat} {u w : Nat → Nat} {xs : Nat → Int32} {cells slots ii : Nat} (hC : XC p S0 m args meth c D A 4 [(cI, .int), (cJ, .long), (cQ, .object "WhisperCrowd$State")] RL cL_law wsL_law ret) (hX : va_X b L xs S0 S0.heap) (hbl : b < S0.heap.size) (hbA : ¬ A b) (hii : ii + 4 ≤ L) (hL : L ≤ 2048) (hcl : cells ≤ 500000) (hsl : slots ≤ 5000000) (K : LGo p l e S0 m args below meth c D A Q cI cJ cQ ax am b u w (cells + 25) (slots + 629) ii 1068) : LGo p l e S0 m args below meth c D A Q cI cJ cQ ax am b u w cells slots ii 703 := by
  intro me he se ta bs bw gr hd jo le cs cw fr to ms mw os ow kn nu ox va history_next history_size plannedTalks planned open_size open_lesser open_other search_crowdSize search_crowd search_masses_sums search_masses_weights search_row search_lines s undos kept known whose lesser other opn sums weights row plan planned_m hs hR
  obtain ⟨r, f7, f8⟩ := op_guess  hR.1 hR.2.1 (xs (nI ii + nI 1).toNatClampNeg)
  refine x_aload_n 704 2 hC dL_law_703 rfl rfl rfl ?_
  refine la_arg 709 1 hC hX hbl hbA dL_law_704 dL_law_705 dL_law_706 dL_law_707 dL_law_708 rfl rfl (ii_in (j := 1) hii hL (by omega)) ?_
  refine x_widen (k := cells + 25) (n := slots + 629) (by omega) (by omega) ?_
  refine x_callVl 712 0 1 [0, 3, 17, 18, 19] [(ax, .inr (7, [.ref (u 0), .ref (u 25), .ref (u 27), .ref (u 30), .ref (u 36), .int plannedTalks])), ((u 25), .inr (0, [.ref (u 26), .int history_next, .int history_size])), ((u 26), .inl (cQ, 20, .inr (.inr (.inr (.inr (hk hs)))))), ((u 0), .inr (5, [.int me, .int he, .int se, .int ta, .ref (u 1), .ref (u 2), .ref (u 3), .ref (u 4), .ref (u 5), .ref (u 6), .ref (u 10), .ref (u 13), .ref (u 16), .ref (u 19)])), ((u 13), .inr (3, [.ref (u 14), .ref (u 15)])), ((u 14), .inl (cJ, 100, .inr (.inl bs))), ((u 15), .inl (cJ, 100, .inr (.inl bw))), ((u 2), .inl (cI, 10, .inl gr)), ((u 4), .inl (cI, 10, .inl hd)), ((u 5), .inl (cI, 10, .inl jo)), ((u 3), .inl (cI, 10, .inl le)), ((u 19), .inr (1, [.ref (u 20), .ref (u 21), .ref (u 22)])), ((u 22), .inr (3, [.ref (u 23), .ref (u 24)])), ((u 23), .inl (cJ, 8, .inr (.inl cs))), ((u 24), .inl (cJ, 8, .inr (.inl cw))), ((u 20), .inl (cI, 8, .inl fr)), ((u 21), .inl (cI, 8, .inl to)), ((u 10), .inr (3, [.ref (u 11), .ref (u 12)])), ((u 11), .inl (cJ, 10, .inr (.inl ms))), ((u 12), .inl (cJ, 10, .inr (.inl mw))), ((u 16), .inr (3, [.ref (u 17), .ref (u 18)])), ((u 17), .inl (cJ, 100, .inr (.inl os))), ((u 18), .inl (cJ, 100, .inr (.inl ow))), ((u 6), .inr (6, [.ref (u 7), .ref (u 8), .ref (u 9)])), ((u 7), .inl (cI, 11, .inl kn)), ((u 8), .inl (cI, 44, .inl nu)), ((u 9), .inl (cI, 44, .inl ox)), ((u 1), .inl (cI, 10, .inl va)), ((u 27), .inr (2, [.ref (u 28), .ref (u 29), .int open_size])), ((u 28), .inl (cI, 45, .inl open_lesser)), ((u 29), .inl (cI, 45, .inl open_other)), ((u 36), .inl (cI, 3, .inl planned)), ((u 30), .inr (4, [.ref (u 31), .ref (u 34), .ref (u 35), .int search_crowdSize, search_lines])), ((u 34), .inl (cI, 10, .inl search_crowd)), ((u 31), .inr (3, [.ref (u 32), .ref (u 33)])), ((u 32), .inl (cJ, 10, .inr (.inl search_masses_sums))), ((u 33), .inl (cJ, 10, .inr (.inl search_masses_weights))), ((u 35), .inl (cI, 3, .inl search_row)), (am, .inr (8, [.ref (w 0), .ref (w 1), .int undos, .ref (w 2), .ref (w 3), .ref (w 4), .ref (w 5), .int opn, .ref (w 6), .ref (w 7), .ref (w 8), .ref (w 9), .int planned_m])), ((w 1), .inl (cJ, 12260, .inr (.inl kept))), ((w 2), .inl (cJ, 8, .inr (.inl known))), ((w 4), .inl (cI, 45, .inl lesser)), ((w 5), .inl (cI, 45, .inl other)), ((w 9), .inl (cI, 4, .inl plan)), ((w 8), .inl (cI, 5, .inl row)), ((w 0), .inl (cJ, 613, .inr (.inl s))), ((w 6), .inl (cJ, 50, .inr (.inl sums))), ((w 7), .inl (cJ, 50, .inr (.inl weights))), ((w 3), .inl (cJ, 8, .inr (.inl whose)))] hC (c_X7_guess l D cI cJ cQ ax (u 0) (u 10) (u 11) (u 12) (.ref (u 25)) (.ref (u 27)) (.ref (u 30)) (.ref (u 36)) (.ref (u 1)) (.ref (u 2)) (.ref (u 3)) (.ref (u 4)) (.ref (u 5)) (.ref (u 6)) (.ref (u 13)) (.ref (u 16)) (.ref (u 19)) plannedTalks me he se ta ms mw (xs (nI ii + nI 1).toNatClampNeg) _ f7) rfl rfl gL_law_X7_guess rfl ⟨rfl, rfl⟩ hd_X7_guess ⟨Nat.le_of_ble_eq_true rfl, Nat.le_of_ble_eq_true rfl⟩ rfl rfl rfl rfl (x_in_same rfl) rfl (Nat.le_of_ble_eq_true rfl) ⟨by show cells + 25 + 0 ≤ 600000; omega, by show slots + 629 + 0 ≤ 7302250; omega⟩ dL_law_709 rfl ?_
  refine x_aload_n 713 1 hC dL_law_712 rfl rfl rfl ?_
  refine la_arg 718 1 hC hX hbl hbA dL_law_713 dL_law_714 dL_law_715 dL_law_716 dL_law_717 rfl rfl (ii_in (j := 1) hii hL (by omega)) ?_
  refine x_callVl 721 0 1 [38, 45] [(ax, .inr (7, [.ref (u 0), .ref (u 25), .ref (u 27), .ref (u 30), .ref (u 36), .int plannedTalks])), ((u 25), .inr (0, [.ref (u 26), .int history_next, .int history_size])), ((u 26), .inl (cQ, 20, .inr (.inr (.inr (.inr (hk hs)))))), ((u 0), .inr (5, [.int me, .int he, .int se, .int ta, .ref (u 1), .ref (u 2), .ref (u 3), .ref (u 4), .ref (u 5), .ref (u 6), .ref (u 10), .ref (u 13), .ref (u 16), .ref (u 19)])), ((u 13), .inr (3, [.ref (u 14), .ref (u 15)])), ((u 14), .inl (cJ, 100, .inr (.inl bs))), ((u 15), .inl (cJ, 100, .inr (.inl bw))), ((u 2), .inl (cI, 10, .inl gr)), ((u 4), .inl (cI, 10, .inl hd)), ((u 5), .inl (cI, 10, .inl jo)), ((u 3), .inl (cI, 10, .inl le)), ((u 19), .inr (1, [.ref (u 20), .ref (u 21), .ref (u 22)])), ((u 22), .inr (3, [.ref (u 23), .ref (u 24)])), ((u 23), .inl (cJ, 8, .inr (.inl cs))), ((u 24), .inl (cJ, 8, .inr (.inl cw))), ((u 20), .inl (cI, 8, .inl fr)), ((u 21), .inl (cI, 8, .inl to)), ((u 10), .inr (3, [.ref (u 11), .ref (u 12)])), ((u 11), .inl (cJ, 10, .inr (.inl ms))), ((u 12), .inl (cJ, 10, .inr (.inl mw))), ((u 16), .inr (3, [.ref (u 17), .ref (u 18)])), ((u 17), .inl (cJ, 100, .inr (.inl os))), ((u 18), .inl (cJ, 100, .inr (.inl ow))), ((u 6), .inr (6, [.ref (u 7), .ref (u 8), .ref (u 9)])), ((u 7), .inl (cI, 11, .inl kn)), ((u 8), .inl (cI, 44, .inl nu)), ((u 9), .inl (cI, 44, .inl ox)), ((u 1), .inl (cI, 10, .inl va)), ((u 27), .inr (2, [.ref (u 28), .ref (u 29), .int open_size])), ((u 28), .inl (cI, 45, .inl open_lesser)), ((u 29), .inl (cI, 45, .inl open_other)), ((u 36), .inl (cI, 3, .inl planned)), ((u 30), .inr (4, [.ref (u 31), .ref (u 34), .ref (u 35), .int search_crowdSize, search_lines])), ((u 34), .inl (cI, 10, .inl search_crowd)), ((u 31), .inr (3, [.ref (u 32), .ref (u 33)])), ((u 32), .inl (cJ, 10, .inr (.inl search_masses_sums))), ((u 33), .inl (cJ, 10, .inr (.inl search_masses_weights))), ((u 35), .inl (cI, 3, .inl search_row)), (am, .inr (8, [.ref (w 0), .ref (w 1), .int undos, .ref (w 2), .ref (w 3), .ref (w 4), .ref (w 5), .int opn, .ref (w 6), .ref (w 7), .ref (w 8), .ref (w 9), .int planned_m])), ((w 1), .inl (cJ, 12260, .inr (.inl kept))), ((w 2), .inl (cJ, 8, .inr (.inl known))), ((w 4), .inl (cI, 45, .inl lesser)), ((w 5), .inl (cI, 45, .inl other)), ((w 9), .inl (cI, 4, .inl plan)), ((w 8), .inl (cI, 5, .inl row)), ((w 0), .inl (cJ, 613, .inr (.inl s))), ((w 6), .inl (cJ, 50, .inr (.inl sums))), ((w 7), .inl (cJ, 50, .inr (.inl weights))), ((w 3), .inl (cJ, 8, .inr (.inl whose)))] hC (c_X8_guess l D cI cJ cQ am (w 0) (.ref (w 1)) (.ref (w 2)) (.ref (w 3)) (.ref (w 4)) (.ref (w 5)) (.ref (w 6)) (.ref (w 7)) (.ref (w 8)) (.ref (w 9)) undos opn planned_m s (xs (nI ii + nI 1).toNatClampNeg) _ f8) rfl rfl gL_law_X8_guess rfl ⟨rfl, rfl⟩ hd_X8_guess ⟨Nat.le_of_ble_eq_true rfl, Nat.le_of_ble_eq_true rfl⟩ rfl rfl rfl rfl rfl rfl (Nat.le_of_ble_eq_true rfl) ⟨by show cells + 25 + 0 ≤ 600000; omega, by show slots + 629 + 0 ≤ 7302250; omega⟩ dL_law_718 rfl ?_
  refine x_lcmp_eq 1068 725 hC dL_law_721 dL_law_722 (by decide) rfl (fun _ => ?_) (fun h => absurd rfl h)
  exact K me he se ta bs bw gr hd jo le cs cw fr to ms mw os ow kn nu ox va history_next history_size plannedTalks planned open_size open_lesser open_other search_crowdSize search_crowd search_masses_sums search_masses_weights search_row search_lines s undos kept known whose lesser other opn sums weights row plan planned_m hs ⟨hR.1, hR.2.1, hR.2.2⟩
set_option maxHeartbeats 4000000 in
set_option maxRecDepth 100000 in
theorem cs_far {p : Program} {l : Launch} {e : Env} {S0 : State} {m : MethodId} {args : Array Value} {below : List Frame} {meth : Method} {c : Code} {D : va_G} {A : Nat → Prop} {Q : State → Prop} {cI cJ cQ : ClassId} {ax am b L : Nat} {u w : Nat → Nat} {xs : Nat → Int32} {cells slots ii : Nat} (hC : XC p S0 m args meth c D A 4 [(cI, .int), (cJ, .long), (cQ, .object "WhisperCrowd$State")] RL cL_law wsL_law ret) (hX : va_X b L xs S0 S0.heap) (hbl : b < S0.heap.size) (hbA : ¬ A b) (hii : ii + 4 ≤ L) (hL : L ≤ 2048) (hcl : cells ≤ 500000) (hsl : slots ≤ 5000000) (K : LGo p l e S0 m args below meth c D A Q cI cJ cQ ax am b u w (cells + 25) (slots + 629) ii 1068) : LGo p l e S0 m args below meth c D A Q cI cJ cQ ax am b u w cells slots ii 901 := by
  intro me he se ta bs bw gr hd jo le cs cw fr to ms mw os ow kn nu ox va history_next history_size plannedTalks planned open_size open_lesser open_other search_crowdSize search_crowd search_masses_sums search_masses_weights search_row search_lines s undos kept known whose lesser other opn sums weights row plan planned_m hs hR
  obtain ⟨r, f7, f8⟩ := op_far  hR.1 hR.2.1
  refine x_aload_n 902 2 hC dL_law_901 rfl rfl rfl ?_
  refine x_widen (k := cells + 25) (n := slots + 629) (by omega) (by omega) ?_
  refine x_callVl 905 0 0 [0, 3, 17, 18, 19] [(ax, .inr (7, [.ref (u 0), .ref (u 25), .ref (u 27), .ref (u 30), .ref (u 36), .int plannedTalks])), ((u 25), .inr (0, [.ref (u 26), .int history_next, .int history_size])), ((u 26), .inl (cQ, 20, .inr (.inr (.inr (.inr (hk hs)))))), ((u 0), .inr (5, [.int me, .int he, .int se, .int ta, .ref (u 1), .ref (u 2), .ref (u 3), .ref (u 4), .ref (u 5), .ref (u 6), .ref (u 10), .ref (u 13), .ref (u 16), .ref (u 19)])), ((u 13), .inr (3, [.ref (u 14), .ref (u 15)])), ((u 14), .inl (cJ, 100, .inr (.inl bs))), ((u 15), .inl (cJ, 100, .inr (.inl bw))), ((u 2), .inl (cI, 10, .inl gr)), ((u 4), .inl (cI, 10, .inl hd)), ((u 5), .inl (cI, 10, .inl jo)), ((u 3), .inl (cI, 10, .inl le)), ((u 19), .inr (1, [.ref (u 20), .ref (u 21), .ref (u 22)])), ((u 22), .inr (3, [.ref (u 23), .ref (u 24)])), ((u 23), .inl (cJ, 8, .inr (.inl cs))), ((u 24), .inl (cJ, 8, .inr (.inl cw))), ((u 20), .inl (cI, 8, .inl fr)), ((u 21), .inl (cI, 8, .inl to)), ((u 10), .inr (3, [.ref (u 11), .ref (u 12)])), ((u 11), .inl (cJ, 10, .inr (.inl ms))), ((u 12), .inl (cJ, 10, .inr (.inl mw))), ((u 16), .inr (3, [.ref (u 17), .ref (u 18)])), ((u 17), .inl (cJ, 100, .inr (.inl os))), ((u 18), .inl (cJ, 100, .inr (.inl ow))), ((u 6), .inr (6, [.ref (u 7), .ref (u 8), .ref (u 9)])), ((u 7), .inl (cI, 11, .inl kn)), ((u 8), .inl (cI, 44, .inl nu)), ((u 9), .inl (cI, 44, .inl ox)), ((u 1), .inl (cI, 10, .inl va)), ((u 27), .inr (2, [.ref (u 28), .ref (u 29), .int open_size])), ((u 28), .inl (cI, 45, .inl open_lesser)), ((u 29), .inl (cI, 45, .inl open_other)), ((u 36), .inl (cI, 3, .inl planned)), ((u 30), .inr (4, [.ref (u 31), .ref (u 34), .ref (u 35), .int search_crowdSize, search_lines])), ((u 34), .inl (cI, 10, .inl search_crowd)), ((u 31), .inr (3, [.ref (u 32), .ref (u 33)])), ((u 32), .inl (cJ, 10, .inr (.inl search_masses_sums))), ((u 33), .inl (cJ, 10, .inr (.inl search_masses_weights))), ((u 35), .inl (cI, 3, .inl search_row)), (am, .inr (8, [.ref (w 0), .ref (w 1), .int undos, .ref (w 2), .ref (w 3), .ref (w 4), .ref (w 5), .int opn, .ref (w 6), .ref (w 7), .ref (w 8), .ref (w 9), .int planned_m])), ((w 1), .inl (cJ, 12260, .inr (.inl kept))), ((w 2), .inl (cJ, 8, .inr (.inl known))), ((w 4), .inl (cI, 45, .inl lesser)), ((w 5), .inl (cI, 45, .inl other)), ((w 9), .inl (cI, 4, .inl plan)), ((w 8), .inl (cI, 5, .inl row)), ((w 0), .inl (cJ, 613, .inr (.inl s))), ((w 6), .inl (cJ, 50, .inr (.inl sums))), ((w 7), .inl (cJ, 50, .inr (.inl weights))), ((w 3), .inl (cJ, 8, .inr (.inl whose)))] hC (c_X7_far l D cI cJ cQ ax (u 0) (u 10) (u 11) (u 12) (.ref (u 25)) (.ref (u 27)) (.ref (u 30)) (.ref (u 36)) (.ref (u 1)) (.ref (u 2)) (.ref (u 3)) (.ref (u 4)) (.ref (u 5)) (.ref (u 6)) (.ref (u 13)) (.ref (u 16)) (.ref (u 19)) plannedTalks me he se ta ms mw _ f7) rfl rfl gL_law_X7_far rfl ⟨rfl, rfl⟩ hd_X7_far ⟨Nat.le_of_ble_eq_true rfl, Nat.le_of_ble_eq_true rfl⟩ rfl rfl rfl rfl (x_in_same rfl) rfl (Nat.le_of_ble_eq_true rfl) ⟨by show cells + 25 + 0 ≤ 600000; omega, by show slots + 629 + 0 ≤ 7302250; omega⟩ dL_law_902 rfl ?_
  refine x_aload_n 906 1 hC dL_law_905 rfl rfl rfl ?_
  refine x_callVl 909 0 0 [38, 45] [(ax, .inr (7, [.ref (u 0), .ref (u 25), .ref (u 27), .ref (u 30), .ref (u 36), .int plannedTalks])), ((u 25), .inr (0, [.ref (u 26), .int history_next, .int history_size])), ((u 26), .inl (cQ, 20, .inr (.inr (.inr (.inr (hk hs)))))), ((u 0), .inr (5, [.int me, .int he, .int se, .int ta, .ref (u 1), .ref (u 2), .ref (u 3), .ref (u 4), .ref (u 5), .ref (u 6), .ref (u 10), .ref (u 13), .ref (u 16), .ref (u 19)])), ((u 13), .inr (3, [.ref (u 14), .ref (u 15)])), ((u 14), .inl (cJ, 100, .inr (.inl bs))), ((u 15), .inl (cJ, 100, .inr (.inl bw))), ((u 2), .inl (cI, 10, .inl gr)), ((u 4), .inl (cI, 10, .inl hd)), ((u 5), .inl (cI, 10, .inl jo)), ((u 3), .inl (cI, 10, .inl le)), ((u 19), .inr (1, [.ref (u 20), .ref (u 21), .ref (u 22)])), ((u 22), .inr (3, [.ref (u 23), .ref (u 24)])), ((u 23), .inl (cJ, 8, .inr (.inl cs))), ((u 24), .inl (cJ, 8, .inr (.inl cw))), ((u 20), .inl (cI, 8, .inl fr)), ((u 21), .inl (cI, 8, .inl to)), ((u 10), .inr (3, [.ref (u 11), .ref (u 12)])), ((u 11), .inl (cJ, 10, .inr (.inl ms))), ((u 12), .inl (cJ, 10, .inr (.inl mw))), ((u 16), .inr (3, [.ref (u 17), .ref (u 18)])), ((u 17), .inl (cJ, 100, .inr (.inl os))), ((u 18), .inl (cJ, 100, .inr (.inl ow))), ((u 6), .inr (6, [.ref (u 7), .ref (u 8), .ref (u 9)])), ((u 7), .inl (cI, 11, .inl kn)), ((u 8), .inl (cI, 44, .inl nu)), ((u 9), .inl (cI, 44, .inl ox)), ((u 1), .inl (cI, 10, .inl va)), ((u 27), .inr (2, [.ref (u 28), .ref (u 29), .int open_size])), ((u 28), .inl (cI, 45, .inl open_lesser)), ((u 29), .inl (cI, 45, .inl open_other)), ((u 36), .inl (cI, 3, .inl planned)), ((u 30), .inr (4, [.ref (u 31), .ref (u 34), .ref (u 35), .int search_crowdSize, search_lines])), ((u 34), .inl (cI, 10, .inl search_crowd)), ((u 31), .inr (3, [.ref (u 32), .ref (u 33)])), ((u 32), .inl (cJ, 10, .inr (.inl search_masses_sums))), ((u 33), .inl (cJ, 10, .inr (.inl search_masses_weights))), ((u 35), .inl (cI, 3, .inl search_row)), (am, .inr (8, [.ref (w 0), .ref (w 1), .int undos, .ref (w 2), .ref (w 3), .ref (w 4), .ref (w 5), .int opn, .ref (w 6), .ref (w 7), .ref (w 8), .ref (w 9), .int planned_m])), ((w 1), .inl (cJ, 12260, .inr (.inl kept))), ((w 2), .inl (cJ, 8, .inr (.inl known))), ((w 4), .inl (cI, 45, .inl lesser)), ((w 5), .inl (cI, 45, .inl other)), ((w 9), .inl (cI, 4, .inl plan)), ((w 8), .inl (cI, 5, .inl row)), ((w 0), .inl (cJ, 613, .inr (.inl s))), ((w 6), .inl (cJ, 50, .inr (.inl sums))), ((w 7), .inl (cJ, 50, .inr (.inl weights))), ((w 3), .inl (cJ, 8, .inr (.inl whose)))] hC (c_X8_far l D cI cJ cQ am (w 0) (.ref (w 1)) (.ref (w 2)) (.ref (w 3)) (.ref (w 4)) (.ref (w 5)) (.ref (w 6)) (.ref (w 7)) (.ref (w 8)) (.ref (w 9)) undos opn planned_m s _ f8) rfl rfl gL_law_X8_far rfl ⟨rfl, rfl⟩ hd_X8_far ⟨Nat.le_of_ble_eq_true rfl, Nat.le_of_ble_eq_true rfl⟩ rfl rfl rfl rfl rfl rfl (Nat.le_of_ble_eq_true rfl) ⟨by show cells + 25 + 0 ≤ 600000; omega, by show slots + 629 + 0 ≤ 7302250; omega⟩ dL_law_906 rfl ?_
  refine x_lcmp_eq 1068 913 hC dL_law_909 dL_law_910 (by decide) rfl (fun _ => ?_) (fun h => absurd rfl h)
  exact K me he se ta bs bw gr hd jo le cs cw fr to ms mw os ow kn nu ox va history_next history_size plannedTalks planned open_size open_lesser open_other search_crowdSize search_crowd search_masses_sums search_masses_weights search_row search_lines s undos kept known whose lesser other opn sums weights row plan planned_m hs ⟨hR.1, hR.2.1, hR.2.2⟩
set_option maxHeartbeats 4000000 in
set_option maxRecDepth 100000 in
theorem cs_many {p : Program} {l : Launch} {e : Env} {S0 : State} {m : MethodId} {args : Array Value} {below : List Frame} {meth : Method} {c : Code} {D : va_G} {A : Nat → Prop} {Q : State → Prop} {cI cJ cQ : ClassId} {ax am b L : Nat} {u w : Nat → Nat} {xs : Nat → Int32} {cells slots ii : Nat} (hC : XC p S0 m args meth c D A 4 [(cI, .int), (cJ, .long), (cQ, .object "WhisperCrowd$State")] RL cL_law wsL_law ret) (hX : va_X b L xs S0 S0.heap) (hbl : b < S0.heap.size) (hbA : ¬ A b) (hii : ii + 4 ≤ L) (hL : L ≤ 2048) (hcl : cells ≤ 500000) (hsl : slots ≤ 5000000) (K : LGo p l e S0 m args below meth c D A Q cI cJ cQ ax am b u w (cells + 25) (slots + 629) ii 1068) : LGo p l e S0 m args below meth c D A Q cI cJ cQ ax am b u w cells slots ii 928 := by
  intro me he se ta bs bw gr hd jo le cs cw fr to ms mw os ow kn nu ox va history_next history_size plannedTalks planned open_size open_lesser open_other search_crowdSize search_crowd search_masses_sums search_masses_weights search_row search_lines s undos kept known whose lesser other opn sums weights row plan planned_m hs hR
  obtain ⟨r, f7, f8⟩ := op_many  hR.1 hR.2.1 (xs (nI ii + nI 1).toNatClampNeg)
  refine x_aload_n 929 2 hC dL_law_928 rfl rfl rfl ?_
  refine la_arg 934 1 hC hX hbl hbA dL_law_929 dL_law_930 dL_law_931 dL_law_932 dL_law_933 rfl rfl (ii_in (j := 1) hii hL (by omega)) ?_
  refine x_widen (k := cells + 25) (n := slots + 629) (by omega) (by omega) ?_
  refine x_callVl 937 0 1 [0, 3, 23, 24, 25] [(ax, .inr (7, [.ref (u 0), .ref (u 25), .ref (u 27), .ref (u 30), .ref (u 36), .int plannedTalks])), ((u 25), .inr (0, [.ref (u 26), .int history_next, .int history_size])), ((u 26), .inl (cQ, 20, .inr (.inr (.inr (.inr (hk hs)))))), ((u 0), .inr (5, [.int me, .int he, .int se, .int ta, .ref (u 1), .ref (u 2), .ref (u 3), .ref (u 4), .ref (u 5), .ref (u 6), .ref (u 10), .ref (u 13), .ref (u 16), .ref (u 19)])), ((u 13), .inr (3, [.ref (u 14), .ref (u 15)])), ((u 14), .inl (cJ, 100, .inr (.inl bs))), ((u 15), .inl (cJ, 100, .inr (.inl bw))), ((u 2), .inl (cI, 10, .inl gr)), ((u 4), .inl (cI, 10, .inl hd)), ((u 5), .inl (cI, 10, .inl jo)), ((u 3), .inl (cI, 10, .inl le)), ((u 19), .inr (1, [.ref (u 20), .ref (u 21), .ref (u 22)])), ((u 22), .inr (3, [.ref (u 23), .ref (u 24)])), ((u 23), .inl (cJ, 8, .inr (.inl cs))), ((u 24), .inl (cJ, 8, .inr (.inl cw))), ((u 20), .inl (cI, 8, .inl fr)), ((u 21), .inl (cI, 8, .inl to)), ((u 10), .inr (3, [.ref (u 11), .ref (u 12)])), ((u 11), .inl (cJ, 10, .inr (.inl ms))), ((u 12), .inl (cJ, 10, .inr (.inl mw))), ((u 16), .inr (3, [.ref (u 17), .ref (u 18)])), ((u 17), .inl (cJ, 100, .inr (.inl os))), ((u 18), .inl (cJ, 100, .inr (.inl ow))), ((u 6), .inr (6, [.ref (u 7), .ref (u 8), .ref (u 9)])), ((u 7), .inl (cI, 11, .inl kn)), ((u 8), .inl (cI, 44, .inl nu)), ((u 9), .inl (cI, 44, .inl ox)), ((u 1), .inl (cI, 10, .inl va)), ((u 27), .inr (2, [.ref (u 28), .ref (u 29), .int open_size])), ((u 28), .inl (cI, 45, .inl open_lesser)), ((u 29), .inl (cI, 45, .inl open_other)), ((u 36), .inl (cI, 3, .inl planned)), ((u 30), .inr (4, [.ref (u 31), .ref (u 34), .ref (u 35), .int search_crowdSize, search_lines])), ((u 34), .inl (cI, 10, .inl search_crowd)), ((u 31), .inr (3, [.ref (u 32), .ref (u 33)])), ((u 32), .inl (cJ, 10, .inr (.inl search_masses_sums))), ((u 33), .inl (cJ, 10, .inr (.inl search_masses_weights))), ((u 35), .inl (cI, 3, .inl search_row)), (am, .inr (8, [.ref (w 0), .ref (w 1), .int undos, .ref (w 2), .ref (w 3), .ref (w 4), .ref (w 5), .int opn, .ref (w 6), .ref (w 7), .ref (w 8), .ref (w 9), .int planned_m])), ((w 1), .inl (cJ, 12260, .inr (.inl kept))), ((w 2), .inl (cJ, 8, .inr (.inl known))), ((w 4), .inl (cI, 45, .inl lesser)), ((w 5), .inl (cI, 45, .inl other)), ((w 9), .inl (cI, 4, .inl plan)), ((w 8), .inl (cI, 5, .inl row)), ((w 0), .inl (cJ, 613, .inr (.inl s))), ((w 6), .inl (cJ, 50, .inr (.inl sums))), ((w 7), .inl (cJ, 50, .inr (.inl weights))), ((w 3), .inl (cJ, 8, .inr (.inl whose)))] hC (c_X7_many l D cI cJ cQ ax (u 0) (u 6) (u 7) (u 8) (.ref (u 25)) (.ref (u 27)) (.ref (u 30)) (.ref (u 36)) (.ref (u 1)) (.ref (u 2)) (.ref (u 3)) (.ref (u 4)) (.ref (u 5)) (.ref (u 10)) (.ref (u 13)) (.ref (u 16)) (.ref (u 19)) (.ref (u 9)) plannedTalks me he se ta kn nu (xs (nI ii + nI 1).toNatClampNeg) _ f7) rfl rfl gL_law_X7_many rfl ⟨rfl, rfl⟩ hd_X7_many ⟨Nat.le_of_ble_eq_true rfl, Nat.le_of_ble_eq_true rfl⟩ rfl rfl rfl rfl (x_in_same rfl) rfl (Nat.le_of_ble_eq_true rfl) ⟨by show cells + 25 + 0 ≤ 600000; omega, by show slots + 629 + 0 ≤ 7302250; omega⟩ dL_law_934 rfl ?_
  refine x_aload_n 938 1 hC dL_law_937 rfl rfl rfl ?_
  refine la_arg 943 1 hC hX hbl hbA dL_law_938 dL_law_939 dL_law_940 dL_law_941 dL_law_942 rfl rfl (ii_in (j := 1) hii hL (by omega)) ?_
  refine x_callVl 946 0 1 [38, 45] [(ax, .inr (7, [.ref (u 0), .ref (u 25), .ref (u 27), .ref (u 30), .ref (u 36), .int plannedTalks])), ((u 25), .inr (0, [.ref (u 26), .int history_next, .int history_size])), ((u 26), .inl (cQ, 20, .inr (.inr (.inr (.inr (hk hs)))))), ((u 0), .inr (5, [.int me, .int he, .int se, .int ta, .ref (u 1), .ref (u 2), .ref (u 3), .ref (u 4), .ref (u 5), .ref (u 6), .ref (u 10), .ref (u 13), .ref (u 16), .ref (u 19)])), ((u 13), .inr (3, [.ref (u 14), .ref (u 15)])), ((u 14), .inl (cJ, 100, .inr (.inl bs))), ((u 15), .inl (cJ, 100, .inr (.inl bw))), ((u 2), .inl (cI, 10, .inl gr)), ((u 4), .inl (cI, 10, .inl hd)), ((u 5), .inl (cI, 10, .inl jo)), ((u 3), .inl (cI, 10, .inl le)), ((u 19), .inr (1, [.ref (u 20), .ref (u 21), .ref (u 22)])), ((u 22), .inr (3, [.ref (u 23), .ref (u 24)])), ((u 23), .inl (cJ, 8, .inr (.inl cs))), ((u 24), .inl (cJ, 8, .inr (.inl cw))), ((u 20), .inl (cI, 8, .inl fr)), ((u 21), .inl (cI, 8, .inl to)), ((u 10), .inr (3, [.ref (u 11), .ref (u 12)])), ((u 11), .inl (cJ, 10, .inr (.inl ms))), ((u 12), .inl (cJ, 10, .inr (.inl mw))), ((u 16), .inr (3, [.ref (u 17), .ref (u 18)])), ((u 17), .inl (cJ, 100, .inr (.inl os))), ((u 18), .inl (cJ, 100, .inr (.inl ow))), ((u 6), .inr (6, [.ref (u 7), .ref (u 8), .ref (u 9)])), ((u 7), .inl (cI, 11, .inl kn)), ((u 8), .inl (cI, 44, .inl nu)), ((u 9), .inl (cI, 44, .inl ox)), ((u 1), .inl (cI, 10, .inl va)), ((u 27), .inr (2, [.ref (u 28), .ref (u 29), .int open_size])), ((u 28), .inl (cI, 45, .inl open_lesser)), ((u 29), .inl (cI, 45, .inl open_other)), ((u 36), .inl (cI, 3, .inl planned)), ((u 30), .inr (4, [.ref (u 31), .ref (u 34), .ref (u 35), .int search_crowdSize, search_lines])), ((u 34), .inl (cI, 10, .inl search_crowd)), ((u 31), .inr (3, [.ref (u 32), .ref (u 33)])), ((u 32), .inl (cJ, 10, .inr (.inl search_masses_sums))), ((u 33), .inl (cJ, 10, .inr (.inl search_masses_weights))), ((u 35), .inl (cI, 3, .inl search_row)), (am, .inr (8, [.ref (w 0), .ref (w 1), .int undos, .ref (w 2), .ref (w 3), .ref (w 4), .ref (w 5), .int opn, .ref (w 6), .ref (w 7), .ref (w 8), .ref (w 9), .int planned_m])), ((w 1), .inl (cJ, 12260, .inr (.inl kept))), ((w 2), .inl (cJ, 8, .inr (.inl known))), ((w 4), .inl (cI, 45, .inl lesser)), ((w 5), .inl (cI, 45, .inl other)), ((w 9), .inl (cI, 4, .inl plan)), ((w 8), .inl (cI, 5, .inl row)), ((w 0), .inl (cJ, 613, .inr (.inl s))), ((w 6), .inl (cJ, 50, .inr (.inl sums))), ((w 7), .inl (cJ, 50, .inr (.inl weights))), ((w 3), .inl (cJ, 8, .inr (.inl whose)))] hC (c_X8_many l D cI cJ cQ am (w 0) (.ref (w 1)) (.ref (w 2)) (.ref (w 3)) (.ref (w 4)) (.ref (w 5)) (.ref (w 6)) (.ref (w 7)) (.ref (w 8)) (.ref (w 9)) undos opn planned_m s (xs (nI ii + nI 1).toNatClampNeg) _ f8) rfl rfl gL_law_X8_many rfl ⟨rfl, rfl⟩ hd_X8_many ⟨Nat.le_of_ble_eq_true rfl, Nat.le_of_ble_eq_true rfl⟩ rfl rfl rfl rfl rfl rfl (Nat.le_of_ble_eq_true rfl) ⟨by show cells + 25 + 0 ≤ 600000; omega, by show slots + 629 + 0 ≤ 7302250; omega⟩ dL_law_943 rfl ?_
  refine x_lcmp_eq 1068 950 hC dL_law_946 dL_law_947 (by decide) rfl (fun _ => ?_) (fun h => absurd rfl h)
  exact K me he se ta bs bw gr hd jo le cs cw fr to ms mw os ow kn nu ox va history_next history_size plannedTalks planned open_size open_lesser open_other search_crowdSize search_crowd search_masses_sums search_masses_weights search_row search_lines s undos kept known whose lesser other opn sums weights row plan planned_m hs ⟨hR.1, hR.2.1, hR.2.2⟩
theorem and_31 (x : Int32) : ∃ j, j < 32 ∧ x &&& (31 : Int32) = nI j := by
  have e : x = nI x.toBitVec.toNat := by
    apply Int32.toBitVec_inj.1
    show x.toBitVec = BitVec.ofNat 32 x.toBitVec.toNat
    simp
  refine ⟨x.toBitVec.toNat % 32, Nat.mod_lt _ (by omega), ?_⟩
  have h : nI x.toBitVec.toNat &&& nI 31 = nI (x.toBitVec.toNat % 32) := by
    rw [nx_and, show (31 : Nat) = 2 ^ 5 - 1 from rfl, Nat.and_two_pow_sub_one_eq_mod]
  rw [← e] at h; exact h
theorem len_4 : ∀ L, L < 2049 → (nI L - (4 : Int32)).toInt = (L : Int) - 4 := by decide +kernel
set_option maxHeartbeats 4000000 in
set_option maxRecDepth 100000 in
theorem law_head {p : Program} {l : Launch} {e : Env} {S0 : State} {m : MethodId} {args : Array Value} {below : List Frame} {meth : Method} {c : Code} {D : va_G} {A : Nat → Prop} {Q : State → Prop} {cI cJ cQ : ClassId} {ax am b L : Nat} {u w : Nat → Nat} {xs : Nat → Int32} {cells slots ii : Nat} (hC : XC p S0 m args meth c D A 4 [(cI, .int), (cJ, .long), (cQ, .object "WhisperCrowd$State")] RL cL_law wsL_law ret) (hX : va_X b L xs S0 S0.heap) (hbl : b < S0.heap.size) (hbA : ¬ A b) (hL : L ≤ 2048) (hi : ii ≤ 2052) (hcl : cells ≤ 500000) (hsl : slots ≤ 5000000) (hE : ∀ (es tl : va_W) (lv : List (Nat × Value)) (cells slots : Nat), cells ≤ 600000 → slots ≤ 7302250 → XW p l e room_1 S0 m args below meth c D A 4 cells slots Q es tl lv 1075 [.int 1]) (K : ii + 4 ≤ L → LGo p l e S0 m args below meth c D A Q cI cJ cQ ax am b u w (cells + 25) (slots + 629) ii 1068) : LGo p l e S0 m args below meth c D A Q cI cJ cQ ax am b u w cells slots ii 18 := by
  intro me he se ta bs bw gr hd jo le cs cw fr to ms mw os ow kn nu ox va history_next history_size plannedTalks planned open_size open_lesser open_other search_crowdSize search_crowd search_masses_sums search_masses_weights search_row search_lines s undos kept known whose lesser other opn sums weights row plan planned_m hs hR
  refine x_iload_n 19 0 hC dL_law_18 rfl rfl rfl ?_
  refine x_aload_n 20 3 hC dL_law_19 rfl rfl rfl ?_
  refine x_slen 21 hC hX hbl hbA dL_law_20 rfl ?_
  refine x_iconst 22 hC (4 : Int32) dL_law_21 rfl (by decide) ?_
  refine x_isub 23 hC dL_law_22 rfl ?_
  refine x_icmp_gt 1074 26 hC dL_law_23 (by decide) rfl (fun _ => ?_) (fun hn => ?_)
  · refine x_iconst 1075 hC (1 : Int32) dL_law_1074 rfl (by decide) ?_
    exact hE _ _ _ _ _ (by omega) (by omega)
  · have hii : ii + 4 ≤ L := by
      rw [Int32.lt_iff_toInt_lt, len_4 L (by omega), nI_toInt (by omega)] at hn
      omega
    have K := K hii
    refine x_aload_n 27 3 hC dL_law_26 rfl rfl rfl ?_
    refine x_iload_n 28 0 hC dL_law_27 rfl rfl rfl ?_
    refine x_sld 29 hC hX hbl hbA (vp_in_nI (show ii < L by omega) (by omega)) dL_law_28 rfl ?_
    refine x_bipush 31 hC (31 : Int32) dL_law_29 rfl (by decide) ?_
    refine x_iand 32 hC dL_law_31 rfl ?_
    obtain ⟨j, hj, e⟩ := and_31 (xs (nI ii).toNatClampNeg)
    match j, hj, e with
    | 0, _, e => exact x_tabIn 172 hC (nI 0) e 140 dL_law_32 (by decide) (by decide) (by decide) (by decide) (cs_come hC hX hbl hbA hii hL hcl hsl K me he se ta bs bw gr hd jo le cs cw fr to ms mw os ow kn nu ox va history_next history_size plannedTalks planned open_size open_lesser open_other search_crowdSize search_crowd search_masses_sums search_masses_weights search_row search_lines s undos kept known whose lesser other opn sums weights row plan planned_m hs hR)
    | 1, _, e => exact x_tabIn 195 hC (nI 1) e 163 dL_law_32 (by decide) (by decide) (by decide) (by decide) (cs_line hC hX hbl hbA hii hL hcl hsl K me he se ta bs bw gr hd jo le cs cw fr to ms mw os ow kn nu ox va history_next history_size plannedTalks planned open_size open_lesser open_other search_crowdSize search_crowd search_masses_sums search_masses_weights search_row search_lines s undos kept known whose lesser other opn sums weights row plan planned_m hs hR)
    | 2, _, e => exact x_tabIn 228 hC (nI 2) e 196 dL_law_32 (by decide) (by decide) (by decide) (by decide) (cs_cut hC hX hbl hbA hii hL hcl hsl K me he se ta bs bw gr hd jo le cs cw fr to ms mw os ow kn nu ox va history_next history_size plannedTalks planned open_size open_lesser open_other search_crowdSize search_crowd search_masses_sums search_masses_weights search_row search_lines s undos kept known whose lesser other opn sums weights row plan planned_m hs hR)
    | 3, _, e => exact x_tabIn 261 hC (nI 3) e 229 dL_law_32 (by decide) (by decide) (by decide) (by decide) (cs_set hC hX hbl hbA hii hL hcl hsl K me he se ta bs bw gr hd jo le cs cw fr to ms mw os ow kn nu ox va history_next history_size plannedTalks planned open_size open_lesser open_other search_crowdSize search_crowd search_masses_sums search_masses_weights search_row search_lines s undos kept known whose lesser other opn sums weights row plan planned_m hs hR)
    | 4, _, e => exact x_tabIn 294 hC (nI 4) e 262 dL_law_32 (by decide) (by decide) (by decide) (by decide) (cs_back hC hX hbl hbA hii hL hcl hsl K me he se ta bs bw gr hd jo le cs cw fr to ms mw os ow kn nu ox va history_next history_size plannedTalks planned open_size open_lesser open_other search_crowdSize search_crowd search_masses_sums search_masses_weights search_row search_lines s undos kept known whose lesser other opn sums weights row plan planned_m hs hR)
    | 5, _, e => exact x_tabIn 327 hC (nI 5) e 295 dL_law_32 (by decide) (by decide) (by decide) (by decide) (cs_fall hC hX hbl hbA hii hL hcl hsl K me he se ta bs bw gr hd jo le cs cw fr to ms mw os ow kn nu ox va history_next history_size plannedTalks planned open_size open_lesser open_other search_crowdSize search_crowd search_masses_sums search_masses_weights search_row search_lines s undos kept known whose lesser other opn sums weights row plan planned_m hs hR)
    | 6, _, e => exact x_tabIn 350 hC (nI 6) e 318 dL_law_32 (by decide) (by decide) (by decide) (by decide) (cs_leave hC hX hbl hbA hii hL hcl hsl K me he se ta bs bw gr hd jo le cs cw fr to ms mw os ow kn nu ox va history_next history_size plannedTalks planned open_size open_lesser open_other search_crowdSize search_crowd search_masses_sums search_masses_weights search_row search_lines s undos kept known whose lesser other opn sums weights row plan planned_m hs hR)
    | 7, _, e => exact x_tabIn 383 hC (nI 7) e 351 dL_law_32 (by decide) (by decide) (by decide) (by decide) (cs_talk hC hX hbl hbA hii hL hcl hsl K me he se ta bs bw gr hd jo le cs cw fr to ms mw os ow kn nu ox va history_next history_size plannedTalks planned open_size open_lesser open_other search_crowdSize search_crowd search_masses_sums search_masses_weights search_row search_lines s undos kept known whose lesser other opn sums weights row plan planned_m hs hR)
    | 8, _, e => exact x_tabIn 426 hC (nI 8) e 394 dL_law_32 (by decide) (by decide) (by decide) (by decide) (cs_send hC hX hbl hbA hii hL hcl hsl K me he se ta bs bw gr hd jo le cs cw fr to ms mw os ow kn nu ox va history_next history_size plannedTalks planned open_size open_lesser open_other search_crowdSize search_crowd search_masses_sums search_masses_weights search_row search_lines s undos kept known whose lesser other opn sums weights row plan planned_m hs hR)
    | 9, _, e => exact x_tabIn 459 hC (nI 9) e 427 dL_law_32 (by decide) (by decide) (by decide) (by decide) (cs_bring hC hX hbl hbA hii hL hcl hsl K me he se ta bs bw gr hd jo le cs cw fr to ms mw os ow kn nu ox va history_next history_size plannedTalks planned open_size open_lesser open_other search_crowdSize search_crowd search_masses_sums search_masses_weights search_row search_lines s undos kept known whose lesser other opn sums weights row plan planned_m hs hR)
    | 10, _, e => exact x_tabIn 482 hC (nI 10) e 450 dL_law_32 (by decide) (by decide) (by decide) (by decide) (cs_lose hC hX hbl hbA hii hL hcl hsl K me he se ta bs bw gr hd jo le cs cw fr to ms mw os ow kn nu ox va history_next history_size plannedTalks planned open_size open_lesser open_other search_crowdSize search_crowd search_masses_sums search_masses_weights search_row search_lines s undos kept known whose lesser other opn sums weights row plan planned_m hs hR)
    | 11, _, e => exact x_tabIn 505 hC (nI 11) e 473 dL_law_32 (by decide) (by decide) (by decide) (by decide) (cs_seed hC hX hbl hbA hii hL hcl hsl K me he se ta bs bw gr hd jo le cs cw fr to ms mw os ow kn nu ox va history_next history_size plannedTalks planned open_size open_lesser open_other search_crowdSize search_crowd search_masses_sums search_masses_weights search_row search_lines s undos kept known whose lesser other opn sums weights row plan planned_m hs hR)
    | 12, _, e => exact x_tabIn 528 hC (nI 12) e 496 dL_law_32 (by decide) (by decide) (by decide) (by decide) (cs_draw hC hX hbl hbA hii hL hcl hsl K me he se ta bs bw gr hd jo le cs cw fr to ms mw os ow kn nu ox va history_next history_size plannedTalks planned open_size open_lesser open_other search_crowdSize search_crowd search_masses_sums search_masses_weights search_row search_lines s undos kept known whose lesser other opn sums weights row plan planned_m hs hR)
    | 13, _, e => exact x_tabIn 561 hC (nI 13) e 529 dL_law_32 (by decide) (by decide) (by decide) (by decide) (cs_round hC hX hbl hbA hii hL hcl hsl K me he se ta bs bw gr hd jo le cs cw fr to ms mw os ow kn nu ox va history_next history_size plannedTalks planned open_size open_lesser open_other search_crowdSize search_crowd search_masses_sums search_masses_weights search_row search_lines s undos kept known whose lesser other opn sums weights row plan planned_m hs hR)
    | 14, _, e => exact x_tabIn 594 hC (nI 14) e 562 dL_law_32 (by decide) (by decide) (by decide) (by decide) (cs_fresh hC hX hbl hbA hii hL hcl hsl K me he se ta bs bw gr hd jo le cs cw fr to ms mw os ow kn nu ox va history_next history_size plannedTalks planned open_size open_lesser open_other search_crowdSize search_crowd search_masses_sums search_masses_weights search_row search_lines s undos kept known whose lesser other opn sums weights row plan planned_m hs hR)
    | 15, _, e => exact x_tabIn 607 hC (nI 15) e 575 dL_law_32 (by decide) (by decide) (by decide) (by decide) (cs_undo hC hX hbl hbA hii hL hcl hsl K me he se ta bs bw gr hd jo le cs cw fr to ms mw os ow kn nu ox va history_next history_size plannedTalks planned open_size open_lesser open_other search_crowdSize search_crowd search_masses_sums search_masses_weights search_row search_lines s undos kept known whose lesser other opn sums weights row plan planned_m hs hR)
    | 16, _, e => exact x_tabIn 620 hC (nI 16) e 588 dL_law_32 (by decide) (by decide) (by decide) (by decide) (cs_about hC hX hbl hbA hii hL hcl hsl K me he se ta bs bw gr hd jo le cs cw fr to ms mw os ow kn nu ox va history_next history_size plannedTalks planned open_size open_lesser open_other search_crowdSize search_crowd search_masses_sums search_masses_weights search_row search_lines s undos kept known whose lesser other opn sums weights row plan planned_m hs hR)
    | 17, _, e => exact x_tabIn 653 hC (nI 17) e 621 dL_law_32 (by decide) (by decide) (by decide) (by decide) (cs_mass hC hX hbl hbA hii hL hcl hsl K me he se ta bs bw gr hd jo le cs cw fr to ms mw os ow kn nu ox va history_next history_size plannedTalks planned open_size open_lesser open_other search_crowdSize search_crowd search_masses_sums search_masses_weights search_row search_lines s undos kept known whose lesser other opn sums weights row plan planned_m hs hR)
    | 18, _, e => exact x_tabIn 703 hC (nI 18) e 671 dL_law_32 (by decide) (by decide) (by decide) (by decide) (cs_guess hC hX hbl hbA hii hL hcl hsl K me he se ta bs bw gr hd jo le cs cw fr to ms mw os ow kn nu ox va history_next history_size plannedTalks planned open_size open_lesser open_other search_crowdSize search_crowd search_masses_sums search_masses_weights search_row search_lines s undos kept known whose lesser other opn sums weights row plan planned_m hs hR)
    | 19, _, e => exact x_tabIn 727 hC (nI 19) e 695 dL_law_32 (by decide) (by decide) (by decide) (by decide) (cs_book hC hX hbl hbA hii hL hcl hsl K me he se ta bs bw gr hd jo le cs cw fr to ms mw os ow kn nu ox va history_next history_size plannedTalks planned open_size open_lesser open_other search_crowdSize search_crowd search_masses_sums search_masses_weights search_row search_lines s undos kept known whose lesser other opn sums weights row plan planned_m hs hR)
    | 20, _, e => exact x_tabIn 787 hC (nI 20) e 755 dL_law_32 (by decide) (by decide) (by decide) (by decide) (cs_letter hC hX hbl hbA hii hL hcl hsl K me he se ta bs bw gr hd jo le cs cw fr to ms mw os ow kn nu ox va history_next history_size plannedTalks planned open_size open_lesser open_other search_crowdSize search_crowd search_masses_sums search_masses_weights search_row search_lines s undos kept known whose lesser other opn sums weights row plan planned_m hs hR)
    | 21, _, e => exact x_tabIn 821 hC (nI 21) e 789 dL_law_32 (by decide) (by decide) (by decide) (by decide) (cs_owed hC hX hbl hbA hii hL hcl hsl K me he se ta bs bw gr hd jo le cs cw fr to ms mw os ow kn nu ox va history_next history_size plannedTalks planned open_size open_lesser open_other search_crowdSize search_crowd search_masses_sums search_masses_weights search_row search_lines s undos kept known whose lesser other opn sums weights row plan planned_m hs hR)
    | 22, _, e => exact x_tabIn 861 hC (nI 22) e 829 dL_law_32 (by decide) (by decide) (by decide) (by decide) (cs_all hC hX hbl hbA hii hL hcl hsl K me he se ta bs bw gr hd jo le cs cw fr to ms mw os ow kn nu ox va history_next history_size plannedTalks planned open_size open_lesser open_other search_crowdSize search_crowd search_masses_sums search_masses_weights search_row search_lines s undos kept known whose lesser other opn sums weights row plan planned_m hs hR)
    | 23, _, e => exact x_tabIn 901 hC (nI 23) e 869 dL_law_32 (by decide) (by decide) (by decide) (by decide) (cs_far hC hX hbl hbA hii hL hcl hsl K me he se ta bs bw gr hd jo le cs cw fr to ms mw os ow kn nu ox va history_next history_size plannedTalks planned open_size open_lesser open_other search_crowdSize search_crowd search_masses_sums search_masses_weights search_row search_lines s undos kept known whose lesser other opn sums weights row plan planned_m hs hR)
    | 24, _, e => exact x_tabIn 915 hC (nI 24) e 883 dL_law_32 (by decide) (by decide) (by decide) (by decide) (cs_unsure hC hX hbl hbA hii hL hcl hsl K me he se ta bs bw gr hd jo le cs cw fr to ms mw os ow kn nu ox va history_next history_size plannedTalks planned open_size open_lesser open_other search_crowdSize search_crowd search_masses_sums search_masses_weights search_row search_lines s undos kept known whose lesser other opn sums weights row plan planned_m hs hR)
    | 25, _, e => exact x_tabIn 928 hC (nI 25) e 896 dL_law_32 (by decide) (by decide) (by decide) (by decide) (cs_many hC hX hbl hbA hii hL hcl hsl K me he se ta bs bw gr hd jo le cs cw fr to ms mw os ow kn nu ox va history_next history_size plannedTalks planned open_size open_lesser open_other search_crowdSize search_crowd search_masses_sums search_masses_weights search_row search_lines s undos kept known whose lesser other opn sums weights row plan planned_m hs hR)
    | 26, _, e => exact x_tabIn 952 hC (nI 26) e 920 dL_law_32 (by decide) (by decide) (by decide) (by decide) (cs_ticket hC hX hbl hbA hii hL hcl hsl K me he se ta bs bw gr hd jo le cs cw fr to ms mw os ow kn nu ox va history_next history_size plannedTalks planned open_size open_lesser open_other search_crowdSize search_crowd search_masses_sums search_masses_weights search_row search_lines s undos kept known whose lesser other opn sums weights row plan planned_m hs hR)
    | 27, _, e => exact x_tabIn 985 hC (nI 27) e 953 dL_law_32 (by decide) (by decide) (by decide) (by decide) (cs_fewest hC hX hbl hbA hii hL hcl hsl K me he se ta bs bw gr hd jo le cs cw fr to ms mw os ow kn nu ox va history_next history_size plannedTalks planned open_size open_lesser open_other search_crowdSize search_crowd search_masses_sums search_masses_weights search_row search_lines s undos kept known whose lesser other opn sums weights row plan planned_m hs hR)
    | 28, _, e => exact x_tabIn 1008 hC (nI 28) e 976 dL_law_32 (by decide) (by decide) (by decide) (by decide) (cs_plan hC hX hbl hbA hii hL hcl hsl K me he se ta bs bw gr hd jo le cs cw fr to ms mw os ow kn nu ox va history_next history_size plannedTalks planned open_size open_lesser open_other search_crowdSize search_crowd search_masses_sums search_masses_weights search_row search_lines s undos kept known whose lesser other opn sums weights row plan planned_m hs hR)
    | 29, _, e => exact x_tabIn 1031 hC (nI 29) e 999 dL_law_32 (by decide) (by decide) (by decide) (by decide) (cs_count hC hX hbl hbA hii hL hcl hsl K me he se ta bs bw gr hd jo le cs cw fr to ms mw os ow kn nu ox va history_next history_size plannedTalks planned open_size open_lesser open_other search_crowdSize search_crowd search_masses_sums search_masses_weights search_row search_lines s undos kept known whose lesser other opn sums weights row plan planned_m hs hR)
    | 30, _, e => exact x_tabIn 1054 hC (nI 30) e 1022 dL_law_32 (by decide) (by decide) (by decide) (by decide) (cs_digest hC hX hbl hbA hii hL hcl hsl K me he se ta bs bw gr hd jo le cs cw fr to ms mw os ow kn nu ox va history_next history_size plannedTalks planned open_size open_lesser open_other search_crowdSize search_crowd search_masses_sums search_masses_weights search_row search_lines s undos kept known whose lesser other opn sums weights row plan planned_m hs hR)
    | 31, _, e => exact x_tabOut 1068 hC dL_law_32 (by rw [e]; decide) (by decide) (x_widen (k := cells + 25) (n := slots + 629) (by omega) (by omega) (K me he se ta bs bw gr hd jo le cs cw fr to ms mw os ow kn nu ox va history_next history_size plannedTalks planned open_size open_lesser open_other search_crowdSize search_crowd search_masses_sums search_masses_weights search_row search_lines s undos kept known whose lesser other opn sums weights row plan planned_m hs hR))
    | j + 32, hj, _ => exact absurd hj (by omega)
set_option maxHeartbeats 4000000 in
set_option maxRecDepth 100000 in
theorem law_loop {p : Program} {l : Launch} {e : Env} {S0 : State} {m : MethodId} {args : Array Value} {below : List Frame} {meth : Method} {c : Code} {D : va_G} {A : Nat → Prop} {Q : State → Prop} {cI cJ cQ : ClassId} {ax am b L : Nat} {u w : Nat → Nat} {xs : Nat → Int32} (hC : XC p S0 m args meth c D A 4 [(cI, .int), (cJ, .long), (cQ, .object "WhisperCrowd$State")] RL cL_law wsL_law ret) (hX : va_X b L xs S0 S0.heap) (hbl : b < S0.heap.size) (hbA : ¬ A b) (hL : L ≤ 2048) (hE : ∀ (es tl : va_W) (lv : List (Nat × Value)) (cells slots : Nat), cells ≤ 600000 → slots ≤ 7302250 → XW p l e room_1 S0 m args below meth c D A 4 cells slots Q es tl lv 1075 [.int 1]) : ∀ (d ii cells slots : Nat), L ≤ ii + d → ii ≤ 2052 → cells ≤ 1000 + 25 * ii → slots ≤ 100000 + 629 * ii → LGo p l e S0 m args below meth c D A Q cI cJ cQ ax am b u w cells slots ii 18
  | 0, ii, cells, slots, h1, h2, h3, h4 => law_head hC hX hbl hbA hL h2 (by omega) (by omega) hE (fun hii => absurd hii (by omega))
  | d + 1, ii, cells, slots, h1, h2, h3, h4 => by
    refine law_head hC hX hbl hbA hL h2 (by omega) (by omega) hE (fun hii => ?_)
    intro me he se ta bs bw gr hd jo le cs cw fr to ms mw os ow kn nu ox va history_next history_size plannedTalks planned open_size open_lesser open_other search_crowdSize search_crowd search_masses_sums search_masses_weights search_row search_lines s undos kept known whose lesser other opn sums weights row plan planned_m hs hR
    refine x_iinc 1071 0 [(3, .int (nI (ii + 4))), (2, .ref am), (1, .ref ax), (0, .ref b)] hC dL_law_1068 rfl rfl (show nI (ii + 4) = nI ii + (4 : Int32) from (nI_add ii 4).symm) (by decide) (by decide) rfl ?_
    refine x_goto 18 hC dL_law_1071 (by decide) ?_
    exact law_loop hC hX hbl hbA hL hE d (ii + 4) (cells + 25) (slots + 629) (by omega) (by omega) (by omega) (by omega) me he se ta bs bw gr hd jo le cs cw fr to ms mw os ow kn nu ox va history_next history_size plannedTalks planned open_size open_lesser open_other search_crowdSize search_crowd search_masses_sums search_masses_weights search_row search_lines s undos kept known whose lesser other opn sums weights row plan planned_m hs hR
set_option maxHeartbeats 4000000 in
set_option maxRecDepth 100000 in
theorem whole_start {p : Program} {e : Env} {s : State} {m : MethodId} {below : List Frame} {meth : Method} {c : Code} (l : Launch) (hflags : l.flags = flags0) {b L : Nat} {xs : Nat → Int32} (hL : L ≤ 2048) (C0 : lw_At p s m meth c b L xs) : W p l e room_1 s m #[Value.ref b] below meth c s.heap [] 0 0 (lw_Z below #[Value.ref b] s) (entryFrame m ([Value.ref b] : List Value).toArray 4) := by
  obtain ⟨hx, hb, hr, hml, hown, hts, hX, hbl, hlocks, hgv⟩ := id C0
  refine W.base ?_
  have hd0 := Drawn.sameBut.refl s.drawn lw_cs
  have hts1 := dr_words hts s.drawn
  obtain ⟨D, cI, cJ, cQ, hK, hN⟩ := start_K hts1
  have hbA : ¬ (fun q : Nat => s.heap.size ≤ q) b := Nat.not_le.mpr hbl
  have hC : XC p (s.setDrawn s.drawn) m #[Value.ref b] meth c D (fun q : Nat => s.heap.size ≤ q) 4 [(cI, .int), (cJ, .long), (cQ, .object "WhisperCrowd$State")] RL cL_law wsL_law ret := ⟨hx, hb, hml, hown, fun w h => hts1 w (wsL_law_in w h), hK, fun q h => h, hr, hlocks, hN⟩
  have hE : ∀ (es tl : va_W) (lv : List (Nat × Value)) (cells slots : Nat), cells ≤ 600000 → slots ≤ 7302250 → XW p l e room_1 (s.setDrawn s.drawn) m #[Value.ref b] below meth c D (fun q : Nat => s.heap.size ≤ q) 4 cells slots (lw_Z below #[Value.ref b] s) es tl lv 1075 [.int 1] := fun es tl lv cells slots h1 h2 H locs ls hP hD hS hl => va_forget (fun q hq => hS.2.2 q hq) (W.widen h1 h2 (lw_ret hd0 hx hb hr hlocks dL_law_1075))
  have hl := lv_entry ([.ref b]) (n := 4) (Nat.le_of_ble_eq_true rfl)
  rw [lg_entry_eq]
  generalize (lg_sl ([.ref b]) ++ List.replicate (4 - (lg_sl ([.ref b])).length) Slot.unset).toArray = ls at hl ⊢
  have hl : lv_has ls 4 [(0, .ref b)] := hl
  have hX2 : va_X b L xs (s.setDrawn s.drawn) (s.setDrawn s.drawn).heap := hX
  exact law_entry (L := L) (xs := xs) hC (fun ax am u w => law_loop hC hX2 hbl hbA hL hE L 0 49 13895 (by omega) (by omega) (by omega) (by omega)) s.heap [] ls (fun k q h => by simp at h) ⟨fun i j p q h => by simp at h, fun k q h => by simp at h⟩ va_S.rf hl
-- ===== YOUR PART ENDS =====
set_option maxHeartbeats 4000000 in
theorem lw_walk (l : Launch) (hflags : l.flags = flags0) (b : Addr) (xs : List Int32) : MetFree l x (headSpec (Jvm.Cond.code x code maxLocals ret :: tables_1) room_1) (lw_P b xs) (fun _ _ _ _ _ => True) lw_Q := by
  refine MetFree.of_bodyS (code := code) (maxLocals := maxLocals) (ret := ret) (by decide) ?_ ?_
  · intro args s m h hn
    obtain ⟨meth, c, h1, h2, h3, h4, h5, h6, -, -⟩ := Cond.code_spec hn (atoms_spec (ws := Jvm.Cond.code x code maxLocals ret :: tables_1) h _ List.mem_cons_self)
    exact ⟨meth, c, h1, h2, h3, h4, h5, h6⟩
  · intro p e s m args below meth c s₁ B hml0 hP _
    obtain ⟨rfl, hx, hbd, hgv⟩ := hP
    obtain ⟨scr, harrAt, hlist, hof, hsmall⟩ := hx
    obtain ⟨hcb, hkn, -, -⟩ := State.arrayAt?_spec harrAt
    have hown : s.vm.findClass R_law = some m.cls := findClass_of_methodNamed B.named
    have hts0 : ∀ c ∈ (Jvm.Cond.code x code maxLocals ret :: tables_1), c.before #[Value.ref b] s = true := atoms_spec (ws := Jvm.Cond.code x code maxLocals ret :: tables_1) B.pre
    have hts : ∀ w ∈ lw_tbl, w.before #[Value.ref b] s = true := k2_hts_sels lw_privs (fun w hw => hts0 w (List.mem_cons_of_mem _ hw)) lw_privs_ok
    have hml : c.maxLocals = 4 := B.maxLocals_eq (hts0 _ List.mem_cons_self)
    have X₀ : Stand p l e room_1 s m #[Value.ref b] below meth c s₁ [] 0 0 := Stand.of_body B
    have hh0 : s₁.heap = s.heap := by rw [B.state]; rfl
    have hsz : scr.slots.size = xs.length := by rw [← Array.length_toList, hlist, List.length_map]
    have hval : ∀ j : Nat, j < xs.length → scr.slots[j]? = some (.int (xs.getD j 0)) := fun j hj => by
      rw [← Array.getElem?_toList, hlist]
      simp [hj]
    have hbl : b < s.heap.size := (Array.getElem?_eq_some_iff.mp hcb).1
    have hX : va_X b xs.length (fun j => xs.getD j 0) s s.heap := ⟨scr, hcb, hof, hkn, hsz, hval⟩
    have K : W p l e room_1 s m #[Value.ref b] below meth c s₁.heap [] 0 0 (lw_Z below #[Value.ref b] s) (entryFrame m ([Value.ref b] : List Value).toArray 4) := by
      rw [hh0]
      exact whole_start l hflags hbd ⟨B.exec, B.bytes, B.returns, hml, hown, hts, hX, hbl, B.notSynchronized, hgv⟩
    obtain ⟨t, a1, o, b1, b2, b3⟩ := K s₁ rfl X₀
    exact ⟨t, o, a1, b1, b2, b3⟩
theorem lw_pre_spec {args : Array Value} {s : State} (h : (Jvm.Cond.and given_1 narrow_1).before args s = true) (hr : rest_1_c.before args s = true) : ∃ (b : Addr) (xs : List Int32), lw_P b xs args s := by
  have hs := flat_of_before _ h
  have hq := flat_of_before _ hr
  have hc : (Cond.count 1).before args s = true := hs _ (by decide +kernel)
  have harr : (Cond.arrayOf (.arg 0) .int).before args s = true := hs _ (by decide +kernel)
  have hle : (Cond.le (.length (.arg 0)) (.int 2048)).before args s = true := hs _ (by decide +kernel)
  have hlen : (Cond.isInt (.length (.arg 0))).before args s = true := hq _ (by decide +kernel)
  have hall : (Cond.all (.arg 0) (.isInt (.elem (.arg 0) (.index 0)))).before args s = true := hq _ (by decide +kernel)
  obtain ⟨b, xs, hb, hx⟩ := State.ints_of_pre rfl harr hlen hall
  have hsm : xs.length < 2 ^ 31 := hx.choose_spec.2.2.2
  have hev : (Term.length (.arg 0)).eval args s none [] s = some (.int xs.length.toInt32) := hx.length_eval hb
  have hv := Cond.le_ints hev (show (Term.int 2048).eval args s none [] s = some (.int 2048) from rfl)
  have hd : xs.length.toInt32 ≤ 2048 := by
    simpa [Cond.before, Cond.holds, hv] using hle
  have hN : xs.length ≤ 2048 := (Int32.ofNat_le_ofNat hsm (by decide)).mp (show Int32.ofNat xs.length ≤ Int32.ofNat 2048 from hd)
  exact ⟨b, xs, Cond.one_arg hc (show args[0]? = some (.ref b) from hb), hx, hN, h⟩
theorem lw_comes (l : Launch) (hflags : l.flags = flags0) : Comes l x (Jvm.Cond.code x code maxLocals ret :: tables_1) room_1 (fun tb e args s => Calls_1 tb e args s ∧ rest_1 tb e args s ∧ Pre_1 tb e args s)
    (fun _ _ args s o t => lw_Q args s o t) := by
  intro p e ha hc hk s m args below hf hfit hheap happ hpre
  obtain ⟨b, xs, hP⟩ := lw_pre_spec hpre.2.2 hpre.2.1
  obtain ⟨k, o, h1, h2, h3, hQ⟩ := lw_walk l hflags b xs p e ha hc hk s m args below hf ((Spec.applies_iff_loose hf).mp happ).1 hP trivial
  exact ⟨k, o, h1, h2, h3, hQ⟩
theorem lw_frame {s t : State} {o : Outcome} {args : Array Value} (h : State.butDraws s t lw_cs (fun t1 => Framed s o t1 [] 600000 7302250)) :
    State.butDraws s t [Jvm.Choice.named "NaN.bits"] (fun t1 => Framed s o t1 (fieldLocs frame_1_writes args s ++ arrayLocs frame_1_arrays args s ++ staticLocs frame_1_statics s) 600000 7302250) := h
theorem lw_limb (L : Cond) (hL : ∀ (args : Array Value) (s t : State), L.after args s (.returned (some (.int 1))) t = true) :
    ArmFor flags0 classFile x code maxLocals ret World_1 tables_1 room_1 Calls_1 rest_1 Pre_1
      (fun tb e a s o t => postC L tb e a s o t ∧ State.butDraws s t [Jvm.Choice.named "NaN.bits"] (fun t1 => Framed s o t1 (fieldLocs frame_1_writes a s ++ arrayLocs frame_1_arrays a s ++ staticLocs frame_1_statics s) 600000 7302250)) := by
  intro l hflags _ _ p e ha hc hk s m args below hf hfit hheap happ hpre
  obtain ⟨k, o, h1, h2, h3, rfl, hF⟩ := lw_comes l hflags p e ha hc hk s m args below hf hfit hheap happ hpre
  exact ⟨k, _, h1, h2, h3, hL args s _, lw_frame hF⟩
theorem i_vc : Claimed_1_1 ∧ Claimed_1_2 := ⟨lw_limb limb_1_1 (fun args s t => by simp [limb_1_1, Cond.after, Cond.holds, Cond.value]), lw_limb limb_1_2 (fun args s t => Cond.after_iff.mpr (by
  first | (rw [show limb_1_2 = Cond.eq .result (.int 1) from rfl, Cond.eq_ints (x := 1) (y := 1) rfl rfl]; simp; done) | (simp [limb_1_2, Cond.value, Term.eval]; done)))⟩
