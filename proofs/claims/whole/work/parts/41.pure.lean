/-! the pure layer: small rows over the pure texts -/
theorem nm_q {α β : Type} (x : α) (k : α → Option β) : nm x k = k x := rfl
theorem bd_q {α β : Type} (y : α) (k : α → Option β) : bd (some y) k = k y := rfl
theorem ck_q {β : Type} {a N : Nat} {k : Option β} (h : a < N) (hN : N < 2 ^ 31) : ck (nI a) N k = k := if_neg (nI_in h hN)
theorem ck_v {β : Type} {i : Int32} {N : Nat} {k : Option β} (h : vp_in i N) : ck i N k = k := if_neg h
theorem ckp_q {β : Type} {P : Prop} {i : Decidable P} {k : Option β} (h : P) : ckp P i k = k := if_pos h
noncomputable def bi (P : Prop) : Int32 := @ite _ P (Classical.propDecidable P) 1 0
theorem bi_t {P : Prop} (h : P) : bi P = 1 := if_pos h
theorem bi_f {P : Prop} (h : ¬ P) : bi P = 0 := if_neg h
theorem bi_0 {P : Prop} : bi P = 0 ↔ ¬ P := by
  by_cases h : P
  · rw [bi_t h]; exact ⟨fun e => absurd e (by decide), fun e => absurd h e⟩
  · rw [bi_f h]; exact ⟨fun _ => h, fun _ => rfl⟩
theorem bi_iff {P Q : Prop} (h : P ↔ Q) : bi P = bi Q := by rw [propext h]
theorem ite_10 {P : Prop} {i : Decidable P} : (@ite _ P i (some (1 : Int32)) (some (0 : Int32))) = some (bi P) := by
  by_cases h : P
  · rw [if_pos h, bi_t h]
  · rw [if_neg h, bi_f h]
theorem ite_01 {P : Prop} {i : Decidable P} : (@ite _ P i (some (0 : Int32)) (some (1 : Int32))) = some (bi (¬ P)) := by
  by_cases h : P
  · rw [if_pos h, bi_f (fun e => e h)]
  · rw [if_neg h, bi_t h]
theorem nb_bi (P : Prop) : narrow .boolean (.int (bi P)) = .int (bi P) := by
  by_cases h : P
  · rw [bi_t h]; rfl
  · rw [bi_f h]; rfl
theorem nb_v {x : Int32} (h : x = 0 ∨ x = 1) : narrow .boolean (.int x) = .int x := by
  rcases h with rfl | rfl <;> rfl
/-- the number of an index, as a natural one -/
abbrev nn (x : Int32) : Nat := x.toNatClampNeg
theorem nn_nI {x : Int32} {N : Nat} (h : vp_in x N) (hN : N < 2 ^ 31) : x = nI (nn x) ∧ nn x < N := by
  obtain ⟨j, hj, rfl⟩ := vp_in_of h hN
  rw [show nn (nI j) = j from nI_clamp (by omega)]
  exact ⟨rfl, hj⟩
theorem nn_I {n : Nat} (h : n < 2 ^ 31) : nn (nI n) = n := nI_clamp h
theorem vi_nI {n N : Nat} (hn : n < 2 ^ 31) (hN : N < 2 ^ 31) : vp_in (nI n) N ↔ n < N := by
  constructor
  · intro h; have := (nn_nI h hN).2; rwa [nn_I hn] at this
  · intro h; exact vp_in_nI h hN
theorem upI_s {f : Nat → Int32} {k : Nat} {x : Int32} : upd f k x k = x := pk_us
theorem upL_s {f : Nat → Int64} {k : Nat} {x : Int64} : vp_updL f k x k = x := pk_uLs
theorem upI_a (f : Nat → Int32) (k j : Nat) (x : Int32) : upd f k x j = if j = k then x else f j := rfl
theorem upL_a (f : Nat → Int64) (k j : Nat) (x : Int64) : vp_updL f k x j = if j = k then x else f j := rfl
theorem cpyI {f g : Nat → Int32} {n j : Nat} (h : j < n) : va_cpy f g 0 0 n j = f j := by
  unfold va_cpy; rw [if_pos ⟨Nat.zero_le _, by omega⟩]; congr 1; omega
theorem cpyL {f g : Nat → Int64} {n j : Nat} (h : j < n) : va_cpy f g 0 0 n j = f j := by
  unfold va_cpy; rw [if_pos ⟨Nat.zero_le _, by omega⟩]; congr 1; omega
theorem fu_ge {n : Nat} (h : n < 100000) : n < fu := h
/-- bits of small numbers, looked up -/
def tb (h m : Nat) : Bool := h.testBit m
theorem tb_i : ∀ h, h < 1024 → ∀ m, m < 10 → ((nI h >>> (nI m &&& 31)) &&& (1 : Int32)) = if tb h m then 1 else 0 := by decide +kernel
theorem tb_l : ∀ h, h < 1024 → ∀ m, m < 10 → (((nI h).toInt64 >>> ((nI m).toInt64 &&& 63)) &&& (1 : Int64)) = if tb h m then 1 else 0 := by decide +kernel
theorem tb_or : ∀ h, h < 1024 → ∀ m, m < 10 → (nI h ||| ((1 : Int32) <<< (nI m &&& 31))) = nI (h ||| 2 ^ m) := by decide +kernel
theorem tb_orl : ∀ h, h < 1024 → ∀ m, m < 10 → ((nI h).toInt64 ||| ((1 : Int64) <<< ((nI m).toInt64 &&& 63))) = (nI (h ||| 2 ^ m)).toInt64 := by decide +kernel
theorem tb_cl : ∀ h, h < 1024 → ∀ m, m < 10 → (nI h &&& (((1 : Int32) <<< (nI m &&& 31)) ^^^ (-1 : Int32))) = nI (h &&& (1023 ^^^ 2 ^ m)) := by decide +kernel
theorem tb_cll : ∀ h, h < 1024 → ∀ m, m < 10 → ((nI h).toInt64 &&& (((1 : Int64) <<< ((nI m).toInt64 &&& 63)) ^^^ (-1 : Int64))) = (nI (h &&& (1023 ^^^ 2 ^ m))).toInt64 := by decide +kernel
theorem tb_sh : ∀ m, m < 10 → ((1 : Int32) <<< (nI m &&& 31)) = nI (2 ^ m) ∧ ((1 : Int64) <<< ((nI m).toInt64 &&& 63)) = (nI (2 ^ m)).toInt64 := by decide +kernel
theorem tb_pw (m b : Nat) : tb (2 ^ m) b = decide (m = b) := by unfold tb; rw [Nat.testBit_two_pow]
theorem tb_o (h m b : Nat) : tb (h ||| 2 ^ m) b = (tb h b || decide (m = b)) := by unfold tb; rw [Nat.testBit_or, Nat.testBit_two_pow]
theorem tb_c : ∀ h, h < 1024 → ∀ m, m < 10 → ∀ b, b < 10 → tb (h &&& (1023 ^^^ 2 ^ m)) b = (tb h b && !(decide (m = b))) := by
  intro h _ m hm b hb
  unfold tb
  rw [Nat.testBit_and, Nat.testBit_xor, Nat.testBit_two_pow]
  have h1 : Nat.testBit 1023 b = true := by
    have : ∀ b, b < 10 → Nat.testBit 1023 b = true := by decide
    exact this b hb
  rw [h1]; cases h.testBit b <;> cases (decide (m = b)) <;> rfl
theorem tb_olt {h m : Nat} (hh : h < 1024) (hm : m < 10) : h ||| 2 ^ m < 1024 := by
  have : 2 ^ m < 2 ^ 10 := Nat.pow_lt_pow_right (by decide) hm
  exact Nat.or_lt_two_pow (n := 10) hh this
theorem tb_clt {h k : Nat} (hh : h < 1024) : h &&& k < 1024 := Nat.lt_of_le_of_lt Nat.and_le_left hh
theorem tb_hi {h b : Nat} (hh : h < 1024) (hb : 10 ≤ b) : tb h b = false := by
  unfold tb
  exact Nat.testBit_lt_two_pow (Nat.lt_of_lt_of_le hh (by have : (2:Nat) ^ 10 ≤ 2 ^ b := Nat.pow_le_pow_right (by decide) hb; omega))
theorem tb_ext {h k : Nat} (hh : h < 1024) (hk : k < 1024) (e : ∀ b, b < 10 → tb h b = tb k b) : h = k := by
  apply Nat.eq_of_testBit_eq
  intro b
  rcases Nat.lt_or_ge b 10 with hb | hb
  · exact e b hb
  · have h1 := tb_hi hh hb; have h2 := tb_hi hk hb
    unfold tb at h1 h2; rw [h1, h2]
/-- how many of the ten bits -/
def pop (h : Nat) : Nat := ((List.range 10).filter (fun b => tb h b)).length
theorem bitc : ∀ h, h < 1024 → f_J6_bitCount_0f7a4 (nI h) = some (nI (pop h)) := by decide +kernel
theorem in_spec (a b c : Int64) : f_X8_in a b c = some (bi (b.toInt ≤ a.toInt ∧ a.toInt ≤ c.toInt)) := by
  unfold f_X8_in
  by_cases h : a < b
  · rw [if_pos h, bi_f]; rw [Int64.lt_iff_toInt_lt] at h; omega
  · rw [if_neg h]
    rw [Int64.lt_iff_toInt_lt] at h
    by_cases h2 : c < a
    · rw [if_pos h2, bi_f]; rw [Int64.lt_iff_toInt_lt] at h2; omega
    · rw [if_neg h2, bi_t]; rw [Int64.lt_iff_toInt_lt] at h2; omega
theorem i2l_i (x : Int32) : x.toInt64.toInt = x.toInt := Int32.toInt_toInt64 x
theorem i2l_inj {x y : Int32} : x.toInt64 = y.toInt64 ↔ x = y := by
  rw [← Int64.toInt_inj, i2l_i, i2l_i, Int32.toInt_inj]
theorem i2l_back (x : Int32) : x.toInt64.toInt32 = x := by simp
theorem lN_m1 : ∀ n, n < 64 → (lN n - 1).toInt = (n : Int) - 1 := by decide +kernel
theorem X8_isMember {s : Nat → Int64} {n : Nat} (p : Int32) (h0 : s 0 = lN n) (hn : n ≤ 10) : f_X8_isMember s p = some (bi (vp_in p n)) := by
  unfold f_X8_isMember
  rw [show (0 : Int32) = nI 0 from rfl, ck_q (by omega) (by omega), in_spec, bd_q, ckp_q (nb_bi _), nI_clamp (by omega), h0, lN_m1 n (by omega), i2l_i]
  congr 1; apply bi_iff
  rw [vp_in_iff]
  show (0 : Int) ≤ _ ∧ _ ↔ _
  omega
theorem X7_isMember {n : Nat} (p : Int32) (hn : n ≤ 10) : f_X7_isMember (nI n) p = some (bi (vp_in p n)) := by
  unfold f_X7_isMember
  by_cases h : p < 0
  · rw [if_pos h, bi_f]; exact fun e => e (Or.inl h)
  · rw [if_neg h]
    by_cases h2 : nI n ≤ p
    · rw [if_pos h2, bi_f]
      intro e; obtain ⟨j, hj, rfl⟩ := vp_in_of e (by omega)
      rw [nI_leI (by omega) (by omega)] at h2; omega
    · rw [if_neg h2, bi_t]
      rw [vp_in_iff]
      rw [Int32.lt_iff_toInt_lt] at h; rw [Int32.le_iff_toInt_le, nI_toInt (by omega)] at h2
      have : (0 : Int32).toInt = 0 := rfl
      omega
