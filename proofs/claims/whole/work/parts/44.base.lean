/-! small questions, answered alike -/
theorem R0.get {me he se ta : Int32} {s : Nat → Int64} (h : R0 me he se ta s) : ∃ n q : Nat, n ≤ 10 ∧ q < 1024 ∧ me = nI n ∧ he = nI q ∧ nn me = n ∧ nn he = q ∧ s 0 = lN n ∧ (∀ m, m < 10 → s (13 + m) = if tb q m then 1 else 0) ∧ (∀ m, n ≤ m → m < 10 → tb q m = false) := by
  obtain ⟨h1, h2, h3, h4, h5, -⟩ := h
  obtain ⟨e1, l1⟩ := nn_nI h1 (by omega)
  obtain ⟨e3, l3⟩ := nn_nI h3 (by omega)
  refine ⟨nn me, nn he, by omega, l3, e1, e3, rfl, rfl, ?_, h4, h5⟩
  rw [h2, e1, nI_l (by omega)]; rw [← e1]
theorem and_bi {P Q : Prop} : (if bi P = 0 then some (0 : Int32) else some (bi Q)) = some (bi (P ∧ Q)) := by
  by_cases h : P
  · rw [if_neg (by rw [bi_0]; exact fun e => e h)]; congr 1; exact bi_iff ⟨fun q => ⟨h, q⟩, fun q => q.2⟩
  · rw [if_pos (bi_0.mpr h), bi_f (fun q => h q.1)]
theorem X5_isHere {q m : Nat} (hq : q < 1024) (hm : m < 10) : f_X5_isHere (nI q) (nI m) = some (bi (tb q m = true)) := by
  unfold f_X5_isHere
  rw [tb_i q hq m hm, ite_01]
  congr 1; apply bi_iff
  cases tb q m <;> simp
theorem X7_isHere {n q : Nat} (p : Int32) (hn : n ≤ 10) (hq : q < 1024) : f_X7_isHere (nI n) (nI q) p = some (bi (vp_in p n ∧ tb q (nn p) = true)) := by
  unfold f_X7_isHere
  rw [X7_isMember p hn, bd_q]
  by_cases h : vp_in p n
  · obtain ⟨e, l⟩ := nn_nI h (by omega)
    rw [if_neg (by rw [bi_0]; exact fun k => k h)]
    rw [show f_X5_isHere (nI q) p = some (bi (tb q (nn p) = true)) by rw [e]; rw [nn_I (by omega)]; exact X5_isHere hq (by omega)]
    rw [bd_q]
    by_cases h2 : tb q (nn p) = true
    · rw [if_neg (by rw [bi_0]; exact fun k => k h2), bi_t ⟨h, h2⟩]
    · rw [if_pos (bi_0.mpr h2), bi_f (fun k => h2 k.2)]
  · rw [if_pos (bi_0.mpr h), bi_f (fun k => h k.1)]
theorem X8_isHere {s : Nat → Int64} {n q : Nat} (p : Int32) (hn : n ≤ 10) (h0 : s 0 = lN n) (h1 : ∀ m, m < 10 → s (13 + m) = if tb q m then 1 else 0) : f_X8_isHere s p = some (bi (vp_in p n ∧ tb q (nn p) = true)) := by
  unfold f_X8_isHere
  rw [X8_isMember p h0 hn, bd_q]
  by_cases h : vp_in p n
  · obtain ⟨e, l⟩ := nn_nI h (by omega)
    rw [if_neg (by rw [bi_0]; exact fun k => k h)]
    have e2 : (13 : Int32) + p = nI (13 + nn p) := by rw [show (13 : Int32) = nI 13 from rfl]; conv => lhs; rw [e]; rw [nI_add]
    rw [e2, ck_q (by omega) (by omega), nI_clamp (by omega), h1 _ (by omega), ite_01]
    congr 1; apply bi_iff
    cases hb : tb q (nn p) <;> simp [h]
  · rw [if_pos (bi_0.mpr h), bi_f (fun k => h k.1)]
theorem X7_areTwo {n : Nat} (a b : Int32) (hn : n ≤ 10) : f_X7_areTwo (nI n) a b = some (bi (vp_in a n ∧ vp_in b n ∧ ¬ a = b)) := by
  unfold f_X7_areTwo
  rw [X7_isMember a hn, bd_q, X7_isMember b hn]
  by_cases h : vp_in a n
  · rw [if_neg (by rw [bi_0]; exact fun k => k h), bd_q]
    by_cases h2 : vp_in b n
    · rw [if_neg (by rw [bi_0]; exact fun k => k h2), ite_01]
      congr 1; apply bi_iff; exact ⟨fun e => ⟨h, h2, e⟩, fun e => e.2.2⟩
    · rw [if_pos (bi_0.mpr h2), bi_f (fun k => h2 k.2.1)]
  · rw [if_pos (bi_0.mpr h), bi_f (fun k => h k.1)]
theorem X7_isValue (p : Int32) : f_X7_isValue p = some (bi (-1073741824 ≤ p.toInt ∧ p.toInt ≤ 1073741824)) := by
  unfold f_X7_isValue
  have e1 : (-1073741824 : Int32).toInt = -1073741824 := by decide
  have e2 : (1073741824 : Int32).toInt = 1073741824 := by decide
  by_cases h : p < (-1073741824 : Int32)
  · rw [if_pos h, bi_f]; rw [Int32.lt_iff_toInt_lt] at h; omega
  · rw [if_neg h]; rw [Int32.lt_iff_toInt_lt] at h
    by_cases h2 : (1073741824 : Int32) < p
    · rw [if_pos h2, bi_f]; rw [Int32.lt_iff_toInt_lt] at h2; omega
    · rw [if_neg h2, bi_t]; rw [Int32.lt_iff_toInt_lt] at h2; omega
theorem X8_inVal (p : Int32) : f_X8_in p.toInt64 (-1073741824 : Int64) (1073741824 : Int64) = some (bi (-1073741824 ≤ p.toInt ∧ p.toInt ≤ 1073741824)) := by
  rw [in_spec, i2l_i]
  congr 1
theorem in_small (p : Int32) {a b : Int64} {x y : Int} (ha : a.toInt = x) (hb : b.toInt = y) : f_X8_in p.toInt64 a b = some (bi (x ≤ p.toInt ∧ p.toInt ≤ y)) := by
  rw [in_spec, i2l_i, ha, hb]
theorem X7_isKind (p : Int32) : f_X7_isKind p = some (bi (0 ≤ p.toInt ∧ p.toInt ≤ 2)) := by
  unfold f_X7_isKind
  by_cases h0 : p = 0
  · rw [if_pos h0, bi_t]; subst h0; decide
  · rw [if_neg h0]
    by_cases h1 : p = (1 : Int32)
    · rw [if_pos h1, bi_t]; subst h1; decide
    · rw [if_neg h1]
      by_cases h2 : p = (2 : Int32)
      · rw [if_neg (fun e => e h2), bi_t]; subst h2; decide
      · rw [if_pos h2, bi_f]
        intro e
        have a0 := x_neI h0 (k := 0) (by decide)
        have a1 := x_neI h1 (k := 1) (by decide)
        have a2 := x_neI h2 (k := 2) (by decide)
        omega
theorem X5_isJoined {jo : Nat → Int32} {a b : Nat} (ha : a < 10) (hb : b < 10) (hj : vp_in (jo a) 1024) : f_X5_isJoined jo (nI a) (nI b) = some (bi (tb (nn (jo a)) b = true)) := by
  unfold f_X5_isJoined
  obtain ⟨e, l⟩ := nn_nI hj (by omega)
  rw [ck_q ha (by omega), nI_clamp (by omega)]
  conv => lhs; rw [e]
  rw [tb_i _ l b hb, ite_01]
  congr 1; apply bi_iff
  cases tb (nn (jo a)) b <;> simp
theorem X8_areJoined {s : Nat → Int64} {me : Int32} {jo : Nat → Int32} {a b : Nat} (ha : a < 10) (hb : b < 10) (hJ : RJ me jo s) : f_X8_areJoined s (nI a) (nI b) = some (bi (tb (nn (jo a)) b = true)) := by
  unfold f_X8_areJoined
  obtain ⟨h1, h2, -⟩ := hJ a ha
  obtain ⟨e, l⟩ := nn_nI h1 (by omega)
  rw [show (3 : Int32) = nI 3 from rfl, nI_add, ck_q (by omega) (by omega), nI_clamp (by omega), h2]
  conv => lhs; rw [e]
  rw [tb_l _ l b hb, ite_01]
  congr 1; apply bi_iff
  cases tb (nn (jo a)) b <;> simp
theorem X1_isUnderWay (fr : Nat → Int32) (p : Int32) : f_X1_isUnderWay fr p = some (bi (vp_in p 8 ∧ ¬ fr (nn p) = -1)) := by
  unfold f_X1_isUnderWay
  by_cases h : vp_in p 8
  · obtain ⟨e, l⟩ := nn_nI h (by omega)
    have h1 : ¬ p < 0 := fun q => h (Or.inl q)
    have h2 : ¬ (8 : Int32) ≤ p := by rw [e, show (8 : Int32) = nI 8 from rfl, nI_leI (by omega) (by omega)]; omega
    rw [if_neg h1, if_neg h2, ck_v h, ite_01]
    congr 1; apply bi_iff; exact ⟨fun q => ⟨h, q⟩, fun q => q.2⟩
  · rw [bi_f (fun q => h q.1)]
    by_cases h1 : p < 0
    · rw [if_pos h1]
    · rw [if_neg h1, if_pos]
      rcases pk_ix p (n := 8) (by omega) with q | q | ⟨j, hj, rfl⟩
      · exact absurd q h1
      · exact q
      · exact absurd (vp_in_nI hj (by omega)) h
theorem X8_isUnderWay {s : Nat → Int64} {he : Int32} {cs cw : Nat → Int64} {fr to : Nat → Int32} {k : Nat} (hk : k < 8) (hL : RLt he cs cw fr to s) : f_X8_isUnderWay s (nI k) = some (bi (¬ fr k = -1)) := by
  unfold f_X8_isUnderWay
  rw [show (173 : Int32) = nI 173 from rfl, show (5 : Int32) = nI 5 from rfl, pk_mul, nI_add, ck_q (by omega) (by omega), nI_clamp (by omega), ite_01]
  congr 1; apply bi_iff
  rcases hL k hk with ⟨h1, h2, -⟩ | ⟨h1, -, -, -, h2, -⟩
  · exact ⟨fun q => absurd h2 q, fun q => absurd h1 q⟩
  · refine ⟨fun _ q => ?_, fun _ q => q h2⟩
    rw [q] at h1; exact h1 (Or.inl (by decide))
theorem X8_isLetter {s : Nat → Int64} {he : Int32} {cs cw : Nat → Int64} {fr to : Nat → Int32} (p : Int32) (hL : RLt he cs cw fr to s) : f_X8_isLetter s p = some (bi (vp_in p 8 ∧ ¬ fr (nn p) = -1)) := by
  unfold f_X8_isLetter
  rw [in_small p (x := 0) (y := 7) (by decide) (by decide), bd_q]
  by_cases h : vp_in p 8
  · obtain ⟨e, l⟩ := nn_nI h (by omega)
    have hi := vp_in_iff.mp h
    rw [if_neg (by rw [bi_0]; omega)]
    have hu : f_X8_isUnderWay s p = some (bi (¬ fr (nn p) = -1)) := by
      have := X8_isUnderWay l hL
      rw [← e] at this; exact this
    rw [hu, bd_q]
    by_cases h2 : ¬ fr (nn p) = -1
    · rw [if_neg (by rw [bi_0]; exact fun k => k h2), bi_t ⟨h, h2⟩]
    · rw [if_pos (bi_0.mpr h2), bi_f (fun k => h2 k.2)]
  · rw [if_pos, bi_f (fun k => h k.1)]
    rw [bi_0]; rw [vp_in_iff] at h; omega
theorem isOf_X1 {fr to : Nat → Int32} {k : Nat} (m : Int32) (hk : k < 8) : f_X1_isOf fr to (nI k) m = some (bi (¬ fr k = -1 ∧ (fr k = m ∨ to k = m))) := by
  unfold f_X1_isOf
  rw [X1_isUnderWay, bd_q, nn_I (by omega)]
  by_cases h : ¬ fr k = -1
  · rw [if_neg (by rw [bi_0]; exact fun q => q ⟨vp_in_nI hk (by omega), h⟩), ck_q hk (by omega), ck_q hk (by omega), nI_clamp (by omega)]
    by_cases h2 : fr k = m
    · rw [if_pos h2, bi_t ⟨h, Or.inl h2⟩]
    · rw [if_neg h2]
      by_cases h3 : to k = m
      · rw [if_neg (fun q => q h3), bi_t ⟨h, Or.inr h3⟩]
      · rw [if_pos h3, bi_f (fun q => q.2.elim h2 h3)]
  · rw [if_pos (by rw [bi_0]; exact fun q => h q.2), bi_f (fun q => h q.1)]
theorem isOf_X8 {s : Nat → Int64} {he : Int32} {cs cw : Nat → Int64} {fr to : Nat → Int32} {k : Nat} (m : Int32) (hk : k < 8) (hL : RLt he cs cw fr to s) : f_X8_isOf s (nI k) m = some (bi (¬ fr k = -1 ∧ (fr k = m ∨ to k = m))) := by
  unfold f_X8_isOf
  rw [X8_isUnderWay hk hL, bd_q]
  by_cases h : ¬ fr k = -1
  · rw [if_neg (by rw [bi_0]; exact fun q => q h)]
    rcases hL k hk with ⟨h1, -⟩ | ⟨-, -, -, -, -, e1, e2, -⟩
    · exact absurd h1 h
    · rw [show (173 : Int32) = nI 173 from rfl, show (5 : Int32) = nI 5 from rfl, show (1 : Int32) = nI 1 from rfl, show (2 : Int32) = nI 2 from rfl, pk_mul, nI_add, nI_add, nI_add, ck_q (by omega) (by omega), ck_q (by omega) (by omega), nI_clamp (by omega), nI_clamp (by omega), e1, e2]
      by_cases h2 : fr k = m
      · rw [if_pos (by rw [h2]), bi_t ⟨h, Or.inl h2⟩]; rfl
      · rw [if_neg (fun q => h2 (i2l_inj.mp q))]
        by_cases h3 : to k = m
        · rw [if_neg (fun q => q (by rw [h3])), bi_t ⟨h, Or.inr h3⟩]; rfl
        · rw [if_pos (fun q => h3 (i2l_inj.mp q)), bi_f (fun q => q.2.elim h2 h3)]
  · rw [if_pos (by rw [bi_0]; exact h), bi_f (fun q => h q.1)]
theorem lt_0' (k : Nat) : (173 : Int32) + ((5 : Int32) * nI k) = nI (173 + 5 * k) := by
  rw [show (173 : Int32) = nI 173 from rfl, show (5 : Int32) = nI 5 from rfl, pk_mul, nI_add]
theorem lt_1 (k : Nat) : ((173 : Int32) + ((5 : Int32) * nI k)) + (1 : Int32) = nI (173 + 5 * k + 1) := by
  rw [lt_0', show (1 : Int32) = nI 1 from rfl, nI_add]
theorem lt_2 (k : Nat) : ((173 : Int32) + ((5 : Int32) * nI k)) + (2 : Int32) = nI (173 + 5 * k + 2) := by
  rw [lt_0', show (2 : Int32) = nI 2 from rfl, nI_add]
theorem lt_3 (k : Nat) : ((173 : Int32) + ((5 : Int32) * nI k)) + (3 : Int32) = nI (173 + 5 * k + 3) := by
  rw [lt_0', show (3 : Int32) = nI 3 from rfl, nI_add]
theorem lt_4 (k : Nat) : ((173 : Int32) + ((5 : Int32) * nI k)) + (4 : Int32) = nI (173 + 5 * k + 4) := by
  rw [lt_0', show (4 : Int32) = nI 4 from rfl, nI_add]
theorem isOver_X8 {s : Nat → Int64} {he : Int32} {cs cw : Nat → Int64} {fr to : Nat → Int32} {k : Nat} (a b : Int32) (hk : k < 8) (hL : RLt he cs cw fr to s) : f_X8_isOver s (nI k) a b = some (bi (¬ fr k = -1 ∧ ((fr k = a ∧ to k = b) ∨ (fr k = b ∧ to k = a)))) := by
  unfold f_X8_isOver f_X8_isOver_c56
  rw [lt_1, lt_2, ck_q (by omega) (by omega), nm_q, ck_q (by omega) (by omega), nm_q, X8_isUnderWay hk hL, bd_q, nI_clamp (by omega), nI_clamp (by omega)]
  by_cases h : ¬ fr k = -1
  · rw [if_neg (by rw [bi_0]; exact fun q => q h)]
    rcases hL k hk with ⟨h1, -⟩ | ⟨-, -, -, -, -, e1, e2, -⟩
    · exact absurd h1 h
    · rw [e1, e2]
      simp only [i2l_inj]
      have tl : ¬ (fr k = a ∧ to k = b) → (if ¬ fr k = b then some (0 : Int32) else if ¬ to k = a then some (0 : Int32) else some (1 : Int32)) = some (bi (¬ fr k = -1 ∧ ((fr k = a ∧ to k = b) ∨ (fr k = b ∧ to k = a)))) := by
        intro hn
        by_cases c3 : fr k = b
        · rw [if_neg (fun q => q c3)]
          by_cases c4 : to k = a
          · rw [if_neg (fun q => q c4), bi_t ⟨h, Or.inr ⟨c3, c4⟩⟩]
          · rw [if_pos c4, bi_f (fun q => q.2.elim hn (fun z => c4 z.2))]
        · rw [if_pos c3, bi_f (fun q => q.2.elim hn (fun z => c3 z.1))]
      by_cases c1 : fr k = a
      · rw [if_neg (fun q => q c1)]
        by_cases c2 : to k = b
        · rw [if_pos c2, bi_t ⟨h, Or.inl ⟨c1, c2⟩⟩]
        · rw [if_neg c2]; exact tl (fun q => c2 q.2)
      · rw [if_pos c1]; exact tl (fun q => c1 q.1)
  · rw [if_pos (by rw [bi_0]; exact h), bi_f (fun q => h q.1)]
