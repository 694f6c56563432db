/-- a ticket before another -/
def LT (a b c d : Int64) : Prop := a.toInt < c.toInt ∨ (a.toInt = c.toInt ∧ b.toInt < d.toInt)
theorem lt_i {x y : Int64} : x < y ↔ x.toInt < y.toInt := Int64.lt_iff_toInt_lt
theorem le_i {x y : Int64} : x ≤ y ↔ x.toInt ≤ y.toInt := Int64.le_iff_toInt_le
theorem eq_i {x y : Int64} : x = y ↔ x.toInt = y.toInt := Int64.toInt_inj.symm
theorem m1_n {i : Nat} (h : 0 < i) (hi : i < 2 ^ 31) : nI i - 1 = nI (i - 1) ∧ nI i + (-1) = nI (i - 1) := by
  obtain ⟨k, rfl⟩ : ∃ k, i = k + 1 := ⟨i - 1, by omega⟩
  have e : nI (k + 1) = nI k + 1 := (nI_1 k).symm
  constructor
  · rw [e, Int32.add_sub_cancel, Nat.add_sub_cancel]
  · rw [e, Int32.add_assoc, show (1 : Int32) + -1 = 0 by decide, Int32.add_zero, Nat.add_sub_cancel]
theorem ins_8 (k5 : (Nat → Int64) → (Nat → Int64) → (Nat → Int64) → Int32 → Int32 → Int32 → Int32 → Option ((Nat → Int64) × (Nat → Int64) × (Nat → Int64))) (s : Nat → Int64) (a b c l4 : Int32) (x y : Int64) : ∀ (i f : Nat) (K W : Nat → Int64), i < f → i < 8 → ∃ p K' W', p ≤ i ∧ f_X8_tickets_c118 k5 f K s W a b c l4 (nI i) x y = k5 K' s W' a b (c + 1) (l4 + 1) ∧ (∀ j, p ≤ j → j < i → LT x y (K j) (W j)) ∧ (p = 0 ∨ ¬ LT x y (K (p - 1)) (W (p - 1))) ∧ ∀ j, K' j = (if j < p then K j else if j = p then x else if j ≤ i then K (j - 1) else K j) ∧ W' j = (if j < p then W j else if j = p then y else if j ≤ i then W (j - 1) else W j)
  | i, 0, K, W, h1, h2 => absurd h1 (by omega)
  | 0, f + 1, K, W, h1, h2 => by
    refine ⟨0, vp_updL K 0 x, vp_updL W 0 y, Nat.le_refl _, ?_, fun j j1 j2 => absurd j2 (by omega), Or.inl rfl, fun j => ?_⟩
    · unfold f_X8_tickets_c118 f_X8_tickets_c206 f_X8_tickets_c227
      rw [if_pos (by decide)]
      simp (disch := omega) only [ck_q, nm_q, nI_clamp]
    · rw [upL_a, upL_a]
      constructor <;> (repeat' split) <;> first | rfl | (exfalso; omega)
  | i + 1, f + 1, K, W, h1, h2 => by
    obtain ⟨m1, m2⟩ := m1_n (i := i + 1) (by omega) (by omega)
    rw [Nat.add_sub_cancel] at m1 m2
    have stop : ¬ LT x y (K i) (W i) → f_X8_tickets_c206 k5 K s W a b c l4 (nI (i + 1)) x y = k5 (vp_updL K (i + 1) x) s (vp_updL W (i + 1) y) a b (c + 1) (l4 + 1) := fun _ => by
      unfold f_X8_tickets_c206 f_X8_tickets_c227
      simp (disch := omega) only [ck_q, nm_q, nI_clamp]
    have h0 : ¬ nI (i + 1) ≤ 0 := fun h => by rw [show (0 : Int32) = nI 0 from rfl, nI_leI (by omega) (by omega)] at h; omega
    by_cases l : LT x y (K i) (W i)
    · obtain ⟨p, K', W', g1, g2, g3, g4, g5⟩ := ins_8 k5 s a b c l4 x y i f (vp_updL K (i + 1) (K i)) (vp_updL W (i + 1) (W i)) (by omega) (by omega)
      refine ⟨p, K', W', by omega, ?_, fun j j1 j2 => ?_, ?_, fun j => ?_⟩
      · have shift : f_X8_tickets_c168 k5 (fun k118_known k118_s k118_whose k118_l1 k118_l2 k118_l3 k118_l4 k118_l6 k118_l7 k118_l9 => f_X8_tickets_c118 k5 f k118_known k118_s k118_whose k118_l1 k118_l2 k118_l3 k118_l4 k118_l6 k118_l7 k118_l9) K s W a b c l4 (nI (i + 1)) x y = k5 K' s W' a b (c + 1) (l4 + 1) := by
          unfold f_X8_tickets_c168
          rw [m1, m2]
          simp (disch := omega) only [ck_q, nm_q, nI_clamp]
          exact g2
        unfold f_X8_tickets_c118
        rw [if_neg h0, m1]
        simp (disch := omega) only [ck_q, nI_clamp]
        unfold LT at l
        by_cases c1 : x < K i
        · rw [if_pos c1]; exact shift
        · rw [if_neg c1]
          rw [lt_i] at c1
          rw [if_neg (fun h => h (eq_i.mpr (by omega))), if_neg (fun h => by rw [le_i] at h; omega)]; exact shift
      · rcases Nat.lt_or_ge j i with z | z
        · have := g3 j j1 z
          rw [fr_up (by omega), fr_up (by omega)] at this; exact this
        · rw [show j = i by omega]; exact l
      · rcases g4 with z | z
        · exact Or.inl z
        · rw [fr_up (by omega), fr_up (by omega)] at z; exact Or.inr z
      · obtain ⟨w1, w2⟩ := g5 j
        rw [w1, w2]
        simp only [upL_a]
        constructor <;> (repeat' split) <;> first | rfl | (exfalso; omega) | (rw [show j - 1 = i by omega]; done)
    · refine ⟨i + 1, vp_updL K (i + 1) x, vp_updL W (i + 1) y, Nat.le_refl _, ?_, fun j j1 j2 => absurd j2 (by omega), Or.inr l, fun j => ?_⟩
      · unfold f_X8_tickets_c118
        rw [if_neg h0, m1]
        simp (disch := omega) only [ck_q, nI_clamp]
        have l' := l
        unfold LT at l'
        rw [if_neg (by rw [lt_i]; omega)]
        by_cases c1 : K i = x
        · rw [if_neg (fun h => h c1)]
          rw [eq_i] at c1
          rw [if_pos (by rw [le_i]; omega)]; exact stop l
        · rw [if_pos c1]; exact stop l
      · rw [upL_a, upL_a]
        constructor <;> (repeat' split) <;> first | rfl | (exfalso; omega)
theorem before_X6 {nu ox : Nat → Int32} {p : Nat} (x y : Int32) (hp : p < 44) : f_X6_isBefore nu ox x y (nI p) = some (bi (LT x.toInt64 y.toInt64 (nu p).toInt64 (ox p).toInt64)) := by
  unfold f_X6_isBefore LT
  rw [ck_q hp (by omega), ck_q hp (by omega), ck_q hp (by omega), nI_clamp (by omega), i2l_i, i2l_i, i2l_i, i2l_i]
  by_cases c1 : x < nu p
  · rw [if_pos c1, bi_t (Or.inl (Int32.lt_iff_toInt_lt.mp c1))]
  · rw [if_neg c1]
    rw [Int32.lt_iff_toInt_lt] at c1
    by_cases c2 : x = nu p
    · rw [if_neg (fun h => h c2)]
      by_cases c3 : ox p ≤ y
      · rw [if_pos c3, bi_f]; rw [Int32.le_iff_toInt_le] at c3; omega
      · rw [if_neg c3, bi_t]; rw [Int32.le_iff_toInt_le] at c3; rw [c2]; omega
    · rw [if_pos c2, bi_f]
      rw [← Int32.toInt_inj] at c2; omega
theorem ins_7 (kn : Nat → Int32) (x y : Int32) (st : Nat) : ∀ (i f : Nat) (nu ox : Nat → Int32), i < f → st + i < 44 → ∃ P nu' ox', st ≤ P ∧ P ≤ st + i ∧ f_X6_insert_c54 f kn nu ox x y (nI st) (nI i) = some (kn, nu', ox') ∧ (∀ z, P ≤ z → z < st + i → LT x.toInt64 y.toInt64 (nu z).toInt64 (ox z).toInt64) ∧ (P = st ∨ ¬ LT x.toInt64 y.toInt64 (nu (P - 1)).toInt64 (ox (P - 1)).toInt64) ∧ ∀ z, nu' z = (if z < P then nu z else if z = P then x else if z ≤ st + i then nu (z - 1) else nu z) ∧ ox' z = (if z < P then ox z else if z = P then y else if z ≤ st + i then ox (z - 1) else ox z)
  | i, 0, nu, ox, h1, h2 => absurd h1 (by omega)
  | 0, f + 1, nu, ox, h1, h2 => by
    refine ⟨st, upd nu st x, upd ox st y, Nat.le_refl _, by omega, ?_, fun j j1 j2 => absurd j2 (by omega), Or.inl rfl, fun j => ?_⟩
    · unfold f_X6_insert_c54 f_X6_insert_c125
      rw [if_pos (by decide), nI_add]
      simp (disch := omega) only [ck_q, nm_q, nI_clamp, Nat.add_zero]
    · rw [upI_a, upI_a]
      constructor <;> (repeat' split) <;> first | rfl | (exfalso; omega)
  | i + 1, f + 1, nu, ox, h1, h2 => by
    obtain ⟨m1, m2⟩ := m1_n (i := i + 1) (by omega) (by omega)
    obtain ⟨m3, -⟩ := m1_n (i := st + (i + 1)) (by omega) (by omega)
    rw [Nat.add_sub_cancel] at m1 m2
    rw [show st + (i + 1) - 1 = st + i by omega] at m3
    have h0 : ¬ nI (i + 1) ≤ 0 := fun h => by rw [show (0 : Int32) = nI 0 from rfl, nI_leI (by omega) (by omega)] at h; omega
    by_cases l : LT x.toInt64 y.toInt64 (nu (st + i)).toInt64 (ox (st + i)).toInt64
    · obtain ⟨P, nu', ox', g0, g1, g2, g3, g4, g5⟩ := ins_7 kn x y st i f (upd nu (st + (i + 1)) (nu (st + i))) (upd ox (st + (i + 1)) (ox (st + i))) (by omega) (by omega)
      refine ⟨P, nu', ox', g0, by omega, ?_, fun j j1 j2 => ?_, ?_, fun j => ?_⟩
      · unfold f_X6_insert_c54
        rw [if_neg h0, nI_add, m3, before_X6 _ _ (by omega), bd_q, bi_t l, if_neg (by decide), m2]
        simp (disch := omega) only [ck_q, nm_q, nI_clamp]
        exact g2
      · rcases Nat.lt_or_ge j (st + i) with z | z
        · have := g3 j j1 z
          rw [upI_a, upI_a, if_neg (by omega), if_neg (by omega)] at this; exact this
        · rw [show j = st + i by omega]; exact l
      · rcases g4 with z | z
        · exact Or.inl z
        · rw [upI_a, upI_a, if_neg (by omega), if_neg (by omega)] at z; exact Or.inr z
      · obtain ⟨w1, w2⟩ := g5 j
        rw [w1, w2]
        simp only [upI_a]
        constructor <;> (repeat' split) <;> first | rfl | (exfalso; omega) | (rw [show j - 1 = st + i by omega]; done)
    · refine ⟨st + (i + 1), upd nu (st + (i + 1)) x, upd ox (st + (i + 1)) y, by omega, Nat.le_refl _, ?_, fun j j1 j2 => absurd j2 (by omega), Or.inr ?_, fun j => ?_⟩
      · unfold f_X6_insert_c54 f_X6_insert_c125
        rw [if_neg h0, nI_add, m3, before_X6 _ _ (by omega), bd_q, bi_f l, if_pos (show (0 : Int32) = 0 from rfl)]
        simp (disch := omega) only [ck_q, nm_q, nI_clamp]
      · rw [show st + (i + 1) - 1 = st + i by omega]; exact l
      · rw [upI_a, upI_a]
        constructor <;> (repeat' split) <;> first | rfl | (exfalso; omega)
