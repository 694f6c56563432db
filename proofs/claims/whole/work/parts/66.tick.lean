/-- the tickets put together so far: the class's first four of the reference's -/
def RT (c : Nat) (kn nu ox : Nat → Int32) (K W : Nat → Int64) : Prop := c ≤ 8 ∧ kn 10 = nI (min c 4) ∧ (∀ i, i < min c 4 → K i = (nu (40 + i)).toInt64 ∧ W i = (ox (40 + i)).toInt64 ∧ ¬ nu (40 + i) < 0) ∧ ∀ i j, i < j → j < c → ¬ LT (K j) (W j) (K i) (W i)
theorem sort_step {c p : Nat} {K W K' W' : Nat → Int64} {x y : Int64} (hp : p ≤ c) (hs : ∀ i j, i < j → j < c → ¬ LT (K j) (W j) (K i) (W i)) (hA : ∀ j, p ≤ j → j < c → LT x y (K j) (W j)) (hB : p = 0 ∨ ¬ LT x y (K (p - 1)) (W (p - 1))) (h : ∀ j, K' j = (if j < p then K j else if j = p then x else if j ≤ c then K (j - 1) else K j) ∧ W' j = (if j < p then W j else if j = p then y else if j ≤ c then W (j - 1) else W j)) : ∀ i j, i < j → j < c + 1 → ¬ LT (K' j) (W' j) (K' i) (W' i) := by
  intro i j h1 h2
  obtain ⟨a1, a2⟩ := h j
  obtain ⟨b1, b2⟩ := h i
  rw [a1, a2, b1, b2]
  have low : ∀ i, i < p → ¬ LT x y (K i) (W i) := fun i hi => by
    have q1 := hB.resolve_left (by omega)
    rcases Nat.lt_or_ge i (p - 1) with z | z
    · have q2 := hs i (p - 1) z (by omega)
      unfold LT at q1 q2 ⊢; omega
    · rw [show i = p - 1 by omega]; exact q1
  rcases Nat.lt_trichotomy j p with z | z | z
  · rw [if_pos z, if_pos z, if_pos (show i < p by omega), if_pos (show i < p by omega)]; exact hs i j h1 (by omega)
  · subst z
    rw [if_neg (Nat.lt_irrefl j), if_neg (Nat.lt_irrefl j), if_pos rfl, if_pos rfl, if_pos h1, if_pos h1]; exact low i h1
  · rw [if_neg (show ¬ j < p by omega), if_neg (show ¬ j < p by omega), if_neg (show ¬ j = p by omega), if_neg (show ¬ j = p by omega), if_pos (show j ≤ c by omega), if_pos (show j ≤ c by omega)]
    rcases Nat.lt_trichotomy i p with w | w | w
    · rw [if_pos w, if_pos w]; exact hs i (j - 1) (by omega) (by omega)
    · rw [if_neg (show ¬ i < p by omega), if_neg (show ¬ i < p by omega), if_pos w, if_pos w]
      have q := hA (j - 1) (by omega) (by omega)
      unfold LT at q ⊢; omega
    · rw [if_neg (show ¬ i < p by omega), if_neg (show ¬ i < p by omega), if_neg (show ¬ i = p by omega), if_neg (show ¬ i = p by omega), if_pos (show i ≤ c by omega), if_pos (show i ≤ c by omega)]
      exact hs (i - 1) (j - 1) (by omega) (by omega)
theorem ins_both {c : Nat} {kn nu ox : Nat → Int32} {K W : Nat → Int64} (h : RT c kn nu ox K W) (hc : c < 8) (x y : Int32) (hx : ¬ x < 0) : ∃ kn' nu' ox' K' W', f_X6_insert kn nu ox 10 x y = some (kn', nu', ox') ∧ (∀ j, j ≠ 10 → kn' j = kn j) ∧ (∀ j, (j < 40 ∨ 44 ≤ j) → nu' j = nu j ∧ ox' j = ox j) ∧ RT (c + 1) kn' nu' ox' K' W' ∧ ∀ k5 s a b l4, f_X8_tickets_c118 k5 fu K s W a b (nI c) l4 (nI c) x.toInt64 y.toInt64 = k5 K' s W' a b (nI (c + 1)) (l4 + 1) := by
  obtain ⟨h1, h2, h3, h4⟩ := h
  obtain ⟨p, K', W', p1, -, p3, p4, p5⟩ := ins_8 (fun K s W a b c d => some (K, s, W)) (fun _ => 0) 0 0 0 0 x.toInt64 y.toInt64 c fu K W (fu_ge (by omega)) hc
  have ref : ∀ k5 s a b l4, f_X8_tickets_c118 k5 fu K s W a b (nI c) l4 (nI c) x.toInt64 y.toInt64 = k5 K' s W' a b (nI (c + 1)) (l4 + 1) := fun k5 s a b l4 => by
    obtain ⟨r, K2, W2, r1, r2, r3, r4, r5⟩ := ins_8 k5 s a b (nI c) l4 x.toInt64 y.toInt64 c fu K W (fu_ge (by omega)) hc
    have e : r = p := by
      rcases Nat.lt_trichotomy r p with z | z | z
      · exact absurd (r3 (p - 1) (by omega) (by omega)) (p4.resolve_left (by omega))
      · exact z
      · exact absurd (p3 (r - 1) (by omega) (by omega)) (r4.resolve_left (by omega))
    subst e
    have eK : K2 = K' := funext fun j => by rw [(r5 j).1, (p5 j).1]
    have eW : W2 = W' := funext fun j => by rw [(r5 j).2, (p5 j).2]
    rw [r2, eK, eW, nI_1]
  have srt := sort_step p1 h4 p3 p4 p5
  have st40 : nI 10 * 4 = nI 40 := by decide
  rcases Nat.lt_or_ge c 4 with c4 | c4
  · have em : min c 4 = c := by omega
    rw [em] at h2 h3
    obtain ⟨P, nu', ox', q1, q2, q3, q4, q5, q6⟩ := ins_7 (upd kn 10 (nI (c + 1))) x y 40 c fu nu ox (fu_ge (by omega)) (by omega)
    have e : P = 40 + p := by
      rcases Nat.lt_trichotomy P (40 + p) with z | z | z
      · refine absurd ?_ (p4.resolve_left (by omega))
        have := q4 (40 + (p - 1)) (by omega) (by omega)
        obtain ⟨w1, w2, -⟩ := h3 (p - 1) (by omega)
        rw [w1, w2]; exact this
      · exact z
      · refine absurd ?_ (q5.resolve_left (by omega))
        obtain ⟨w1, w2, -⟩ := h3 (P - 1 - 40) (by omega)
        have := p3 (P - 1 - 40) (by omega) (by omega)
        rw [w1, w2, show 40 + (P - 1 - 40) = P - 1 by omega] at this; exact this
    subst e
    refine ⟨upd kn 10 (nI (c + 1)), nu', ox', K', W', ?_, fun j hj => ?_, fun j hj => ?_, ⟨by omega, ?_, fun i hi => ?_, srt⟩, ref⟩
    · unfold f_X6_insert
      rw [show (10 : Int32) = nI 10 from rfl, st40, nm_q, ck_q (by omega) (by omega), nI_clamp (by omega), h2, nm_q, if_neg (fun w => by rw [show (4 : Int32) = nI 4 from rfl, nI_leI (by omega) (by omega)] at w; omega), ck_q (by omega) (by omega), nm_q, nI_1]
      exact q3
    · rw [upI_a, if_neg hj]
    · obtain ⟨w1, w2⟩ := q6 j
      rw [w1, w2]
      constructor <;> (repeat' split) <;> first | rfl | (exfalso; omega)
    · rw [upI_s]; congr 1; omega
    · obtain ⟨w1, w2⟩ := q6 (40 + i)
      obtain ⟨v1, v2⟩ := p5 i
      rw [w1, w2, v1, v2]
      rcases Nat.lt_trichotomy i p with z | z | z
      · rw [if_pos z, if_pos z, if_pos (show 40 + i < 40 + p by omega), if_pos (show 40 + i < 40 + p by omega)]; exact h3 i (by omega)
      · subst z
        rw [if_neg (Nat.lt_irrefl _), if_neg (Nat.lt_irrefl _), if_pos rfl, if_pos rfl, if_neg (Nat.lt_irrefl _), if_neg (Nat.lt_irrefl _), if_pos rfl, if_pos rfl]; exact ⟨rfl, rfl, hx⟩
      · rw [if_neg (show ¬ i < p by omega), if_neg (show ¬ i < p by omega), if_neg (show ¬ i = p by omega), if_neg (show ¬ i = p by omega), if_pos (show i ≤ c by omega), if_pos (show i ≤ c by omega), if_neg (show ¬ 40 + i < 40 + p by omega), if_neg (show ¬ 40 + i < 40 + p by omega), if_neg (show ¬ 40 + i = 40 + p by omega), if_neg (show ¬ 40 + i = 40 + p by omega), if_pos (show 40 + i ≤ 40 + c by omega), if_pos (show 40 + i ≤ 40 + c by omega), show 40 + i - 1 = 40 + (i - 1) by omega]
        exact h3 (i - 1) (by omega)
  · have em : min c 4 = 4 := by omega
    rw [em] at h2 h3
    obtain ⟨k1, k2, -⟩ := h3 3 (by omega)
    by_cases l : LT x.toInt64 y.toInt64 (K 3) (W 3)
    · obtain ⟨P, nu', ox', q1, q2, q3, q4, q5, q6⟩ := ins_7 kn x y 40 3 fu nu ox (fu_ge (by omega)) (by omega)
      have hp3 : p ≤ 3 := by
        rcases Nat.lt_or_ge 3 p with z | z
        · refine absurd ?_ (p4.resolve_left (by omega))
          rcases Nat.lt_or_ge 3 (p - 1) with w | w
          · have := h4 3 (p - 1) w (by omega)
            unfold LT at this l ⊢; omega
          · rw [show p - 1 = 3 by omega]; exact l
        · exact z
      have e : P = 40 + p := by
        rcases Nat.lt_trichotomy P (40 + p) with z | z | z
        · refine absurd ?_ (p4.resolve_left (by omega))
          have := q4 (40 + (p - 1)) (by omega) (by omega)
          obtain ⟨w1, w2, -⟩ := h3 (p - 1) (by omega)
          rw [w1, w2]; exact this
        · exact z
        · refine absurd ?_ (q5.resolve_left (by omega))
          obtain ⟨w1, w2, -⟩ := h3 (P - 1 - 40) (by omega)
          have := p3 (P - 1 - 40) (by omega) (by omega)
          rw [w1, w2, show 40 + (P - 1 - 40) = P - 1 by omega] at this; exact this
      subst e
      refine ⟨kn, nu', ox', K', W', ?_, fun j hj => rfl, fun j hj => ?_, ⟨by omega, ?_, fun i hi => ?_, srt⟩, ref⟩
      · unfold f_X6_insert
        rw [show (10 : Int32) = nI 10 from rfl, st40, nm_q, ck_q (by omega) (by omega), nI_clamp (by omega), h2, nm_q, if_pos (by decide), show nI 40 + 4 - 1 = nI 43 by decide, before_X6 _ _ (by omega), bd_q, bi_t (by rw [k1, k2] at l; exact l), if_neg (by decide)]
        exact q3
      · obtain ⟨w1, w2⟩ := q6 j
        rw [w1, w2]
        constructor <;> (repeat' split) <;> first | rfl | (exfalso; omega)
      · rw [h2]; congr 1; omega
      · obtain ⟨w1, w2⟩ := q6 (40 + i)
        obtain ⟨v1, v2⟩ := p5 i
        rw [w1, w2, v1, v2]
        rcases Nat.lt_trichotomy i p with z | z | z
        · rw [if_pos z, if_pos z, if_pos (show 40 + i < 40 + p by omega), if_pos (show 40 + i < 40 + p by omega)]; exact h3 i (by omega)
        · subst z
          rw [if_neg (Nat.lt_irrefl _), if_neg (Nat.lt_irrefl _), if_pos rfl, if_pos rfl, if_neg (Nat.lt_irrefl _), if_neg (Nat.lt_irrefl _), if_pos rfl, if_pos rfl]; exact ⟨rfl, rfl, hx⟩
        · rw [if_neg (show ¬ i < p by omega), if_neg (show ¬ i < p by omega), if_neg (show ¬ i = p by omega), if_neg (show ¬ i = p by omega), if_pos (show i ≤ c by omega), if_pos (show i ≤ c by omega), if_neg (show ¬ 40 + i < 40 + p by omega), if_neg (show ¬ 40 + i < 40 + p by omega), if_neg (show ¬ 40 + i = 40 + p by omega), if_neg (show ¬ 40 + i = 40 + p by omega), if_pos (show 40 + i ≤ 40 + 3 by omega), if_pos (show 40 + i ≤ 40 + 3 by omega), show 40 + i - 1 = 40 + (i - 1) by omega]
          exact h3 (i - 1) (by omega)
    · have hp4 : 4 ≤ p := by
        rcases Nat.lt_or_ge p 4 with z | z
        · exact absurd (p3 3 (by omega) (by omega)) l
        · exact z
      refine ⟨kn, nu, ox, K', W', ?_, fun j hj => rfl, fun j hj => ⟨rfl, rfl⟩, ⟨by omega, by rw [h2]; congr 1; omega, fun i hi => ?_, srt⟩, ref⟩
      · unfold f_X6_insert
        rw [show (10 : Int32) = nI 10 from rfl, st40, nm_q, ck_q (by omega) (by omega), nI_clamp (by omega), h2, nm_q, if_pos (by decide), show nI 40 + 4 - 1 = nI 43 by decide, before_X6 _ _ (by omega), bd_q, bi_f (by rw [k1, k2] at l; exact l), if_pos (by rfl)]
      · obtain ⟨v1, v2⟩ := p5 i
        rw [v1, v2, if_pos (show i < p by omega), if_pos (show i < p by omega)]; exact h3 i (by omega)
