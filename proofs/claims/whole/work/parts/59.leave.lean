theorem move_X3 {N p k : Nat} {x y : Nat → Int64} (hp : p < N) (hk : k < N) (hN : N < 2 ^ 31) : f_X3_move N x y (nI p) (nI k) = some (vp_updL (vp_updL x k (x k + x p)) p 0, vp_updL (vp_updL y k (y k + y p)) p 0) := by
  unfold f_X3_move
  rw [addFromT_X3 hk hN hp, bd_q, put_X3 _ _ hp hN, bd_q]
theorem any_loop {s : Nat → Int64} {he : Int32} {cs cw : Nat → Int64} {fr to : Nat → Int32} (hL : RLt he cs cw fr to s) (undos : Int32) (kept : Nat → Int64) (m t : Int32) : ∀ (d f i c : Nat), i + d = 8 → d < f → c ≤ i + 1 → ∃ c', c ≤ c' ∧ c' ≤ 9 ∧ f_X1_countOf_c4 fr to f m (nI c) (nI i) = some (nI c') ∧ f_X8_leave_c41 f undos kept s m t (if c = 0 then 0 else 1) (nI i) = f_X8_leave_c41 1 undos kept s m t (if c' = 0 then 0 else 1) (nI 8) ∧ (c' = 0 → ∀ k, i ≤ k → k < 8 → ¬ (¬ fr k = -1 ∧ (fr k = m ∨ to k = m)))
  | 0, 0, i, c, h1, h2, h3 => absurd h2 (by omega)
  | d + 1, 0, i, c, h1, h2, h3 => absurd h2 (by omega)
  | 0, f + 1, i, c, h1, h2, h3 => by
    have hi : i = 8 := by omega
    subst hi
    refine ⟨c, Nat.le_refl _, h3, ?_, ?_, fun _ k k1 k2 => absurd k2 (by omega)⟩
    · unfold f_X1_countOf_c4
      rw [if_pos (show (8 : Int32) ≤ nI 8 by decide)]
    · unfold f_X8_leave_c41
      rw [if_pos (show (8 : Int32) ≤ nI 8 by decide), if_pos (show (8 : Int32) ≤ nI 8 by decide)]
  | d + 1, f + 1, i, c, h1, h2, h3 => by
    have hi : i < 8 := by omega
    have hn8 : ¬ (8 : Int32) ≤ nI i := fun h => by rw [show (8 : Int32) = nI 8 from rfl, nI_leI (by omega) (by omega)] at h; omega
    by_cases o : ¬ fr i = -1 ∧ (fr i = m ∨ to i = m)
    · obtain ⟨c', g1, g2, g3, g4, g5⟩ := any_loop hL undos kept m t d f (i + 1) (c + 1) (by omega) (by omega) (by omega)
      refine ⟨c', by omega, g2, ?_, ?_, fun z => absurd z (by omega)⟩
      · unfold f_X1_countOf_c4 f_X1_countOf_c25
        rw [if_neg hn8, isOf_X1 m hi, bd_q, bi_t o, if_neg (by decide), nm_q, nm_q, nI_1, nI_1]
        exact g3
      · rw [if_neg (by omega)] at g4
        unfold f_X8_leave_c41 f_X8_leave_c62 f_X8_leave_c67
        rw [if_neg hn8]
        by_cases z : c = 0
        · rw [if_pos z, if_neg (by decide), isOf_X8 m hi hL, bd_q, bi_t o, if_neg (by decide), nm_q, nI_1]
          exact g4
        · rw [if_neg z, if_pos (by decide), nm_q, nI_1]
          exact g4
    · obtain ⟨c', g1, g2, g3, g4, g5⟩ := any_loop hL undos kept m t d f (i + 1) c (by omega) (by omega) (by omega)
      refine ⟨c', g1, g2, ?_, ?_, fun z k k1 k2 => ?_⟩
      · unfold f_X1_countOf_c4 f_X1_countOf_c25
        rw [if_neg hn8, isOf_X1 m hi, bd_q, bi_f o, if_pos rfl, nm_q, nm_q, nI_1, Int32.add_zero]
        exact g3
      · unfold f_X8_leave_c41 f_X8_leave_c62 f_X8_leave_c67
        rw [if_neg hn8]
        by_cases z : c = 0
        · rw [if_pos z] at g4
          rw [if_pos z, if_neg (by decide), isOf_X8 m hi hL, bd_q, bi_f o, if_pos rfl, nm_q, nI_1]
          exact g4
        · rw [if_neg z] at g4
          rw [if_neg z, if_pos (by decide), nm_q, nI_1]
          exact g4
      · rcases Nat.eq_or_lt_of_le k1 with rfl | k3
        · exact o
        · exact g5 z k k3 k2
theorem over_loop {n m t : Nat} (hn : n ≤ 10) (hm : m < n) (ht : t < n) (hmt : m ≠ t) (va : Nat → Int32) (he : Int32) (ms mw os ow : Nat → Int64) : ∀ (d f i : Nat) (x y : Nat → Int64), i + d = n → d < f → ∃ x' y', f_X5_handOver_c38 (nI n) va f he x y ms mw os ow (nI m) (nI t) (nI i) = (bd (f_X5_forget 100 (nI n) x' y' (nI m)) fun A => bd (f_X5_passOnOwed (nI n) os ow (nI m) (nI t)) fun B => bd (f_X5_depart he ms mw (nI m)) fun C => some (C.1, A.1, A.2, C.2.1, C.2.2, B.1, B.2)) ∧ ∀ a b, a < 10 → b < 10 → x' (10 * a + b) = (if b = t ∧ i ≤ a ∧ a < n ∧ a ≠ m ∧ a ≠ t then x (10 * a + b) + x (10 * a + m) else if a = t ∧ i ≤ b ∧ b < n ∧ b ≠ m ∧ b ≠ t then x (10 * a + b) + x (10 * m + b) else x (10 * a + b)) ∧ y' (10 * a + b) = (if b = t ∧ i ≤ a ∧ a < n ∧ a ≠ m ∧ a ≠ t then y (10 * a + b) + y (10 * a + m) else if a = t ∧ i ≤ b ∧ b < n ∧ b ≠ m ∧ b ≠ t then y (10 * a + b) + y (10 * m + b) else y (10 * a + b))
  | 0, 0, i, x, y, h1, h2 => absurd h2 (by omega)
  | d + 1, 0, i, x, y, h1, h2 => absurd h2 (by omega)
  | 0, f + 1, i, x, y, h1, h2 => by
    refine ⟨x, y, ?_, fun a b ha hb => ?_⟩
    · unfold f_X5_handOver_c38
      rw [if_pos ((nI_leI (by omega) (by omega)).mpr (by omega))]
    · rw [if_neg (by omega), if_neg (by omega), if_neg (by omega), if_neg (by omega)]; exact ⟨rfl, rfl⟩
  | d + 1, f + 1, i, x, y, h1, h2 => by
    have hnn : ¬ nI n ≤ nI i := fun h => by rw [nI_leI (by omega) (by omega)] at h; omega
    by_cases c : i = m ∨ i = t
    · obtain ⟨x', y', e, g⟩ := over_loop hn hm ht hmt va he ms mw os ow d f (i + 1) x y (by omega) (by omega)
      refine ⟨x', y', ?_, fun a b ha hb => ?_⟩
      · unfold f_X5_handOver_c38 f_X5_handOver_c98
        rw [if_neg hnn]
        by_cases c1 : i = m
        · rw [if_pos (by rw [c1]), nm_q, nI_1]; exact e
        · rw [if_neg (by rw [nI_eq (by omega) (by omega)]; exact c1), if_pos (by rw [c.resolve_left c1]), nm_q, nI_1]; exact e
      · obtain ⟨g1, g2⟩ := g a b ha hb
        rw [g1, g2]
        constructor <;> (repeat' split) <;> first | rfl | (exfalso; omega)
    · obtain ⟨x', y', e, g⟩ := over_loop hn hm ht hmt va he ms mw os ow d f (i + 1) (vp_updL (vp_updL x (10 * i + t) (x (10 * i + t) + x (10 * i + m))) (10 * t + i) (x (10 * t + i) + x (10 * m + i))) (vp_updL (vp_updL y (10 * i + t) (y (10 * i + t) + y (10 * i + m))) (10 * t + i) (y (10 * t + i) + y (10 * m + i))) (by omega) (by omega)
      refine ⟨x', y', ?_, fun a b ha hb => ?_⟩
      · unfold f_X5_handOver_c38 f_X5_handOver_c98
        rw [if_neg hnn, if_neg (by rw [nI_eq (by omega) (by omega)]; omega), if_neg (by rw [nI_eq (by omega) (by omega)]; omega), pair_X7, bd_q, pair_X7, bd_q, addFromT_X3 (by omega) (by omega) (by omega), bd_q, pair_X7, bd_q, pair_X7, bd_q, addFromT_X3 (by omega) (by omega) (by omega), bd_q, nm_q, nI_1]
        simp (disch := omega) only [fr_up]
        exact e
      · obtain ⟨g1, g2⟩ := g a b ha hb
        rw [g1, g2]
        simp only [upL_a]
        constructor <;> (repeat' split) <;> first | rfl | (exfalso; omega) | (rw [show a = i by omega, show b = t by omega]; done) | (rw [show a = t by omega, show b = i by omega]; done)
theorem pass_loop1 {n m t : Nat} (hn : n ≤ 10) (hm : m < n) (ht : t < n) (hmt : m ≠ t) : ∀ (d f i : Nat) (x y : Nat → Int64), i + d = n → d < f → ∃ x' y', f_X5_passOnOwed_c2 (nI n) f x y (nI m) (nI t) (nI i) = f_X5_passOnOwed_c35 (nI n) fu x' y' (nI m) (nI t) 0 ∧ ∀ a b, a < 10 → b < 10 → x' (10 * a + b) = (if a = m ∧ i ≤ b ∧ b < n then 0 else if a = t ∧ i ≤ b ∧ b < n then x (10 * a + b) + x (10 * m + b) else x (10 * a + b)) ∧ y' (10 * a + b) = (if a = m ∧ i ≤ b ∧ b < n then 0 else if a = t ∧ i ≤ b ∧ b < n then y (10 * a + b) + y (10 * m + b) else y (10 * a + b))
  | 0, 0, i, x, y, h1, h2 => absurd h2 (by omega)
  | d + 1, 0, i, x, y, h1, h2 => absurd h2 (by omega)
  | 0, f + 1, i, x, y, h1, h2 => by
    refine ⟨x, y, ?_, fun a b ha hb => ?_⟩
    · unfold f_X5_passOnOwed_c2
      rw [if_pos ((nI_leI (by omega) (by omega)).mpr (by omega))]
    · rw [if_neg (by omega), if_neg (by omega), if_neg (by omega), if_neg (by omega)]; exact ⟨rfl, rfl⟩
  | d + 1, f + 1, i, x, y, h1, h2 => by
    have hnn : ¬ nI n ≤ nI i := fun h => by rw [nI_leI (by omega) (by omega)] at h; omega
    obtain ⟨x', y', e, g⟩ := pass_loop1 hn hm ht hmt d f (i + 1) (vp_updL (vp_updL x (10 * t + i) (x (10 * t + i) + x (10 * m + i))) (10 * m + i) 0) (vp_updL (vp_updL y (10 * t + i) (y (10 * t + i) + y (10 * m + i))) (10 * m + i) 0) (by omega) (by omega)
    refine ⟨x', y', ?_, fun a b ha hb => ?_⟩
    · unfold f_X5_passOnOwed_c2
      rw [if_neg hnn, pair_X7, bd_q, pair_X7, bd_q, move_X3 (by omega) (by omega) (by omega), bd_q, nm_q, nI_1]
      exact e
    · obtain ⟨g1, g2⟩ := g a b ha hb
      rw [g1, g2]
      simp only [upL_a]
      constructor <;> (repeat' split) <;> first | rfl | (exfalso; omega) | (rw [show a = t by omega, show b = i by omega]; done)
theorem pass_loop2 {n m t : Nat} (hn : n ≤ 10) (hm : m < n) (ht : t < n) (hmt : m ≠ t) : ∀ (d f i : Nat) (x y : Nat → Int64), i + d = n → d < f → ∃ x' y', f_X5_passOnOwed_c35 (nI n) f x y (nI m) (nI t) (nI i) = some (x', y') ∧ ∀ a b, a < 10 → b < 10 → x' (10 * a + b) = (if b = m ∧ i ≤ a ∧ a < n then 0 else if b = t ∧ i ≤ a ∧ a < n then x (10 * a + b) + x (10 * a + m) else x (10 * a + b)) ∧ y' (10 * a + b) = (if b = m ∧ i ≤ a ∧ a < n then 0 else if b = t ∧ i ≤ a ∧ a < n then y (10 * a + b) + y (10 * a + m) else y (10 * a + b))
  | 0, 0, i, x, y, h1, h2 => absurd h2 (by omega)
  | d + 1, 0, i, x, y, h1, h2 => absurd h2 (by omega)
  | 0, f + 1, i, x, y, h1, h2 => by
    refine ⟨x, y, ?_, fun a b ha hb => ?_⟩
    · unfold f_X5_passOnOwed_c35
      rw [if_pos ((nI_leI (by omega) (by omega)).mpr (by omega))]
    · rw [if_neg (by omega), if_neg (by omega), if_neg (by omega), if_neg (by omega)]; exact ⟨rfl, rfl⟩
  | d + 1, f + 1, i, x, y, h1, h2 => by
    have hnn : ¬ nI n ≤ nI i := fun h => by rw [nI_leI (by omega) (by omega)] at h; omega
    obtain ⟨x', y', e, g⟩ := pass_loop2 hn hm ht hmt d f (i + 1) (vp_updL (vp_updL x (10 * i + t) (x (10 * i + t) + x (10 * i + m))) (10 * i + m) 0) (vp_updL (vp_updL y (10 * i + t) (y (10 * i + t) + y (10 * i + m))) (10 * i + m) 0) (by omega) (by omega)
    refine ⟨x', y', ?_, fun a b ha hb => ?_⟩
    · unfold f_X5_passOnOwed_c35
      rw [if_neg hnn, pair_X7, bd_q, pair_X7, bd_q, move_X3 (by omega) (by omega) (by omega), bd_q, nm_q, nI_1]
      exact e
    · obtain ⟨g1, g2⟩ := g a b ha hb
      rw [g1, g2]
      simp only [upL_a]
      constructor <;> (repeat' split) <;> first | rfl | (exfalso; omega) | (rw [show a = i by omega, show b = t by omega]; done)
theorem hands_loop1 {P m t : Nat} (hP : P + 100 ≤ 613) (hm : m < 10) (ht : t < 10) (hmt : m ≠ t) : ∀ (d f i : Nat) (s : Nat → Int64), i + d = 10 → d < f → ∃ s', f_X8_hands_c46 f s (nI P) (nI m) (nI t) (nI i) = f_X8_hands_c114 fu s' (nI P) (nI m) (nI t) 0 ∧ (∀ j, (j < P ∨ P + 100 ≤ j) → s' j = s j) ∧ ∀ a b, a < 10 → b < 10 → s' (P + 10 * a + b) = (if a ≠ m ∧ i ≤ a ∧ b = m then 0 else if a ≠ m ∧ i ≤ a ∧ b = t then s (P + 10 * a + b) + s (P + 10 * a + m) else s (P + 10 * a + b))
  | 0, 0, i, s, h1, h2 => absurd h2 (by omega)
  | d + 1, 0, i, s, h1, h2 => absurd h2 (by omega)
  | 0, f + 1, i, s, h1, h2 => by
    refine ⟨s, ?_, fun _ _ => rfl, fun a b ha hb => ?_⟩
    · unfold f_X8_hands_c46
      rw [show (10 : Int32) = nI 10 from rfl, if_pos ((nI_leI (by omega) (by omega)).mpr (by omega))]
    · rw [if_neg (by omega), if_neg (by omega)]
  | d + 1, f + 1, i, s, h1, h2 => by
    have hnn : ¬ (10 : Int32) ≤ nI i := fun h => by rw [show (10 : Int32) = nI 10 from rfl, nI_leI (by omega) (by omega)] at h; omega
    by_cases c : i = m
    · obtain ⟨s', e, g0, g⟩ := hands_loop1 hP hm ht hmt d f (i + 1) s (by omega) (by omega)
      refine ⟨s', ?_, g0, fun a b ha hb => ?_⟩
      · unfold f_X8_hands_c46 f_X8_hands_c105
        rw [if_neg hnn, if_pos (by rw [c]), nm_q, nI_1]; exact e
      · rw [g a b ha hb]
        (repeat' split) <;> first | rfl | (exfalso; omega)
    · obtain ⟨s', e, g0, g⟩ := hands_loop1 hP hm ht hmt d f (i + 1) (vp_updL (vp_updL s (P + 10 * i + t) (s (P + 10 * i + t) + s (P + 10 * i + m))) (P + 10 * i + m) 0) (by omega) (by omega)
      refine ⟨s', ?_, fun j hj => by rw [g0 j hj, fr_up (by omega), fr_up (by omega)], fun a b ha hb => ?_⟩
      · unfold f_X8_hands_c46 f_X8_hands_c105
        rw [if_neg hnn, if_neg (by rw [nI_eq (by omega) (by omega)]; exact c), mu_10, nI_add, nI_add, nI_add]
        simp (disch := omega) only [ck_q, nm_q, nI_clamp]
        rw [nI_1]; exact e
      · rw [g a b ha hb]
        simp only [upL_a]
        (repeat' split) <;> first | rfl | (exfalso; omega) | (rw [show a = i by omega, show b = t by omega]; done)
theorem hands_loop2 {P m t : Nat} (hP : P + 100 ≤ 613) (hm : m < 10) (ht : t < 10) (hmt : m ≠ t) : ∀ (d f i : Nat) (s : Nat → Int64), i + d = 10 → d < f → ∃ s', f_X8_hands_c114 f s (nI P) (nI m) (nI t) (nI i) = some s' ∧ (∀ j, (j < P ∨ P + 100 ≤ j) → s' j = s j) ∧ ∀ a b, a < 10 → b < 10 → s' (P + 10 * a + b) = (if a = m ∧ i ≤ b then 0 else if a = t ∧ i ≤ b then s (P + 10 * a + b) + s (P + 10 * m + b) else s (P + 10 * a + b))
  | 0, 0, i, s, h1, h2 => absurd h2 (by omega)
  | d + 1, 0, i, s, h1, h2 => absurd h2 (by omega)
  | 0, f + 1, i, s, h1, h2 => by
    refine ⟨s, ?_, fun _ _ => rfl, fun a b ha hb => ?_⟩
    · unfold f_X8_hands_c114
      rw [show (10 : Int32) = nI 10 from rfl, if_pos ((nI_leI (by omega) (by omega)).mpr (by omega))]
    · rw [if_neg (by omega), if_neg (by omega)]
  | d + 1, f + 1, i, s, h1, h2 => by
    have hnn : ¬ (10 : Int32) ≤ nI i := fun h => by rw [show (10 : Int32) = nI 10 from rfl, nI_leI (by omega) (by omega)] at h; omega
    obtain ⟨s', e, g0, g⟩ := hands_loop2 hP hm ht hmt d f (i + 1) (vp_updL (vp_updL s (P + 10 * t + i) (s (P + 10 * t + i) + s (P + 10 * m + i))) (P + 10 * m + i) 0) (by omega) (by omega)
    refine ⟨s', ?_, fun j hj => by rw [g0 j hj, fr_up (by omega), fr_up (by omega)], fun a b ha hb => ?_⟩
    · unfold f_X8_hands_c114
      rw [if_neg hnn, mu_10, mu_10, nI_add, nI_add, nI_add, nI_add]
      simp (disch := omega) only [ck_q, nm_q, nI_clamp]
      rw [nI_1]; exact e
    · rw [g a b ha hb]
      simp only [upL_a]
      (repeat' split) <;> first | rfl | (exfalso; omega) | (rw [show a = t by omega, show b = i by omega]; done)
theorem four_a (w x y z : Int64) : (w + y) + (x + z) = ((w + z) + x) + y := by
  rw [Int64.add_assoc w z x, Int64.add_assoc w (z + x) y, Int64.add_assoc w y (x + z), Int64.add_comm y (x + z), Int64.add_comm x z]
theorem pass_X5 {n m t : Nat} (hn : n ≤ 10) (hm : m < n) (ht : t < n) (hmt : m ≠ t) (x y : Nat → Int64) : ∃ x' y', f_X5_passOnOwed (nI n) x y (nI m) (nI t) = some (x', y') ∧ (∀ a b, a < n → b < n → x' (10 * a + b) = (if a = m ∨ b = m then 0 else if a = t ∧ b = t then ((x (10 * t + t) + x (10 * m + m)) + x (10 * t + m)) + x (10 * m + t) else if b = t then x (10 * a + b) + x (10 * a + m) else if a = t then x (10 * a + b) + x (10 * m + b) else x (10 * a + b)) ∧ y' (10 * a + b) = (if a = m ∨ b = m then 0 else if a = t ∧ b = t then ((y (10 * t + t) + y (10 * m + m)) + y (10 * t + m)) + y (10 * m + t) else if b = t then y (10 * a + b) + y (10 * a + m) else if a = t then y (10 * a + b) + y (10 * m + b) else y (10 * a + b))) ∧ (∀ a b, a < 10 → b < 10 → (n ≤ a ∨ n ≤ b) → x' (10 * a + b) = x (10 * a + b) ∧ y' (10 * a + b) = y (10 * a + b)) := by
  obtain ⟨x1, y1, e1, g1⟩ := pass_loop1 hn hm ht hmt n fu 0 x y (by omega) (fu_ge (by omega))
  obtain ⟨x2, y2, e2, g2⟩ := pass_loop2 hn hm ht hmt n fu 0 x1 y1 (by omega) (fu_ge (by omega))
  refine ⟨x2, y2, ?_, fun a b ha hb => ?_, fun a b ha hb hc => ?_⟩
  · have q1 : f_X5_passOnOwed_c2 (nI n) fu x y (nI m) (nI t) 0 = _ := e1
    have q2 : f_X5_passOnOwed_c35 (nI n) fu x1 y1 (nI m) (nI t) 0 = _ := e2
    unfold f_X5_passOnOwed; rw [q1, q2]
  · obtain ⟨u1, u2⟩ := g2 a b (by omega) (by omega)
    obtain ⟨v1, v2⟩ := g1 a b (by omega) (by omega)
    obtain ⟨w1, w2⟩ := g1 a m (by omega) (by omega)
    rw [u1, u2]
    by_cases c1 : b = m
    · rw [if_pos (show b = m ∧ 0 ≤ a ∧ a < n by omega), if_pos (show b = m ∧ 0 ≤ a ∧ a < n by omega), if_pos (show a = m ∨ b = m by omega), if_pos (show a = m ∨ b = m by omega)]; exact ⟨rfl, rfl⟩
    · rw [if_neg (show ¬ (b = m ∧ 0 ≤ a ∧ a < n) by omega), if_neg (show ¬ (b = m ∧ 0 ≤ a ∧ a < n) by omega)]
      by_cases c2 : a = m
      · rw [if_pos (Or.inl c2), if_pos (Or.inl c2), v1, v2, w1, w2, if_pos (show a = m ∧ 0 ≤ b ∧ b < n by omega), if_pos (show a = m ∧ 0 ≤ b ∧ b < n by omega), if_pos (show a = m ∧ 0 ≤ m ∧ m < n by omega), if_pos (show a = m ∧ 0 ≤ m ∧ m < n by omega)]
        constructor <;> split <;> rfl
      · rw [if_neg (show ¬ (a = m ∨ b = m) by omega), if_neg (show ¬ (a = m ∨ b = m) by omega), v1, v2, w1, w2, if_neg (show ¬ (a = m ∧ 0 ≤ b ∧ b < n) by omega), if_neg (show ¬ (a = m ∧ 0 ≤ b ∧ b < n) by omega), if_neg (show ¬ (a = m ∧ 0 ≤ m ∧ m < n) by omega), if_neg (show ¬ (a = m ∧ 0 ≤ m ∧ m < n) by omega)]
        by_cases c3 : b = t
        · subst c3
          rw [if_pos (show b = b ∧ 0 ≤ a ∧ a < n by omega), if_pos (show b = b ∧ 0 ≤ a ∧ a < n by omega)]
          by_cases c4 : a = b
          · subst c4
            rw [if_pos (show a = a ∧ 0 ≤ a ∧ a < n by omega), if_pos (show a = a ∧ 0 ≤ a ∧ a < n by omega), if_pos (show a = a ∧ 0 ≤ m ∧ m < n by omega), if_pos (show a = a ∧ 0 ≤ m ∧ m < n by omega), if_pos ⟨rfl, rfl⟩, if_pos ⟨rfl, rfl⟩]
            exact ⟨four_a _ _ _ _, four_a _ _ _ _⟩
          · rw [if_neg (show ¬ (a = b ∧ 0 ≤ b ∧ b < n) by omega), if_neg (show ¬ (a = b ∧ 0 ≤ b ∧ b < n) by omega), if_neg (show ¬ (a = b ∧ 0 ≤ m ∧ m < n) by omega), if_neg (show ¬ (a = b ∧ 0 ≤ m ∧ m < n) by omega), if_neg (show ¬ (a = b ∧ b = b) by omega), if_neg (show ¬ (a = b ∧ b = b) by omega), if_pos rfl, if_pos rfl]; exact ⟨rfl, rfl⟩
        · rw [if_neg (show ¬ (b = t ∧ 0 ≤ a ∧ a < n) by omega), if_neg (show ¬ (b = t ∧ 0 ≤ a ∧ a < n) by omega), if_neg (show ¬ (a = t ∧ b = t) by omega), if_neg (show ¬ (a = t ∧ b = t) by omega), if_neg c3, if_neg c3]
          exact ⟨ifc (by omega), ifc (by omega)⟩
  · obtain ⟨u1, u2⟩ := g2 a b (by omega) (by omega)
    obtain ⟨v1, v2⟩ := g1 a b (by omega) (by omega)
    rw [u1, u2, if_neg (show ¬ (b = m ∧ 0 ≤ a ∧ a < n) by omega), if_neg (show ¬ (b = m ∧ 0 ≤ a ∧ a < n) by omega), if_neg (show ¬ (b = t ∧ 0 ≤ a ∧ a < n) by omega), if_neg (show ¬ (b = t ∧ 0 ≤ a ∧ a < n) by omega), v1, v2, if_neg (show ¬ (a = m ∧ 0 ≤ b ∧ b < n) by omega), if_neg (show ¬ (a = m ∧ 0 ≤ b ∧ b < n) by omega), if_neg (show ¬ (a = t ∧ 0 ≤ b ∧ b < n) by omega), if_neg (show ¬ (a = t ∧ 0 ≤ b ∧ b < n) by omega)]
    exact ⟨rfl, rfl⟩
theorem hands_X8 {P m t : Nat} (hP : P + 100 ≤ 613) (hm : m < 10) (ht : t < 10) (hmt : m ≠ t) (s : Nat → Int64) : ∃ s', f_X8_hands s (nI P) (nI m) (nI t) = some s' ∧ (∀ j, (j < P ∨ P + 100 ≤ j) → s' j = s j) ∧ ∀ a b, a < 10 → b < 10 → s' (P + 10 * a + b) = (if a = m ∨ b = m then 0 else if a = t ∧ b = t then ((s (P + 10 * t + t) + s (P + 10 * m + m)) + s (P + 10 * t + m)) + s (P + 10 * m + t) else if b = t then s (P + 10 * a + b) + s (P + 10 * a + m) else if a = t then s (P + 10 * a + b) + s (P + 10 * m + b) else s (P + 10 * a + b)) := by
  obtain ⟨s0, hs0⟩ : ∃ s0 : Nat → Int64, s0 = vp_updL (vp_updL s (P + 10 * t + t) (s (P + 10 * t + t) + s (P + 10 * m + m))) (P + 10 * m + m) 0 := ⟨_, rfl⟩
  obtain ⟨s1, e1, f1, g1⟩ := hands_loop1 hP hm ht hmt 10 fu 0 s0 (by omega) (fu_ge (by omega))
  obtain ⟨s2, e2, f2, g2⟩ := hands_loop2 hP hm ht hmt 10 fu 0 s1 (by omega) (fu_ge (by omega))
  refine ⟨s2, ?_, fun j hj => by rw [f2 j hj, f1 j hj, hs0, fr_up (by omega), fr_up (by omega)], fun a b ha hb => ?_⟩
  · have q1 : f_X8_hands_c46 fu s0 (nI P) (nI m) (nI t) 0 = _ := e1
    have q2 : f_X8_hands_c114 fu s1 (nI P) (nI m) (nI t) 0 = _ := e2
    unfold f_X8_hands
    rw [mu_10, mu_10, nI_add, nI_add, nI_add, nI_add]
    simp (disch := omega) only [ck_q, nm_q, nI_clamp]
    rw [← hs0, q1, q2]
  · have u0 : ∀ a b, a < 10 → b < 10 → s0 (P + 10 * a + b) = if a = m ∧ b = m then 0 else if a = t ∧ b = t then s (P + 10 * t + t) + s (P + 10 * m + m) else s (P + 10 * a + b) := fun a b ha hb => by
      rw [hs0, upL_a, upL_a]
      (repeat' split) <;> first | rfl | (exfalso; omega)
    rw [g2 a b ha hb, g1 a b ha hb, g1 m b hm hb, u0 a b ha hb, u0 m b hm hb, u0 a m ha hm, u0 m m hm hm]
    by_cases c1 : a = m
    · rw [if_pos (show a = m ∧ 0 ≤ b by omega), if_pos (Or.inl c1)]
    · rw [if_neg (show ¬ (a = m ∧ 0 ≤ b) by omega)]
      by_cases c2 : b = m
      · rw [if_pos (show a = m ∨ b = m by omega), if_pos (show a ≠ m ∧ 0 ≤ a ∧ b = m by omega), if_neg (show ¬ (m ≠ m ∧ 0 ≤ m ∧ b = m) by omega), if_neg (show ¬ (m ≠ m ∧ 0 ≤ m ∧ b = t) by omega), if_pos (show m = m ∧ b = m by omega)]
        split <;> rfl
      · rw [if_neg (show ¬ (a = m ∨ b = m) by omega), if_neg (show ¬ (a ≠ m ∧ 0 ≤ a ∧ b = m) by omega), if_neg (show ¬ (m ≠ m ∧ 0 ≤ m ∧ b = m) by omega), if_neg (show ¬ (m ≠ m ∧ 0 ≤ m ∧ b = t) by omega), if_neg (show ¬ (m = m ∧ b = m) by omega), if_neg (show ¬ (m = t ∧ b = t) by omega), if_neg (show ¬ (a = m ∧ b = m) by omega), if_neg (show ¬ (a = m ∧ m = m) by omega), if_neg (show ¬ (a = t ∧ m = t) by omega)]
        by_cases c3 : b = t
        · subst c3
          rw [if_pos (show a ≠ m ∧ 0 ≤ a ∧ b = b by omega)]
          by_cases c4 : a = b
          · subst c4
            rw [if_pos (show a = a ∧ 0 ≤ a by omega), if_pos (show a = a ∧ a = a by omega), if_pos (show a = a ∧ a = a by omega)]
          · rw [if_neg (show ¬ (a = b ∧ 0 ≤ b) by omega), if_neg (show ¬ (a = b ∧ b = b) by omega), if_neg (show ¬ (a = b ∧ b = b) by omega), if_pos rfl]
        · rw [if_neg (show ¬ (a ≠ m ∧ 0 ≤ a ∧ b = t) by omega), if_neg (show ¬ (a = t ∧ b = t) by omega), if_neg (show ¬ (a = t ∧ b = t) by omega), if_neg c3]
          exact ifc (by omega)
