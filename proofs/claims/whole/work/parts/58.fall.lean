theorem p_213 (a b : Nat) : ((213 : Int32) + (10 : Int32) * nI a) + nI b = nI (213 + 10 * a + b) := by rw [mu_10, ad_213, nI_add]
theorem p_313 (a b : Nat) : ((313 : Int32) + (10 : Int32) * nI a) + nI b = nI (313 + 10 * a + b) := by rw [mu_10, ad_313, nI_add]
theorem p_413 (a b : Nat) : ((413 : Int32) + (10 : Int32) * nI a) + nI b = nI (413 + 10 * a + b) := by rw [mu_10, ad_413, nI_add]
theorem p_513 (a b : Nat) : ((513 : Int32) + (10 : Int32) * nI a) + nI b = nI (513 + 10 * a + b) := by rw [mu_10, ad_513, nI_add]
theorem addFrom_X3 {N M p k : Nat} {x y u v : Nat → Int64} (hp : p < N) (hN : N < 2 ^ 31) (hk : k < M) (hM : M < 2 ^ 31) : f_X3_addFrom M N u v x y (nI p) (nI k) = some (vp_updL x p (x p + u k), vp_updL y p (y p + v k)) := by
  unfold f_X3_addFrom
  rw [ck_q hk hM, ck_q hk hM, nI_clamp (by omega), add_X3 _ _ hp hN, bd_q]
theorem addFromT_X3 {N p k : Nat} {x y : Nat → Int64} (hp : p < N) (hN : N < 2 ^ 31) (hk : k < N) : f_X3_addFrom_p2_is_this N x y (nI p) (nI k) = some (vp_updL x p (x p + x k), vp_updL y p (y p + y k)) := by
  unfold f_X3_addFrom_p2_is_this
  rw [ck_q hk hN, ck_q hk hN, nI_clamp (by omega), add_X3 _ _ hp hN, bd_q]
theorem ifc {α : Type} {P Q : Prop} {i : Decidable P} {j : Decidable Q} {a b : α} (h : P ↔ Q) : (@ite α P i a b) = @ite α Q j a b := by
  by_cases p : P
  · rw [if_pos p, if_pos (h.mp p)]
  · rw [if_neg p, if_neg (fun q => p (h.mpr q))]
/-- the pairs of a member that goes -/
abbrev inRow (m i j : Nat) : Prop := (j / 10 = m ∧ i ≤ j % 10) ∨ (j % 10 = m ∧ i ≤ j / 10)
theorem forget_loop {n m : Nat} (hn : n ≤ 10) (hm : m < n) : ∀ (d f i : Nat) (x y : Nat → Int64), i + d = n → d < f → ∃ x' y', f_X5_forget_c2 100 (nI n) f x y (nI m) (nI i) = some (x', y') ∧ ∀ j, j < 100 → x' j = (if (j / 10 = m ∧ i ≤ j % 10 ∧ j % 10 < n) ∨ (j % 10 = m ∧ i ≤ j / 10 ∧ j / 10 < n) then 0 else x j) ∧ y' j = (if (j / 10 = m ∧ i ≤ j % 10 ∧ j % 10 < n) ∨ (j % 10 = m ∧ i ≤ j / 10 ∧ j / 10 < n) then 0 else y j)
  | 0, 0, i, x, y, h1, h2 => absurd h2 (by omega)
  | d + 1, 0, i, x, y, h1, h2 => absurd h2 (by omega)
  | 0, f + 1, i, x, y, h1, h2 => by
    refine ⟨x, y, ?_, fun j hj => ?_⟩
    · unfold f_X5_forget_c2
      rw [if_pos ((nI_leI (by omega) (by omega)).mpr (by omega))]
    · rw [if_neg (by omega), if_neg (by omega)]; exact ⟨rfl, rfl⟩
  | d + 1, f + 1, i, x, y, h1, h2 => by
    obtain ⟨x', y', e, g⟩ := forget_loop hn hm d f (i + 1) (vp_updL (vp_updL x (10 * m + i) 0) (10 * i + m) 0) (vp_updL (vp_updL y (10 * m + i) 0) (10 * i + m) 0) (by omega) (by omega)
    refine ⟨x', y', ?_, fun j hj => ?_⟩
    · unfold f_X5_forget_c2
      rw [if_neg (fun h => by rw [nI_leI (by omega) (by omega)] at h; omega), pair_X7, bd_q, put_X3 _ _ (by omega) (by omega), bd_q, pair_X7, bd_q, put_X3 _ _ (by omega) (by omega), bd_q, nm_q, nI_1]
      exact e
    · obtain ⟨g1, g2⟩ := g j hj
      rw [g1, g2, upL_a, upL_a, upL_a, upL_a]
      constructor <;> (repeat' split) <;> first | rfl | (exfalso; omega)
theorem forget_X5 {n m : Nat} (hn : n ≤ 10) (hm : m < n) (x y : Nat → Int64) : ∃ x' y', f_X5_forget 100 (nI n) x y (nI m) = some (x', y') ∧ ∀ j, j < 100 → x' j = (if (j / 10 = m ∧ j % 10 < n) ∨ (j % 10 = m ∧ j / 10 < n) then 0 else x j) ∧ y' j = (if (j / 10 = m ∧ j % 10 < n) ∨ (j % 10 = m ∧ j / 10 < n) then 0 else y j) := by
  obtain ⟨x', y', e, g⟩ := forget_loop hn hm n fu 0 x y (by omega) (fu_ge (by omega))
  refine ⟨x', y', e, fun j hj => ?_⟩
  obtain ⟨g1, g2⟩ := g j hj
  rw [g1, g2]
  constructor <;> (repeat' split) <;> first | rfl | (exfalso; omega)
theorem goes_loop {m : Nat} (hm : m < 10) : ∀ (d f i : Nat) (s : Nat → Int64), i + d = 10 → d < f → ∃ s', f_X8_goes_c2 f s (nI m) (nI i) = some s' ∧ ∀ j, s' j = if j = 13 + m ∨ j = 33 + m ∨ j = 43 + m then 0 else if (213 ≤ j ∧ j < 313 ∧ inRow m i (j - 213)) ∨ (313 ≤ j ∧ j < 413 ∧ inRow m i (j - 313)) then 0 else s j
  | 0, 0, i, s, h1, h2 => absurd h2 (by omega)
  | d + 1, 0, i, s, h1, h2 => absurd h2 (by omega)
  | 0, f + 1, i, s, h1, h2 => by
    refine ⟨vp_updL (vp_updL (vp_updL s (13 + m) 0) (33 + m) 0) (43 + m) 0, ?_, fun j => ?_⟩
    · unfold f_X8_goes_c2
      rw [show (10 : Int32) = nI 10 from rfl, if_pos ((nI_leI (by omega) (by omega)).mpr (by omega)), ad_13, ad_33, ad_43]
      simp (disch := omega) only [ck_q, nm_q, nI_clamp]
    · rw [upL_a, upL_a, upL_a]
      (repeat' split) <;> first | rfl | (exfalso; omega)
  | d + 1, f + 1, i, s, h1, h2 => by
    obtain ⟨s', e, g⟩ := goes_loop hm d f (i + 1) (vp_updL (vp_updL (vp_updL (vp_updL s (213 + 10 * i + m) 0) (213 + 10 * m + i) 0) (313 + 10 * i + m) 0) (313 + 10 * m + i) 0) (by omega) (by omega)
    refine ⟨s', ?_, fun j => ?_⟩
    · unfold f_X8_goes_c2
      rw [show (10 : Int32) = nI 10 from rfl, if_neg (fun h => by rw [nI_leI (by omega) (by omega)] at h; omega), ← show (10 : Int32) = nI 10 from rfl, p_213, p_213, p_313, p_313]
      simp (disch := omega) only [ck_q, nm_q, nI_clamp]
      rw [nI_1]; exact e
    · rw [g j, upL_a, upL_a, upL_a, upL_a]
      (repeat' split) <;> first | rfl | (exfalso; omega)
theorem goes_X8 {m : Nat} (hm : m < 10) (s : Nat → Int64) : ∃ s', f_X8_goes s (nI m) = some s' ∧ ∀ j, s' j = if j = 13 + m ∨ j = 33 + m ∨ j = 43 + m then 0 else if (213 ≤ j ∧ j < 313 ∧ inRow m 0 (j - 213)) ∨ (313 ≤ j ∧ j < 413 ∧ inRow m 0 (j - 313)) then 0 else s j := goes_loop hm 10 fu 0 s (by omega) (fu_ge (by omega))
theorem gone_loop {he : Int32} (undos : Int32) (kept : Nat → Int64) (m : Int32) (fo tt : Nat → Int32) : ∀ (d f i : Nat) (l2 : Int32) (cs cw : Nat → Int64) (fr to : Nat → Int32) (s : Nat → Int64), i + d = 8 → d < f → RLt he cs cw fr to s → (∀ k, i ≤ k → k < 8 → fo k = fr k ∧ tt k = to k) → ∃ cs' cw' fr' to' s' r, f_X1_countOf_c4 fo tt f m l2 (nI i) = some r ∧ f_X1_dropAllOf_c2 f cs cw fr to m (nI i) = some (cs', cw', fr', to') ∧ f_X8_fall_c18 f undos kept s m l2 (nI i) = f_X8_fall_c57 fu undos kept s' m r 0 ∧ RLt he cs' cw' fr' to' s' ∧ (∀ j, (j < 173 ∨ 213 ≤ j) → s' j = s j) ∧ (∀ k, k < i → fr' k = fr k ∧ to' k = to k) ∧ (∀ k, i ≤ k → k < 8 → ¬ fr' k = -1 → ¬ fr' k = m ∧ ¬ to' k = m)
  | 0, 0, i, l2, cs, cw, fr, to, s, h1, h2, hL, ho => absurd h2 (by omega)
  | d + 1, 0, i, l2, cs, cw, fr, to, s, h1, h2, hL, ho => absurd h2 (by omega)
  | 0, f + 1, i, l2, cs, cw, fr, to, s, h1, h2, hL, ho => by
    refine ⟨cs, cw, fr, to, s, l2, ?_, ?_, ?_, hL, fun _ _ => rfl, fun _ _ => ⟨rfl, rfl⟩, fun k k1 k2 => absurd k2 (by omega)⟩
    · unfold f_X1_countOf_c4
      rw [show (8 : Int32) = nI 8 from rfl, if_pos ((nI_leI (by omega) (by omega)).mpr (by omega))]
    · unfold f_X1_dropAllOf_c2
      rw [show (8 : Int32) = nI 8 from rfl, if_pos ((nI_leI (by omega) (by omega)).mpr (by omega))]
    · unfold f_X8_fall_c18
      rw [show (8 : Int32) = nI 8 from rfl, if_pos ((nI_leI (by omega) (by omega)).mpr (by omega))]
  | d + 1, f + 1, i, l2, cs, cw, fr, to, s, h1, h2, hL, ho => by
    have hi : i < 8 := by omega
    have hn8 : ¬ nI 8 ≤ nI i := fun h => by rw [nI_leI (by omega) (by omega)] at h; omega
    obtain ⟨o1, o2⟩ := ho i (Nat.le_refl _) hi
    have hO : f_X1_isOf fo tt (nI i) m = some (bi (¬ fr i = -1 ∧ (fr i = m ∨ to i = m))) := by rw [isOf_X1 m hi, o1, o2]
    by_cases c : ¬ fr i = -1 ∧ (fr i = m ∨ to i = m)
    · obtain ⟨cs', cw', fr', to', s', r, e1, e2, e3, e4, e5, e6, e7⟩ := gone_loop undos kept m fo tt d f (i + 1) (1 + l2) (vp_updL cs i 0) (vp_updL cw i 0) (upd fr i (-1)) (upd to i (-1)) (vp_updL s (173 + 5 * i) 0) (by omega) (by omega) (hL.drop hi upL_s fun j j1 j2 j3 => fr_up j3) (fun k k1 k2 => by rw [upI_a, upI_a, if_neg (by omega), if_neg (by omega)]; exact ho k (by omega) k2)
      refine ⟨cs', cw', fr', to', s', r, ?_, ?_, ?_, e4, fun j hj => ?_, fun k hk => ?_, fun k k1 k2 k3 => ?_⟩
      · unfold f_X1_countOf_c4 f_X1_countOf_c25
        rw [show (8 : Int32) = nI 8 from rfl, if_neg hn8, hO, bd_q, bi_t c, if_neg (by decide), nm_q, nm_q, nI_1, Int32.add_comm l2 1]
        exact e1
      · unfold f_X1_dropAllOf_c2 f_X1_dropAllOf_c22 f_X1_drop
        rw [show (8 : Int32) = nI 8 from rfl, if_neg hn8, isOf_X1 m hi, bd_q, bi_t c, if_neg (by decide), write_X1 _ _ _ _ hi, bd_q, bd_q, nm_q, nI_1]
        exact e2
      · unfold f_X8_fall_c18 f_X8_fall_c49
        rw [show (8 : Int32) = nI 8 from rfl, if_neg hn8, isOf_X8 m hi hL, bd_q, bi_t c, if_neg (by decide), lt_0', ck_q (by omega) (by omega), nm_q, nm_q, nm_q, nI_1, nI_clamp (by omega), Int32.add_comm l2 1]
        exact e3
      · rw [e5 j hj, fr_up (by omega)]
      · obtain ⟨z1, z2⟩ := e6 k (by omega)
        rw [z1, z2, upI_a, upI_a, if_neg (by omega), if_neg (by omega)]; exact ⟨rfl, rfl⟩
      · rcases Nat.eq_or_lt_of_le k1 with rfl | k4
        · obtain ⟨z1, -⟩ := e6 i (by omega)
          rw [z1, upI_a, if_pos rfl] at k3; exact absurd rfl k3
        · exact e7 k (by omega) k2 k3
    · obtain ⟨cs', cw', fr', to', s', r, e1, e2, e3, e4, e5, e6, e7⟩ := gone_loop undos kept m fo tt d f (i + 1) l2 cs cw fr to s (by omega) (by omega) hL (fun k k1 k2 => ho k (by omega) k2)
      refine ⟨cs', cw', fr', to', s', r, ?_, ?_, ?_, e4, e5, fun k hk => e6 k (by omega), fun k k1 k2 k3 => ?_⟩
      · unfold f_X1_countOf_c4 f_X1_countOf_c25
        rw [show (8 : Int32) = nI 8 from rfl, if_neg hn8, hO, bd_q, bi_f c, if_pos rfl, nm_q, nm_q, nI_1, Int32.add_zero]
        exact e1
      · unfold f_X1_dropAllOf_c2 f_X1_dropAllOf_c22
        rw [show (8 : Int32) = nI 8 from rfl, if_neg hn8, isOf_X1 m hi, bd_q, bi_f c, if_pos rfl, nm_q, nI_1]
        exact e2
      · unfold f_X8_fall_c18 f_X8_fall_c49
        rw [show (8 : Int32) = nI 8 from rfl, if_neg hn8, isOf_X8 m hi hL, bd_q, bi_f c, if_pos rfl, nm_q, nI_1]
        exact e3
      · rcases Nat.eq_or_lt_of_le k1 with rfl | k4
        · obtain ⟨z1, z2⟩ := e6 i (by omega)
          rw [z1] at k3 ⊢; rw [z2]
          exact ⟨fun z => c ⟨k3, Or.inl z⟩, fun z => c ⟨k3, Or.inr z⟩⟩
        · exact e7 k (by omega) k2 k3
theorem RLt.he_cl {he he' : Int32} {cs cw : Nat → Int64} {fr to : Nat → Int32} {s : Nat → Int64} {m : Nat} (hm : m < 10) (h : RLt he cs cw fr to s) (e : ∀ k, k < 10 → k ≠ m → tb (nn he) k = true → tb (nn he') k = true) (g : ∀ k, k < 8 → ¬ fr k = -1 → ¬ fr k = nI m ∧ ¬ to k = nI m) : RLt he' cs cw fr to s := fun k hk => by
  rcases h k hk with z | ⟨z1, z2, z3, z4, z5⟩
  · exact Or.inl z
  · obtain ⟨f1, f2⟩ := nn_nI z1 (by omega)
    obtain ⟨t1, t2⟩ := nn_nI z2 (by omega)
    have g0 := g k hk (fun q => by rw [q] at z1; exact z1 (Or.inl (by decide)))
    exact Or.inr ⟨z1, z2, e _ f2 (fun q => g0.1 (by rw [f1, q])) z3, e _ t2 (fun q => g0.2 (by rw [t1, q])) z4, z5⟩
theorem strike_loop {n m q : Nat} (hn : n ≤ 10) (hm : m < n) (hq : q < 1024) (bs bw cs cw : Nat → Int64) (fr to : Nat → Int32) (os ow : Nat → Int64) (r : Int32) : ∀ (d f i : Nat) (ms mw : Nat → Int64), i + d = n → d < f → ∃ ms' mw', f_X5_strike_c19 (nI n) f (nI q) bs bw cs cw fr to ms mw os ow (nI m) r (nI i) = (bd (f_X5_forget 100 (nI n) bs bw (nI m)) fun A => bd (f_X5_forget 100 (nI n) os ow (nI m)) fun B => bd (f_X5_depart (nI q) ms' mw' (nI m)) fun C => some (C.1, A.1, A.2, cs, cw, fr, to, C.2.1, C.2.2, B.1, B.2, r)) ∧ ∀ z, z < 10 → ms' z = (if i ≤ z ∧ z < n ∧ z ≠ m ∧ tb q z = true then ms z + bs (10 * z + m) else ms z) ∧ mw' z = (if i ≤ z ∧ z < n ∧ z ≠ m ∧ tb q z = true then mw z + bw (10 * z + m) else mw z)
  | 0, 0, i, ms, mw, h1, h2 => absurd h2 (by omega)
  | d + 1, 0, i, ms, mw, h1, h2 => absurd h2 (by omega)
  | 0, f + 1, i, ms, mw, h1, h2 => by
    refine ⟨ms, mw, ?_, fun z hz => ?_⟩
    · unfold f_X5_strike_c19
      rw [if_pos ((nI_leI (by omega) (by omega)).mpr (by omega))]
    · rw [if_neg (fun w => absurd w.2.1 (by omega)), if_neg (fun w => absurd w.2.1 (by omega))]; exact ⟨rfl, rfl⟩
  | d + 1, f + 1, i, ms, mw, h1, h2 => by
    have hnn : ¬ nI n ≤ nI i := fun h => by rw [nI_leI (by omega) (by omega)] at h; omega
    by_cases c : i ≠ m ∧ tb q i = true
    · obtain ⟨ms', mw', e, g⟩ := strike_loop hn hm hq bs bw cs cw fr to os ow r d f (i + 1) (vp_updL ms i (ms i + bs (10 * i + m))) (vp_updL mw i (mw i + bw (10 * i + m))) (by omega) (by omega)
      refine ⟨ms', mw', ?_, fun z hz => ?_⟩
      · unfold f_X5_strike_c19 f_X5_strike_c57
        rw [if_neg hnn, if_neg (by rw [nI_eq (by omega) (by omega)]; exact c.1), X5_isHere hq (by omega), bd_q, bi_t c.2, if_neg (by decide), pair_X7, bd_q, addFrom_X3 (by omega) (by omega) (by omega) (by omega), bd_q, nm_q, nI_1]
        exact e
      · obtain ⟨g1, g2⟩ := g z hz
        rw [g1, g2, upL_a, upL_a]
        by_cases z1 : z = i
        · subst z1
          have k1 : ¬ (z + 1 ≤ z ∧ z < n ∧ z ≠ m ∧ tb q z = true) := fun w => absurd w.1 (by omega)
          rw [if_neg k1, if_neg k1, if_pos rfl, if_pos rfl, if_pos ⟨Nat.le_refl _, by omega, c⟩, if_pos ⟨Nat.le_refl _, by omega, c⟩]; exact ⟨rfl, rfl⟩
        · rw [if_neg z1, if_neg z1]
          exact ⟨ifc ⟨fun w => ⟨by omega, w.2⟩, fun w => ⟨by omega, w.2⟩⟩, ifc ⟨fun w => ⟨by omega, w.2⟩, fun w => ⟨by omega, w.2⟩⟩⟩
    · obtain ⟨ms', mw', e, g⟩ := strike_loop hn hm hq bs bw cs cw fr to os ow r d f (i + 1) ms mw (by omega) (by omega)
      refine ⟨ms', mw', ?_, fun z hz => ?_⟩
      · unfold f_X5_strike_c19 f_X5_strike_c57
        rw [if_neg hnn]
        by_cases c1 : i = m
        · rw [if_pos (by rw [c1]), nm_q, nI_1]; exact e
        · rw [if_neg (by rw [nI_eq (by omega) (by omega)]; exact c1), X5_isHere hq (by omega), bd_q, bi_f (fun z => c ⟨c1, z⟩), if_pos rfl, nm_q, nI_1]; exact e
      · obtain ⟨g1, g2⟩ := g z hz
        rw [g1, g2]
        by_cases z1 : z = i
        · subst z1
          have k1 : ¬ (z + 1 ≤ z ∧ z < n ∧ z ≠ m ∧ tb q z = true) := fun w => absurd w.1 (by omega)
          have k2 : ¬ (z ≤ z ∧ z < n ∧ z ≠ m ∧ tb q z = true) := fun w => c w.2.2
          rw [if_neg k1, if_neg k1, if_neg k2, if_neg k2]; exact ⟨rfl, rfl⟩
        · exact ⟨ifc ⟨fun w => ⟨by omega, w.2⟩, fun w => ⟨by omega, w.2⟩⟩, ifc ⟨fun w => ⟨by omega, w.2⟩, fun w => ⟨by omega, w.2⟩⟩⟩
theorem fall_130 (k57 : Int32 → (Nat → Int64) → (Nat → Int64) → Int32 → Int32 → Int32 → Option (Int32 × (Nat → Int64) × (Nat → Int64) × Int32)) (undos : Int32) (kept s : Nat → Int64) {m i : Nat} (l2 : Int32) (hm : m < 10) (hi : i < 10) : f_X8_fall_c130 k57 undos kept s (nI m) l2 (nI i) = k57 undos kept (vp_updL (vp_updL (vp_updL (vp_updL s (413 + 10 * i + m) 0) (413 + 10 * m + i) 0) (513 + 10 * i + m) 0) (513 + 10 * m + i) 0) (nI m) l2 (nI (i + 1)) := by
  unfold f_X8_fall_c130
  rw [p_413, p_413, p_513, p_513]
  simp (disch := omega) only [ck_q, nm_q, nI_clamp]
  rw [nI_1]
theorem fall_loop {n m q : Nat} (hn : n ≤ 10) (hm : m < n) (undos : Int32) (kept : Nat → Int64) (r : Int32) : ∀ (d f i : Nat) (s : Nat → Int64), i + d = 10 → d < f → s 0 = lN n → (∀ k, k < 10 → s (13 + k) = if tb q k then 1 else 0) → (∀ k, n ≤ k → k < 10 → tb q k = false) → ∃ s', f_X8_fall_c57 f undos kept s (nI m) r (nI i) = (bd (f_X8_goes s' (nI m)) fun R => some (undos, kept, R, r)) ∧ (∀ j, (j < 33 ∨ (53 ≤ j ∧ j < 413) ∨ 613 ≤ j) → s' j = s j) ∧ (∀ z, z < 10 → s' (33 + z) = (if i ≤ z ∧ z ≠ m ∧ tb q z = true then s (33 + z) + s (213 + 10 * z + m) else s (33 + z)) ∧ s' (43 + z) = (if i ≤ z ∧ z ≠ m ∧ tb q z = true then s (43 + z) + s (313 + 10 * z + m) else s (43 + z))) ∧ (∀ j, j < 100 → s' (413 + j) = (if inRow m i j then 0 else s (413 + j)) ∧ s' (513 + j) = (if inRow m i j then 0 else s (513 + j)))
  | 0, 0, i, s, h1, h2, h0, hh, hz => absurd h2 (by omega)
  | d + 1, 0, i, s, h1, h2, h0, hh, hz => absurd h2 (by omega)
  | 0, f + 1, i, s, h1, h2, h0, hh, hz => by
    refine ⟨s, ?_, fun _ _ => rfl, fun z hz => ?_, fun j hj => ?_⟩
    · unfold f_X8_fall_c57
      rw [show (10 : Int32) = nI 10 from rfl, if_pos ((nI_leI (by omega) (by omega)).mpr (by omega))]
    · rw [if_neg (fun w => absurd w.1 (by omega)), if_neg (fun w => absurd w.1 (by omega))]; exact ⟨rfl, rfl⟩
    · rw [if_neg (by omega), if_neg (by omega)]; exact ⟨rfl, rfl⟩
  | d + 1, f + 1, i, s, h1, h2, h0, hh, hz => by
    have hi : i < 10 := by omega
    have hnn : ¬ nI 10 ≤ nI i := fun h => by rw [nI_leI (by omega) (by omega)] at h; omega
    by_cases c : i ≠ m ∧ tb q i = true
    · have hin : i < n := by
        rcases Nat.lt_or_ge i n with z | z
        · exact z
        · have := hz i z hi; rw [c.2] at this; cases this
      obtain ⟨g, hg⟩ : ∃ g : Nat → Int64, g = vp_updL (vp_updL (vp_updL (vp_updL (vp_updL (vp_updL s (33 + i) (s (33 + i) + s (213 + 10 * i + m))) (43 + i) (s (43 + i) + s (313 + 10 * i + m))) (413 + 10 * i + m) 0) (413 + 10 * m + i) 0) (513 + 10 * i + m) 0) (513 + 10 * m + i) 0 := ⟨_, rfl⟩
      have fr1 : ∀ j, (j < 33 ∨ (53 ≤ j ∧ j < 413) ∨ 613 ≤ j) → g j = s j := fun j hj => by rw [hg]; simp (disch := omega) only [fr_up]
      obtain ⟨s', e, e1, e2, e3⟩ := fall_loop hn hm undos kept r d f (i + 1) g (by omega) (by omega) (by rw [fr1 0 (by omega)]; exact h0) (fun k hk => by rw [fr1 _ (by omega)]; exact hh k hk) hz
      refine ⟨s', ?_, fun j hj => by rw [e1 j hj, fr1 j hj], fun z hz => ?_, fun j hj => ?_⟩
      · unfold f_X8_fall_c57
        rw [show f_X8_isHere s (nI i) = some (bi (tb q i = true)) by
          rw [X8_isHere (nI i) hn h0 hh, nn_I (by omega)]; congr 1; exact bi_iff ⟨fun w => w.2, fun w => ⟨vp_in_nI hin (by omega), w⟩⟩]
        rw [if_neg (show ¬ (10 : Int32) ≤ nI i from hnn), if_neg (by rw [nI_eq (by omega) (by omega)]; exact c.1), bd_q, bi_t c.2, if_neg (by decide), ad_33, ad_43, p_213, p_313]
        simp (disch := omega) only [ck_q, nm_q, nI_clamp, fr_up]
        rw [fall_130 _ _ _ _ _ (by omega) hi, ← hg]; exact e
      · obtain ⟨w1, w2⟩ := e2 z hz
        rw [w1, w2, fr1 (213 + 10 * z + m) (by omega), fr1 (313 + 10 * z + m) (by omega), hg]
        by_cases z1 : z = i
        · subst z1
          simp (disch := omega) only [fr_up, upL_s]
          have k1 : ¬ (z + 1 ≤ z ∧ z ≠ m ∧ tb q z = true) := fun w => absurd w.1 (by omega)
          rw [if_neg k1, if_neg k1, if_pos ⟨Nat.le_refl _, c⟩, if_pos ⟨Nat.le_refl _, c⟩]; exact ⟨rfl, rfl⟩
        · simp (disch := omega) only [fr_up]
          exact ⟨ifc ⟨fun w => ⟨by omega, w.2⟩, fun w => ⟨by omega, w.2⟩⟩, ifc ⟨fun w => ⟨by omega, w.2⟩, fun w => ⟨by omega, w.2⟩⟩⟩
      · obtain ⟨w1, w2⟩ := e3 j hj
        rw [w1, w2, hg]
        simp only [upL_a]
        constructor <;> (repeat' split) <;> first | rfl | (exfalso; omega)
    · obtain ⟨g, hg⟩ : ∃ g : Nat → Int64, g = vp_updL (vp_updL (vp_updL (vp_updL s (413 + 10 * i + m) 0) (413 + 10 * m + i) 0) (513 + 10 * i + m) 0) (513 + 10 * m + i) 0 := ⟨_, rfl⟩
      have fr1 : ∀ j, (j < 413 ∨ 613 ≤ j) → g j = s j := fun j hj => by rw [hg]; simp (disch := omega) only [fr_up]
      obtain ⟨s', e, e1, e2, e3⟩ := fall_loop hn hm undos kept r d f (i + 1) g (by omega) (by omega) (by rw [fr1 0 (by omega)]; exact h0) (fun k hk => by rw [fr1 _ (by omega)]; exact hh k hk) hz
      refine ⟨s', ?_, fun j hj => by rw [e1 j hj, fr1 j (by omega)], fun z hz => ?_, fun j hj => ?_⟩
      · unfold f_X8_fall_c57
        rw [if_neg (show ¬ (10 : Int32) ≤ nI i from hnn)]
        by_cases c1 : i = m
        · rw [if_pos (by rw [c1]), fall_130 _ _ _ _ _ (by omega) hi, ← hg]; exact e
        · rw [if_neg (by rw [nI_eq (by omega) (by omega)]; exact c1), X8_isHere (nI i) hn h0 hh, nn_I (by omega), bd_q, bi_f (fun w => c ⟨c1, w.2⟩), if_pos rfl, fall_130 _ _ _ _ _ (by omega) hi, ← hg]; exact e
      · obtain ⟨w1, w2⟩ := e2 z hz
        rw [w1, w2, fr1 (213 + 10 * z + m) (by omega), fr1 (313 + 10 * z + m) (by omega), fr1 (33 + z) (by omega), fr1 (43 + z) (by omega)]
        by_cases z1 : z = i
        · subst z1
          have k1 : ¬ (z + 1 ≤ z ∧ z ≠ m ∧ tb q z = true) := fun w => absurd w.1 (by omega)
          have k2 : ¬ (z ≤ z ∧ z ≠ m ∧ tb q z = true) := fun w => c w.2
          rw [if_neg k1, if_neg k1, if_neg k2, if_neg k2]; exact ⟨rfl, rfl⟩
        · exact ⟨ifc ⟨fun w => ⟨by omega, w.2⟩, fun w => ⟨by omega, w.2⟩⟩, ifc ⟨fun w => ⟨by omega, w.2⟩, fun w => ⟨by omega, w.2⟩⟩⟩
      · obtain ⟨w1, w2⟩ := e3 j hj
        rw [w1, w2, hg]
        simp only [upL_a]
        constructor <;> (repeat' split) <;> first | rfl | (exfalso; omega)
theorem depart_X5 {m q : Nat} (hm : m < 10) (hq : q < 1024) (ms mw : Nat → Int64) : f_X5_depart (nI q) ms mw (nI m) = some (nI (q &&& (1023 ^^^ 2 ^ m)), vp_updL ms m 0, vp_updL mw m 0) := by
  unfold f_X5_depart
  rw [tb_cl q hq m hm, nm_q, put_X3 _ _ hm (by omega), bd_q]
theorem goes_rest {n q m : Nat} {jo : Nat → Int32} {s s2 s' : Nat → Int64} {gr le va hd kn nu ox : Nat → Int32} {se ta : Int32} (hm : m < 10) (hq : q < 1024) (hn : n ≤ 10) (h0 : R0 (nI n) (nI q) se ta s) (hs1 : ∀ k, k < 10 → s (13 + k) = if tb q k then 1 else 0) (hJ : RJ (nI n) jo s) (hV : RV va gr le s) (hHd : RH (nI n) hd s) (hK : RK kn nu ox s) (k1 : ∀ j, (j < 33 ∨ (53 ≤ j ∧ j < 173)) → s2 j = s j) (k2 : ∀ j, s' j = if j = 13 + m ∨ j = 33 + m ∨ j = 43 + m then 0 else if (213 ≤ j ∧ j < 313 ∧ inRow m 0 (j - 213)) ∨ (313 ≤ j ∧ j < 413 ∧ inRow m 0 (j - 313)) then 0 else s2 j) : R0 (nI n) (nI (q &&& (1023 ^^^ 2 ^ m))) se ta s' ∧ RJ (nI n) jo s' ∧ RV va gr le s' ∧ RH (nI n) hd s' ∧ RK kn nu ox s' := by
  have fr' : ∀ j, (j < 13 ∨ (23 ≤ j ∧ j < 33) ∨ (53 ≤ j ∧ j < 173)) → s' j = s j := fun j hj => by rw [k2 j, if_neg (by omega), if_neg (by omega), k1 j (by omega)]
  refine ⟨?_, hJ.fr fun j _ _ => fr' j (by omega), hV.fr fun j _ => fr' j (by omega), hHd.fr fun j _ _ => fr' j (by omega), hK.fr fun j _ _ => fr' j (by omega)⟩
  obtain ⟨g1, g2, g3, g4, g5, g6, g7, g8⟩ := h0
  have hq' : q &&& (1023 ^^^ 2 ^ m) < 1024 := tb_clt hq
  refine ⟨g1, by rw [fr' 0 (by omega)]; exact g2, vp_in_nI hq' (by omega), fun k hk => ?_, fun k h1 h2 => ?_, g6, by rw [fr' 1 (by omega)]; exact g7, by rw [fr' 2 (by omega)]; exact g8⟩
  · rw [nn_I (by omega), tb_c q hq m hm k hk, k2]
    by_cases e : k = m
    · subst e; rw [if_pos (Or.inl rfl)]; simp
    · rw [if_neg (by omega), if_neg (by omega), k1 _ (by omega), hs1 k hk, show decide (m = k) = false from decide_eq_false (fun z => e z.symm)]; simp
  · have z := g5 k h1 h2
    rw [nn_I (by omega)] at z
    rw [nn_I (by omega), tb_c q hq m hm k h2, z]; rfl
theorem op_fall {me : Int32} {he : Int32} {se : Int32} {ta : Int32} {bs : Nat → Int64} {bw : Nat → Int64} {gr : Nat → Int32} {hd : Nat → Int32} {jo : Nat → Int32} {le : Nat → Int32} {cs : Nat → Int64} {cw : Nat → Int64} {fr : Nat → Int32} {to : Nat → Int32} {ms : Nat → Int64} {mw : Nat → Int64} {os : Nat → Int64} {ow : Nat → Int64} {kn : Nat → Int32} {nu : Nat → Int32} {ox : Nat → Int32} {va : Nat → Int32} {s : Nat → Int64} {history_next : Int32} {history_size : Int32} {V : Nat → Option STv} {undos : Int32} {kept : Nat → Int64} (h : RS me he se ta bs bw gr hd jo le cs cw fr to ms mw os ow kn nu ox va s) (hH : RHi history_next history_size V undos kept) (p1 : Int32) : ∃ (history_next' : Int32) (history_size' : Int32) (he' : Int32) (bs' : Nat → Int64) (bw' : Nat → Int64) (cs' : Nat → Int64) (cw' : Nat → Int64) (fr' : Nat → Int32) (to' : Nat → Int32) (ms' : Nat → Int64) (mw' : Nat → Int64) (os' : Nat → Int64) (ow' : Nat → Int64) (V' : Nat → Option STv) (undos' : Int32) (kept' : Nat → Int64) (s' : Nat → Int64) (r : Int32), f_X7_fall me se ta gr hd jo le kn nu ox va history_next history_size he bs bw cs cw fr to ms mw os ow V p1 = some (history_next', history_size', he', bs', bw', cs', cw', fr', to', ms', mw', os', ow', V', r) ∧ f_X8_fall undos kept s p1 = some (undos', kept', s', r) ∧ RS me he' se ta bs' bw' gr hd jo le cs' cw' fr' to' ms' mw' os' ow' kn nu ox va s' ∧ RHi history_next' history_size' V' undos' kept' := by
  obtain ⟨a1, a2, a3, a4, a5, e1, e2, e3⟩ := keep_both h hH
  obtain ⟨h0, hJ, hV, hHd, hM, hK, hL, hQ⟩ := id h
  obtain ⟨n, q, hn, hq, rfl, rfl, hn2, hq2, hs0, hs1, hs2⟩ := h0.get
  unfold f_X7_fall f_X8_fall
  rw [X7_isHere p1 hn hq, X8_isHere p1 hn hs0 hs1, bd_q, bd_q]
  by_cases hm : vp_in p1 n ∧ tb q (nn p1) = true
  · obtain ⟨m, hm', rfl⟩ := vp_in_of hm.1 (by omega)
    rw [nn_I (by omega)] at hm ⊢
    have hm10 : m < 10 := by omega
    simp only [bi_t hm, o10, o00, not_false_eq_true, not_true_eq_false, if_true, if_false]
    obtain ⟨cs', cw', fr', to', s1, r, b1, b2, b3, b4, b5, b6, b7⟩ := gone_loop a4 a5 (nI m) fr to 8 fu 0 0 cs cw fr to s (by omega) (fu_ge (by omega)) hL (fun _ _ _ => ⟨rfl, rfl⟩)
    obtain ⟨ms', mw', c1, c2⟩ := strike_loop hn hm' hq bs bw cs' cw' fr' to' os ow r n fu 0 ms mw (by omega) (fu_ge (by omega))
    obtain ⟨bs', bw', d1, d2⟩ := forget_X5 hn hm' bs bw
    obtain ⟨os', ow', d3, d4⟩ := forget_X5 hn hm' os ow
    obtain ⟨s2, f1, f2, f3, f4⟩ := fall_loop hn hm' a4 a5 r 10 fu 0 s1 (by omega) (fu_ge (by omega)) (by rw [b5 0 (by omega)]; exact hs0) (fun k hk => by rw [b5 _ (by omega)]; exact hs1 k hk) hs2
    obtain ⟨s', g1, g2⟩ := goes_X8 hm10 s2
    have q1 : f_X1_countOf fr to (nI m) = some r := b1
    have q2 : f_X1_dropAllOf cs cw fr to (nI m) = some (cs', cw', fr', to') := b2
    have q3 : f_X8_fall_c18 fu a4 a5 s (nI m) 0 0 = f_X8_fall_c57 fu a4 a5 s1 (nI m) r 0 := b3
    have q4 : f_X8_fall_c57 fu a4 a5 s1 (nI m) r 0 = _ := f1
    have q5 : f_X5_strike_c19 (nI n) fu (nI q) bs bw cs' cw' fr' to' ms mw os ow (nI m) r 0 = _ := c1
    have hq' : q &&& (1023 ^^^ 2 ^ m) < 1024 := tb_clt hq
    have k1 : ∀ j, (j < 33 ∨ (53 ≤ j ∧ j < 173)) → s2 j = s j := fun j hj => by rw [f2 j (by omega), b5 j (by omega)]
    obtain ⟨y1, y2, y3, y4, y5⟩ := goes_rest hm10 hq hn h0 hs1 hJ hV hHd hK k1 g2
    refine ⟨a1, a2, nI (q &&& (1023 ^^^ 2 ^ m)), bs', bw', cs', cw', fr', to', vp_updL ms' m 0, vp_updL mw' m 0, os', ow', a3, a4, a5, s', r, ?_, ?_, ⟨y1, y2, y3, y4, ?_, y5, ?_, ?_⟩, e3⟩
    · rw [e1, bd_q]
      unfold f_X5_strike
      rw [q1, bd_q, q2, bd_q, q5, d1, bd_q, d3, bd_q, depart_X5 hm10 hq, bd_q, bd_q]
    · rw [e2, bd_q, q3, q4, g1, bd_q]
    · intro z hz
      obtain ⟨w1, w2, w3⟩ := hM z hz
      by_cases e : z = m
      · subst e
        rw [show s' (33 + z) = 0 by rw [g2, if_pos (by omega)], show s' (43 + z) = 0 by rw [g2, if_pos (by omega)], upL_s, upL_s]
        exact ⟨rfl, rfl, fun _ => ⟨rfl, rfl⟩⟩
      · rw [show s' (33 + z) = s2 (33 + z) by rw [g2, if_neg (by omega), if_neg (by omega)], show s' (43 + z) = s2 (43 + z) by rw [g2, if_neg (by omega), if_neg (by omega)], fr_up e, fr_up e]
        obtain ⟨u1, u2⟩ := f3 z hz
        obtain ⟨v1, v2⟩ := c2 z hz
        obtain ⟨x1, x2, -⟩ := hQ (10 * z + m) (by omega)
        rw [u1, u2, v1, v2, b5 _ (by omega), b5 _ (by omega), b5 _ (by omega), b5 _ (by omega), w1, w2, show 213 + 10 * z + m = 213 + (10 * z + m) by omega, show 313 + 10 * z + m = 313 + (10 * z + m) by omega, x1, x2]
        have zn : tb q z = true → z < n := fun t => by
          rcases Nat.lt_or_ge z n with l | l
          · exact l
          · rw [hs2 z l hz] at t; cases t
        refine ⟨ifc ⟨fun w => ⟨w.1, zn w.2.2, w.2⟩, fun w => ⟨w.1, w.2.2⟩⟩, ifc ⟨fun w => ⟨w.1, zn w.2.2, w.2⟩, fun w => ⟨w.1, w.2.2⟩⟩, fun t => ?_⟩
        rw [nn_I (by omega), tb_c q hq m hm10 z hz, show decide (m = z) = false from decide_eq_false (fun y => e y.symm)] at t
        have t' : tb q z = false := by simpa using t
        rw [if_neg (fun w => by rw [t'] at w; exact absurd w.2.2.2 (by decide)), if_neg (fun w => by rw [t'] at w; exact absurd w.2.2.2 (by decide))]
        rw [nn_I (by omega)] at w3
        exact w3 t'
    · refine RLt.he_cl hm10 (b4.fr fun j j1 j2 => ?_) (fun k k1 k2 k3 => ?_) (fun k hk => b7 k (by omega) hk)
      · rw [g2, if_neg (by omega), if_neg (by omega), f2 j (by omega)]
      · rw [nn_I (by omega)] at k3 ⊢
        rw [tb_c q hq m hm10 k k1, k3, show decide (m = k) = false from decide_eq_false (fun y => k2 y.symm)]; rfl
    · intro i hi
      obtain ⟨w1, w2, w3, w4, w5⟩ := hQ i hi
      rw [nn_I (by omega)] at w5 ⊢
      obtain ⟨u1, u2⟩ := f4 i hi
      obtain ⟨v1, v2⟩ := d2 i hi
      obtain ⟨x1, x2⟩ := d4 i hi
      have hi10 : i / 10 < 10 := by omega
      rw [g2, g2, g2, g2, if_neg (show ¬ (213 + i = 13 + m ∨ 213 + i = 33 + m ∨ 213 + i = 43 + m) by omega), if_neg (show ¬ (313 + i = 13 + m ∨ 313 + i = 33 + m ∨ 313 + i = 43 + m) by omega), if_neg (show ¬ (413 + i = 13 + m ∨ 413 + i = 33 + m ∨ 413 + i = 43 + m) by omega), if_neg (show ¬ (513 + i = 13 + m ∨ 513 + i = 33 + m ∨ 513 + i = 43 + m) by omega), if_neg (show ¬ ((213 ≤ 413 + i ∧ 413 + i < 313 ∧ inRow m 0 (413 + i - 213)) ∨ (313 ≤ 413 + i ∧ 413 + i < 413 ∧ inRow m 0 (413 + i - 313))) by omega), if_neg (show ¬ ((213 ≤ 513 + i ∧ 513 + i < 313 ∧ inRow m 0 (513 + i - 213)) ∨ (313 ≤ 513 + i ∧ 513 + i < 413 ∧ inRow m 0 (513 + i - 313))) by omega), u1, u2, v1, v2, x1, x2, f2 (213 + i) (by omega), f2 (313 + i) (by omega), b5 (213 + i) (by omega), b5 (313 + i) (by omega), b5 (413 + i) (by omega), b5 (513 + i) (by omega), w1, w2, w3, w4]
      by_cases c : i / 10 = m ∨ i % 10 = m
      · by_cases c2 : i / 10 < n ∧ i % 10 < n
        · rw [if_pos (by omega), if_pos (by omega), if_pos (by omega), if_pos (by omega), if_pos (by omega), if_pos (by omega), if_pos (by omega), if_pos (by omega)]
          exact ⟨rfl, rfl, rfl, rfl, fun _ => ⟨rfl, rfl, rfl, rfl⟩⟩
        · obtain ⟨o1, o2, o3, o4⟩ := w5 (by omega)
          rw [o1, o2, o3, o4]
          simp
      · rw [if_neg (by omega), if_neg (by omega), if_neg (by omega), if_neg (by omega), if_neg (by omega), if_neg (by omega), if_neg (by omega), if_neg (by omega)]
        exact ⟨rfl, rfl, rfl, rfl, w5⟩
  · refine ⟨history_next, history_size, nI q, bs, bw, cs, cw, fr, to, ms, mw, os, ow, V, undos, kept, s, -1, ?_, ?_, h, hH⟩ <;> simp only [bi_f hm, bd_q, o10, o00, not_false_eq_true, not_true_eq_false, if_true, if_false]
