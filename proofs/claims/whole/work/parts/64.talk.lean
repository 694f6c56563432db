theorem RS.tick {me he se ta : Int32} {bs bw : Nat → Int64} {gr hd jo le : Nat → Int32} {cs cw : Nat → Int64} {fr to : Nat → Int32} {ms mw os ow : Nat → Int64} {kn nu ox va : Nat → Int32} {s : Nat → Int64} (h : RS me he se ta bs bw gr hd jo le cs cw fr to ms mw os ow kn nu ox va s) : RS me he se (ta + 1) bs bw gr hd jo le cs cw fr to ms mw os ow kn nu ox va (vp_updL s 2 (s 2 + 1)) := by
  obtain ⟨⟨g1, g2, g3, g4, g5, g6, g7, g8⟩, hJ, hV, hHd, hM, hK, hL, hQ⟩ := h
  refine ⟨⟨g1, by rw [fr_up (by omega)]; exact g2, g3, fun m hm => by rw [fr_up (by omega)]; exact g4 m hm, g5, g6, by rw [fr_up (by omega)]; exact g7, ?_⟩, hJ.fr fun j _ _ => fr_up (by omega), hV.fr fun j _ => fr_up (by omega), hHd.fr fun j _ _ => fr_up (by omega), hM.fr fun j _ _ => fr_up (by omega), hK.fr fun j _ _ => fr_up (by omega), hL.fr fun j _ _ => fr_up (by omega), hQ.fr fun j _ _ => fr_up (by omega)⟩
  rw [upL_s, Int64.toInt32_add, g8]; rfl
theorem even_X3 {N a b : Nat} {x y : Nat → Int64} (ha : a < N) (hb : b < N) (hN : N < 2 ^ 31) : f_X3_even N x y (nI a) (nI b) = some (vp_updL (vp_updL x b ((x a + x b) >>> ((1 : Int32).toInt64 &&& 63))) a ((x a + x b) - (x a + x b) >>> ((1 : Int32).toInt64 &&& 63)), vp_updL (vp_updL y b ((y a + y b) >>> ((1 : Int32).toInt64 &&& 63))) a ((y a + y b) - (y a + y b) >>> ((1 : Int32).toInt64 &&& 63))) := by
  unfold f_X3_even
  rw [ck_q ha hN, ck_q hb hN, nm_q, ck_q ha hN, ck_q hb hN, nm_q, nI_clamp (by omega), nI_clamp (by omega), put_X3 _ _ hb hN, bd_q]
  dsimp only
  rw [ck_q hb hN, ck_q hb hN, upL_s, upL_s, put_X3 _ _ ha hN, bd_q]
theorem even_both {me he se ta : Int32} {bs bw : Nat → Int64} {gr hd jo le : Nat → Int32} {cs cw : Nat → Int64} {fr to : Nat → Int32} {ms mw os ow : Nat → Int64} {kn nu ox va : Nat → Int32} {s : Nat → Int64} {a b n q : Nat} (h : RS me he se ta bs bw gr hd jo le cs cw fr to ms mw os ow kn nu ox va s) (hn : n ≤ 10) (hnn : nn me = n) (hqq : nn he = q) (ha : a < n) (hb : b < n) (hab : a ≠ b) (ta1 : tb q a = true) (tb1 : tb q b = true) : ∃ bs' bw' ms' mw' s', f_X5_evenByBooks bs bw ms mw (nI a) (nI b) = some (bs', bw', ms', mw') ∧ f_X8_even s (nI a) (nI b) = some s' ∧ RS me he se ta bs' bw' gr hd jo le cs cw fr to ms' mw' os ow kn nu ox va s' := by
  obtain ⟨h0, hJ, hV, hHd, hM, hK, hL, hQ⟩ := h
  obtain ⟨a1, a2, -⟩ := hM a (by omega)
  obtain ⟨b1, b2, -⟩ := hM b (by omega)
  obtain ⟨u, hu⟩ : ∃ u : Int64, u = (ms a + ms b) >>> ((1 : Int32).toInt64 &&& 63) := ⟨_, rfl⟩
  obtain ⟨v, hv⟩ : ∃ v : Int64, v = (mw a + mw b) >>> ((1 : Int32).toInt64 &&& 63) := ⟨_, rfl⟩
  obtain ⟨x, hx⟩ : ∃ x : Int64, x = ms a + ms b := ⟨_, rfl⟩
  obtain ⟨y, hy⟩ : ∃ y : Int64, y = mw a + mw b := ⟨_, rfl⟩
  obtain ⟨s', hs'⟩ : ∃ s' : Nat → Int64, s' = vp_updL (vp_updL (vp_updL (vp_updL (vp_updL (vp_updL (vp_updL (vp_updL s (213 + 10 * a + b) (s (213 + 10 * a + b) + (u - ms b))) (313 + 10 * a + b) (s (313 + 10 * a + b) + (v - mw b))) (213 + 10 * b + a) (s (213 + 10 * b + a) + (x - u - ms a))) (313 + 10 * b + a) (s (313 + 10 * b + a) + (y - v - mw a))) (33 + a) (x - u)) (33 + b) u) (43 + a) (y - v)) (43 + b) v := ⟨_, rfl⟩
  have fr' : ∀ j, (j < 33 ∨ (53 ≤ j ∧ j < 213) ∨ 413 ≤ j) → s' j = s j := fun j hj => by rw [hs']; simp (disch := omega) only [fr_up]
  refine ⟨vp_updL (vp_updL bs (10 * a + b) (bs (10 * a + b) + (u - ms b))) (10 * b + a) (bs (10 * b + a) + (x - u - ms a)), vp_updL (vp_updL bw (10 * a + b) (bw (10 * a + b) + (v - mw b))) (10 * b + a) (bw (10 * b + a) + (y - v - mw a)), vp_updL (vp_updL ms b u) a (x - u), vp_updL (vp_updL mw b v) a (y - v), s', ?_, ?_, ⟨h0.fr fun j hj => fr' j (by omega), hJ.fr fun j _ _ => fr' j (by omega), hV.fr fun j _ => fr' j (by omega), hHd.fr fun j _ _ => fr' j (by omega), ?_, hK.fr fun j _ _ => fr' j (by omega), hL.fr fun j _ _ => fr' j (by omega), ?_⟩⟩
  · unfold f_X5_evenByBooks
    rw [even_X3 (by omega) (by omega) (by omega), ← hu, ← hv, ← hx, ← hy, pair_X7, pair_X7]
    simp (disch := omega) only [ck_q, nm_q, nI_clamp, bd_q, fr_up, upL_s, add_X3]
  · unfold f_X8_even
    rw [ad_33, ad_33, ad_43, ad_43, p_213, p_213, p_313, p_313]
    simp (disch := omega) only [ck_q, nm_q, nI_clamp, fr_up, a1, a2, b1, b2]
    rw [← hu, ← hv, ← hx, ← hy, hs']
  · intro z hz
    obtain ⟨w1, w2, w3⟩ := hM z hz
    rw [hs', upL_a (vp_updL ms b u), upL_a ms, upL_a (vp_updL mw b v), upL_a mw]
    by_cases c : z = a
    · subst c
      simp (disch := omega) only [fr_up, upL_s, if_true]
      refine ⟨trivial, trivial, fun e => ?_⟩
      rw [hqq, ta1] at e; cases e
    · rw [if_neg c, if_neg c]
      by_cases c2 : z = b
      · subst c2
        simp (disch := omega) only [fr_up, upL_s, if_true]
        refine ⟨trivial, trivial, fun e => ?_⟩
        rw [hqq, tb1] at e; cases e
      · rw [if_neg c2, if_neg c2]
        simp (disch := omega) only [fr_up]
        exact ⟨w1, w2, w3⟩
  · intro i hi
    obtain ⟨w1, w2, w3, w4, w5⟩ := hQ i hi
    rw [fr' (413 + i) (by omega), fr' (513 + i) (by omega), hs', upL_a (vp_updL bs _ _), upL_a bs, upL_a (vp_updL bw _ _), upL_a bw]
    by_cases c : i = 10 * b + a
    · subst c
      rw [if_pos rfl, if_pos rfl, show 213 + (10 * b + a) = 213 + 10 * b + a by omega, show 313 + (10 * b + a) = 313 + 10 * b + a by omega]
      simp (disch := omega) only [fr_up, upL_s]
      rw [show 213 + 10 * b + a = 213 + (10 * b + a) by omega, show 313 + 10 * b + a = 313 + (10 * b + a) by omega, w1, w2]
      refine ⟨rfl, rfl, w3, w4, fun e => ?_⟩
      rw [hnn] at e; omega
    · rw [if_neg c, if_neg c]
      by_cases c2 : i = 10 * a + b
      · subst c2
        rw [if_pos rfl, if_pos rfl, show 213 + (10 * a + b) = 213 + 10 * a + b by omega, show 313 + (10 * a + b) = 313 + 10 * a + b by omega]
        simp (disch := omega) only [fr_up, upL_s]
        rw [show 213 + 10 * a + b = 213 + (10 * a + b) by omega, show 313 + 10 * a + b = 313 + (10 * a + b) by omega, w1, w2]
        refine ⟨rfl, rfl, w3, w4, fun e => ?_⟩
        rw [hnn] at e; omega
      · rw [if_neg c2, if_neg c2]
        simp (disch := omega) only [fr_up]
        exact ⟨w1, w2, w3, w4, w5⟩
theorem or_nI : ∀ x y : Nat, x < 1024 → y < 1024 → (nI x ||| nI y) = nI (x ||| y) := by
  intro x y hx hy
  rw [← Int32.toBitVec_inj]
  exact (BitVec.ofNat_or ..).symm
theorem i2l_le {x y : Int32} : x.toInt64 ≤ y.toInt64 ↔ x ≤ y := by rw [Int64.le_iff_toInt_le, i2l_i, i2l_i, Int32.le_iff_toInt_le]
theorem i2l_lt {x y : Int32} : x.toInt64 < y.toInt64 ↔ x < y := by rw [Int64.lt_iff_toInt_lt, i2l_i, i2l_i, Int32.lt_iff_toInt_lt]
theorem great_end (s : Nat → Int64) {a b : Nat} (x y z : Int64) (ha : a < 10) (hb : b < 10) : f_X8_great_c113 fu s (nI a) (nI b) x y z 0 = some (vp_updL (vp_updL (vp_updL (vp_updL (vp_updL (vp_updL s (53 + a) x) (63 + a) y) (73 + a) z) (53 + b) x) (63 + b) y) (73 + b) z) := by
  unfold fu f_X8_great_c113
  rw [if_neg (by decide), if_neg (fun h => h rfl)]
  unfold f_X8_great_c129
  rw [ad_53, ad_63, ad_73]
  simp (disch := omega) only [ck_q, nm_q, nI_clamp]
  unfold f_X8_great_c113
  rw [if_neg (by decide), if_pos (by decide)]
  unfold f_X8_great_c129
  rw [ad_53, ad_63, ad_73]
  simp (disch := omega) only [ck_q, nm_q, nI_clamp]
  unfold f_X8_great_c113
  rw [if_pos (by decide)]
theorem great_both {me he se ta : Int32} {bs bw : Nat → Int64} {gr hd jo le : Nat → Int32} {cs cw : Nat → Int64} {fr to : Nat → Int32} {ms mw os ow : Nat → Int64} {kn nu ox va : Nat → Int32} {s : Nat → Int64} {a b n : Nat} (h : RS me he se ta bs bw gr hd jo le cs cw fr to ms mw os ow kn nu ox va s) (hn : n ≤ 10) (hnn : nn me = n) (ha : a < n) (hb : b < n) (hab : a ≠ b) : ∃ gr' hd' le' s', f_X5_shareGreatest gr hd le (nI a) (nI b) = some (gr', hd', le') ∧ f_X8_great s (nI a) (nI b) = some s' ∧ RS me he se ta bs bw gr' hd' jo le' cs cw fr to ms mw os ow kn nu ox va s' := by
  obtain ⟨h0, hJ, hV, hHd, hM, hK, hL, hQ⟩ := h
  obtain ⟨-, a1, a2⟩ := hV a (by omega)
  obtain ⟨-, b1, b2⟩ := hV b (by omega)
  obtain ⟨a3, a4, -⟩ := hHd a (by omega)
  obtain ⟨b3, b4, -⟩ := hHd b (by omega)
  obtain ⟨x, hx⟩ : ∃ x : Int32, x = if gr a < gr b then gr b else gr a := ⟨_, rfl⟩
  obtain ⟨y, hy⟩ : ∃ y : Int32, y = if le b < le a then le b else le a := ⟨_, rfl⟩
  obtain ⟨z, hz⟩ : ∃ z : Int32, z = hd a ||| hd b := ⟨_, rfl⟩
  have hz' : vp_in z 1024 := by
    obtain ⟨e1, l1⟩ := nn_nI a3 (by omega)
    obtain ⟨e2, l2⟩ := nn_nI b3 (by omega)
    rw [hz, e1, e2, or_nI _ _ l1 l2]
    exact vp_in_nI (Nat.or_lt_two_pow (n := 10) l1 l2) (by omega)
  obtain ⟨s', hs'⟩ : ∃ s' : Nat → Int64, s' = vp_updL (vp_updL (vp_updL (vp_updL (vp_updL (vp_updL s (53 + a) x.toInt64) (63 + a) y.toInt64) (73 + a) z.toInt64) (53 + b) x.toInt64) (63 + b) y.toInt64) (73 + b) z.toInt64 := ⟨_, rfl⟩
  have fr' : ∀ j, (j < 53 ∨ 83 ≤ j) → s' j = s j := fun j hj => by rw [hs']; simp (disch := omega) only [fr_up]
  refine ⟨upd (upd gr a x) b x, upd (upd hd a z) b z, upd (upd le a y) b y, s', ?_, ?_, ⟨h0.fr fun j hj => fr' j (by omega), hJ.fr fun j _ _ => fr' j (by omega), ?_, ?_, hM.fr fun j _ _ => fr' j (by omega), hK.fr fun j _ _ => fr' j (by omega), hL.fr fun j _ _ => fr' j (by omega), hQ.fr fun j _ _ => fr' j (by omega)⟩⟩
  · unfold f_X5_shareGreatest
    simp (disch := omega) only [ck_q, nm_q, nI_clamp]
    rw [hx, hy, hz]
  · unfold f_X8_great f_X8_great_c43 f_X8_great_c87
    rw [ad_53, ad_53, ad_63, ad_63, ad_73, ad_73]
    simp (disch := omega) only [ck_q, nm_q, nI_clamp, a1, a2, b1, b2, a4, b4, i2l_le]
    rw [great_end _ _ _ _ (by omega) (by omega), great_end _ _ _ _ (by omega) (by omega), great_end _ _ _ _ (by omega) (by omega), great_end _ _ _ _ (by omega) (by omega), ← Int32.toInt64_or, ← hz]
    have hx2 : x = if gr a ≤ gr b then gr b else gr a := by
      rw [hx]
      by_cases c : gr a < gr b
      · rw [if_pos c, if_pos (Int32.le_of_lt c)]
      · rw [if_neg c]
        by_cases c2 : gr a ≤ gr b
        · rw [if_pos c2]; exact Int32.le_antisymm c2 (Int32.not_lt.mp c)
        · rw [if_neg c2]
    have hy2 : y = if le b ≤ le a then le b else le a := by
      rw [hy]
      by_cases c : le b < le a
      · rw [if_pos c, if_pos (Int32.le_of_lt c)]
      · rw [if_neg c]
        by_cases c2 : le b ≤ le a
        · rw [if_pos c2]; exact Int32.le_antisymm (Int32.not_lt.mp c) c2
        · rw [if_neg c2]
    rw [hs', hx2, hy2]
    by_cases c1 : gr a ≤ gr b
    · rw [if_pos c1, if_pos c1]
      by_cases c2 : le b ≤ le a
      · rw [if_pos c2, if_pos c2]
      · rw [if_neg c2, if_neg c2]
    · rw [if_neg c1, if_neg c1]
      by_cases c2 : le b ≤ le a
      · rw [if_pos c2, if_pos c2]
      · rw [if_neg c2, if_neg c2]
  · intro m hm
    obtain ⟨w1, w2, w3⟩ := hV m hm
    rw [fr' (23 + m) (by omega), hs', upI_a (upd gr a x), upI_a gr, upI_a (upd le a y), upI_a le]
    by_cases c : m = b
    · subst c
      simp (disch := omega) only [fr_up, upL_s, if_true]
      exact ⟨w1, trivial, trivial⟩
    · rw [if_neg c, if_neg c]
      by_cases c2 : m = a
      · subst c2
        simp (disch := omega) only [fr_up, upL_s, if_true]
        exact ⟨w1, trivial, trivial⟩
      · rw [if_neg c2, if_neg c2]
        simp (disch := omega) only [fr_up]
        exact ⟨w1, w2, w3⟩
  · intro m hm
    obtain ⟨w1, w2, w3⟩ := hHd m hm
    rw [hs', upI_a (upd hd a z), upI_a hd]
    by_cases c : m = b
    · subst c
      simp (disch := omega) only [fr_up, upL_s, if_true]
      exact ⟨hz', trivial, fun w => absurd w (by omega)⟩
    · rw [if_neg c]
      by_cases c2 : m = a
      · subst c2
        simp (disch := omega) only [fr_up, upL_s, if_true]
        exact ⟨hz', trivial, fun w => absurd w (by omega)⟩
      · rw [if_neg c2]
        simp (disch := omega) only [fr_up]
        exact ⟨w1, w2, w3⟩
