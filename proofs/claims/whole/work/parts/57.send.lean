theorem free_loop {s : Nat → Int64} {he : Int32} {cs cw : Nat → Int64} {fr to : Nat → Int32} (hL : RLt he cs cw fr to s) (undos : Int32) (kept : Nat → Int64) (a b : Int32) : ∀ (d f i : Nat), i + d = 8 → d < f → ∃ k, i ≤ k ∧ k ≤ 8 ∧ (k < 8 → fr k = -1) ∧ f_X1_firstFree_c2 fr f (nI i) = some (nI k) ∧ f_X8_send_c32 f undos kept s a b (nI i) = f_X8_send_c52 undos kept s a b (nI k)
  | 0, 0, i, h1, h2 => absurd h2 (by omega)
  | d + 1, 0, i, h1, h2 => absurd h2 (by omega)
  | 0, f + 1, i, h1, h2 => by
    refine ⟨8, by omega, by omega, fun e => absurd e (by omega), ?_, ?_⟩
    · unfold f_X1_firstFree_c2
      rw [show (8 : Int32) = nI 8 from rfl, if_pos ((nI_leI (by omega) (by omega)).mpr (by omega)), show i = 8 by omega]
    · unfold f_X8_send_c32
      rw [show (8 : Int32) = nI 8 from rfl, if_pos ((nI_leI (by omega) (by omega)).mpr (by omega)), show i = 8 by omega]
  | d + 1, f + 1, i, h1, h2 => by
    have hu : f_X1_isUnderWay fr (nI i) = some (bi (¬ fr i = -1)) := by
      rw [X1_isUnderWay, nn_I (by omega)]
      congr 1; exact bi_iff ⟨fun e => e.2, fun e => ⟨vp_in_nI (by omega) (by omega), e⟩⟩
    by_cases c : fr i = -1
    · refine ⟨i, Nat.le_refl _, by omega, fun _ => c, ?_, ?_⟩
      · unfold f_X1_firstFree_c2
        rw [show (8 : Int32) = nI 8 from rfl, if_neg (fun h => by rw [nI_leI (by omega) (by omega)] at h; omega), hu, bd_q, if_pos (by rw [bi_0]; exact fun e => e c)]
      · unfold f_X8_send_c32
        rw [show (8 : Int32) = nI 8 from rfl, if_neg (fun h => by rw [nI_leI (by omega) (by omega)] at h; omega), X8_isUnderWay (by omega) hL, bd_q, if_pos (by rw [bi_0]; exact fun e => e c)]
    · obtain ⟨k, k1, k2, k3, k4, k5⟩ := free_loop hL undos kept a b d f (i + 1) (by omega) (by omega)
      refine ⟨k, by omega, k2, k3, ?_, ?_⟩
      · unfold f_X1_firstFree_c2
        rw [show (8 : Int32) = nI 8 from rfl, if_neg (fun h => by rw [nI_leI (by omega) (by omega)] at h; omega), hu, bd_q, if_neg (by rw [bi_0]; exact fun e => e c), nm_q, nI_1]
        exact k4
      · unfold f_X8_send_c32
        rw [show (8 : Int32) = nI 8 from rfl, if_neg (fun h => by rw [nI_leI (by omega) (by omega)] at h; omega), X8_isUnderWay (by omega) hL, bd_q, if_neg (by rw [bi_0]; exact fun e => e c), nm_q, nI_1]
        exact k5
theorem add_X3 {N m : Nat} {x y : Nat → Int64} (u v : Int64) (h : m < N) (hN : N < 2 ^ 31) : f_X3_add N x y (nI m) u v = some (vp_updL x m (x m + u), vp_updL y m (y m + v)) := by
  unfold f_X3_add
  rw [ck_q h hN, ck_q h hN, nm_q, ck_q h hN, ck_q h hN, nm_q, nI_clamp (by omega)]
theorem put_X3 {N m : Nat} {x y : Nat → Int64} (u v : Int64) (h : m < N) (hN : N < 2 ^ 31) : f_X3_put N x y (nI m) u v = some (vp_updL x m u, vp_updL y m v) := by
  unfold f_X3_put
  rw [ck_q h hN, nm_q, ck_q h hN, nm_q, nI_clamp (by omega)]
theorem write_X1 {k : Nat} {cs cw : Nat → Int64} {fr to : Nat → Int32} (a b : Int32) (u v : Int64) (h : k < 8) : f_X1_write cs cw fr to (nI k) a b u v = some (vp_updL cs k u, vp_updL cw k v, upd fr k a, upd to k b) := by
  unfold f_X1_write
  rw [ck_q h (by omega), nm_q, ck_q h (by omega), nm_q, put_X3 u v h (by omega), bd_q, nI_clamp (by omega)]
theorem pair_X7 (a b : Nat) : f_X7_pair (nI a) (nI b) = some (nI (10 * a + b)) := by
  unfold f_X7_pair
  rw [um_10, nI_add, show a * 10 + b = 10 * a + b by omega]
theorem RLt.drop {he : Int32} {cs cw : Nat → Int64} {fr to : Nat → Int32} {s s' : Nat → Int64} {k : Nat} (h : RLt he cs cw fr to s) (hk : k < 8) (h0 : s' (173 + 5 * k) = 0) (e : ∀ j, 173 ≤ j → j < 213 → j ≠ 173 + 5 * k → s' j = s j) : RLt he (vp_updL cs k 0) (vp_updL cw k 0) (upd fr k (-1)) (upd to k (-1)) s' := fun z hz => by
  rw [upL_a, upL_a, upI_a, upI_a]
  by_cases c : z = k
  · subst c
    rw [if_pos rfl, if_pos rfl, if_pos rfl, if_pos rfl]
    exact Or.inl ⟨rfl, by rw [h0]; decide, rfl, rfl⟩
  · rw [if_neg c, if_neg c, if_neg c, if_neg c, e _ (by omega) (by omega) (by omega), e _ (by omega) (by omega) (by omega), e _ (by omega) (by omega) (by omega), e _ (by omega) (by omega) (by omega), e _ (by omega) (by omega) (by omega)]
    exact h z hz
theorem op_send {me : Int32} {he : Int32} {se : Int32} {ta : Int32} {bs : Nat → Int64} {bw : Nat → Int64} {gr : Nat → Int32} {hd : Nat → Int32} {jo : Nat → Int32} {le : Nat → Int32} {cs : Nat → Int64} {cw : Nat → Int64} {fr : Nat → Int32} {to : Nat → Int32} {ms : Nat → Int64} {mw : Nat → Int64} {os : Nat → Int64} {ow : Nat → Int64} {kn : Nat → Int32} {nu : Nat → Int32} {ox : Nat → Int32} {va : Nat → Int32} {s : Nat → Int64} {history_next : Int32} {history_size : Int32} {V : Nat → Option STv} {undos : Int32} {kept : Nat → Int64} (h : RS me he se ta bs bw gr hd jo le cs cw fr to ms mw os ow kn nu ox va s) (hH : RHi history_next history_size V undos kept) (p1 : Int32) (p2 : Int32) : ∃ (history_next' : Int32) (history_size' : Int32) (bs' : Nat → Int64) (bw' : Nat → Int64) (cs' : Nat → Int64) (cw' : Nat → Int64) (fr' : Nat → Int32) (to' : Nat → Int32) (ms' : Nat → Int64) (mw' : Nat → Int64) (V' : Nat → Option STv) (undos' : Int32) (kept' : Nat → Int64) (s' : Nat → Int64) (r : Int32), f_X7_send me he se ta gr hd jo le os ow kn nu ox va history_next history_size bs bw cs cw fr to ms mw V p1 p2 = some (history_next', history_size', bs', bw', cs', cw', fr', to', ms', mw', V', r) ∧ f_X8_send undos kept s p1 p2 = some (undos', kept', s', r) ∧ RS me he se ta bs' bw' gr hd jo le cs' cw' fr' to' ms' mw' os ow kn nu ox va s' ∧ RHi history_next' history_size' V' undos' kept' := by
  obtain ⟨a1, a2, a3, a4, a5, e1, e2, e3⟩ := keep_both h hH
  obtain ⟨h0, hJ, hV, hHd, hM, hK, hL, hQ⟩ := id h
  obtain ⟨n, q, hn, hq, rfl, rfl, hn2, hq2, hs0, hs1, hs2⟩ := h0.get
  unfold f_X7_send f_X8_send
  rw [X7_isHere p1 hn hq, X7_isHere p2 hn hq, X8_isHere p1 hn hs0 hs1, X8_isHere p2 hn hs0 hs1]
  by_cases hm1 : vp_in p1 n ∧ tb q (nn p1) = true
  · by_cases hm2 : vp_in p2 n ∧ tb q (nn p2) = true
    · obtain ⟨a, ha, rfl⟩ := vp_in_of hm1.1 (by omega)
      obtain ⟨b, hb, rfl⟩ := vp_in_of hm2.1 (by omega)
      rw [nn_I (by omega)] at hm1 hm2 ⊢
      rw [nn_I (by omega)]
      have ha10 : a < 10 := by omega
      have hb10 : b < 10 := by omega
      rw [X5_isJoined ha10 hb10 (hJ a ha10).1, X8_areJoined ha10 hb10 hJ]
      simp only [bi_t hm1, bi_t hm2, bd_q, o10, o00, not_false_eq_true, not_true_eq_false, if_true, if_false]
      by_cases hj : tb (nn (jo a)) b = true
      · simp only [bi_t hj, o10, o00, not_false_eq_true, not_true_eq_false, if_true, if_false]
        obtain ⟨k, -, k2, k3, k4, k5⟩ := free_loop hL undos kept (nI a) (nI b) 8 fu 0 (by omega) (fu_ge (by omega))
        have k4' : f_X1_firstFree fr = some (nI k) := k4
        have k5' : f_X8_send_c32 fu undos kept s (nI a) (nI b) 0 = f_X8_send_c52 undos kept s (nI a) (nI b) (nI k) := k5
        rw [k4', k5', bd_q]
        unfold f_X8_send_c52
        by_cases hk : k = 8
        · subst hk
          refine ⟨history_next, history_size, bs, bw, cs, cw, fr, to, ms, mw, V, undos, kept, s, -3, ?_, ?_, h, hH⟩
          · rw [if_neg (by decide)]
          · rw [if_neg (fun e => e rfl)]
        · have hk8 : k < 8 := by omega
          rw [if_pos (show nI k < (8 : Int32) by rw [show (8 : Int32) = nI 8 from rfl, nI_ltI (by omega) (by omega)]; exact hk8), if_pos (show ¬ nI k = (8 : Int32) by rw [show (8 : Int32) = nI 8 from rfl, nI_eq (by omega) (by omega)]; exact hk)]
          obtain ⟨u, hu⟩ : ∃ u : Int64, u = ms a >>> ((1 : Int32).toInt64 &&& 63) := ⟨_, rfl⟩
          obtain ⟨v, hv⟩ : ∃ v : Int64, v = mw a >>> ((1 : Int32).toInt64 &&& 63) := ⟨_, rfl⟩
          obtain ⟨m1, m2, -⟩ := hM a ha10
          obtain ⟨s', hs'⟩ : ∃ s' : Nat → Int64, s' = vp_updL (vp_updL (vp_updL (vp_updL (vp_updL (vp_updL (vp_updL (vp_updL (vp_updL s (173 + 5 * k) 1) (173 + 5 * k + 1) (nI a).toInt64) (173 + 5 * k + 2) (nI b).toInt64) (173 + 5 * k + 3) u) (173 + 5 * k + 4) v) (33 + a) (ms a - u)) (43 + a) (mw a - v)) (213 + 10 * a + b) (s (213 + 10 * a + b) + u)) (313 + 10 * a + b) (s (313 + 10 * a + b) + v) := ⟨_, rfl⟩
          have fr' : ∀ j, (j < 33 ∨ (53 ≤ j ∧ j < 173) ∨ 413 ≤ j) → s' j = s j := fun j hj => by rw [hs']; simp (disch := omega) only [fr_up]
          refine ⟨a1, a2, vp_updL bs (10 * a + b) (bs (10 * a + b) + u), vp_updL bw (10 * a + b) (bw (10 * a + b) + v), vp_updL cs k u, vp_updL cw k v, upd fr k (nI a), upd to k (nI b), vp_updL ms a (ms a + -u), vp_updL mw a (mw a + -v), a3, a4, a5, s', nI k, ?_, ?_, ⟨h0.fr fun j hj => fr' j (by omega), hJ.fr fun j _ _ => fr' j (by omega), hV.fr fun j _ => fr' j (by omega), hHd.fr fun j _ _ => fr' j (by omega), ?_, hK.fr fun j _ _ => fr' j (by omega), ?_, ?_⟩, e3⟩
          · rw [e1, bd_q]
            unfold f_X5_post
            rw [ck_q ha10 (by omega), nm_q, ck_q ha10 (by omega), nm_q, nI_clamp (by omega), ← hu, ← hv, add_X3 _ _ ha10 (by omega), bd_q, pair_X7, bd_q, add_X3 _ _ (by omega) (by omega), bd_q, write_X1 _ _ _ _ hk8, bd_q, bd_q]
          · rw [e2, bd_q, ad_33, ad_43, lt_0', mu_10, ad_213, ad_313, nI_add, nI_add]
            rw [show nI (173 + 5 * k) + (1 : Int32) = nI (173 + 5 * k + 1) from nI_add _ 1, show nI (173 + 5 * k) + (2 : Int32) = nI (173 + 5 * k + 2) from nI_add _ 2, show nI (173 + 5 * k) + (3 : Int32) = nI (173 + 5 * k + 3) from nI_add _ 3, show nI (173 + 5 * k) + (4 : Int32) = nI (173 + 5 * k + 4) from nI_add _ 4]
            simp (disch := omega) only [ck_q, nm_q, nI_clamp, fr_up, m1, m2, ← hu, ← hv]
            rw [hs']
          · intro z hz
            obtain ⟨w1, w2, w3⟩ := hM z hz
            rw [upL_a, upL_a]
            by_cases c : z = a
            · subst c
              rw [if_pos rfl, if_pos rfl, hs']
              simp (disch := omega) only [fr_up, upL_s]
              refine ⟨Int64.sub_eq_add_neg .., Int64.sub_eq_add_neg .., fun e => ?_⟩
              rw [nn_I (by omega), hm1.2] at e; cases e
            · rw [if_neg c, if_neg c, hs']
              simp (disch := omega) only [fr_up]
              exact ⟨w1, w2, w3⟩
          · intro z hz
            rw [upL_a, upL_a, upI_a, upI_a]
            by_cases c : z = k
            · subst c
              rw [if_pos rfl, if_pos rfl, if_pos rfl, if_pos rfl, hs']
              simp (disch := omega) only [fr_up, upL_s]
              refine Or.inr ⟨vp_in_nI ha10 (by omega), vp_in_nI hb10 (by omega), ?_, ?_, trivial, trivial, trivial, trivial, trivial⟩
              · rw [nn_I (by omega), nn_I (by omega)]; exact hm1.2
              · rw [nn_I (by omega), nn_I (by omega)]; exact hm2.2
            · rw [if_neg c, if_neg c, if_neg c, if_neg c, hs']
              simp (disch := omega) only [fr_up]
              exact hL z hz
          · intro i hi
            obtain ⟨w1, w2, w3, w4, w5⟩ := hQ i hi
            rw [upL_a, upL_a]
            by_cases c : i = 10 * a + b
            · subst c
              rw [if_pos rfl, if_pos rfl, hs', show 213 + (10 * a + b) = 213 + 10 * a + b by omega, show 313 + (10 * a + b) = 313 + 10 * a + b by omega]
              simp (disch := omega) only [fr_up, upL_s]
              rw [show 213 + 10 * a + b = 213 + (10 * a + b) by omega, show 313 + 10 * a + b = 313 + (10 * a + b) by omega, w1, w2]
              refine ⟨rfl, rfl, w3, w4, fun e => ?_⟩
              rw [nn_I (by omega)] at e; omega
            · rw [if_neg c, if_neg c, hs']
              simp (disch := omega) only [fr_up]
              exact ⟨w1, w2, w3, w4, w5⟩
      · refine ⟨history_next, history_size, bs, bw, cs, cw, fr, to, ms, mw, V, undos, kept, s, -2, ?_, ?_, h, hH⟩ <;> simp only [bi_f hj, o10, o00, not_false_eq_true, not_true_eq_false, if_true, if_false]
    · refine ⟨history_next, history_size, bs, bw, cs, cw, fr, to, ms, mw, V, undos, kept, s, -1, ?_, ?_, h, hH⟩ <;> simp only [bi_t hm1, bi_f hm2, bd_q, o10, o00, not_false_eq_true, not_true_eq_false, if_true, if_false]
  · refine ⟨history_next, history_size, bs, bw, cs, cw, fr, to, ms, mw, V, undos, kept, s, -1, ?_, ?_, h, hH⟩ <;> simp only [bi_f hm1, bd_q, o10, o00, not_false_eq_true, not_true_eq_false, if_true, if_false]
theorem op_bring {me : Int32} {he : Int32} {se : Int32} {ta : Int32} {bs : Nat → Int64} {bw : Nat → Int64} {gr : Nat → Int32} {hd : Nat → Int32} {jo : Nat → Int32} {le : Nat → Int32} {cs : Nat → Int64} {cw : Nat → Int64} {fr : Nat → Int32} {to : Nat → Int32} {ms : Nat → Int64} {mw : Nat → Int64} {os : Nat → Int64} {ow : Nat → Int64} {kn : Nat → Int32} {nu : Nat → Int32} {ox : Nat → Int32} {va : Nat → Int32} {s : Nat → Int64} {history_next : Int32} {history_size : Int32} {V : Nat → Option STv} {undos : Int32} {kept : Nat → Int64} (h : RS me he se ta bs bw gr hd jo le cs cw fr to ms mw os ow kn nu ox va s) (hH : RHi history_next history_size V undos kept) (p1 : Int32) : ∃ (history_next' : Int32) (history_size' : Int32) (bs' : Nat → Int64) (bw' : Nat → Int64) (cs' : Nat → Int64) (cw' : Nat → Int64) (fr' : Nat → Int32) (to' : Nat → Int32) (ms' : Nat → Int64) (mw' : Nat → Int64) (V' : Nat → Option STv) (undos' : Int32) (kept' : Nat → Int64) (s' : Nat → Int64) (r : Int32), f_X7_bring me he se ta gr hd jo le os ow kn nu ox va history_next history_size bs bw cs cw fr to ms mw V p1 = some (history_next', history_size', bs', bw', cs', cw', fr', to', ms', mw', V', r) ∧ f_X8_bring undos kept s p1 = some (undos', kept', s', r) ∧ RS me he se ta bs' bw' gr hd jo le cs' cw' fr' to' ms' mw' os ow kn nu ox va s' ∧ RHi history_next' history_size' V' undos' kept' := by
  obtain ⟨a1, a2, a3, a4, a5, e1, e2, e3⟩ := keep_both h hH
  obtain ⟨h0, hJ, hV, hHd, hM, hK, hL, hQ⟩ := id h
  obtain ⟨n, q, hn, hq, rfl, rfl, hn2, hq2, hs0, hs1, hs2⟩ := h0.get
  unfold f_X7_bring f_X8_bring
  rw [X1_isUnderWay, X8_isLetter p1 hL, bd_q, bd_q]
  by_cases hm : vp_in p1 8 ∧ ¬ fr (nn p1) = -1
  · obtain ⟨k, hk, rfl⟩ := vp_in_of hm.1 (by omega)
    rw [nn_I (by omega)] at hm ⊢
    simp only [bi_t hm, o10, o00, not_false_eq_true, not_true_eq_false, if_true, if_false]
    rcases hL k hk with ⟨g1, -⟩ | ⟨f1, t1, f2, t2, g0, g1, g2, g3, g4⟩
    · exact absurd g1 hm.2
    · obtain ⟨ef, lf⟩ := nn_nI f1 (by omega)
      obtain ⟨et, lt⟩ := nn_nI t1 (by omega)
      obtain ⟨a, hae⟩ : ∃ a, a = nn (fr k) := ⟨_, rfl⟩
      obtain ⟨b, hbe⟩ : ∃ b, b = nn (to k) := ⟨_, rfl⟩
      rw [← hae] at ef lf f2; rw [← hbe] at et lt t2
      obtain ⟨m1, m2, -⟩ := hM b lt
      rw [nn_I (by omega)] at f2 t2
      have hb_n : b < n := by
        rcases Nat.lt_or_ge b n with z | z
        · exact z
        · rw [hs2 b z lt] at t2; cases t2
      have ha_n : a < n := by
        rcases Nat.lt_or_ge a n with z | z
        · exact z
        · rw [hs2 a z lf] at f2; cases f2
      obtain ⟨s', hs'⟩ : ∃ s' : Nat → Int64, s' = vp_updL (vp_updL (vp_updL (vp_updL (vp_updL s (33 + b) (ms b + cs k)) (43 + b) (mw b + cw k)) (213 + 10 * b + a) (s (213 + 10 * b + a) - cs k)) (313 + 10 * b + a) (s (313 + 10 * b + a) - cw k)) (173 + 5 * k) 0 := ⟨_, rfl⟩
      have fr' : ∀ j, (j < 33 ∨ (53 ≤ j ∧ j < 173) ∨ 413 ≤ j) → s' j = s j := fun j hj => by rw [hs']; simp (disch := omega) only [fr_up]
      refine ⟨a1, a2, vp_updL bs (10 * b + a) (bs (10 * b + a) + -(cs k)), vp_updL bw (10 * b + a) (bw (10 * b + a) + -(cw k)), vp_updL cs k 0, vp_updL cw k 0, upd fr k (-1), upd to k (-1), vp_updL ms b (ms b + cs k), vp_updL mw b (mw b + cw k), a3, a4, a5, s', nI b, ?_, ?_, ⟨h0.fr fun j hj => fr' j (by omega), hJ.fr fun j _ _ => fr' j (by omega), hV.fr fun j _ => fr' j (by omega), hHd.fr fun j _ _ => fr' j (by omega), ?_, hK.fr fun j _ _ => fr' j (by omega), ?_, ?_⟩, e3⟩
      · rw [e1, bd_q, ck_q hk (by omega), nm_q, nI_clamp (by omega)]
        unfold f_X5_deliver f_X3_at f_X1_drop
        rw [ck_q hk (by omega), nm_q, ck_q hk (by omega), nm_q, nI_clamp (by omega), et, ef, if_pos rfl, if_neg (by decide), ck_q hk (by omega), ck_q hk (by omega), bd_q, bd_q, add_X3 _ _ lt (by omega), bd_q, pair_X7, bd_q, add_X3 _ _ (by omega) (by omega), bd_q, write_X1 _ _ _ _ hk, bd_q, bd_q, bd_q]
      · rw [e2, bd_q, nm_q, lt_0']
        rw [show nI (173 + 5 * k) + (1 : Int32) = nI (173 + 5 * k + 1) from nI_add _ 1, show nI (173 + 5 * k) + (2 : Int32) = nI (173 + 5 * k + 2) from nI_add _ 2, show nI (173 + 5 * k) + (3 : Int32) = nI (173 + 5 * k + 3) from nI_add _ 3, show nI (173 + 5 * k) + (4 : Int32) = nI (173 + 5 * k + 4) from nI_add _ 4]
        rw [ck_q (by omega) (by omega), nm_q, ck_q (by omega) (by omega), nm_q, nI_clamp (show 173 + 5 * k + 1 < 2 ^ 31 by omega), nI_clamp (show 173 + 5 * k + 2 < 2 ^ 31 by omega), g1, g2, i2l_back, i2l_back, ef, et, mu_10, ad_33, ad_43, ad_213, ad_313, nI_add, nI_add]
        simp (disch := omega) only [ck_q, nm_q, nI_clamp, fr_up, m1, m2, g3, g4]
        rw [hs']
      · intro z hz
        obtain ⟨w1, w2, w3⟩ := hM z hz
        rw [upL_a, upL_a]
        by_cases c : z = b
        · subst c
          rw [if_pos rfl, if_pos rfl, hs']
          simp (disch := omega) only [fr_up, upL_s]
          refine ⟨trivial, trivial, fun e => ?_⟩
          rw [nn_I (by omega), t2] at e; cases e
        · rw [if_neg c, if_neg c, hs']
          simp (disch := omega) only [fr_up]
          exact ⟨w1, w2, w3⟩
      · refine hL.drop hk ?_ fun j j1 j2 j3 => ?_
        · rw [hs', upL_s]
        · rw [hs']; simp (disch := omega) only [fr_up]
      · intro i hi
        obtain ⟨w1, w2, w3, w4, w5⟩ := hQ i hi
        rw [upL_a, upL_a]
        by_cases c : i = 10 * b + a
        · subst c
          rw [if_pos rfl, if_pos rfl, hs', show 213 + (10 * b + a) = 213 + 10 * b + a by omega, show 313 + (10 * b + a) = 313 + 10 * b + a by omega]
          simp (disch := omega) only [fr_up, upL_s]
          rw [show 213 + 10 * b + a = 213 + (10 * b + a) by omega, show 313 + 10 * b + a = 313 + (10 * b + a) by omega, w1, w2]
          refine ⟨Int64.sub_eq_add_neg .., Int64.sub_eq_add_neg .., w3, w4, fun e => ?_⟩
          rw [nn_I (by omega)] at e; omega
        · rw [if_neg c, if_neg c, hs']
          simp (disch := omega) only [fr_up]
          exact ⟨w1, w2, w3, w4, w5⟩
  · refine ⟨history_next, history_size, bs, bw, cs, cw, fr, to, ms, mw, V, undos, kept, s, -1, ?_, ?_, h, hH⟩ <;> simp only [bi_f hm, o10, o00, not_false_eq_true, not_true_eq_false, if_true, if_false]
theorem op_lose {me : Int32} {he : Int32} {se : Int32} {ta : Int32} {bs : Nat → Int64} {bw : Nat → Int64} {gr : Nat → Int32} {hd : Nat → Int32} {jo : Nat → Int32} {le : Nat → Int32} {cs : Nat → Int64} {cw : Nat → Int64} {fr : Nat → Int32} {to : Nat → Int32} {ms : Nat → Int64} {mw : Nat → Int64} {os : Nat → Int64} {ow : Nat → Int64} {kn : Nat → Int32} {nu : Nat → Int32} {ox : Nat → Int32} {va : Nat → Int32} {s : Nat → Int64} {history_next : Int32} {history_size : Int32} {V : Nat → Option STv} {undos : Int32} {kept : Nat → Int64} (h : RS me he se ta bs bw gr hd jo le cs cw fr to ms mw os ow kn nu ox va s) (hH : RHi history_next history_size V undos kept) (p1 : Int32) : ∃ (history_next' : Int32) (history_size' : Int32) (cs' : Nat → Int64) (cw' : Nat → Int64) (fr' : Nat → Int32) (to' : Nat → Int32) (os' : Nat → Int64) (ow' : Nat → Int64) (V' : Nat → Option STv) (undos' : Int32) (kept' : Nat → Int64) (s' : Nat → Int64) (r : Int32), f_X7_lose me he se ta bs bw gr hd jo le ms mw kn nu ox va history_next history_size cs cw fr to os ow V p1 = some (history_next', history_size', cs', cw', fr', to', os', ow', V', r) ∧ f_X8_lose undos kept s p1 = some (undos', kept', s', r) ∧ RS me he se ta bs bw gr hd jo le cs' cw' fr' to' ms mw os' ow' kn nu ox va s' ∧ RHi history_next' history_size' V' undos' kept' := by
  obtain ⟨a1, a2, a3, a4, a5, e1, e2, e3⟩ := keep_both h hH
  obtain ⟨h0, hJ, hV, hHd, hM, hK, hL, hQ⟩ := id h
  obtain ⟨n, q, hn, hq, rfl, rfl, hn2, hq2, hs0, hs1, hs2⟩ := h0.get
  unfold f_X7_lose f_X8_lose
  rw [X1_isUnderWay, X8_isLetter p1 hL, bd_q, bd_q]
  by_cases hm : vp_in p1 8 ∧ ¬ fr (nn p1) = -1
  · obtain ⟨k, hk, rfl⟩ := vp_in_of hm.1 (by omega)
    rw [nn_I (by omega)] at hm ⊢
    simp only [bi_t hm, o10, o00, not_false_eq_true, not_true_eq_false, if_true, if_false]
    rcases hL k hk with ⟨g1, -⟩ | ⟨f1, t1, f2, t2, g0, g1, g2, g3, g4⟩
    · exact absurd g1 hm.2
    · obtain ⟨ef, lf⟩ := nn_nI f1 (by omega)
      obtain ⟨et, lt⟩ := nn_nI t1 (by omega)
      obtain ⟨a, hae⟩ : ∃ a, a = nn (fr k) := ⟨_, rfl⟩
      obtain ⟨b, hbe⟩ : ∃ b, b = nn (to k) := ⟨_, rfl⟩
      rw [← hae] at ef lf f2; rw [← hbe] at et lt t2
      rw [nn_I (by omega)] at f2 t2
      have hb_n : b < n := by
        rcases Nat.lt_or_ge b n with z | z
        · exact z
        · rw [hs2 b z lt] at t2; cases t2
      have ha_n : a < n := by
        rcases Nat.lt_or_ge a n with z | z
        · exact z
        · rw [hs2 a z lf] at f2; cases f2
      obtain ⟨q1, q2, q3, q4, -⟩ := hQ (10 * a + b) (by omega)
      obtain ⟨s', hs'⟩ : ∃ s' : Nat → Int64, s' = vp_updL (vp_updL (vp_updL s (413 + (10 * a + b)) (os (10 * a + b) + cs k)) (513 + (10 * a + b)) (ow (10 * a + b) + cw k)) (173 + 5 * k) 0 := ⟨_, rfl⟩
      have fr' : ∀ j, (j < 173 ∨ (213 ≤ j ∧ j < 413)) → s' j = s j := fun j hj => by rw [hs']; simp (disch := omega) only [fr_up]
      have hpair : ((10 : Int64) * s (173 + 5 * k + 1) + s (173 + 5 * k + 2)).toInt32 = nI (10 * a + b) := by
        rw [g1, g2, ef, et, nI_l (by omega), nI_l (by omega), show (10 : Int64) = lN 10 from rfl, lN_mul, lN_add, lN_i]
      refine ⟨a1, a2, vp_updL cs k 0, vp_updL cw k 0, upd fr k (-1), upd to k (-1), vp_updL os (10 * a + b) (os (10 * a + b) + cs k), vp_updL ow (10 * a + b) (ow (10 * a + b) + cw k), a3, a4, a5, s', nI a, ?_, ?_, ⟨h0.fr fun j hj => fr' j (by omega), hJ.fr fun j _ _ => fr' j (by omega), hV.fr fun j _ => fr' j (by omega), hHd.fr fun j _ _ => fr' j (by omega), hM.fr fun j _ _ => fr' j (by omega), hK.fr fun j _ _ => fr' j (by omega), ?_, ?_⟩, e3⟩
      · rw [e1, bd_q, ck_q hk (by omega), nm_q, nI_clamp (by omega)]
        unfold f_X5_mislay f_X3_addFrom f_X1_drop
        rw [ck_q hk (by omega), ck_q hk (by omega), nI_clamp (by omega), et, ef, pair_X7, bd_q, ck_q hk (by omega), ck_q hk (by omega), add_X3 _ _ (by omega) (by omega), bd_q, bd_q, write_X1 _ _ _ _ hk, bd_q, bd_q, bd_q]
      · rw [e2, bd_q, nm_q, lt_0']
        rw [show nI (173 + 5 * k) + (1 : Int32) = nI (173 + 5 * k + 1) from nI_add _ 1, show nI (173 + 5 * k) + (2 : Int32) = nI (173 + 5 * k + 2) from nI_add _ 2, show nI (173 + 5 * k) + (3 : Int32) = nI (173 + 5 * k + 3) from nI_add _ 3, show nI (173 + 5 * k) + (4 : Int32) = nI (173 + 5 * k + 4) from nI_add _ 4]
        rw [ck_q (by omega) (by omega), ck_q (by omega) (by omega), nm_q, nI_clamp (show 173 + 5 * k + 1 < 2 ^ 31 by omega), nI_clamp (show 173 + 5 * k + 2 < 2 ^ 31 by omega), hpair, ad_413, ad_513]
        simp (disch := omega) only [ck_q, nm_q, nI_clamp, fr_up, q3, q4, g3, g4, g1, ef]
        rw [← hs', i2l_back]
      · refine hL.drop hk ?_ fun j j1 j2 j3 => ?_
        · rw [hs', upL_s]
        · rw [hs']; simp (disch := omega) only [fr_up]
      · intro i hi
        obtain ⟨w1, w2, w3, w4, w5⟩ := hQ i hi
        rw [upL_a, upL_a]
        by_cases c : i = 10 * a + b
        · subst c
          rw [if_pos rfl, if_pos rfl, hs']
          simp (disch := omega) only [fr_up, upL_s]
          refine ⟨w1, w2, trivial, trivial, fun e => ?_⟩
          rw [nn_I (by omega)] at e; omega
        · rw [if_neg c, if_neg c, hs']
          simp (disch := omega) only [fr_up]
          exact ⟨w1, w2, w3, w4, w5⟩
  · refine ⟨history_next, history_size, cs, cw, fr, to, os, ow, V, undos, kept, s, -1, ?_, ?_, h, hH⟩ <;> simp only [bi_f hm, o10, o00, not_false_eq_true, not_true_eq_false, if_true, if_false]
