/-! those who come, come back, are set -/
theorem arrive_both {n' m : Nat} {me0 he se ta : Int32} {bs bw : Nat → Int64} {gr hd jo le : Nat → Int32} {ms mw : Nat → Int64} {kn nu ox va : Nat → Int32} {s : Nat → Int64} {q : Nat} (p : Int32) (hn : n' ≤ 10) (hm : m < n') (hle : nn me0 ≤ n') (hq : q < 1024) (hqe : he = nI q) (hb : tb q m = false)
    (h13 : ∀ k, k < 10 → s (13 + k) = if tb q k then 1 else 0) (hV : RV va gr le s) (hHd : RH me0 hd s) (hM : RM he ms mw s) (hK : RK kn nu ox s) (hse : ¬ se < 0) (hs1 : s 1 = se.toInt64) :
    ∃ se' gr' hd' le' ms' mw' kn' nu' ox' va' s', f_X5_arrive (nI n') he se gr hd le ms mw kn nu ox va (nI m) p = some (nI (q ||| 2 ^ m), se', gr', hd', le', ms', mw', kn', nu', ox', va') ∧ f_X8_begins s (nI m) p = some s' ∧ RV va' gr' le' s' ∧ RH (nI n') hd' s' ∧ RM (nI (q ||| 2 ^ m)) ms' mw' s' ∧ RK kn' nu' ox' s' ∧ ¬ se' < 0 ∧ s' 1 = se'.toInt64 ∧ (∀ k, k < 10 → s' (13 + k) = if tb (q ||| 2 ^ m) k then 1 else 0) ∧ ∀ j, j ≠ 1 → (j < 13 ∨ 173 ≤ j) → s' j = s j := by
  subst hqe
  have hm10 : m < 10 := by omega
  -- the reference's row after its four writes
  obtain ⟨s4, hs4⟩ : ∃ s4 : Nat → Int64, s4 = vp_updL (vp_updL (vp_updL (vp_updL s (13 + m) 1) (23 + m) p.toInt64) (33 + m) (p.toInt64 * 1048576)) (43 + m) 1048576 := ⟨_, rfl⟩
  have g : ∀ j, s4 j = if j = 43 + m then 1048576 else if j = 33 + m then p.toInt64 * 1048576 else if j = 23 + m then p.toInt64 else if j = 13 + m then 1 else s j := fun j => by rw [hs4]; rfl
  have n1 : ∀ k, k < 10 → s4 (23 + k) = ((upd va m p) k).toInt64 := by
    intro k hk
    rw [g, upI_a, if_neg (by omega), if_neg (by omega)]
    by_cases e : k = m
    · subst e; rw [if_pos rfl, if_pos rfl]
    · rw [if_neg (by omega), if_neg (by omega), if_neg e]; exact (hV k hk).1
  have n2 : ∀ k, k < 10 → s4 (53 + k) = (gr k).toInt64 ∧ s4 (63 + k) = (le k).toInt64 := by
    intro k hk
    rw [g, g, if_neg (by omega), if_neg (by omega), if_neg (by omega), if_neg (by omega), if_neg (by omega), if_neg (by omega), if_neg (by omega), if_neg (by omega)]
    exact (hV k hk).2
  have n3 : RH me0 hd s4 := hHd.fr fun j _ _ => by rw [g, if_neg (by omega), if_neg (by omega), if_neg (by omega), if_neg (by omega)]
  obtain ⟨gr', hd', le', s5, c1, c2, c3, c4, c5⟩ := news_both hn hm hle n1 n2 n3
  have t1 : s5 1 = se.toInt64 := by rw [c5 1 (by omega), g, if_neg (by omega), if_neg (by omega), if_neg (by omega), if_neg (by omega)]; exact hs1
  have hK5 : RK kn nu ox s5 := hK.fr fun j _ _ => by rw [c5 j (by omega), g, if_neg (by omega), if_neg (by omega), if_neg (by omega), if_neg (by omega)]
  obtain ⟨t, kn', nu', ox', s6, d0, d1, d2, d3, d4, d5, d6⟩ := ticket_both hm10 hse t1 (fun k hk _ => hK5 k hk)
  have hput : f_X3_put 10 ms mw (nI m) (p.toInt64 * 1048576) 1048576 = some (vp_updL ms m (p.toInt64 * 1048576), vp_updL mw m 1048576) := by
    unfold f_X3_put
    rw [ck_q (by omega) (by omega), nm_q, ck_q (by omega) (by omega), nm_q, nI_clamp (by omega)]
  refine ⟨t, gr', hd', le', vp_updL ms m (p.toInt64 * 1048576), vp_updL mw m 1048576, kn', nu', ox', upd va m p, s6, ?_, ?_, c3.fr fun j hj => d6 j (by omega) (by omega), c4.fr fun j _ _ => d6 j (by omega) (by omega), ?_, d4, d0, d5, ?_, ?_⟩
  · unfold f_X5_arrive
    rw [nm_q, ck_q (by omega) (by omega), nm_q, nI_clamp (by omega), hput, bd_q, c1, bd_q, d1, bd_q, d2, bd_q, tb_or q hq m hm10]
  · unfold f_X8_begins
    rw [ad_13, ad_23, ad_33, ad_43, ck_q (by omega) (by omega), nm_q, ck_q (by omega) (by omega), nm_q, ck_q (by omega) (by omega), nm_q, ck_q (by omega) (by omega), nm_q, nI_clamp (by omega), nI_clamp (by omega), nI_clamp (by omega), nI_clamp (by omega), ← hs4, c2, bd_q, d3, bd_q]
  · intro k hk
    obtain ⟨m1, m2, m3⟩ := hM k hk
    rw [nn_I (by omega)] at m3
    rw [d6 _ (by omega) (by omega), d6 _ (by omega) (by omega), c5 _ (by omega), c5 _ (by omega), g, g, nn_I (by have := tb_olt hq hm10; omega), tb_o, upL_a, upL_a]
    by_cases e : k = m
    · subst e
      rw [if_neg (by omega), if_pos rfl, if_pos rfl, if_pos rfl, if_pos rfl]
      exact ⟨rfl, rfl, fun h => by simp at h⟩
    · rw [if_neg (by omega), if_neg (by omega), if_neg (by omega), if_neg (by omega), if_neg (by omega), if_neg (by omega), if_neg (by omega), if_neg (by omega), if_neg (by omega), if_neg (by omega)]
      refine ⟨m1, m2, fun h => m3 ?_⟩
      simpa [Ne.symm e] using h
  · intro k hk
    rw [d6 _ (by omega) (by omega), c5 _ (by omega), g, tb_o, if_neg (by omega), if_neg (by omega), if_neg (by omega)]
    by_cases e : k = m
    · subst e; simp
    · rw [if_neg (by omega), h13 k hk]
      simp [Ne.symm e]
  · intro j h1 h2
    rw [d6 j h1 (by omega), c5 j (by omega), g, if_neg (by omega), if_neg (by omega), if_neg (by omega), if_neg (by omega)]
theorem op_come {me : Int32} {he : Int32} {se : Int32} {ta : Int32} {bs : Nat → Int64} {bw : Nat → Int64} {gr : Nat → Int32} {hd : Nat → Int32} {jo : Nat → Int32} {le : Nat → Int32} {cs : Nat → Int64} {cw : Nat → Int64} {fr : Nat → Int32} {to : Nat → Int32} {ms : Nat → Int64} {mw : Nat → Int64} {os : Nat → Int64} {ow : Nat → Int64} {kn : Nat → Int32} {nu : Nat → Int32} {ox : Nat → Int32} {va : Nat → Int32} {s : Nat → Int64} {history_next : Int32} {history_size : Int32} {V : Nat → Option STv} {undos : Int32} {kept : Nat → Int64} (h : RS me he se ta bs bw gr hd jo le cs cw fr to ms mw os ow kn nu ox va s) (hH : RHi history_next history_size V undos kept) (p1 : Int32) : ∃ (history_next' : Int32) (history_size' : Int32) (me' : Int32) (he' : Int32) (se' : Int32) (gr' : Nat → Int32) (hd' : Nat → Int32) (le' : Nat → Int32) (ms' : Nat → Int64) (mw' : Nat → Int64) (kn' : Nat → Int32) (nu' : Nat → Int32) (ox' : Nat → Int32) (va' : Nat → Int32) (V' : Nat → Option STv) (undos' : Int32) (kept' : Nat → Int64) (s' : Nat → Int64) (r : Int32), f_X7_come ta bs bw jo cs cw fr to os ow history_next history_size me he se gr hd le ms mw kn nu ox va V p1 = some (history_next', history_size', me', he', se', gr', hd', le', ms', mw', kn', nu', ox', va', V', r) ∧ f_X8_come undos kept s p1 = some (undos', kept', s', r) ∧ RS me' he' se' ta bs bw gr' hd' jo le' cs cw fr to ms' mw' os ow kn' nu' ox' va' s' ∧ RHi history_next' history_size' V' undos' kept' := by
  obtain ⟨a1, a2, a3, a4, a5, e1, e2, e3⟩ := keep_both h hH
  obtain ⟨h0, hJ, hV, hHd, hM, hK, hL, hQ⟩ := id h
  obtain ⟨n, q, hn, hq, rfl, rfl, hn2, hq2, hs0, hs1, hs2⟩ := h0.get
  unfold f_X7_come f_X8_come
  rw [X7_isValue, X8_inVal]
  by_cases hv : -1073741824 ≤ p1.toInt ∧ p1.toInt ≤ 1073741824
  · simp only [bi_t hv, bd_q, o10, o00, not_false_eq_true, not_true_eq_false, if_true, if_false]
    rw [show (0 : Int32) = nI 0 from rfl, ck_q (by omega) (by omega), nI_clamp (by omega), hs0]
    by_cases h10 : n = 10
    · subst h10
      refine ⟨_, _, _, _, _, _, _, _, _, _, _, _, _, _, _, _, _, _, -3, by rw [if_neg (by decide)], by rw [if_neg (fun e => e rfl)], h, hH⟩
    · have hlt : nI n < (10 : Int32) := by rw [show (10 : Int32) = nI 10 from rfl, nI_ltI (by omega) (by omega)]; omega
      have hne : ¬ lN n = (10 : Int64) := by rw [show (10 : Int64) = lN 10 from rfl, lN_eq (by omega) (by omega)]; exact h10
      obtain ⟨g1, g2, g3, g4, g5, g6, g7, g8⟩ := h0
      obtain ⟨s1, hs1'⟩ : ∃ s1 : Nat → Int64, s1 = vp_updL s 0 (lN (n + 1)) := ⟨_, rfl⟩
      have gg : ∀ j, j ≠ 0 → s1 j = s j := fun j hj => by rw [hs1', fr_up hj]
      obtain ⟨se', gr', hd', le', ms', mw', kn', nu', ox', va', s', b1, b2, b3, b4, b5, b6, b7, b8, b9, b10⟩ := arrive_both (n' := n + 1) (m := n) (ta := ta) (bs := bs) (bw := bw) (jo := jo) p1 (by omega) (by omega) (by rw [hn2]; omega) hq rfl (hs2 n (by omega) (by omega)) (fun k hk => by rw [gg _ (by omega)]; exact hs1 k hk) (hV.fr fun j _ => gg j (by omega)) (hHd.fr fun j _ _ => gg j (by omega)) (hM.fr fun j _ _ => gg j (by omega)) (hK.fr fun j _ _ => gg j (by omega)) g6 (by rw [gg _ (by omega)]; exact g7)
      refine ⟨a1, a2, nI (n + 1), nI (q ||| 2 ^ n), se', gr', hd', le', ms', mw', kn', nu', ox', va', a3, a4, a5, s', nI n, ?_, ?_, ⟨⟨vp_in_nI (by omega) (by omega), ?_, vp_in_nI (tb_olt hq (by omega)) (by omega), ?_, ?_, b7, b8, ?_⟩, ?_, b3, b4, b5, b6, ?_, ?_⟩, e3⟩
      · rw [if_pos hlt, e1, bd_q, nm_q, nI_1, b1, bd_q]
      · rw [if_pos hne, e2, bd_q, ck_q (by omega) (by omega), nm_q, ck_q (by omega) (by omega), ck_q (by omega) (by omega), nm_q, lN_i, lN_1, ← hs1', b2, bd_q]
      · rw [b10 0 (by omega) (by omega), hs1', upL_s, nI_l (by omega)]
      · intro k hk; rw [nn_I (by have := tb_olt hq (show n < 10 by omega); omega)]; exact b9 k hk
      · intro k hk hk2
        rw [nn_I (by omega)] at hk
        rw [nn_I (by have := tb_olt hq (show n < 10 by omega); omega), tb_o, hs2 k (by omega) hk2]
        simp; omega
      · rw [b10 2 (by omega) (by omega), gg _ (by omega)]; exact g8
      · intro a ha
        obtain ⟨k1, k2, k3, k4⟩ := hJ a ha
        refine ⟨k1, by rw [b10 _ (by omega) (by omega), gg _ (by omega)]; exact k2, k3, fun b hb => ⟨(k4 b hb).1, fun hk => (k4 b hb).2 ?_⟩⟩
        rw [nn_I (by omega)] at hk ⊢; omega
      · intro k hk
        rw [b10 _ (by omega) (by omega), b10 _ (by omega) (by omega), b10 _ (by omega) (by omega), b10 _ (by omega) (by omega), b10 _ (by omega) (by omega), gg _ (by omega), gg _ (by omega), gg _ (by omega), gg _ (by omega), gg _ (by omega)]
        rcases hL k hk with z | ⟨z1, z2, z3, z4, z5⟩
        · exact Or.inl z
        · rw [nn_I (by omega)] at z3 z4
          refine Or.inr ⟨z1, z2, ?_, ?_, z5⟩
          · rw [nn_I (by have := tb_olt hq (show n < 10 by omega); omega), tb_o, z3]; rfl
          · rw [nn_I (by have := tb_olt hq (show n < 10 by omega); omega), tb_o, z4]; rfl
      · intro i hi
        obtain ⟨w1, w2, w3, w4, w5⟩ := hQ i hi
        rw [b10 _ (by omega) (by omega), b10 _ (by omega) (by omega), b10 _ (by omega) (by omega), b10 _ (by omega) (by omega), gg _ (by omega), gg _ (by omega), gg _ (by omega), gg _ (by omega)]
        refine ⟨w1, w2, w3, w4, fun hk => w5 ?_⟩
        rw [nn_I (by omega)] at hk ⊢; omega
  · refine ⟨_, _, _, _, _, _, _, _, _, _, _, _, _, _, _, _, _, _, -1, ?_, ?_, h, hH⟩ <;> simp only [bi_f hv, bd_q, o10, o00, not_false_eq_true, not_true_eq_false, if_true, if_false]
