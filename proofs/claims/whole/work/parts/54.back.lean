theorem RLt.he_or {he he' : Int32} {cs cw : Nat → Int64} {fr to : Nat → Int32} {s : Nat → Int64} (h : RLt he cs cw fr to s) (e : ∀ m, m < 10 → tb (nn he) m = true → tb (nn he') m = true) : RLt he' cs cw fr to s := fun k hk => by
  rcases h k hk with z | ⟨z1, z2, z3, z4, z5⟩
  · exact Or.inl z
  · exact Or.inr ⟨z1, z2, e _ (nn_nI z1 (by omega)).2 z3, e _ (nn_nI z2 (by omega)).2 z4, z5⟩
theorem op_back {me : Int32} {he : Int32} {se : Int32} {ta : Int32} {bs : Nat → Int64} {bw : Nat → Int64} {gr : Nat → Int32} {hd : Nat → Int32} {jo : Nat → Int32} {le : Nat → Int32} {cs : Nat → Int64} {cw : Nat → Int64} {fr : Nat → Int32} {to : Nat → Int32} {ms : Nat → Int64} {mw : Nat → Int64} {os : Nat → Int64} {ow : Nat → Int64} {kn : Nat → Int32} {nu : Nat → Int32} {ox : Nat → Int32} {va : Nat → Int32} {s : Nat → Int64} {history_next : Int32} {history_size : Int32} {V : Nat → Option STv} {undos : Int32} {kept : Nat → Int64} (h : RS me he se ta bs bw gr hd jo le cs cw fr to ms mw os ow kn nu ox va s) (hH : RHi history_next history_size V undos kept) (p1 : Int32) (p2 : Int32) : ∃ (history_next' : Int32) (history_size' : Int32) (he' : Int32) (se' : Int32) (gr' : Nat → Int32) (hd' : Nat → Int32) (le' : Nat → Int32) (ms' : Nat → Int64) (mw' : Nat → Int64) (kn' : Nat → Int32) (nu' : Nat → Int32) (ox' : Nat → Int32) (va' : Nat → Int32) (V' : Nat → Option STv) (undos' : Int32) (kept' : Nat → Int64) (s' : Nat → Int64) (r : Int32), f_X7_back me ta bs bw jo cs cw fr to os ow history_next history_size he se gr hd le ms mw kn nu ox va V p1 p2 = some (history_next', history_size', he', se', gr', hd', le', ms', mw', kn', nu', ox', va', V', r) ∧ f_X8_back undos kept s p1 p2 = some (undos', kept', s', r) ∧ RS me he' se' ta bs bw gr' hd' jo le' cs cw fr to ms' mw' os ow kn' nu' ox' va' s' ∧ RHi history_next' history_size' V' undos' kept' := by
  obtain ⟨a1, a2, a3, a4, a5, e1, e2, e3⟩ := keep_both h hH
  obtain ⟨h0, hJ, hV, hHd, hM, hK, hL, hQ⟩ := id h
  obtain ⟨n, q, hn, hq, rfl, rfl, hn2, hq2, hs0, hs1, hs2⟩ := h0.get
  unfold f_X7_back f_X8_back
  rw [X7_isMember p1 hn, X8_isMember p1 hs0 hn, X8_isHere p1 hn hs0 hs1, X7_isValue, X8_inVal]
  by_cases hm : vp_in p1 n
  · obtain ⟨m, hm', rfl⟩ := vp_in_of hm (by omega)
    have eb : bi (vp_in (nI m) n ∧ tb q m = true) = bi (tb q m = true) := bi_iff ⟨fun e => e.2, fun e => ⟨hm, e⟩⟩
    rw [X5_isHere hq (by omega), nn_I (by omega), eb]
    simp only [bi_t hm, bd_q, o10, o00, not_false_eq_true, not_true_eq_false, if_true, if_false]
    by_cases hb : tb q m = true
    · refine ⟨history_next, history_size, nI q, se, gr, hd, le, ms, mw, kn, nu, ox, va, V, undos, kept, s, -1, ?_, ?_, h, hH⟩ <;> simp only [bi_t hb, bd_q, o10, o00, not_false_eq_true, not_true_eq_false, if_true, if_false]
    · have hb' : tb q m = false := by simpa using hb
      by_cases hv : -1073741824 ≤ p2.toInt ∧ p2.toInt ≤ 1073741824
      · simp only [bi_t hv, bi_f hb, bd_q, o10, o00, not_false_eq_true, not_true_eq_false, if_true, if_false]
        obtain ⟨g1, g2, g3, g4, g5, g6, g7, g8⟩ := h0
        obtain ⟨se', gr', hd', le', ms', mw', kn', nu', ox', va', s', b1, b2, b3, b4, b5, b6, b7, b8, b9, b10⟩ := arrive_both (n' := n) (m := m) (ta := ta) (bs := bs) (bw := bw) (jo := jo) p2 hn hm' (by rw [hn2]; omega) hq rfl hb' hs1 hV hHd hM hK g6 g7
        have hq' : q ||| 2 ^ m < 1024 := tb_olt hq (by omega)
        refine ⟨a1, a2, nI (q ||| 2 ^ m), se', gr', hd', le', ms', mw', kn', nu', ox', va', a3, a4, a5, s', 1, ?_, ?_, ⟨⟨g1, ?_, vp_in_nI hq' (by omega), ?_, ?_, b7, b8, ?_⟩, hJ.fr fun j _ _ => b10 j (by omega) (by omega), b3, b4, b5, b6, (hL.fr fun j _ _ => b10 j (by omega) (by omega)).he_or ?_, hQ.fr fun j _ _ => b10 j (by omega) (by omega)⟩, e3⟩
        · rw [e1, bd_q, b1, bd_q]
        · rw [e2, bd_q, b2, bd_q]
        · rw [b10 0 (by omega) (by omega)]; exact g2
        · intro k hk; rw [nn_I (by omega)]; exact b9 k hk
        · intro k hk hk2
          rw [nn_I (by omega)] at hk
          rw [nn_I (by omega), tb_o, hs2 k hk hk2]
          simp; omega
        · rw [b10 2 (by omega) (by omega)]; exact g8
        · intro k hk z
          rw [nn_I (by omega)] at z ⊢
          rw [tb_o, z]; rfl
      · refine ⟨history_next, history_size, nI q, se, gr, hd, le, ms, mw, kn, nu, ox, va, V, undos, kept, s, -1, ?_, ?_, h, hH⟩ <;> simp only [bi_f hb, bi_f hv, bd_q, o10, o00, not_false_eq_true, not_true_eq_false, if_true, if_false]
  · refine ⟨history_next, history_size, nI q, se, gr, hd, le, ms, mw, kn, nu, ox, va, V, undos, kept, s, -1, ?_, ?_, h, hH⟩ <;> simp only [bi_f hm, bd_q, o10, o00, not_false_eq_true, not_true_eq_false, if_true, if_false]
theorem op_set {me : Int32} {he : Int32} {se : Int32} {ta : Int32} {bs : Nat → Int64} {bw : Nat → Int64} {gr : Nat → Int32} {hd : Nat → Int32} {jo : Nat → Int32} {le : Nat → Int32} {cs : Nat → Int64} {cw : Nat → Int64} {fr : Nat → Int32} {to : Nat → Int32} {ms : Nat → Int64} {mw : Nat → Int64} {os : Nat → Int64} {ow : Nat → Int64} {kn : Nat → Int32} {nu : Nat → Int32} {ox : Nat → Int32} {va : Nat → Int32} {s : Nat → Int64} {history_next : Int32} {history_size : Int32} {V : Nat → Option STv} {undos : Int32} {kept : Nat → Int64} (h : RS me he se ta bs bw gr hd jo le cs cw fr to ms mw os ow kn nu ox va s) (hH : RHi history_next history_size V undos kept) (p1 : Int32) (p2 : Int32) : ∃ (history_next' : Int32) (history_size' : Int32) (gr' : Nat → Int32) (hd' : Nat → Int32) (le' : Nat → Int32) (ms' : Nat → Int64) (mw' : Nat → Int64) (va' : Nat → Int32) (V' : Nat → Option STv) (undos' : Int32) (kept' : Nat → Int64) (s' : Nat → Int64) (r : Int32), f_X7_set me he se ta bs bw jo cs cw fr to os ow kn nu ox history_next history_size gr hd le ms mw va V p1 p2 = some (history_next', history_size', gr', hd', le', ms', mw', va', V', r) ∧ f_X8_set undos kept s p1 p2 = some (undos', kept', s', r) ∧ RS me he se ta bs bw gr' hd' jo le' cs cw fr to ms' mw' os ow kn nu ox va' s' ∧ RHi history_next' history_size' V' undos' kept' := by
  obtain ⟨a1, a2, a3, a4, a5, e1, e2, e3⟩ := keep_both h hH
  obtain ⟨h0, hJ, hV, hHd, hM, hK, hL, hQ⟩ := id h
  obtain ⟨n, q, hn, hq, rfl, rfl, hn2, hq2, hs0, hs1, hs2⟩ := h0.get
  unfold f_X7_set f_X8_set
  rw [X7_isHere p1 hn hq, X8_isHere p1 hn hs0 hs1, X7_isValue, X8_inVal]
  by_cases hm : vp_in p1 n ∧ tb q (nn p1) = true
  · obtain ⟨m, hm', rfl⟩ := vp_in_of hm.1 (by omega)
    rw [nn_I (by omega)] at hm ⊢
    have hm10 : m < 10 := by omega
    simp only [bi_t hm, bd_q, o10, o00, not_false_eq_true, not_true_eq_false, if_true, if_false]
    by_cases hv : -1073741824 ≤ p2.toInt ∧ p2.toInt ≤ 1073741824
    · simp only [bi_t hv, bd_q, o10, o00, not_false_eq_true, not_true_eq_false, if_true, if_false]
      obtain ⟨s2, hs2'⟩ : ∃ s2 : Nat → Int64, s2 = vp_updL (vp_updL s (33 + m) (s (33 + m) + ((p2.toInt64 - s (23 + m)) * 1048576))) (23 + m) p2.toInt64 := ⟨_, rfl⟩
      have g : ∀ j, s2 j = if j = 23 + m then p2.toInt64 else if j = 33 + m then s (33 + m) + ((p2.toInt64 - s (23 + m)) * 1048576) else s j := fun j => by rw [hs2']; rfl
      have n1 : ∀ k, k < 10 → s2 (23 + k) = ((upd va m p2) k).toInt64 := by
        intro k hk
        rw [g, upI_a]
        by_cases e : k = m
        · subst e; rw [if_pos rfl, if_pos rfl]
        · rw [if_neg (by omega), if_neg (by omega), if_neg e]; exact (hV k hk).1
      have n2 : ∀ k, k < 10 → s2 (53 + k) = (gr k).toInt64 ∧ s2 (63 + k) = (le k).toInt64 := by
        intro k hk
        rw [g, g, if_neg (by omega), if_neg (by omega), if_neg (by omega), if_neg (by omega)]
        exact (hV k hk).2
      have n3 : RH (nI n) hd s2 := hHd.fr fun j _ _ => by rw [g, if_neg (by omega), if_neg (by omega)]
      obtain ⟨gr', hd', le', s', c1, c2, c3, c4, c5⟩ := news_both hn hm' (by rw [hn2]; omega) n1 n2 n3
      obtain ⟨v1, -, -⟩ := hV m hm10
      obtain ⟨w1, w2, -⟩ := hM m hm10
      have fr2 : ∀ j, (j < 23 ∨ 83 ≤ j) → s' j = s j := fun j hj => by rw [c5 j (by omega), g, if_neg (by omega), if_neg (by omega)]
      have hadd : f_X3_add 10 ms mw (nI m) ((p2.toInt64 - (va m).toInt64) * 1048576) 0 = some (vp_updL ms m (ms m + (p2.toInt64 - (va m).toInt64) * 1048576), vp_updL mw m (mw m + 0)) := by
        unfold f_X3_add
        rw [ck_q (by omega) (by omega), ck_q (by omega) (by omega), nm_q, ck_q (by omega) (by omega), ck_q (by omega) (by omega), nm_q, nI_clamp (by omega)]
      refine ⟨a1, a2, gr', hd', le', vp_updL ms m (ms m + (p2.toInt64 - (va m).toInt64) * 1048576), vp_updL mw m (mw m + 0), upd va m p2, a3, a4, a5, s', 1, ?_, ?_, ⟨h0.fr fun j hj => fr2 j (by omega), hJ.fr fun j _ _ => fr2 j (by omega), c3, c4, ?_, hK.fr fun j _ _ => fr2 j (by omega), hL.fr fun j _ _ => fr2 j (by omega), hQ.fr fun j _ _ => fr2 j (by omega)⟩, e3⟩
      · rw [e1, bd_q]
        unfold f_X5_revalue
        rw [ck_q (by omega) (by omega), nI_clamp (by omega), hadd, bd_q, ck_q (by omega) (by omega), nm_q, c1, bd_q, bd_q]
      · rw [e2, bd_q, ad_33, ad_23, ck_q (by omega) (by omega), ck_q (by omega) (by omega), ck_q (by omega) (by omega), nm_q, ck_q (by omega) (by omega), nm_q, nI_clamp (by omega), nI_clamp (by omega), ← hs2', c2, bd_q]
      · intro k hk
        obtain ⟨m1, m2, m3⟩ := hM k hk
        rw [c5 _ (by omega), c5 _ (by omega), g, g, upL_a, upL_a]
        by_cases e : k = m
        · subst e
          rw [if_neg (show ¬ 33 + k = 23 + k by omega), if_pos rfl, if_pos rfl, if_neg (show ¬ 43 + k = 23 + k by omega), if_neg (show ¬ 43 + k = 33 + k by omega), if_pos rfl, w1, v1]
          refine ⟨rfl, by rw [w2]; simp, fun z => ?_⟩
          rw [nn_I (by omega), hm.2] at z; cases z
        · rw [if_neg (by omega), if_neg (by omega), if_neg (by omega), if_neg (by omega), if_neg (by omega), if_neg (by omega)]
          exact ⟨m1, m2, m3⟩
    · refine ⟨history_next, history_size, gr, hd, le, ms, mw, va, V, undos, kept, s, -1, ?_, ?_, h, hH⟩ <;> simp only [bi_f hv, bd_q, o10, o00, not_false_eq_true, not_true_eq_false, if_true, if_false]
  · refine ⟨history_next, history_size, gr, hd, le, ms, mw, va, V, undos, kept, s, -1, ?_, ?_, h, hH⟩ <;> simp only [bi_f hm, bd_q, o10, o00, not_false_eq_true, not_true_eq_false, if_true, if_false]
