theorem talks_both {me he se ta : Int32} {bs bw : Nat → Int64} {gr hd jo le : Nat → Int32} {cs cw : Nat → Int64} {fr to : Nat → Int32} {ms mw os ow : Nat → Int64} {kn nu ox va : Nat → Int32} {s K W : Nat → Int64} {a b n q : Nat} (h : RS me he se ta bs bw gr hd jo le cs cw fr to ms mw os ow kn nu ox va s) (hn : n ≤ 10) (hnn : nn me = n) (hqq : nn he = q) (ha : a < n) (hb : b < n) (hab : a ≠ b) (ta1 : tb q a = true) (tb1 : tb q b = true) (p : Int32) : ∃ ta' bs' bw' gr' hd' le' ms' mw' kn' nu' ox' K' s' W', f_X5_converse ta bs bw gr hd le ms mw kn nu ox p (nI a) (nI b) = some (ta', bs', bw', gr', hd', le', ms', mw', kn', nu', ox') ∧ f_X8_talks K s W p (nI a) (nI b) = some (K', s', W') ∧ RS me he se ta' bs' bw' gr' hd' jo le' cs cw fr to ms' mw' os ow kn' nu' ox' va s' := by
  have ht := h.tick
  unfold f_X5_converse f_X8_talks
  rw [nm_q, show (2 : Int32) = nI 2 from rfl, ck_q (by omega) (by omega), ck_q (by omega) (by omega), nm_q, nI_clamp (by omega)]
  by_cases c0 : p = 0
  · obtain ⟨bs', bw', ms', mw', s', x1, x2, x3⟩ := even_both ht hn hnn hqq ha hb hab ta1 tb1
    refine ⟨ta + 1, bs', bw', gr, hd, le, ms', mw', kn, nu, ox, K, s', W, ?_, ?_, x3⟩
    · rw [if_pos c0, x1, bd_q]
    · rw [if_neg (fun h => h c0), x2, bd_q]
  · by_cases c1 : p = 1
    · obtain ⟨gr', hd', le', s', x1, x2, x3⟩ := great_both ht hn hnn ha hb hab
      refine ⟨ta + 1, bs, bw, gr', hd', le', ms, mw, kn, nu, ox, K, s', W, ?_, ?_, x3⟩
      · rw [if_neg c0, if_pos c1, x1, bd_q]
      · rw [if_pos c0, if_neg (fun h => h c1), x2, bd_q]
    · obtain ⟨kn', nu', ox', K', s', W', x1, x2, x3⟩ := tickets_both (K := K) (W := W) ht (show a < 10 by omega) (show b < 10 by omega) hab
      refine ⟨ta + 1, bs, bw, gr, hd, le, ms, mw, kn', nu', ox', K', s', W', ?_, ?_, x3⟩
      · rw [if_neg c0, if_neg c1, x1, bd_q]
      · rw [if_pos c0, if_pos c1, x2, bd_q]
theorem op_talk {me : Int32} {he : Int32} {se : Int32} {ta : Int32} {bs : Nat → Int64} {bw : Nat → Int64} {gr : Nat → Int32} {hd : Nat → Int32} {jo : Nat → Int32} {le : Nat → Int32} {cs : Nat → Int64} {cw : Nat → Int64} {fr : Nat → Int32} {to : Nat → Int32} {ms : Nat → Int64} {mw : Nat → Int64} {os : Nat → Int64} {ow : Nat → Int64} {kn : Nat → Int32} {nu : Nat → Int32} {ox : Nat → Int32} {va : Nat → Int32} {s : Nat → Int64} {history_next : Int32} {history_size : Int32} {V : Nat → Option STv} {undos : Int32} {kept : Nat → Int64} {known : Nat → Int64} {whose : Nat → Int64} (h : RS me he se ta bs bw gr hd jo le cs cw fr to ms mw os ow kn nu ox va s) (hH : RHi history_next history_size V undos kept) (p1 : Int32) (p2 : Int32) (p3 : Int32) : ∃ (history_next' : Int32) (history_size' : Int32) (ta' : Int32) (bs' : Nat → Int64) (bw' : Nat → Int64) (gr' : Nat → Int32) (hd' : Nat → Int32) (le' : Nat → Int32) (ms' : Nat → Int64) (mw' : Nat → Int64) (kn' : Nat → Int32) (nu' : Nat → Int32) (ox' : Nat → Int32) (V' : Nat → Option STv) (undos' : Int32) (kept' : Nat → Int64) (known' : Nat → Int64) (s' : Nat → Int64) (whose' : Nat → Int64) (r : Int32), f_X7_talk me he se jo cs cw fr to os ow va history_next history_size ta bs bw gr hd le ms mw kn nu ox V p1 p2 p3 = some (history_next', history_size', ta', bs', bw', gr', hd', le', ms', mw', kn', nu', ox', V', r) ∧ f_X8_talk undos kept known s whose p1 p2 p3 = some (undos', kept', known', s', whose', r) ∧ RS me he se ta' bs' bw' gr' hd' jo le' cs cw fr to ms' mw' os ow kn' nu' ox' va s' ∧ RHi history_next' history_size' V' undos' kept' := by
  obtain ⟨a1, a2, a3, a4, a5, e1, e2, e3⟩ := keep_both h hH
  obtain ⟨h0, hJ, hV, hHd, hM, hK, hL, hQ⟩ := id h
  obtain ⟨n, q, hn, hq, rfl, rfl, hn2, hq2, hs0, hs1, hs2⟩ := h0.get
  unfold f_X7_talk f_X8_talk
  rw [X7_isKind, in_small p1 (x := 0) (y := 2) (by decide) (by decide), X7_isHere p2 hn hq, X7_isHere p3 hn hq, X8_isHere p2 hn hs0 hs1, X8_isHere p3 hn hs0 hs1, bd_q, bd_q]
  by_cases hk : 0 ≤ p1.toInt ∧ p1.toInt ≤ 2
  · by_cases hm1 : vp_in p2 n ∧ tb q (nn p2) = true
    · by_cases hm2 : vp_in p3 n ∧ tb q (nn p3) = true
      · obtain ⟨m, ha, rfl⟩ := vp_in_of hm1.1 (by omega)
        obtain ⟨t, hb, rfl⟩ := vp_in_of hm2.1 (by omega)
        rw [nn_I (by omega)] at hm1 hm2 ⊢
        rw [nn_I (by omega)]
        have hm10 : m < 10 := by omega
        have ht10 : t < 10 := by omega
        rw [X5_isJoined hm10 ht10 (hJ m hm10).1, X8_areJoined hm10 ht10 hJ]
        simp only [bi_t hk, bi_t hm1, bi_t hm2, bd_q, o10, o00, not_false_eq_true, not_true_eq_false, if_true, if_false]
        by_cases hj : tb (nn (jo m)) t = true
        · have hmt : m ≠ t := fun e => by rw [← e, (hJ m hm10).2.2.1] at hj; cases hj
          simp only [bi_t hj, o10, o00, not_false_eq_true, not_true_eq_false, if_true, if_false]
          obtain ⟨ta', bs', bw', gr', hd', le', ms', mw', kn', nu', ox', K', s', W', x1, x2, x3⟩ := talks_both (K := known) (W := whose) h hn hn2 hq2 ha hb hmt hm1.2 hm2.2 p1
          refine ⟨a1, a2, ta', bs', bw', gr', hd', le', ms', mw', kn', nu', ox', a3, a4, a5, K', s', W', 1, ?_, ?_, x3, e3⟩
          · rw [e1, bd_q, x1, bd_q]
          · rw [e2, bd_q, x2, bd_q]
        · refine ⟨history_next, history_size, ta, bs, bw, gr, hd, le, ms, mw, kn, nu, ox, V, undos, kept, known, s, whose, -2, ?_, ?_, h, hH⟩ <;> simp only [bi_f hj, o10, o00, not_false_eq_true, not_true_eq_false, if_true, if_false]
      · refine ⟨history_next, history_size, ta, bs, bw, gr, hd, le, ms, mw, kn, nu, ox, V, undos, kept, known, s, whose, -1, ?_, ?_, h, hH⟩ <;> simp only [bi_t hk, bi_t hm1, bi_f hm2, bd_q, o10, o00, not_false_eq_true, not_true_eq_false, if_true, if_false]
    · refine ⟨history_next, history_size, ta, bs, bw, gr, hd, le, ms, mw, kn, nu, ox, V, undos, kept, known, s, whose, -1, ?_, ?_, h, hH⟩ <;> simp only [bi_t hk, bi_f hm1, bd_q, o10, o00, not_false_eq_true, not_true_eq_false, if_true, if_false]
  · refine ⟨history_next, history_size, ta, bs, bw, gr, hd, le, ms, mw, kn, nu, ox, V, undos, kept, known, s, whose, -1, ?_, ?_, h, hH⟩ <;> simp only [bi_f hk, bd_q, o10, o00, not_false_eq_true, not_true_eq_false, if_true, if_false]
