/-! the questions -/
theorem o10 : ((1 : Int32) = 0) = False := eq_false (by decide)
theorem o00 : ((0 : Int32) = 0) = True := eq_true rfl
theorem ad_3 (m : Nat) : (3 : Int32) + nI m = nI (3 + m) := nI_add 3 m
theorem ad_13 (m : Nat) : (13 : Int32) + nI m = nI (13 + m) := nI_add 13 m
theorem ad_23 (m : Nat) : (23 : Int32) + nI m = nI (23 + m) := nI_add 23 m
theorem ad_33 (m : Nat) : (33 : Int32) + nI m = nI (33 + m) := nI_add 33 m
theorem ad_43 (m : Nat) : (43 : Int32) + nI m = nI (43 + m) := nI_add 43 m
theorem ad_53 (m : Nat) : (53 : Int32) + nI m = nI (53 + m) := nI_add 53 m
theorem ad_63 (m : Nat) : (63 : Int32) + nI m = nI (63 + m) := nI_add 63 m
theorem ad_73 (m : Nat) : (73 : Int32) + nI m = nI (73 + m) := nI_add 73 m
theorem ad_83 (m : Nat) : (83 : Int32) + nI m = nI (83 + m) := nI_add 83 m
theorem ad_93 (m : Nat) : (93 : Int32) + nI m = nI (93 + m) := nI_add 93 m
theorem ad_133 (m : Nat) : (133 : Int32) + nI m = nI (133 + m) := nI_add 133 m
theorem ad_213 (m : Nat) : (213 : Int32) + nI m = nI (213 + m) := nI_add 213 m
theorem ad_313 (m : Nat) : (313 : Int32) + nI m = nI (313 + m) := nI_add 313 m
theorem ad_413 (m : Nat) : (413 : Int32) + nI m = nI (413 + m) := nI_add 413 m
theorem ad_513 (m : Nat) : (513 : Int32) + nI m = nI (513 + m) := nI_add 513 m
theorem mu_4 (m : Nat) : (4 : Int32) * nI m = nI (4 * m) := pk_mul 4 m
theorem um_4 (m : Nat) : nI m * (4 : Int32) = nI (m * 4) := pk_mul m 4
theorem mu_10 (m : Nat) : (10 : Int32) * nI m = nI (10 * m) := pk_mul 10 m
theorem um_10 (m : Nat) : nI m * (10 : Int32) = nI (m * 10) := pk_mul m 10
/-- a bit of a question's word -/
theorem tb_bi (b : Bool) : bi (b = true) = if b then 1 else 0 := by cases b <;> simp [bi]
theorem op_about {me : Int32} {he : Int32} {se : Int32} {ta : Int32} {bs : Nat → Int64} {bw : Nat → Int64} {gr : Nat → Int32} {hd : Nat → Int32} {jo : Nat → Int32} {le : Nat → Int32} {cs : Nat → Int64} {cw : Nat → Int64} {fr : Nat → Int32} {to : Nat → Int32} {ms : Nat → Int64} {mw : Nat → Int64} {os : Nat → Int64} {ow : Nat → Int64} {kn : Nat → Int32} {nu : Nat → Int32} {ox : Nat → Int32} {va : Nat → Int32} {s : Nat → Int64} {history_next : Int32} {history_size : Int32} {V : Nat → Option STv} {undos : Int32} {kept : Nat → Int64} (h : RS me he se ta bs bw gr hd jo le cs cw fr to ms mw os ow kn nu ox va s) (hH : RHi history_next history_size V undos kept) (p1 : Int32) (p2 : Int32) : ∃ (r : Int32), f_X7_about me he gr hd le kn va p1 p2 = some r ∧ f_X8_about s p1 p2 = some r := by
  obtain ⟨h0, hJ, hV, hHd, hM, hK, hL, hQ⟩ := h
  obtain ⟨n, q, hn, hq, rfl, rfl, hn2, hq2, hs0, hs1, hs2⟩ := h0.get
  unfold f_X7_about f_X8_about
  rw [X7_isMember p1 hn, X8_isMember p1 hs0 hn, X8_isHere p1 hn hs0 hs1]
  by_cases hm : vp_in p1 n
  · obtain ⟨m, hm', rfl⟩ := vp_in_of hm (by omega)
    have eb : bi (vp_in (nI m) n ∧ tb q m = true) = bi (tb q m = true) := bi_iff ⟨fun e => e.2, fun e => ⟨hm, e⟩⟩
    have e1 : p2 < 0 ↔ p2.toInt < 0 := Int32.lt_iff_toInt_lt
    have e2 : p2 ≤ (5 : Int32) ↔ p2.toInt ≤ 5 := Int32.le_iff_toInt_le
    rw [X5_isHere hq (by omega), nn_I (by omega), in_small p2 (x := 0) (y := 5) (by decide) (by decide), eb]
    simp only [bi_t hm, bd_q, o10, o00, not_false_eq_true, not_true_eq_false, if_true, if_false]
    obtain ⟨v1, v2, v3⟩ := hV m (by omega)
    obtain ⟨k1, k2, -⟩ := hK m (by omega)
    obtain ⟨d1, d2, -⟩ := hHd m (by omega)
    rw [ck_q (by omega) (by omega), ck_q (by omega) (by omega), ad_23, ad_53, ad_63, ad_73, ad_83, ck_q (by omega) (by omega), ck_q (by omega) (by omega), ck_q (by omega) (by omega), ck_q (by omega) (by omega), ck_q (by omega) (by omega), ck_q (by omega) (by omega), ck_q (by omega) (by omega), ck_q (by omega) (by omega), nI_clamp (by omega), nI_clamp (by omega), nI_clamp (by omega), nI_clamp (by omega), nI_clamp (by omega), nI_clamp (by omega), v1, v2, v3, d2, k2, i2l_back, i2l_back, i2l_back, i2l_back, i2l_back]
    by_cases hw : 0 ≤ p2.toInt ∧ p2.toInt ≤ 5
    · have c1 : ¬ p2 < 0 := by rw [e1]; omega
      have c2 : p2 ≤ (5 : Int32) := e2.mpr hw.2
      simp only [bi_t hw, c1, c2, bd_q, o10, o00, not_false_eq_true, not_true_eq_false, if_true, if_false]
      cases tb q m
      · rw [bi_f (by decide)]
        by_cases h2 : p2 = 0
        · exact ⟨0, by simp [h2], by simp [h2]⟩
        · exact ⟨-2, by simp [h2], by simp [h2]⟩
      · rw [bi_t rfl]
        by_cases h2 : p2 = 0
        · exact ⟨1, by simp [h2], by simp [h2]⟩
        · by_cases h3 : p2 = 1
          · exact ⟨va m, by simp [h3], by simp [h3]⟩
          · by_cases h4 : p2 = 2
            · exact ⟨gr m, by simp [h4], by simp [h4]⟩
            · by_cases h5 : p2 = 3
              · exact ⟨le m, by simp [h5], by simp [h5]⟩
              · by_cases h6 : p2 = 4
                · exact ⟨hd m, by simp [h6], by simp [h6]⟩
                · exact ⟨kn m, by simp [h2, h3, h4, h5, h6], by simp [h2, h3, h4, h5, h6]⟩
    · refine ⟨-1, ?_, ?_⟩
      · by_cases hn0 : p2 < 0
        · rw [if_pos hn0]
        · rw [if_neg hn0, if_neg (by rw [e2]; rw [e1] at hn0; omega)]
      · simp only [bi_f hw, bd_q, o10, o00, not_false_eq_true, not_true_eq_false, if_true, if_false]
  · refine ⟨-1, ?_, ?_⟩ <;> simp only [bi_f hm, bd_q, o10, o00, not_false_eq_true, not_true_eq_false, if_true, if_false]
theorem op_mass {me : Int32} {he : Int32} {se : Int32} {ta : Int32} {bs : Nat → Int64} {bw : Nat → Int64} {gr : Nat → Int32} {hd : Nat → Int32} {jo : Nat → Int32} {le : Nat → Int32} {cs : Nat → Int64} {cw : Nat → Int64} {fr : Nat → Int32} {to : Nat → Int32} {ms : Nat → Int64} {mw : Nat → Int64} {os : Nat → Int64} {ow : Nat → Int64} {kn : Nat → Int32} {nu : Nat → Int32} {ox : Nat → Int32} {va : Nat → Int32} {s : Nat → Int64} {history_next : Int32} {history_size : Int32} {V : Nat → Option STv} {undos : Int32} {kept : Nat → Int64} (h : RS me he se ta bs bw gr hd jo le cs cw fr to ms mw os ow kn nu ox va s) (hH : RHi history_next history_size V undos kept) (p1 : Int32) (p2 : Int32) : ∃ (r : Int64), f_X7_mass me he ms mw p1 p2 = some r ∧ f_X8_mass s p1 p2 = some r := by
  obtain ⟨h0, hJ, hV, hHd, hM, hK, hL, hQ⟩ := h
  obtain ⟨n, q, hn, hq, rfl, rfl, hn2, hq2, hs0, hs1, hs2⟩ := h0.get
  unfold f_X7_mass f_X8_mass
  rw [X7_isHere p1 hn hq, X8_isHere p1 hn hs0 hs1, bd_q, bd_q]
  by_cases hm : vp_in p1 n ∧ tb q (nn p1) = true
  · obtain ⟨m, hm', rfl⟩ := vp_in_of hm.1 (by omega)
    obtain ⟨m1, m2, -⟩ := hM m (by omega)
    unfold f_X3_at
    simp only [bi_t hm, bd_q, o10, o00, not_false_eq_true, not_true_eq_false, if_true, if_false]
    rw [ck_q (by omega) (by omega), ck_q (by omega) (by omega), ad_33, ad_43, ck_q (by omega) (by omega), ck_q (by omega) (by omega), nI_clamp (by omega), nI_clamp (by omega), nI_clamp (by omega), m1, m2]
    by_cases h2 : p2 = 0
    · exact ⟨_, by rw [if_pos h2, bd_q], by rw [if_pos h2]⟩
    · exact ⟨_, by rw [if_neg h2, bd_q], by rw [if_neg h2]⟩
  · exact ⟨0, by simp only [bi_f hm, bd_q, o10, o00, not_false_eq_true, not_true_eq_false, if_true, if_false], by simp only [bi_f hm, bd_q, o10, o00, not_false_eq_true, not_true_eq_false, if_true, if_false]⟩
theorem op_book {me : Int32} {he : Int32} {se : Int32} {ta : Int32} {bs : Nat → Int64} {bw : Nat → Int64} {gr : Nat → Int32} {hd : Nat → Int32} {jo : Nat → Int32} {le : Nat → Int32} {cs : Nat → Int64} {cw : Nat → Int64} {fr : Nat → Int32} {to : Nat → Int32} {ms : Nat → Int64} {mw : Nat → Int64} {os : Nat → Int64} {ow : Nat → Int64} {kn : Nat → Int32} {nu : Nat → Int32} {ox : Nat → Int32} {va : Nat → Int32} {s : Nat → Int64} {history_next : Int32} {history_size : Int32} {V : Nat → Option STv} {undos : Int32} {kept : Nat → Int64} (h : RS me he se ta bs bw gr hd jo le cs cw fr to ms mw os ow kn nu ox va s) (hH : RHi history_next history_size V undos kept) (p1 : Int32) (p2 : Int32) (p3 : Int32) : ∃ (r : Int64), f_X7_book me bs bw p1 p2 p3 = some r ∧ f_X8_book s p1 p2 p3 = some r := by
  obtain ⟨h0, hJ, hV, hHd, hM, hK, hL, hQ⟩ := h
  obtain ⟨n, q, hn, hq, rfl, rfl, hn2, hq2, hs0, hs1, hs2⟩ := h0.get
  unfold f_X7_book f_X8_book f_X8_book_c37 f_X3_at f_X7_pair
  rw [X7_isMember p1 hn, X7_isMember p2 hn, X8_isMember p1 hs0 hn, X8_isMember p2 hs0 hn, bd_q, bd_q]
  by_cases hm : vp_in p1 n
  · obtain ⟨a, ha, rfl⟩ := vp_in_of hm (by omega)
    simp only [bi_t hm, bd_q, o10, o00, not_false_eq_true, not_true_eq_false, if_true, if_false]
    by_cases hm2 : vp_in p2 n
    · obtain ⟨b, hb, rfl⟩ := vp_in_of hm2 (by omega)
      obtain ⟨q1, q2, -⟩ := hQ (a * 10 + b) (by omega)
      simp only [bi_t hm2, bd_q, o10, o00, not_false_eq_true, not_true_eq_false, if_true, if_false]
      rw [um_10, nI_add, ck_q (by omega) (by omega), ck_q (by omega) (by omega), mu_10, ad_213, ad_313, nI_add, nI_add, ck_q (by omega) (by omega), ck_q (by omega) (by omega), nI_clamp (by omega), nI_clamp (by omega), nI_clamp (by omega), show 213 + 10 * a + b = 213 + (a * 10 + b) by omega, show 313 + 10 * a + b = 313 + (a * 10 + b) by omega, q1, q2]
      by_cases h2 : p3 = 0
      · exact ⟨_, by rw [if_pos h2, bd_q], by rw [if_pos h2]⟩
      · exact ⟨_, by rw [if_neg h2, bd_q], by rw [if_neg h2]⟩
    · exact ⟨0, by simp only [bi_f hm2, bd_q, o10, o00, not_false_eq_true, not_true_eq_false, if_true, if_false], by simp only [bi_f hm2, bd_q, o10, o00, not_false_eq_true, not_true_eq_false, if_true, if_false]⟩
  · exact ⟨0, by simp only [bi_f hm, bd_q, o10, o00, not_false_eq_true, not_true_eq_false, if_true, if_false], by simp only [bi_f hm, bd_q, o10, o00, not_false_eq_true, not_true_eq_false, if_true, if_false]⟩
theorem op_letter {me : Int32} {he : Int32} {se : Int32} {ta : Int32} {bs : Nat → Int64} {bw : Nat → Int64} {gr : Nat → Int32} {hd : Nat → Int32} {jo : Nat → Int32} {le : Nat → Int32} {cs : Nat → Int64} {cw : Nat → Int64} {fr : Nat → Int32} {to : Nat → Int32} {ms : Nat → Int64} {mw : Nat → Int64} {os : Nat → Int64} {ow : Nat → Int64} {kn : Nat → Int32} {nu : Nat → Int32} {ox : Nat → Int32} {va : Nat → Int32} {s : Nat → Int64} {history_next : Int32} {history_size : Int32} {V : Nat → Option STv} {undos : Int32} {kept : Nat → Int64} (h : RS me he se ta bs bw gr hd jo le cs cw fr to ms mw os ow kn nu ox va s) (hH : RHi history_next history_size V undos kept) (p1 : Int32) (p2 : Int32) : ∃ (r : Int64), f_X7_letter cs cw fr to p1 p2 = some r ∧ f_X8_letter s p1 p2 = some r := by
  obtain ⟨h0, hJ, hV, hHd, hM, hK, hL, hQ⟩ := h
  unfold f_X7_letter f_X8_letter f_X3_at
  rw [X1_isUnderWay, X8_isLetter p1 hL, bd_q, bd_q]
  by_cases hm : vp_in p1 8 ∧ ¬ fr (nn p1) = -1
  · obtain ⟨k, hk, rfl⟩ := vp_in_of hm.1 (by omega)
    rw [nn_I (by omega)] at hm ⊢
    rw [in_small p2 (x := 0) (y := 3) (by decide) (by decide)]
    simp only [bi_t hm, bd_q, o10, o00, not_false_eq_true, not_true_eq_false, if_true, if_false]
    rw [ck_q (by omega) (by omega), ck_q (by omega) (by omega), ck_q (by omega) (by omega), ck_q (by omega) (by omega), nI_clamp (by omega)]
    rcases hL k hk with ⟨g1, -⟩ | ⟨-, -, -, -, -, g1, g2, g3, g4⟩
    · exact absurd g1 hm.2
    · by_cases c0 : p2 = 0
      · subst c0
        refine ⟨_, by rw [if_pos rfl], ?_⟩
        rw [if_neg (by rw [bi_0]; exact fun e => e ⟨by decide, by decide⟩), lt_1, show nI (173 + 5 * k + 1) + 0 = nI (173 + 5 * k + 1) by simp, ck_q (by omega) (by omega), nI_clamp (by omega), g1]
      · rw [if_neg c0]
        by_cases c1 : p2 = 1
        · subst c1
          refine ⟨_, by rw [if_pos rfl], ?_⟩
          rw [if_neg (by rw [bi_0]; exact fun e => e ⟨by decide, by decide⟩), lt_1, nI_1, ck_q (by omega) (by omega), nI_clamp (by omega)]; rw [g2]
        · rw [if_neg c1]
          by_cases c2 : p2 = 2
          · subst c2
            refine ⟨_, by rw [if_pos rfl, bd_q], ?_⟩
            rw [if_neg (by rw [bi_0]; exact fun e => e ⟨by decide, by decide⟩), lt_1, show nI (173 + 5 * k + 1) + 2 = nI (173 + 5 * k + 3) from nI_add _ 2, ck_q (by omega) (by omega), nI_clamp (by omega), g3]
          · rw [if_neg c2]
            by_cases c3 : p2 = 3
            · subst c3
              refine ⟨_, by rw [if_pos rfl, bd_q], ?_⟩
              rw [if_neg (by rw [bi_0]; exact fun e => e ⟨by decide, by decide⟩), lt_1, show nI (173 + 5 * k + 1) + 3 = nI (173 + 5 * k + 4) from nI_add _ 3, ck_q (by omega) (by omega), nI_clamp (by omega), g4]
            · refine ⟨-1, by rw [if_neg c3], ?_⟩
              rw [if_pos]
              rw [bi_0]
              have a0 := x_neI c0 (k := 0) (by decide)
              have a1 := x_neI c1 (k := 1) (by decide)
              have a2 := x_neI c2 (k := 2) (by decide)
              have a3 := x_neI c3 (k := 3) (by decide)
              omega
  · exact ⟨-1, by simp only [bi_f hm, bd_q, o10, o00, not_false_eq_true, not_true_eq_false, if_true, if_false], by simp only [bi_f hm, bd_q, o10, o00, not_false_eq_true, not_true_eq_false, if_true, if_false]⟩
