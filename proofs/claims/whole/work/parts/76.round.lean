theorem op_round {me : Int32} {he : Int32} {se : Int32} {ta : Int32} {bs : Nat → Int64} {bw : Nat → Int64} {gr : Nat → Int32} {hd : Nat → Int32} {jo : Nat → Int32} {le : Nat → Int32} {cs : Nat → Int64} {cw : Nat → Int64} {fr : Nat → Int32} {to : Nat → Int32} {ms : Nat → Int64} {mw : Nat → Int64} {os : Nat → Int64} {ow : Nat → Int64} {kn : Nat → Int32} {nu : Nat → Int32} {ox : Nat → Int32} {va : Nat → Int32} {s : Nat → Int64} {history_next : Int32} {history_size : Int32} {V : Nat → Option STv} {undos : Int32} {kept : Nat → Int64} {open_size : Int32} {open_lesser : Nat → Int32} {open_other : Nat → Int32} {opn : Int32} {known : Nat → Int64} {lesser : Nat → Int32} {other : Nat → Int32} {whose : Nat → Int64} (h : RS me he se ta bs bw gr hd jo le cs cw fr to ms mw os ow kn nu ox va s) (hH : RHi history_next history_size V undos kept) (p1 : Int32) (p2 : Int32) : ∃ (history_next' : Int32) (history_size' : Int32) (ta' : Int32) (bs' : Nat → Int64) (bw' : Nat → Int64) (gr' : Nat → Int32) (hd' : Nat → Int32) (le' : Nat → Int32) (ms' : Nat → Int64) (mw' : Nat → Int64) (kn' : Nat → Int32) (nu' : Nat → Int32) (ox' : Nat → Int32) (open_size' : Int32) (open_lesser' : Nat → Int32) (open_other' : Nat → Int32) (V' : Nat → Option STv) (undos' : Int32) (opn' : Int32) (kept' : Nat → Int64) (known' : Nat → Int64) (lesser' : Nat → Int32) (other' : Nat → Int32) (s' : Nat → Int64) (whose' : Nat → Int64) (r : Int32), f_X7_round me he se jo cs cw fr to os ow va history_next history_size ta bs bw gr hd le ms mw kn nu ox open_size open_lesser open_other V p1 p2 = some (history_next', history_size', ta', bs', bw', gr', hd', le', ms', mw', kn', nu', ox', open_size', open_lesser', open_other', V', r) ∧ f_X8_round undos opn kept known lesser other s whose p1 p2 = some (undos', opn', kept', known', lesser', other', s', whose', r) ∧ RS me he se ta' bs' bw' gr' hd' jo le' cs cw fr to ms' mw' os ow kn' nu' ox' va s' ∧ RHi history_next' history_size' V' undos' kept' := by
  obtain ⟨a1, a2, a3, a4, a5, e1, e2, e3⟩ := keep_both h hH
  obtain ⟨h0, hJ, hV, hHd, hM, hK, hL, hQ⟩ := id h
  obtain ⟨n, q, hn, hq, rfl, rfl, hn2, hq2, hs0, hs1, hs2⟩ := h0.get
  have bad : p1.toInt < 0 ∨ 2 < p1.toInt ∨ p2.toInt < 1 ∨ 20 < p2.toInt → f_X7_round (nI n) (nI q) se jo cs cw fr to os ow va history_next history_size ta bs bw gr hd le ms mw kn nu ox open_size open_lesser open_other V p1 p2 = some (history_next, history_size, ta, bs, bw, gr, hd, le, ms, mw, kn, nu, ox, open_size, open_lesser, open_other, V, -1) ∧ f_X8_round undos opn kept known lesser other s whose p1 p2 = some (undos, opn, kept, known, lesser, other, s, whose, -1) := fun w => by
    unfold f_X7_round f_X8_round
    rw [X7_isKind, in_small p1 (x := 0) (y := 2) (by decide) (by decide), in_small p2 (x := 1) (y := 20) (by decide) (by decide), bd_q, bd_q, bd_q]
    by_cases k : 0 ≤ p1.toInt ∧ p1.toInt ≤ 2
    · rw [bi_t k, if_neg (show ¬ (1 : Int32) = 0 by decide), if_neg (show ¬ (1 : Int32) = 0 by decide), bi_f (show ¬ (1 ≤ p2.toInt ∧ p2.toInt ≤ 20) by omega), if_neg (show ¬ ¬ (0 : Int32) = 0 from fun h => h rfl)]
      refine ⟨?_, rfl⟩
      by_cases c : p2 < 1
      · rw [if_pos c]
      · rw [if_neg c, if_neg]
        rw [Int32.lt_iff_toInt_lt, show (1 : Int32).toInt = 1 from rfl] at c
        rw [Int32.le_iff_toInt_le, show (20 : Int32).toInt = 20 from rfl]; omega
    · rw [bi_f k, if_pos (show (0 : Int32) = 0 from rfl), if_pos (show (0 : Int32) = 0 from rfl)]; exact ⟨rfl, rfl⟩
  by_cases k : p1.toInt < 0 ∨ 2 < p1.toInt ∨ p2.toInt < 1 ∨ 20 < p2.toInt
  · obtain ⟨b1, b2⟩ := bad k
    exact ⟨history_next, history_size, ta, bs, bw, gr, hd, le, ms, mw, kn, nu, ox, open_size, open_lesser, open_other, V, undos, opn, kept, known, lesser, other, s, whose, -1, b1, b2, h, hH⟩
  · obtain ⟨P, hP, hp2⟩ := nI_of' (x := p2) (by rw [Int32.lt_iff_toInt_lt, show (0 : Int32).toInt = 0 from rfl]; omega)
    have hPi : p2.toInt = P := by rw [hp2, nI_toInt hP]
    obtain ⟨N, cl, co, rl, ro, l1, l2, l3, l4⟩ := look_both hn hq hJ hs0 hs1 hs2 open_size opn open_lesser open_other lesser other
    have cls : f_X7_round (nI n) (nI q) se jo cs cw fr to os ow va history_next history_size ta bs bw gr hd le ms mw kn nu ox open_size open_lesser open_other V p1 p2 = if 0 < nI N then f_X7_round_c57 (nI n) (nI q) se jo cs cw fr to os ow va fu a1 a2 ta bs bw gr hd le ms mw kn nu ox (nI N) cl co a3 p1 p2 0 else some (history_next, history_size, ta, bs, bw, gr, hd, le, ms, mw, kn, nu, ox, nI N, cl, co, V, -2) := by
      unfold f_X7_round
      rw [X7_isKind, bd_q, bi_t (show 0 ≤ p1.toInt ∧ p1.toInt ≤ 2 by omega), if_neg (show ¬ (1 : Int32) = 0 by decide), if_neg (show ¬ p2 < 1 by rw [Int32.lt_iff_toInt_lt, show (1 : Int32).toInt = 1 from rfl]; omega), if_pos (show p2 ≤ 20 by rw [Int32.le_iff_toInt_le, show (20 : Int32).toInt = 20 from rfl]; omega), l1, bd_q, e1, bd_q]
    have ref : f_X8_round undos opn kept known lesser other s whose p1 p2 = if ¬ nI N = 0 then f_X8_round_c46 fu a4 (nI N) a5 known rl ro s whose p1 p2 0 else some (undos, nI N, kept, known, rl, ro, s, whose, -2) := by
      unfold f_X8_round
      rw [in_small p1 (x := 0) (y := 2) (by decide) (by decide), bd_q, bi_t (show 0 ≤ p1.toInt ∧ p1.toInt ≤ 2 by omega), if_neg (show ¬ (1 : Int32) = 0 by decide), in_small p2 (x := 1) (y := 20) (by decide) (by decide), bd_q, bi_t (show 1 ≤ p2.toInt ∧ p2.toInt ≤ 20 by omega), if_pos (show ¬ (1 : Int32) = 0 by decide), l2, bd_q, e2, bd_q]
    rw [cls, ref]
    rcases Nat.eq_zero_or_pos N with z | z
    · subst z
      rw [if_neg (by decide), if_neg (fun h => h rfl)]
      exact ⟨_, _, _, _, _, _, _, _, _, _, _, _, _, _, _, _, _, _, _, _, _, _, _, _, _, _, rfl, rfl, h, hH⟩
    · rw [if_pos (show (0 : Int32) < nI N by rw [show (0 : Int32) = nI 0 from rfl, nI_ltI (by omega) (by omega)]; omega), if_pos (show ¬ nI N = 0 from fun w => by rw [show (0 : Int32) = nI 0 from rfl, nI_eq (by omega) (by omega)] at w; omega), hp2]
      obtain ⟨ta', bs', bw', gr', hd', le', ms', mw', kn', nu', ox', K', s', W', y1, y2, y3⟩ := round_loop (hn' := a1) (hs' := a2) (V := a3) (undos := a4) (kept := a5) hn hn2 hq2 l3 l4 p1 (P := P) (by omega) P fu (fu - 1 - P * N) 0 ta bs bw gr hd le ms mw kn nu ox s known whose (by omega) (fu_ge (by omega)) h
      have hf : fu - 1 - P * N + 1 + P * N = fu := by
        have : P * N ≤ 900 := Nat.le_trans (Nat.mul_le_mul (show P ≤ 20 by omega) l4) (by decide)
        have : 901 < fu := fu_ge (by omega)
        omega
      rw [hf, Nat.zero_mul] at y2
      exact ⟨_, _, _, _, _, _, _, _, _, _, _, _, _, _, _, _, _, _, _, _, _, _, _, _, _, _, y1, y2, y3, e3⟩
