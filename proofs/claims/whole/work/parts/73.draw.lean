theorem draw_loop {n q N : Nat} {me he : Int32} {jo : Nat → Int32} {cs cw : Nat → Int64} {fr to : Nat → Int32} {os ow : Nat → Int64} {va cl co rl ro : Nat → Int32} {V : Nat → Option STv} {hn' hs' undos : Int32} {kept : Nat → Int64} (hn : n ≤ 10) (hnn : nn me = n) (hqq : nn he = q) (hl : LR n q jo N cl co rl ro) (hN : N ≤ 45) (h0 : 0 < N) (p : Int32) {P : Nat} (hP : P ≤ 60) : ∀ (d f i : Nat) (se ta : Int32) (bs bw : Nat → Int64) (gr hd le : Nat → Int32) (ms mw : Nat → Int64) (kn nu ox : Nat → Int32) (s K W : Nat → Int64), i + d = P → d < f → RS me he se ta bs bw gr hd jo le cs cw fr to ms mw os ow kn nu ox va s → ∃ se' ta' bs' bw' gr' hd' le' ms' mw' kn' nu' ox' K' s' W', f_X7_draw_c57 me he jo cs cw fr to os ow va f hn' hs' se ta bs bw gr hd le ms mw kn nu ox (nI N) cl co V p (nI P) (nI i) = some (hn', hs', se', ta', bs', bw', gr', hd', le', ms', mw', kn', nu', ox', nI N, cl, co, V, 1) ∧ f_X8_draw_c46 f undos (nI N) kept K rl ro s W p (nI P) (nI i) = some (undos, nI N, kept, K', rl, ro, s', W', 1) ∧ RS me he se' ta' bs' bw' gr' hd' jo le' cs cw fr to ms' mw' os ow kn' nu' ox' va s'
  | 0, 0, i, se, ta, bs, bw, gr, hd, le, ms, mw, kn, nu, ox, s, K, W, e1, e2, h => absurd e2 (by omega)
  | d + 1, 0, i, se, ta, bs, bw, gr, hd, le, ms, mw, kn, nu, ox, s, K, W, e1, e2, h => absurd e2 (by omega)
  | 0, f + 1, i, se, ta, bs, bw, gr, hd, le, ms, mw, kn, nu, ox, s, K, W, e1, e2, h => by
    refine ⟨se, ta, bs, bw, gr, hd, le, ms, mw, kn, nu, ox, K, s, W, ?_, ?_, h⟩
    · unfold f_X7_draw_c57
      rw [if_pos ((nI_leI (by omega) (by omega)).mpr (by omega))]
    · unfold f_X8_draw_c46
      rw [if_pos ((nI_leI (by omega) (by omega)).mpr (by omega))]
  | d + 1, f + 1, i, se, ta, bs, bw, gr, hd, le, ms, mw, kn, nu, ox, s, K, W, e1, e2, h => by
    have hPi : ¬ nI P ≤ nI i := fun h => by rw [nI_leI (by omega) (by omega)] at h; omega
    obtain ⟨se1, ta1, bs1, bw1, gr1, hd1, le1, ms1, mw1, kn1, nu1, ox1, K1, s1, W1, x1, x2, x3⟩ := seed_both (K := K) (W := W) h hn hnn hqq hl hN h0 p
    obtain ⟨se', ta', bs', bw', gr', hd', le', ms', mw', kn', nu', ox', K', s', W', y1, y2, y3⟩ := draw_loop (hn' := hn') (hs' := hs') (V := V) (undos := undos) (kept := kept) hn hnn hqq hl hN h0 p hP d f (i + 1) se1 ta1 bs1 bw1 gr1 hd1 le1 ms1 mw1 kn1 nu1 ox1 s1 K1 W1 (by omega) (by omega) x3
    refine ⟨se', ta', bs', bw', gr', hd', le', ms', mw', kn', nu', ox', K', s', W', ?_, ?_, y3⟩
    · unfold f_X7_draw_c57
      rw [if_neg hPi, x1, bd_q, nm_q, nI_1]
      exact y1
    · unfold f_X8_draw_c46
      rw [if_neg hPi]
      have t := x2 (fun k46_undos k46_open k46_kept k46_known k46_lesser k46_other k46_s k46_whose k46_l1 k46_l2 k46_l3 => f_X8_draw_c46 f k46_undos k46_open k46_kept k46_known k46_lesser k46_other k46_s k46_whose k46_l1 k46_l2 k46_l3) undos (nI N) kept (nI P) (nI i)
      rw [nI_1] at t
      exact t.trans y2
theorem op_draw {me : Int32} {he : Int32} {se : Int32} {ta : Int32} {bs : Nat → Int64} {bw : Nat → Int64} {gr : Nat → Int32} {hd : Nat → Int32} {jo : Nat → Int32} {le : Nat → Int32} {cs : Nat → Int64} {cw : Nat → Int64} {fr : Nat → Int32} {to : Nat → Int32} {ms : Nat → Int64} {mw : Nat → Int64} {os : Nat → Int64} {ow : Nat → Int64} {kn : Nat → Int32} {nu : Nat → Int32} {ox : Nat → Int32} {va : Nat → Int32} {s : Nat → Int64} {history_next : Int32} {history_size : Int32} {V : Nat → Option STv} {undos : Int32} {kept : Nat → Int64} {open_size : Int32} {open_lesser : Nat → Int32} {open_other : Nat → Int32} {opn : Int32} {known : Nat → Int64} {lesser : Nat → Int32} {other : Nat → Int32} {whose : Nat → Int64} (h : RS me he se ta bs bw gr hd jo le cs cw fr to ms mw os ow kn nu ox va s) (hH : RHi history_next history_size V undos kept) (p1 : Int32) (p2 : Int32) : ∃ (history_next' : Int32) (history_size' : Int32) (se' : Int32) (ta' : Int32) (bs' : Nat → Int64) (bw' : Nat → Int64) (gr' : Nat → Int32) (hd' : Nat → Int32) (le' : Nat → Int32) (ms' : Nat → Int64) (mw' : Nat → Int64) (kn' : Nat → Int32) (nu' : Nat → Int32) (ox' : Nat → Int32) (open_size' : Int32) (open_lesser' : Nat → Int32) (open_other' : Nat → Int32) (V' : Nat → Option STv) (undos' : Int32) (opn' : Int32) (kept' : Nat → Int64) (known' : Nat → Int64) (lesser' : Nat → Int32) (other' : Nat → Int32) (s' : Nat → Int64) (whose' : Nat → Int64) (r : Int32), f_X7_draw me he jo cs cw fr to os ow va history_next history_size se ta bs bw gr hd le ms mw kn nu ox open_size open_lesser open_other V p1 p2 = some (history_next', history_size', se', ta', bs', bw', gr', hd', le', ms', mw', kn', nu', ox', open_size', open_lesser', open_other', V', r) ∧ f_X8_draw undos opn kept known lesser other s whose p1 p2 = some (undos', opn', kept', known', lesser', other', s', whose', r) ∧ RS me he se' ta' bs' bw' gr' hd' jo le' cs cw fr to ms' mw' os ow kn' nu' ox' va s' ∧ RHi history_next' history_size' V' undos' kept' := by
  obtain ⟨a1, a2, a3, a4, a5, e1, e2, e3⟩ := keep_both h hH
  obtain ⟨h0, hJ, hV, hHd, hM, hK, hL, hQ⟩ := id h
  obtain ⟨n, q, hn, hq, rfl, rfl, hn2, hq2, hs0, hs1, hs2⟩ := h0.get
  have bad : p1.toInt < 0 ∨ 2 < p1.toInt ∨ p2.toInt < 1 ∨ 60 < p2.toInt → f_X7_draw (nI n) (nI q) jo cs cw fr to os ow va history_next history_size se ta bs bw gr hd le ms mw kn nu ox open_size open_lesser open_other V p1 p2 = some (history_next, history_size, se, ta, bs, bw, gr, hd, le, ms, mw, kn, nu, ox, open_size, open_lesser, open_other, V, -1) ∧ f_X8_draw undos opn kept known lesser other s whose p1 p2 = some (undos, opn, kept, known, lesser, other, s, whose, -1) := fun w => by
    unfold f_X7_draw f_X8_draw
    rw [X7_isKind, in_small p1 (x := 0) (y := 2) (by decide) (by decide), in_small p2 (x := 1) (y := 60) (by decide) (by decide), bd_q, bd_q, bd_q]
    by_cases k : 0 ≤ p1.toInt ∧ p1.toInt ≤ 2
    · rw [bi_t k, if_neg (show ¬ (1 : Int32) = 0 by decide), if_neg (show ¬ (1 : Int32) = 0 by decide), bi_f (show ¬ (1 ≤ p2.toInt ∧ p2.toInt ≤ 60) by omega), if_neg (show ¬ ¬ (0 : Int32) = 0 from fun h => h rfl)]
      refine ⟨?_, rfl⟩
      by_cases c : p2 < 1
      · rw [if_pos c]
      · rw [if_neg c, if_neg]
        rw [Int32.lt_iff_toInt_lt, show (1 : Int32).toInt = 1 from rfl] at c
        rw [Int32.le_iff_toInt_le, show (60 : Int32).toInt = 60 from rfl]; omega
    · rw [bi_f k, if_pos (show (0 : Int32) = 0 from rfl), if_pos (show (0 : Int32) = 0 from rfl)]; exact ⟨rfl, rfl⟩
  by_cases k : p1.toInt < 0 ∨ 2 < p1.toInt ∨ p2.toInt < 1 ∨ 60 < p2.toInt
  · obtain ⟨b1, b2⟩ := bad k
    exact ⟨history_next, history_size, se, ta, bs, bw, gr, hd, le, ms, mw, kn, nu, ox, open_size, open_lesser, open_other, V, undos, opn, kept, known, lesser, other, s, whose, -1, b1, b2, h, hH⟩
  · obtain ⟨P, hP, hp2⟩ := nI_of' (x := p2) (by rw [Int32.lt_iff_toInt_lt, show (0 : Int32).toInt = 0 from rfl]; omega)
    have hPi : p2.toInt = P := by rw [hp2, nI_toInt hP]
    obtain ⟨N, cl, co, rl, ro, l1, l2, l3, l4⟩ := look_both hn hq hJ hs0 hs1 hs2 open_size opn open_lesser open_other lesser other
    have cls : f_X7_draw (nI n) (nI q) jo cs cw fr to os ow va history_next history_size se ta bs bw gr hd le ms mw kn nu ox open_size open_lesser open_other V p1 p2 = if 0 < nI N then f_X7_draw_c57 (nI n) (nI q) jo cs cw fr to os ow va fu a1 a2 se ta bs bw gr hd le ms mw kn nu ox (nI N) cl co a3 p1 p2 0 else some (history_next, history_size, se, ta, bs, bw, gr, hd, le, ms, mw, kn, nu, ox, nI N, cl, co, V, -2) := by
      unfold f_X7_draw
      rw [X7_isKind, bd_q, bi_t (show 0 ≤ p1.toInt ∧ p1.toInt ≤ 2 by omega), if_neg (show ¬ (1 : Int32) = 0 by decide), if_neg (show ¬ p2 < 1 by rw [Int32.lt_iff_toInt_lt, show (1 : Int32).toInt = 1 from rfl]; omega), if_pos (show p2 ≤ 60 by rw [Int32.le_iff_toInt_le, show (60 : Int32).toInt = 60 from rfl]; omega), l1, bd_q, e1, bd_q]
    have ref : f_X8_draw undos opn kept known lesser other s whose p1 p2 = if ¬ nI N = 0 then f_X8_draw_c46 fu a4 (nI N) a5 known rl ro s whose p1 p2 0 else some (undos, nI N, kept, known, rl, ro, s, whose, -2) := by
      unfold f_X8_draw
      rw [in_small p1 (x := 0) (y := 2) (by decide) (by decide), bd_q, bi_t (show 0 ≤ p1.toInt ∧ p1.toInt ≤ 2 by omega), if_neg (show ¬ (1 : Int32) = 0 by decide), in_small p2 (x := 1) (y := 60) (by decide) (by decide), bd_q, bi_t (show 1 ≤ p2.toInt ∧ p2.toInt ≤ 60 by omega), if_pos (show ¬ (1 : Int32) = 0 by decide), l2, bd_q, e2, bd_q]
    rw [cls, ref]
    rcases Nat.eq_zero_or_pos N with z | z
    · subst z
      rw [if_neg (by decide), if_neg (fun h => h rfl)]
      exact ⟨_, _, _, _, _, _, _, _, _, _, _, _, _, _, _, _, _, _, _, _, _, _, _, _, _, _, _, rfl, rfl, h, hH⟩
    · rw [if_pos (show (0 : Int32) < nI N by rw [show (0 : Int32) = nI 0 from rfl, nI_ltI (by omega) (by omega)]; omega), if_pos (show ¬ nI N = 0 from fun w => by rw [show (0 : Int32) = nI 0 from rfl, nI_eq (by omega) (by omega)] at w; omega), hp2]
      obtain ⟨se', ta', bs', bw', gr', hd', le', ms', mw', kn', nu', ox', K', s', W', y1, y2, y3⟩ := draw_loop (hn' := a1) (hs' := a2) (V := a3) (undos := a4) (kept := a5) hn hn2 hq2 l3 l4 z p1 (P := P) (by omega) P fu 0 se ta bs bw gr hd le ms mw kn nu ox s known whose (by omega) (fu_ge (by omega)) h
      exact ⟨_, _, _, _, _, _, _, _, _, _, _, _, _, _, _, _, _, _, _, _, _, _, _, _, _, _, _, y1, y2, y3, e3⟩
