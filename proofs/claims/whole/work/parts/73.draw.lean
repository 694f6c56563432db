theorem draw_loop {n q N : Nat} {me he : Int32} {jo : Nat → Int32} {cs cw : Nat → Int64} {fr to : Nat → Int32} {os ow : Nat → Int64} {va cl co rl ro : Nat → Int32} {V : Nat → Option STv} {hn' hs' undos : Int32} {kept : Nat → Int64} (hn : n ≤ 10) (hnn : nn me = n) (hqq : nn he = q) (hl : LR n q jo N cl co rl ro) (hN : N ≤ 45) (h0 : 0 < N) (p : Int32) {P : Nat} (hP : P ≤ 60) : ∀ (d f i : Nat) (se ta : Int32) (bs bw : Nat → Int64) (gr hd le : Nat → Int32) (ms mw : Nat → Int64) (kn nu ox : Nat → Int32) (s K W : Nat → Int64), i + d = P → d < f → RS me he se ta bs bw gr hd jo le cs cw fr to ms mw os ow kn nu ox va s → ∃ se' ta' bs' bw' gr' hd' le' ms' mw' kn' nu' ox' K' s' W', f_X7_draw_c57 me he jo cs cw fr to os ow va f hn' hs' se ta bs bw gr hd le ms mw kn nu ox (nI N) cl co V p (nI P) (nI i) = some (hn', hs', se', ta', bs', bw', gr', hd', le', ms', mw', kn', nu', ox', nI N, cl, co, V, 1) ∧ f_X8_draw_c46 f undos (nI N) kept K rl ro s W p (nI P) (nI i) = some (undos, nI N, kept, K', rl, ro, s', W', 1) ∧ RS me he se' ta' bs' bw' gr' hd' jo le' cs cw fr to ms' mw' os ow kn' nu' ox' va s'
  | 0, 0, i, se, ta, bs, bw, gr, hd, le, ms, mw, kn, nu, ox, s, K, W, e1, e2, h => absurd e2 (by omega)
  | d + 1, 0, i, se, ta, bs, bw, gr, hd, le, ms, mw, kn, nu, ox, s, K, W, e1, e2, h => absurd e2 (by omega)
  | 0, f + 1, i, se, ta, bs, bw, gr, hd, le, ms, mw, kn, nu, ox, s, K, W, e1, e2, h => by
    refine ⟨se, ta, bs, bw, gr, hd, le, ms, mw, kn, nu, ox, K, s, W, ?_, ?_, h⟩
    · unfold f_X7_draw_c57
      rw [if_pos ((nI_leI (by omega) (by omega)).mpr (by omega))]
    · unfold f_X8_draw_c46
      rw [if_pos ((nI_leI (by omega) (by omega)).mpr (by omega))]
  | d + 1, f + 1, i, se, ta, bs, bw, gr, hd, le, ms, mw, kn, nu, ox, s, K, W, e1, e2, h => by
    have hPi : ¬ nI P ≤ nI i := fun h => by rw [nI_leI (by omega) (by omega)] at h; omega
    obtain ⟨se1, ta1, bs1, bw1, gr1, hd1, le1, ms1, mw1, kn1, nu1, ox1, K1, s1, W1, x1, x2, x3⟩ := seed_both (K := K) (W := W) h hn hnn hqq hl hN h0 p
    obtain ⟨se', ta', bs', bw', gr', hd', le', ms', mw', kn', nu', ox', K', s', W', y1, y2, y3⟩ := draw_loop (hn' := hn') (hs' := hs') (V := V) (undos := undos) (kept := kept) hn hnn hqq hl hN h0 p hP d f (i + 1) se1 ta1 bs1 bw1 gr1 hd1 le1 ms1 mw1 kn1 nu1 ox1 s1 K1 W1 (by omega) (by omega) x3
    refine ⟨se', ta', bs', bw', gr', hd', le', ms', mw', kn', nu', ox', K', s', W', ?_, ?_, y3⟩
    · unfold f_X7_draw_c57
      rw [if_neg hPi, x1, bd_q, nm_q, nI_1]
      exact y1
    · unfold f_X8_draw_c46
      rw [if_neg hPi]
      have t := x2 (fun k46_undos k46_open k46_kept k46_known k46_lesser k46_other k46_s k46_whose k46_l1 k46_l2 k46_l3 => f_X8_draw_c46 f k46_undos k46_open k46_kept k46_known k46_lesser k46_other k46_s k46_whose k46_l1 k46_l2 k46_l3) undos (nI N) kept (nI P) (nI i)
      rw [nI_1] at t
      exact t.trans y2
