theorem round_loop {n q N : Nat} {me he se : Int32} {jo : Nat → Int32} {cs cw : Nat → Int64} {fr to : Nat → Int32} {os ow : Nat → Int64} {va cl co rl ro : Nat → Int32} {V : Nat → Option STv} {hn' hs' undos : Int32} {kept : Nat → Int64} (hn : n ≤ 10) (hnn : nn me = n) (hqq : nn he = q) (hl : LR n q jo N cl co rl ro) (hN : N ≤ 45) (p : Int32) {P : Nat} (hP : P ≤ 20) : ∀ (d f g r : Nat) (ta : Int32) (bs bw : Nat → Int64) (gr hd le : Nat → Int32) (ms mw : Nat → Int64) (kn nu ox : Nat → Int32) (s K W : Nat → Int64), r + d = P → d < f → RS me he se ta bs bw gr hd jo le cs cw fr to ms mw os ow kn nu ox va s → ∃ ta' bs' bw' gr' hd' le' ms' mw' kn' nu' ox' K' s' W', f_X7_round_c57 me he se jo cs cw fr to os ow va f hn' hs' ta bs bw gr hd le ms mw kn nu ox (nI N) cl co V p (nI P) (nI r) = some (hn', hs', ta', bs', bw', gr', hd', le', ms', mw', kn', nu', ox', nI N, cl, co, V, 1) ∧ f_X8_round_c46 (g + 1 + d * N) undos (nI N) kept K rl ro s W p (nI P) (nI (r * N)) = some (undos, nI N, kept, K', rl, ro, s', W', 1) ∧ RS me he se ta' bs' bw' gr' hd' jo le' cs cw fr to ms' mw' os ow kn' nu' ox' va s'
  | 0, 0, g, r, ta, bs, bw, gr, hd, le, ms, mw, kn, nu, ox, s, K, W, e1, e2, h => absurd e2 (by omega)
  | d + 1, 0, g, r, ta, bs, bw, gr, hd, le, ms, mw, kn, nu, ox, s, K, W, e1, e2, h => absurd e2 (by omega)
  | 0, f + 1, g, r, ta, bs, bw, gr, hd, le, ms, mw, kn, nu, ox, s, K, W, e1, e2, h => by
    refine ⟨ta, bs, bw, gr, hd, le, ms, mw, kn, nu, ox, K, s, W, ?_, ?_, h⟩
    · unfold f_X7_round_c57
      rw [if_pos ((nI_leI (by omega) (by omega)).mpr (by omega))]
    · rw [Nat.zero_mul, Nat.add_zero, show r = P by omega]
      unfold f_X8_round_c46
      rw [pk_mul, if_pos (Int32.le_refl _)]
  | d + 1, f + 1, g, r, ta, bs, bw, gr, hd, le, ms, mw, kn, nu, ox, s, K, W, e1, e2, h => by
    have hPi : ¬ nI P ≤ nI r := fun h => by rw [nI_leI (by omega) (by omega)] at h; omega
    have hM : P * N ≤ 900 := Nat.le_trans (Nat.mul_le_mul hP hN) (by decide)
    have hr : r * N + N ≤ P * N := by rw [← Nat.succ_mul]; exact Nat.mul_le_mul (by omega) (Nat.le_refl _)
    obtain ⟨ta1, bs1, bw1, gr1, hd1, le1, ms1, mw1, kn1, nu1, ox1, K1, s1, W1, x1, x2, x3⟩ := over_both (undos := undos) (kept := kept) hn hnn hqq hl hN p r hM hr N fu (g + 1 + d * N) 0 ta bs bw gr hd le ms mw kn nu ox s K W (by omega) (fu_ge (by omega)) h
    obtain ⟨ta', bs', bw', gr', hd', le', ms', mw', kn', nu', ox', K', s', W', y1, y2, y3⟩ := round_loop (hn' := hn') (hs' := hs') (V := V) (undos := undos) (kept := kept) hn hnn hqq hl hN p hP d f g (r + 1) ta1 bs1 bw1 gr1 hd1 le1 ms1 mw1 kn1 nu1 ox1 s1 K1 W1 (by omega) (by omega) x3
    refine ⟨ta', bs', bw', gr', hd', le', ms', mw', kn', nu', ox', K', s', W', ?_, ?_, y3⟩
    · unfold f_X7_round_c57 f_X7_converseOverAll
      have x1' : f_X7_converseOverAll_c2 (nI N) cl co fu ta bs bw gr hd le ms mw kn nu ox p 0 = _ := x1
      rw [if_neg hPi, x1', bd_q, nm_q, nI_1]
      exact y1
    · have t := x2 (nI P) (pk_mul P N)
      rw [Nat.succ_mul r] at y2
      rw [Nat.succ_mul, ← Nat.add_assoc]
      exact t.trans y2
