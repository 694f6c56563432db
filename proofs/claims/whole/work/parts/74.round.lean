theorem over_both {n q N : Nat} {me he se : Int32} {jo : Nat → Int32} {cs cw : Nat → Int64} {fr to : Nat → Int32} {os ow : Nat → Int64} {va cl co rl ro : Nat → Int32} {undos : Int32} {kept : Nat → Int64} (hn : n ≤ 10) (hnn : nn me = n) (hqq : nn he = q) (hl : LR n q jo N cl co rl ro) (hN : N ≤ 45) (p : Int32) {M : Nat} (r : Nat) (hM : M ≤ 900) (hr : r * N + N ≤ M) : ∀ (d f g i : Nat) (ta : Int32) (bs bw : Nat → Int64) (gr hd le : Nat → Int32) (ms mw : Nat → Int64) (kn nu ox : Nat → Int32) (s K W : Nat → Int64), i + d = N → d < f → RS me he se ta bs bw gr hd jo le cs cw fr to ms mw os ow kn nu ox va s → ∃ ta' bs' bw' gr' hd' le' ms' mw' kn' nu' ox' K' s' W', f_X7_converseOverAll_c2 (nI N) cl co f ta bs bw gr hd le ms mw kn nu ox p (nI i) = some (ta', bs', bw', gr', hd', le', ms', mw', kn', nu', ox') ∧ (∀ P, P * nI N = nI M → f_X8_round_c46 (g + d) undos (nI N) kept K rl ro s W p P (nI (r * N + i)) = f_X8_round_c46 g undos (nI N) kept K' rl ro s' W' p P (nI (r * N + N))) ∧ RS me he se ta' bs' bw' gr' hd' jo le' cs cw fr to ms' mw' os ow kn' nu' ox' va s'
  | 0, 0, g, i, ta, bs, bw, gr, hd, le, ms, mw, kn, nu, ox, s, K, W, e1, e2, h => absurd e2 (by omega)
  | d + 1, 0, g, i, ta, bs, bw, gr, hd, le, ms, mw, kn, nu, ox, s, K, W, e1, e2, h => absurd e2 (by omega)
  | 0, f + 1, g, i, ta, bs, bw, gr, hd, le, ms, mw, kn, nu, ox, s, K, W, e1, e2, h => by
    refine ⟨ta, bs, bw, gr, hd, le, ms, mw, kn, nu, ox, K, s, W, ?_, fun P _ => ?_, h⟩
    · unfold f_X7_converseOverAll_c2
      rw [if_pos ((nI_leI (by omega) (by omega)).mpr (by omega))]
    · rw [show i = N by omega]; rfl
  | d + 1, f + 1, g, i, ta, bs, bw, gr, hd, le, ms, mw, kn, nu, ox, s, K, W, e1, e2, h => by
    have hNi : ¬ nI N ≤ nI i := fun h => by rw [nI_leI (by omega) (by omega)] at h; omega
    obtain ⟨a, b, l1, l2, l3, l4, ha, hb, hab, ta1, tb1, -⟩ := hl i (by omega)
    obtain ⟨ta1', bs1, bw1, gr1, hd1, le1, ms1, mw1, kn1, nu1, ox1, K1, s1, W1, x1, x2, x3⟩ := talks_both (K := K) (W := W) h hn hnn hqq ha hb hab ta1 tb1 p
    obtain ⟨ta', bs', bw', gr', hd', le', ms', mw', kn', nu', ox', K', s', W', y1, y2, y3⟩ := over_both (undos := undos) (kept := kept) hn hnn hqq hl hN p r hM hr d f g (i + 1) ta1' bs1 bw1 gr1 hd1 le1 ms1 mw1 kn1 nu1 ox1 s1 K1 W1 (by omega) (by omega) x3
    refine ⟨ta', bs', bw', gr', hd', le', ms', mw', kn', nu', ox', K', s', W', ?_, fun P hP => ?_, y3⟩
    · unfold f_X7_converseOverAll_c2
      rw [if_neg hNi, ck_q (by omega) (by omega), ck_q (by omega) (by omega), nI_clamp (by omega), l1, l2, x1, bd_q, nm_q, nI_1]
      exact y1
    · have hN0 : ¬ nI N = 0 := fun w => by rw [show (0 : Int32) = nI 0 from rfl, nI_eq (by omega) (by omega)] at w; omega
      have em : (r * N + i) % N = i := by rw [Nat.mul_comm, Nat.mul_add_mod]; exact Nat.mod_eq_of_lt (by omega)
      rw [← y2 P hP, ← Nat.add_assoc]
      conv => lhs; unfold f_X8_round_c46
      rw [hP, if_neg (fun h => by rw [nI_leI (by omega) (by omega)] at h; omega), ckp_q hN0, nI_rem (by omega) (by omega) (by omega), em, ck_q (by omega) (by omega), ckp_q hN0, ck_q (by omega) (by omega), nI_clamp (by omega), l3, l4, x2, bd_q, nm_q, nI_1, Nat.add_assoc]
