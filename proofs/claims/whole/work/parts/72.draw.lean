theorem nI_div {T N : Nat} (hT : T < 2 ^ 31) (hN : N < 2 ^ 31) (h0 : 0 < N) : nI T / nI N = nI (T / N) := by
  have hq : T / N < 2 ^ 31 := Nat.lt_of_le_of_lt (Nat.div_le_self _ _) hT
  rw [← Int32.toInt_inj, Int32.toInt_div, nI_toInt hT, nI_toInt hN, nI_toInt hq, ← Int.ofNat_tdiv]
  generalize T / N = z at hq ⊢
  rw [Int.bmod_eq_of_le] <;> omega
theorem nI_rem {T N : Nat} (hT : T < 2 ^ 31) (hN : N < 2 ^ 31) (h0 : 0 < N) : nI T - nI T / nI N * nI N = nI (T % N) := by
  have e : T = T % N + T / N * N := by rw [Nat.mul_comm]; exact (Nat.mod_add_div T N).symm
  rw [nI_div hT hN h0, pk_mul]
  conv => lhs; lhs; rw [e, ← nI_add]
  rw [Int32.add_sub_cancel]
theorem nI_of' {x : Int32} (h : ¬ x < 0) : ∃ T, T < 2 ^ 31 ∧ x = nI T := by
  obtain ⟨T, hT, e⟩ := nI_of h
  exact ⟨T, hT, e⟩
theorem RS.seed {me he se ta t : Int32} {bs bw : Nat → Int64} {gr hd jo le : Nat → Int32} {cs cw : Nat → Int64} {fr to : Nat → Int32} {ms mw os ow : Nat → Int64} {kn nu ox va : Nat → Int32} {s : Nat → Int64} (h : RS me he se ta bs bw gr hd jo le cs cw fr to ms mw os ow kn nu ox va s) (ht : ¬ t < 0) : RS me he t ta bs bw gr hd jo le cs cw fr to ms mw os ow kn nu ox va (vp_updL s 1 t.toInt64) := by
  obtain ⟨⟨g1, g2, g3, g4, g5, g6, g7, g8⟩, hJ, hV, hHd, hM, hK, hL, hQ⟩ := h
  exact ⟨⟨g1, by rw [fr_up (by omega)]; exact g2, g3, fun m hm => by rw [fr_up (by omega)]; exact g4 m hm, g5, ht, upL_s, by rw [fr_up (by omega)]; exact g8⟩, hJ.fr fun j _ _ => fr_up (by omega), hV.fr fun j _ => fr_up (by omega), hHd.fr fun j _ _ => fr_up (by omega), hM.fr fun j _ _ => fr_up (by omega), hK.fr fun j _ _ => fr_up (by omega), hL.fr fun j _ _ => fr_up (by omega), hQ.fr fun j _ _ => fr_up (by omega)⟩
theorem seed_both {n q N : Nat} {me he se ta : Int32} {bs bw : Nat → Int64} {gr hd jo le : Nat → Int32} {cs cw : Nat → Int64} {fr to : Nat → Int32} {ms mw os ow : Nat → Int64} {kn nu ox va cl co rl ro : Nat → Int32} {s K W : Nat → Int64} (h : RS me he se ta bs bw gr hd jo le cs cw fr to ms mw os ow kn nu ox va s) (hn : n ≤ 10) (hnn : nn me = n) (hqq : nn he = q) (hl : LR n q jo N cl co rl ro) (hN : N ≤ 45) (h0 : 0 < N) (p : Int32) : ∃ se' ta' bs' bw' gr' hd' le' ms' mw' kn' nu' ox' K' s' W', f_X7_converseByTheSeed (nI N) cl co se ta bs bw gr hd le ms mw kn nu ox p = some (se', ta', bs', bw', gr', hd', le', ms', mw', kn', nu', ox') ∧ (∀ k46 undos op kept P i, (bd (f_X8_drawn s) fun R_10 => ckp (¬ (nI N) = 0) (Classical.propDecidable _) <| nm (R_10.2 - R_10.2 / nI N * nI N) fun x_12 => bd (f_X8_drawn R_10.1) fun R_13 => ckp (¬ (2 : Int32) = 0) (Classical.propDecidable _) <| if ¬ (R_13.2 - R_13.2 / 2 * 2) = 0 then f_X8_draw_c76 k46 undos op kept K rl ro R_13.1 W p P i x_12 0 else f_X8_draw_c76 k46 undos op kept K rl ro R_13.1 W p P i x_12 1) = k46 undos op kept K' rl ro s' W' p P (i + 1)) ∧ RS me he se' ta' bs' bw' gr' hd' jo le' cs cw fr to ms' mw' os ow kn' nu' ox' va s' := by
  obtain ⟨t1, p1, c1, r1⟩ := drawn_both h.1.2.2.2.2.2.1 h.1.2.2.2.2.2.2.1
  have h1 := h.seed p1
  obtain ⟨t2, p2, c2, r2⟩ := drawn_both h1.1.2.2.2.2.2.1 h1.1.2.2.2.2.2.2.1
  have h2 := h1.seed p2
  obtain ⟨T1, hT1, rfl⟩ := nI_of' p1
  obtain ⟨T2, hT2, rfl⟩ := nI_of' p2
  have hz : T1 % N < N := Nat.mod_lt _ h0
  obtain ⟨a, b, l1, l2, l3, l4, ha, hb, hab, ta1, tb1, -⟩ := hl (T1 % N) hz
  have e1 : nI T1 - nI T1 / nI N * nI N = nI (T1 % N) := nI_rem hT1 (by omega) h0
  have e2 : nI T2 - nI T2 / 2 * 2 = nI (T2 % 2) := nI_rem (N := 2) hT2 (by omega) (by omega)
  have hN0 : ¬ nI N = 0 := fun w => by rw [show (0 : Int32) = nI 0 from rfl, nI_eq (by omega) (by omega)] at w; omega
  have hNp : (0 : Int32) < nI N := by rw [show (0 : Int32) = nI 0 from rfl, nI_ltI (by omega) (by omega)]; omega
  by_cases z : nI (T2 % 2) = 0
  · obtain ⟨ta', bs', bw', gr', hd', le', ms', mw', kn', nu', ox', K', s', W', x1, x2, x3⟩ := talks_both (K := K) (W := W) h2 hn hnn hqq ha hb hab ta1 tb1 p
    refine ⟨nI T2, ta', bs', bw', gr', hd', le', ms', mw', kn', nu', ox', K', s', W', ?_, fun k46 undos op kept P i => ?_, x3⟩
    · unfold f_X7_converseByTheSeed
      rw [if_pos hNp, c1, bd_q, ckp_q hN0, e1, nm_q, c2, bd_q, ckp_q (by decide), e2, if_neg (fun h => h z)]
      unfold f_X7_converseByTheSeed_c44
      rw [ck_q (by omega) (by omega), nm_q, ck_q (by omega) (by omega), nm_q, nI_clamp (by omega), l1, l2, if_neg (by decide), x1, bd_q]
    · rw [r1, bd_q, ckp_q hN0, e1, nm_q, r2, bd_q, ckp_q (by decide), e2, if_neg (fun h => h z)]
      unfold f_X8_draw_c76
      rw [if_neg (by decide), ck_q (by omega) (by omega), nI_clamp (by omega), l3]
      unfold f_X8_draw_c102
      rw [if_neg (by decide), ck_q (by omega) (by omega), nI_clamp (by omega), l4]
      unfold f_X8_draw_c124
      rw [x2, bd_q, nm_q]
  · obtain ⟨ta', bs', bw', gr', hd', le', ms', mw', kn', nu', ox', K', s', W', x1, x2, x3⟩ := talks_both (K := K) (W := W) h2 hn hnn hqq hb ha (fun w => hab w.symm) tb1 ta1 p
    refine ⟨nI T2, ta', bs', bw', gr', hd', le', ms', mw', kn', nu', ox', K', s', W', ?_, fun k46 undos op kept P i => ?_, x3⟩
    · unfold f_X7_converseByTheSeed
      rw [if_pos hNp, c1, bd_q, ckp_q hN0, e1, nm_q, c2, bd_q, ckp_q (by decide), e2, if_pos z]
      unfold f_X7_converseByTheSeed_c44
      rw [ck_q (by omega) (by omega), nm_q, ck_q (by omega) (by omega), nm_q, nI_clamp (by omega), l1, l2, if_pos rfl, x1, bd_q]
    · rw [r1, bd_q, ckp_q hN0, e1, nm_q, r2, bd_q, ckp_q (by decide), e2, if_pos z]
      unfold f_X8_draw_c76
      rw [if_pos rfl, ck_q (by omega) (by omega), nI_clamp (by omega), l4]
      unfold f_X8_draw_c102
      rw [if_pos rfl, ck_q (by omega) (by omega), nI_clamp (by omega), l3]
      unfold f_X8_draw_c124
      rw [x2, bd_q, nm_q]
