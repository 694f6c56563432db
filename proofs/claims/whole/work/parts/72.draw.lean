theorem nI_div {T N : Nat} (hT : T < 2 ^ 31) (hN : N < 2 ^ 31) (h0 : 0 < N) : nI T / nI N = nI (T / N) := by
  have hq : T / N < 2 ^ 31 := Nat.lt_of_le_of_lt (Nat.div_le_self _ _) hT
  rw [← Int32.toInt_inj, Int32.toInt_div, nI_toInt hT, nI_toInt hN, nI_toInt hq, ← Int.ofNat_tdiv]
  generalize T / N = z at hq ⊢
  rw [Int.bmod_eq_of_le] <;> omega
theorem nI_rem {T N : Nat} (hT : T < 2 ^ 31) (hN : N < 2 ^ 31) (h0 : 0 < N) : nI T - nI T / nI N * nI N = nI (T % N) := by
  have e : T = T % N + T / N * N := by rw [Nat.mul_comm]; exact (Nat.mod_add_div T N).symm
  rw [nI_div hT hN h0, pk_mul]
  conv => lhs; lhs; rw [e, ← nI_add]
  rw [Int32.add_sub_cancel]
theorem nI_of' {x : Int32} (h : ¬ x < 0) : ∃ T, T < 2 ^ 31 ∧ x = nI T := by
  obtain ⟨T, hT, e⟩ := nI_of h
  exact ⟨T, hT, e⟩
theorem seed_both {n q N : Nat} {me he se ta : Int32} {bs bw : Nat → Int64} {gr hd jo le : Nat → Int32} {cs cw : Nat → Int64} {fr to : Nat → Int32} {ms mw os ow : Nat → Int64} {kn nu ox va cl co rl ro : Nat → Int32} {s K W : Nat → Int64} (h : RS me he se ta bs bw gr hd jo le cs cw fr to ms mw os ow kn nu ox va s) (hn : n ≤ 10) (hnn : nn me = n) (hqq : nn he = q) (hl : LR n q jo N cl co rl ro) (hN : N ≤ 45) (h0 : 0 < N) (p : Int32) : ∃ se' ta' bs' bw' gr' hd' le' ms' mw' kn' nu' ox' K' s' W', f_X7_converseByTheSeed (nI N) cl co se ta bs bw gr hd le ms mw kn nu ox p = some (se', ta', bs', bw', gr', hd', le', ms', mw', kn', nu', ox') ∧ (∀ k46 undos op kept P i, (bd (f_X8_drawn s) fun R_10 => ckp (¬ (nI N) = 0) (Classical.propDecidable _) <| nm (R_10.2 - R_10.2 / nI N * nI N) fun x_12 => bd (f_X8_drawn R_10.1) fun R_13 => ckp (¬ (2 : Int32) = 0) (Classical.propDecidable _) <| if ¬ (R_13.2 - R_13.2 / 2 * 2) = 0 then f_X8_draw_c76 k46 undos op kept K rl ro R_13.1 W p P i x_12 0 else f_X8_draw_c76 k46 undos op kept K rl ro R_13.1 W p P i x_12 1) = k46 undos op kept K' rl ro s' W' p P (i + 1)) ∧ RS me he se' ta' bs' bw' gr' hd' jo le' cs cw fr to ms' mw' os ow kn' nu' ox' va s' := by
  sorry
