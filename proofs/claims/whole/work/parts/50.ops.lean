/-! the calls, one by one: both answer alike, and what they leave is alike -/
theorem fr_up {s : Nat → Int64} {i : Nat} {v : Int64} {j : Nat} (h : j ≠ i) : vp_updL s i v j = s j := by rw [upL_a, if_neg h]
theorem op_seed {me : Int32} {he : Int32} {se : Int32} {ta : Int32} {bs : Nat → Int64} {bw : Nat → Int64} {gr : Nat → Int32} {hd : Nat → Int32} {jo : Nat → Int32} {le : Nat → Int32} {cs : Nat → Int64} {cw : Nat → Int64} {fr : Nat → Int32} {to : Nat → Int32} {ms : Nat → Int64} {mw : Nat → Int64} {os : Nat → Int64} {ow : Nat → Int64} {kn : Nat → Int32} {nu : Nat → Int32} {ox : Nat → Int32} {va : Nat → Int32} {s : Nat → Int64} {history_next : Int32} {history_size : Int32} {V : Nat → Option STv} {undos : Int32} {kept : Nat → Int64} (h : RS me he se ta bs bw gr hd jo le cs cw fr to ms mw os ow kn nu ox va s) (hH : RHi history_next history_size V undos kept) (p1 : Int32) : ∃ (history_next' : Int32) (history_size' : Int32) (se' : Int32) (V' : Nat → Option STv) (undos' : Int32) (kept' : Nat → Int64) (s' : Nat → Int64) (r : Int32), f_X7_seed me he ta bs bw gr hd jo le cs cw fr to ms mw os ow kn nu ox va history_next history_size se V p1 = some (history_next', history_size', se', V', r) ∧ f_X8_seed undos kept s p1 = some (undos', kept', s', r) ∧ RS me he se' ta bs bw gr hd jo le cs cw fr to ms mw os ow kn nu ox va s' ∧ RHi history_next' history_size' V' undos' kept' := by
  by_cases hp : 0 ≤ p1
  · obtain ⟨a1, a2, a3, a4, a5, e1, e2, e3⟩ := keep_both h hH
    obtain ⟨h0, hJ, hV, hHd, hM, hK, hL, hQ⟩ := h
    refine ⟨a1, a2, p1, a3, a4, a5, vp_updL s 1 p1.toInt64, 1, ?_, ?_, ⟨?_, hJ.fr fun j _ _ => fr_up (by omega), hV.fr fun j _ => fr_up (by omega), hHd.fr fun j _ _ => fr_up (by omega), hM.fr fun j _ _ => fr_up (by omega), hK.fr fun j _ _ => fr_up (by omega), hL.fr fun j _ _ => fr_up (by omega), hQ.fr fun j _ _ => fr_up (by omega)⟩, e3⟩
    · unfold f_X7_seed; rw [if_pos hp, e1, bd_q]
    · unfold f_X8_seed; rw [if_pos hp, e2, bd_q, show ((1 : Int32)) = nI 1 from rfl, ck_q (by omega) (by omega), nm_q]; rfl
    · obtain ⟨g1, g2, g3, g4, g5, g6, g7, g8⟩ := h0
      refine ⟨g1, ?_, g3, fun m hm => ?_, g5, ?_, upL_s, ?_⟩
      · rw [fr_up (by omega)]; exact g2
      · rw [fr_up (by omega)]; exact g4 m hm
      · rw [Int32.not_lt]; exact hp
      · rw [fr_up (by omega)]; exact g8
  · refine ⟨_, _, _, _, _, _, _, -1, ?_, ?_, h, hH⟩
    · unfold f_X7_seed; rw [if_neg hp]
    · unfold f_X8_seed; rw [if_neg hp]
theorem X8_undo2 (kept : Nat → Int64) (u : Nat) (hu : u < 20) (r : Int32) : ∀ (d n i : Nat) (s : Nat → Int64), r = nI u → i + d = 613 → d < n → f_X8_undo_c22 kept n r s (nI i) = some (nI u, (fun j => if i ≤ j ∧ j < 613 then kept (613 * u + j) else s j), nI u)
  | 0, 0, i, s, hr, h1, h2 => absurd h2 (by omega)
  | d + 1, 0, i, s, hr, h1, h2 => absurd h2 (by omega)
  | 0, n + 1, i, s, hr, h1, h2 => by
    subst hr
    unfold f_X8_undo_c22
    rw [show (613 : Int32) = nI 613 from rfl, if_pos ((nI_leI (by omega) (by omega)).mpr (by omega))]
    congr 3; funext j; rw [if_neg (by omega)]
  | d + 1, n + 1, i, s, hr, h1, h2 => by
    subst hr
    unfold f_X8_undo_c22
    rw [show (613 : Int32) = nI 613 from rfl, if_neg (fun h => by rw [nI_leI (by omega) (by omega)] at h; omega), pk_mul, nI_add, ck_q (by omega) (by omega), ck_q (by omega) (by omega), nm_q, nm_q, show (1 : Int32) = nI 1 from rfl, nI_add, nI_clamp (by omega), nI_clamp (by omega)]
    show f_X8_undo_c22 kept n (nI u) _ (nI (i + 1)) = _
    rw [X8_undo2 kept u hu (nI u) d n (i + 1) _ rfl (by omega) (by omega)]
    congr 3; funext j
    rw [upL_a]
    by_cases hj : j = i
    · subst hj; rw [if_neg (by omega), if_pos rfl, if_pos (by omega)]
    · by_cases h3 : i + 1 ≤ j ∧ j < 613
      · rw [if_pos h3, if_pos (by omega)]
      · rw [if_neg h3, if_neg hj, if_neg (by omega)]
theorem op_undo {me : Int32} {he : Int32} {se : Int32} {ta : Int32} {bs : Nat → Int64} {bw : Nat → Int64} {gr : Nat → Int32} {hd : Nat → Int32} {jo : Nat → Int32} {le : Nat → Int32} {cs : Nat → Int64} {cw : Nat → Int64} {fr : Nat → Int32} {to : Nat → Int32} {ms : Nat → Int64} {mw : Nat → Int64} {os : Nat → Int64} {ow : Nat → Int64} {kn : Nat → Int32} {nu : Nat → Int32} {ox : Nat → Int32} {va : Nat → Int32} {s : Nat → Int64} {history_next : Int32} {history_size : Int32} {V : Nat → Option STv} {undos : Int32} {kept : Nat → Int64} (h : RS me he se ta bs bw gr hd jo le cs cw fr to ms mw os ow kn nu ox va s) (hH : RHi history_next history_size V undos kept) : ∃ (history_next' : Int32) (history_size' : Int32) (me' : Int32) (he' : Int32) (se' : Int32) (ta' : Int32) (bs' : Nat → Int64) (bw' : Nat → Int64) (gr' : Nat → Int32) (hd' : Nat → Int32) (jo' : Nat → Int32) (le' : Nat → Int32) (cs' : Nat → Int64) (cw' : Nat → Int64) (fr' : Nat → Int32) (to' : Nat → Int32) (ms' : Nat → Int64) (mw' : Nat → Int64) (os' : Nat → Int64) (ow' : Nat → Int64) (kn' : Nat → Int32) (nu' : Nat → Int32) (ox' : Nat → Int32) (va' : Nat → Int32) (V' : Nat → Option STv) (undos' : Int32) (s' : Nat → Int64) (r : Int32), f_X7_undo history_next history_size me he se ta bs bw gr hd jo le cs cw fr to ms mw os ow kn nu ox va V = some (history_next', history_size', me', he', se', ta', bs', bw', gr', hd', jo', le', cs', cw', fr', to', ms', mw', os', ow', kn', nu', ox', va', V', r) ∧ f_X8_undo kept undos s = some (undos', s', r) ∧ RS me' he' se' ta' bs' bw' gr' hd' jo' le' cs' cw' fr' to' ms' mw' os' ow' kn' nu' ox' va' s' ∧ RHi history_next' history_size' V' undos' kept := by
  obtain ⟨u, x, hu, hx, rfl, rfl, rfl, hk⟩ := hH
  have hn : ((nI x + (20 : Int32)) - (1 : Int32)) - ((nI x + (20 : Int32)) - (1 : Int32)) / (20 : Int32) * (20 : Int32) = nI ((x + 19) % 20) := by
    rw [show (1 : Int32) = nI 1 from rfl, show (20 : Int32) = nI 20 from rfl, nI_add, pk_sub (by omega), pk_rem (by omega) (by omega) (by omega)]
    congr 1
  have hcl : (nI ((x + 19) % 20)).toNatClampNeg = (x + 19) % 20 := nI_clamp (by omega)
  by_cases hz : u = 0
  · subst hz
    refine ⟨nI x, nI 0, me, he, se, ta, bs, bw, gr, hd, jo, le, cs, cw, fr, to, ms, mw, os, ow, kn, nu, ox, va, V, nI 0, s, -2, ?_, ?_, h, ⟨0, x, by omega, hx, rfl, rfl, rfl, fun i hi => absurd hi (by omega)⟩⟩
    · unfold f_X7_undo f_X0_restore
      rw [nm_q, hn, ck_q (by omega) (by omega), if_pos (show nI 0 ≤ 0 from Int32.le_refl _), bd_q]
      rfl
    · unfold f_X8_undo
      rw [if_neg (fun e => e rfl)]
  · obtain ⟨v, hv1, hv2⟩ := hk (u - 1) (by omega)
    rw [show (x + 20 - u + (u - 1)) % 20 = (x + 19) % 20 by omega] at hv1
    obtain ⟨b1, b2, b3, b4, b5, b6, b7, b8, b9, b10, b11, b12, b13, b14, b15, b16, b17, b18, b19, b20, b21, b22⟩ := v
    refine ⟨nI ((x + 19) % 20), nI (u - 1), b1, b2, b3, b4, va_cpy b5 bs 0 0 100, va_cpy b6 bw 0 0 100, va_cpy b7 gr 0 0 10, va_cpy b8 hd 0 0 10, va_cpy b9 jo 0 0 10, va_cpy b10 le 0 0 10, va_cpy b11 cs 0 0 8, va_cpy b12 cw 0 0 8, va_cpy b13 fr 0 0 8, va_cpy b14 to 0 0 8, va_cpy b15 ms 0 0 10, va_cpy b16 mw 0 0 10, va_cpy b17 os 0 0 100, va_cpy b18 ow 0 0 100, va_cpy b19 kn 0 0 11, va_cpy b20 nu 0 0 44, va_cpy b21 ox 0 0 44, va_cpy b22 va 0 0 10, V, nI (u - 1), (fun j => if 0 ≤ j ∧ j < 613 then kept (613 * (u - 1) + j) else s j), nI (u - 1), ?_, ?_, ?_, ⟨u - 1, (x + 19) % 20, by omega, Nat.mod_lt _ (by omega), rfl, rfl, rfl, fun i hi => ?_⟩⟩
    rotate_left 1
    · unfold f_X8_undo
      rw [if_pos (fun e => hz ((nI_eq (by omega) (by omega)).mp (e.trans nI_0.symm))), nm_q, show (1 : Int32) = nI 1 from rfl, pk_sub (by omega), show (0 : Int32) = nI 0 from rfl]
      exact X8_undo2 kept (u - 1) (by omega) _ 613 fu 0 s rfl (by omega) (fu_ge (by omega))
    · refine RS.fr (RS_copy bs bw gr hd jo le cs cw fr to ms mw os ow kn nu ox va hv2) fun j hj => ?_
      rw [if_pos (by omega)]
    · obtain ⟨w, hw1, hw2⟩ := hk i (by omega)
      refine ⟨w, ?_, hw2⟩
      rw [show ((x + 19) % 20 + 20 - (u - 1) + i) % 20 = (x + 20 - u + i) % 20 by omega]; exact hw1
    · unfold f_X7_undo f_X0_restore
      rw [nm_q, hn, ck_q (by omega) (by omega), hcl, hv1, if_neg (fun e => by rw [show (0 : Int32) = nI 0 from rfl, nI_leI (by omega) (by omega)] at e; omega)]
      dsimp only
      rw [X5_copy, bd_q, nm_q, bd_q, show (1 : Int32) = nI 1 from rfl, pk_sub (by omega)]
      rfl
