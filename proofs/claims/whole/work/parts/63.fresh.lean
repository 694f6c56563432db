theorem fresh_loop {n q : Nat} {ta : Int32} {va jo fr to : Nat → Int32} {bs bw cs cw ms mw os ow : Nat → Int64} {V : Nat → Option STv} {hn' hs' undos : Int32} {kept : Nat → Int64} (hn : n ≤ 10) (hq : q < 1024) (hs2 : ∀ m, n ≤ m → m < 10 → tb q m = false) : ∀ (d f g i : Nat) (se : Int32) (gr hd le kn nu ox : Nat → Int32) (s : Nat → Int64), i + d = 10 → d < f → n ≤ g + i → R0 (nI n) (nI q) se ta s → RV va gr le s → RH (nI n) hd s → RK kn nu ox s → ∃ se' gr' hd' le' kn' nu' ox' s', f_X7_fresh_c13 (nI n) (nI q) ta bs bw jo cs cw fr to ms mw os ow va (g + 1) hn' hs' se gr hd le kn nu ox V (nI i) = some (hn', hs', se', gr', hd', le', kn', nu', ox', V, nI (pop q)) ∧ f_X8_fresh_c6 f undos kept s (nI i) = some (undos, kept, s', nI (pop q)) ∧ R0 (nI n) (nI q) se' ta s' ∧ RV va gr' le' s' ∧ RH (nI n) hd' s' ∧ RK kn' nu' ox' s' ∧ ∀ j, ((3 ≤ j ∧ j < 13) ∨ (33 ≤ j ∧ j < 53) ∨ 173 ≤ j) → s' j = s j
  | 0, 0, g, i, se, gr, hd, le, kn, nu, ox, s, e1, e2, e3, h0, hV, hH, hK => absurd e2 (by omega)
  | d + 1, 0, g, i, se, gr, hd, le, kn, nu, ox, s, e1, e2, e3, h0, hV, hH, hK => absurd e2 (by omega)
  | 0, f + 1, g, i, se, gr, hd, le, kn, nu, ox, s, e1, e2, e3, h0, hV, hH, hK => by
    obtain ⟨n', q', _, _, r1, r2, r3, r4, g0, g1, g2⟩ := h0.get
    rw [nn_I (by omega)] at r3 r4; subst r3; subst r4
    obtain ⟨b1, b2⟩ := here_both hn hq g0 g1 g2
    refine ⟨se, gr, hd, le, kn, nu, ox, s, ?_, ?_, h0, hV, hH, hK, fun _ _ => rfl⟩
    · unfold f_X7_fresh_c13
      rw [if_pos ((nI_leI (by omega) (by omega)).mpr (by omega)), b1, bd_q]
    · unfold f_X8_fresh_c6
      rw [show (10 : Int32) = nI 10 from rfl, if_pos ((nI_leI (by omega) (by omega)).mpr (by omega)), b2, bd_q]
  | d + 1, f + 1, g, i, se, gr, hd, le, kn, nu, ox, s, e1, e2, e3, h0, hV, hH, hK => by
    obtain ⟨n', q', _, _, r1, r2, r3, r4, g0, g1, g2⟩ := h0.get
    rw [nn_I (by omega)] at r3 r4; subst r3; subst r4
    have hi : i < 10 := by omega
    have h10 : ¬ nI 10 ≤ nI i := fun h => by rw [nI_leI (by omega) (by omega)] at h; omega
    rcases Nat.lt_or_ge i n with hin | hin
    · obtain ⟨g', rfl⟩ : ∃ g', g = g' + 1 := ⟨g - 1, by omega⟩
      have hni : ¬ nI n ≤ nI i := fun h => by rw [nI_leI (by omega) (by omega)] at h; omega
      by_cases c : tb q i = true
      · obtain ⟨u1, u2, u3, u4, u5, u6, u7, u8⟩ := h0
        obtain ⟨v1, v2, v3⟩ := hV i hi
        obtain ⟨s1, hs1⟩ : ∃ s1 : Nat → Int64, s1 = vp_updL (vp_updL (vp_updL s (53 + i) (va i).toInt64) (63 + i) (va i).toInt64) (73 + i) (nI (2 ^ i)).toInt64 := ⟨_, rfl⟩
        have hp : 2 ^ i < 1024 := by
          have : 2 ^ i < 2 ^ 10 := Nat.pow_lt_pow_right (by decide) hi
          omega
        obtain ⟨t, kn1, nu1, ox1, s2, k1, k2, k3, k4, k5, k6, k7⟩ := ticket_both (m := i) (se := se) (kn := kn) (nu := nu) (ox := ox) (s := s1) hi u6 (by rw [hs1, fr_up (by omega), fr_up (by omega), fr_up (by omega)]; exact u7) (fun k hk _ => by
          have hK1 : RK kn nu ox s1 := hK.fr fun j j1 j2 => by rw [hs1, fr_up (by omega), fr_up (by omega), fr_up (by omega)]
          exact hK1 k hk)
        have fr1 : ∀ j, j ≠ 1 → (j < 53 ∨ 173 ≤ j) → s2 j = s j := fun j j1 j2 => by rw [k7 j j1 (by omega), hs1, fr_up (by omega), fr_up (by omega), fr_up (by omega)]
        obtain ⟨se', gr', hd', le', kn', nu', ox', s', x1, x2, x3, x4, x5, x6, x7⟩ := fresh_loop (ta := ta) (va := va) (jo := jo) (fr := fr) (to := to) (bs := bs) (bw := bw) (cs := cs) (cw := cw) (ms := ms) (mw := mw) (os := os) (ow := ow) (V := V) (hn' := hn') (hs' := hs') (undos := undos) (kept := kept) hn hq hs2 d f g' (i + 1) t (upd gr i (va i)) (upd hd i (nI (2 ^ i))) (upd le i (va i)) kn1 nu1 ox1 s2 (by omega) (by omega) (by omega)
          ⟨u1, by rw [fr1 0 (by omega) (by omega)]; exact u2, u3, fun m hm => by rw [fr1 _ (by omega) (by omega)]; exact u4 m hm, u5, k1, k6, by rw [fr1 2 (by omega) (by omega)]; exact u8⟩
          (fun m hm => by
            obtain ⟨w1, w2, w3⟩ := hV m hm
            rw [fr1 (23 + m) (by omega) (by omega), k7 (53 + m) (by omega) (by omega), k7 (63 + m) (by omega) (by omega), upI_a, upI_a, hs1]
            by_cases z : m = i
            · subst z
              rw [if_pos rfl, if_pos rfl]
              simp (disch := omega) only [fr_up, upL_s]
              exact ⟨w1, trivial, trivial⟩
            · rw [if_neg z, if_neg z]
              simp (disch := omega) only [fr_up]
              exact ⟨w1, w2, w3⟩)
          (fun m hm => by
            obtain ⟨w1, w2, w3⟩ := hH m hm
            rw [k7 (73 + m) (by omega) (by omega), upI_a, hs1]
            by_cases z : m = i
            · subst z
              rw [if_pos rfl, upL_s]
              exact ⟨vp_in_nI hp (by omega), rfl, fun y => absurd y (by rw [nn_I (by omega)]; omega)⟩
            · rw [if_neg z]
              simp (disch := omega) only [fr_up]
              exact ⟨w1, w2, w3⟩)
          k5
        refine ⟨se', gr', hd', le', kn', nu', ox', s', ?_, ?_, x3, x4, x5, x6, fun j hj => by rw [x7 j hj, fr1 j (by omega) (by omega)]⟩
        · unfold f_X7_fresh_c13 f_X7_fresh_c61
          rw [if_neg hni, X5_isHere hq hi, bd_q, bi_t c, if_neg (by decide)]
          unfold f_X5_knowItselfAlone
          simp (disch := omega) only [ck_q, nm_q, nI_clamp]
          rw [(tb_sh i hi).1, bd_q, k2, bd_q, k3, bd_q, nI_1]
          exact x1
        · unfold f_X8_fresh_c6 f_X8_fresh_c73
          rw [show (10 : Int32) = nI 10 from rfl, if_neg h10, X8_isHere (nI i) hn g0 g1, bd_q, nn_I (by omega), bi_t ⟨vp_in_nI hin (by omega), c⟩, if_neg (by decide), ad_23, ad_53, ad_63, ad_73, (tb_sh i hi).2]
          simp (disch := omega) only [ck_q, nm_q, nI_clamp, fr_up]
          rw [v1, ← hs1, k4, bd_q, nI_1]
          exact x2
      · obtain ⟨se', gr', hd', le', kn', nu', ox', s', x1, x2, x3⟩ := fresh_loop (ta := ta) (va := va) (jo := jo) (fr := fr) (to := to) (bs := bs) (bw := bw) (cs := cs) (cw := cw) (ms := ms) (mw := mw) (os := os) (ow := ow) (V := V) (hn' := hn') (hs' := hs') (undos := undos) (kept := kept) hn hq hs2 d f g' (i + 1) se gr hd le kn nu ox s (by omega) (by omega) (by omega) h0 hV hH hK
        refine ⟨se', gr', hd', le', kn', nu', ox', s', ?_, ?_, x3⟩
        · unfold f_X7_fresh_c13 f_X7_fresh_c61
          rw [if_neg hni, X5_isHere hq hi, bd_q, bi_f c, if_pos (show (0 : Int32) = 0 from rfl), nm_q, nI_1]
          exact x1
        · unfold f_X8_fresh_c6 f_X8_fresh_c73
          rw [show (10 : Int32) = nI 10 from rfl, if_neg h10, X8_isHere (nI i) hn g0 g1, bd_q, nn_I (by omega), bi_f (fun w => c w.2), if_pos (show (0 : Int32) = 0 from rfl), nm_q, nI_1]
          exact x2
    · obtain ⟨se', gr', hd', le', kn', nu', ox', s', x1, x2, x3⟩ := fresh_loop (ta := ta) (va := va) (jo := jo) (fr := fr) (to := to) (bs := bs) (bw := bw) (cs := cs) (cw := cw) (ms := ms) (mw := mw) (os := os) (ow := ow) (V := V) (hn' := hn') (hs' := hs') (undos := undos) (kept := kept) hn hq hs2 d f g (i + 1) se gr hd le kn nu ox s (by omega) (by omega) (by omega) h0 hV hH hK
      refine ⟨se', gr', hd', le', kn', nu', ox', s', ?_, ?_, x3⟩
      · unfold f_X7_fresh_c13 at x1 ⊢
        rw [if_pos ((nI_leI (by omega) (by omega)).mpr (by omega))] at x1
        rw [if_pos ((nI_leI (by omega) (by omega)).mpr (by omega))]; exact x1
      · unfold f_X8_fresh_c6 f_X8_fresh_c73
        rw [show (10 : Int32) = nI 10 from rfl, if_neg h10, X8_isHere (nI i) hn g0 g1, bd_q, nn_I (by omega), bi_f (fun w => by rw [hs2 i hin hi] at w; exact absurd w.2 (by decide)), if_pos (show (0 : Int32) = 0 from rfl), nm_q, nI_1]
        exact x2
theorem op_fresh {me : Int32} {he : Int32} {se : Int32} {ta : Int32} {bs : Nat → Int64} {bw : Nat → Int64} {gr : Nat → Int32} {hd : Nat → Int32} {jo : Nat → Int32} {le : Nat → Int32} {cs : Nat → Int64} {cw : Nat → Int64} {fr : Nat → Int32} {to : Nat → Int32} {ms : Nat → Int64} {mw : Nat → Int64} {os : Nat → Int64} {ow : Nat → Int64} {kn : Nat → Int32} {nu : Nat → Int32} {ox : Nat → Int32} {va : Nat → Int32} {s : Nat → Int64} {history_next : Int32} {history_size : Int32} {V : Nat → Option STv} {undos : Int32} {kept : Nat → Int64} (h : RS me he se ta bs bw gr hd jo le cs cw fr to ms mw os ow kn nu ox va s) (hH : RHi history_next history_size V undos kept) : ∃ (history_next' : Int32) (history_size' : Int32) (se' : Int32) (gr' : Nat → Int32) (hd' : Nat → Int32) (le' : Nat → Int32) (kn' : Nat → Int32) (nu' : Nat → Int32) (ox' : Nat → Int32) (V' : Nat → Option STv) (undos' : Int32) (kept' : Nat → Int64) (s' : Nat → Int64) (r : Int32), f_X7_fresh me he ta bs bw jo cs cw fr to ms mw os ow va history_next history_size se gr hd le kn nu ox V = some (history_next', history_size', se', gr', hd', le', kn', nu', ox', V', r) ∧ f_X8_fresh undos kept s = some (undos', kept', s', r) ∧ RS me he se' ta bs bw gr' hd' jo le' cs cw fr to ms mw os ow kn' nu' ox' va s' ∧ RHi history_next' history_size' V' undos' kept' := by
  obtain ⟨a1, a2, a3, a4, a5, e1, e2, e3⟩ := keep_both h hH
  obtain ⟨h0, hJ, hV, hHd, hM, hK, hL, hQ⟩ := id h
  obtain ⟨n, q, hn, hq, rfl, rfl, hn2, hq2, hs0, hs1, hs2⟩ := h0.get
  obtain ⟨se', gr', hd', le', kn', nu', ox', s', x1, x2, x3, x4, x5, x6, x7⟩ := fresh_loop (ta := ta) (va := va) (jo := jo) (fr := fr) (to := to) (bs := bs) (bw := bw) (cs := cs) (cw := cw) (ms := ms) (mw := mw) (os := os) (ow := ow) (V := a3) (hn' := a1) (hs' := a2) (undos := a4) (kept := a5) hn hq hs2 10 fu 99999 0 se gr hd le kn nu ox s (by omega) (fu_ge (by omega)) (by omega) h0 hV hHd hK
  refine ⟨a1, a2, se', gr', hd', le', kn', nu', ox', a3, a4, a5, s', nI (pop q), ?_, ?_, ⟨x3, hJ.fr fun j _ _ => x7 j (by omega), x4, x5, hM.fr fun j _ _ => x7 j (by omega), x6, hL.fr fun j _ _ => x7 j (by omega), hQ.fr fun j _ _ => x7 j (by omega)⟩, e3⟩
  · unfold f_X7_fresh
    rw [e1, bd_q]; exact x1
  · unfold f_X8_fresh
    rw [e2, bd_q]; exact x2
