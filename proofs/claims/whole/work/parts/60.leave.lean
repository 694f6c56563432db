theorem leave_loop {m t : Nat} (hm : m < 10) (ht : t < 10) (hmt : m ≠ t) (undos : Int32) (kept : Nat → Int64) : ∀ (d f i : Nat) (s : Nat → Int64), i + d = 10 → d < f → ∃ s', f_X8_leave_c148 f undos kept s (nI m) (nI t) (nI i) = (bd (f_X8_hands s' 413 (nI m) (nI t)) fun A => bd (f_X8_hands A 513 (nI m) (nI t)) fun B => bd (f_X8_goes B (nI m)) fun C => some (undos, kept, C, 1)) ∧ (∀ j, (j < 213 ∨ 413 ≤ j) → s' j = s j) ∧ ∀ a b, a < 10 → b < 10 → s' (213 + 10 * a + b) = (if b = t ∧ i ≤ a ∧ a ≠ m ∧ a ≠ t then s (213 + 10 * a + b) + s (213 + 10 * a + m) else if a = t ∧ i ≤ b ∧ b ≠ m ∧ b ≠ t then s (213 + 10 * a + b) + s (213 + 10 * m + b) else s (213 + 10 * a + b)) ∧ s' (313 + 10 * a + b) = (if b = t ∧ i ≤ a ∧ a ≠ m ∧ a ≠ t then s (313 + 10 * a + b) + s (313 + 10 * a + m) else if a = t ∧ i ≤ b ∧ b ≠ m ∧ b ≠ t then s (313 + 10 * a + b) + s (313 + 10 * m + b) else s (313 + 10 * a + b))
  | 0, 0, i, s, h1, h2 => absurd h2 (by omega)
  | d + 1, 0, i, s, h1, h2 => absurd h2 (by omega)
  | 0, f + 1, i, s, h1, h2 => by
    refine ⟨s, ?_, fun _ _ => rfl, fun a b ha hb => ?_⟩
    · unfold f_X8_leave_c148
      rw [show (10 : Int32) = nI 10 from rfl, if_pos ((nI_leI (by omega) (by omega)).mpr (by omega))]
    · constructor <;> (repeat' split) <;> first | rfl | (exfalso; omega)
  | d + 1, f + 1, i, s, h1, h2 => by
    have hnn : ¬ (10 : Int32) ≤ nI i := fun h => by rw [show (10 : Int32) = nI 10 from rfl, nI_leI (by omega) (by omega)] at h; omega
    by_cases c : i = m ∨ i = t
    · obtain ⟨s', e, g0, g⟩ := leave_loop hm ht hmt undos kept d f (i + 1) s (by omega) (by omega)
      refine ⟨s', ?_, g0, fun a b ha hb => ?_⟩
      · unfold f_X8_leave_c148 f_X8_leave_c307
        rw [if_neg hnn]
        by_cases c1 : i = m
        · rw [if_pos (by rw [c1]), nm_q, nI_1]; exact e
        · rw [if_neg (by rw [nI_eq (by omega) (by omega)]; exact c1), if_pos (by rw [c.resolve_left c1]), nm_q, nI_1]; exact e
      · obtain ⟨g1, g2⟩ := g a b ha hb
        rw [g1, g2]
        constructor <;> (repeat' split) <;> first | rfl | (exfalso; omega)
    · obtain ⟨g, hg⟩ : ∃ g : Nat → Int64, g = vp_updL (vp_updL (vp_updL (vp_updL s (213 + 10 * i + t) (s (213 + 10 * i + t) + s (213 + 10 * i + m))) (313 + 10 * i + t) (s (313 + 10 * i + t) + s (313 + 10 * i + m))) (213 + 10 * t + i) (s (213 + 10 * t + i) + s (213 + 10 * m + i))) (313 + 10 * t + i) (s (313 + 10 * t + i) + s (313 + 10 * m + i)) := ⟨_, rfl⟩
      obtain ⟨s', e, g0, gg⟩ := leave_loop hm ht hmt undos kept d f (i + 1) g (by omega) (by omega)
      refine ⟨s', ?_, fun j hj => by rw [g0 j hj, hg]; simp (disch := omega) only [fr_up], fun a b ha hb => ?_⟩
      · unfold f_X8_leave_c148 f_X8_leave_c307
        rw [if_neg hnn, if_neg (by rw [nI_eq (by omega) (by omega)]; omega), if_neg (by rw [nI_eq (by omega) (by omega)]; omega), p_213, p_213, p_213, p_213, p_313, p_313, p_313, p_313]
        simp (disch := omega) only [ck_q, nm_q, nI_clamp, fr_up]
        rw [nI_1, ← hg]; exact e
      · obtain ⟨g1, g2⟩ := gg a b ha hb
        rw [g1, g2, hg]
        constructor
        · simp (disch := omega) only [fr_up]
          simp only [upL_a]
          (repeat' split) <;> first | rfl | (exfalso; omega) | (rw [show a = i by omega, show b = t by omega]; done) | (rw [show a = t by omega, show b = i by omega]; done)
        · simp (disch := omega) only [fr_up]
          simp only [upL_a]
          (repeat' split) <;> first | rfl | (exfalso; omega) | (rw [show a = i by omega, show b = t by omega]; done) | (rw [show a = t by omega, show b = i by omega]; done)
theorem op_leave {me : Int32} {he : Int32} {se : Int32} {ta : Int32} {bs : Nat → Int64} {bw : Nat → Int64} {gr : Nat → Int32} {hd : Nat → Int32} {jo : Nat → Int32} {le : Nat → Int32} {cs : Nat → Int64} {cw : Nat → Int64} {fr : Nat → Int32} {to : Nat → Int32} {ms : Nat → Int64} {mw : Nat → Int64} {os : Nat → Int64} {ow : Nat → Int64} {kn : Nat → Int32} {nu : Nat → Int32} {ox : Nat → Int32} {va : Nat → Int32} {s : Nat → Int64} {history_next : Int32} {history_size : Int32} {V : Nat → Option STv} {undos : Int32} {kept : Nat → Int64} (h : RS me he se ta bs bw gr hd jo le cs cw fr to ms mw os ow kn nu ox va s) (hH : RHi history_next history_size V undos kept) (p1 : Int32) (p2 : Int32) : ∃ (history_next' : Int32) (history_size' : Int32) (he' : Int32) (bs' : Nat → Int64) (bw' : Nat → Int64) (ms' : Nat → Int64) (mw' : Nat → Int64) (os' : Nat → Int64) (ow' : Nat → Int64) (V' : Nat → Option STv) (undos' : Int32) (kept' : Nat → Int64) (s' : Nat → Int64) (r : Int32), f_X7_leave me se ta gr hd jo le cs cw fr to kn nu ox va history_next history_size he bs bw ms mw os ow V p1 p2 = some (history_next', history_size', he', bs', bw', ms', mw', os', ow', V', r) ∧ f_X8_leave undos kept s p1 p2 = some (undos', kept', s', r) ∧ RS me he' se ta bs' bw' gr hd jo le cs cw fr to ms' mw' os' ow' kn nu ox va s' ∧ RHi history_next' history_size' V' undos' kept' := by
  obtain ⟨a1, a2, a3, a4, a5, e1, e2, e3⟩ := keep_both h hH
  obtain ⟨h0, hJ, hV, hHd, hM, hK, hL, hQ⟩ := id h
  obtain ⟨n, q, hn, hq, rfl, rfl, hn2, hq2, hs0, hs1, hs2⟩ := h0.get
  unfold f_X7_leave f_X8_leave
  rw [X7_isHere p1 hn hq, X7_isHere p2 hn hq, X8_isHere p1 hn hs0 hs1, X8_isHere p2 hn hs0 hs1]
  by_cases hm1 : vp_in p1 n ∧ tb q (nn p1) = true
  · by_cases hm2 : vp_in p2 n ∧ tb q (nn p2) = true
    · obtain ⟨m, ha, rfl⟩ := vp_in_of hm1.1 (by omega)
      obtain ⟨t, hb, rfl⟩ := vp_in_of hm2.1 (by omega)
      rw [nn_I (by omega)] at hm1 hm2 ⊢
      rw [nn_I (by omega)]
      have hm10 : m < 10 := by omega
      have ht10 : t < 10 := by omega
      rw [X5_isJoined hm10 ht10 (hJ m hm10).1, X8_areJoined hm10 ht10 hJ]
      simp only [bi_t hm1, bi_t hm2, bd_q, o10, o00, not_false_eq_true, not_true_eq_false, if_true, if_false]
      by_cases hmt : m = t
      · subst hmt
        refine ⟨history_next, history_size, nI q, bs, bw, ms, mw, os, ow, V, undos, kept, s, -1, ?_, ?_, h, hH⟩ <;> rw [if_neg (fun e => e rfl)]
      · have hmt' : ¬ nI m = nI t := by rw [nI_eq (by omega) (by omega)]; exact hmt
        rw [if_pos hmt', if_pos hmt']
        by_cases hj : tb (nn (jo m)) t = true
        · simp only [bi_t hj, o10, o00, not_false_eq_true, not_true_eq_false, if_true, if_false]
          obtain ⟨c', -, g2, g3, g4, g5⟩ := any_loop hL undos kept (nI m) (nI t) 8 fu 0 0 (by omega) (fu_ge (by omega)) (by omega)
          have q1 : f_X1_countOf fr to (nI m) = some (nI c') := g3
          have q2 : f_X8_leave_c37 undos kept s (nI m) (nI t) 0 = f_X8_leave_c41 1 undos kept s (nI m) (nI t) (if c' = 0 then 0 else 1) (nI 8) := g4
          rw [q1, q2, bd_q]
          unfold f_X8_leave_c41
          rw [if_pos (show (8 : Int32) ≤ nI 8 by decide)]
          by_cases hc : c' = 0
          · subst hc
            rw [if_pos (show nI 0 ≤ (0 : Int32) by decide), if_pos (show (if (0 : Nat) = 0 then (0 : Int32) else 1) = 0 by decide)]
            have hno := g5 rfl
            obtain ⟨m1, m2, -⟩ := hM m hm10
            obtain ⟨t1, t2, -⟩ := hM t ht10
            obtain ⟨v1, -⟩ := hV m hm10
            obtain ⟨ms1, hms1⟩ : ∃ ms1 : Nat → Int64, ms1 = vp_updL (vp_updL ms t (ms t + ms m)) t ((vp_updL ms t (ms t + ms m)) t + -((va m).toInt64 * 1048576)) := ⟨_, rfl⟩
            obtain ⟨mw1, hmw1⟩ : ∃ mw1 : Nat → Int64, mw1 = vp_updL (vp_updL mw t (mw t + mw m)) t ((vp_updL mw t (mw t + mw m)) t + -1048576) := ⟨_, rfl⟩
            obtain ⟨x1, y1, b1, b2⟩ := over_loop hn ha hb hmt va (nI q) ms1 mw1 os ow n fu 0 bs bw (by omega) (fu_ge (by omega))
            obtain ⟨bs', bw', d1, d2⟩ := forget_X5 hn ha x1 y1
            obtain ⟨os', ow', d3, d4, d5⟩ := pass_X5 hn ha hb hmt os ow
            obtain ⟨s1, hs1'⟩ : ∃ s1 : Nat → Int64, s1 = vp_updL (vp_updL s (33 + t) (ms t + (ms m - (va m).toInt64 * 1048576))) (43 + t) (mw t + (mw m - 1048576)) := ⟨_, rfl⟩
            obtain ⟨s2, f1, f2, f3⟩ := leave_loop hm10 ht10 hmt a4 a5 10 fu 0 s1 (by omega) (fu_ge (by omega))
            obtain ⟨s3, j1, j2, j3⟩ := hands_X8 (P := 413) (by omega) hm10 ht10 hmt s2
            obtain ⟨s4, i1, i2, i3⟩ := hands_X8 (P := 513) (by omega) hm10 ht10 hmt s3
            obtain ⟨s', k1, k2⟩ := goes_X8 hm10 s4
            have q3 : f_X5_handOver_c38 (nI n) va fu (nI q) bs bw ms1 mw1 os ow (nI m) (nI t) 0 = _ := b1
            have q4 : f_X8_leave_c148 fu a4 a5 s1 (nI m) (nI t) 0 = _ := f1
            have q5 : f_X8_hands s2 413 (nI m) (nI t) = some s3 := j1
            have q6 : f_X8_hands s3 513 (nI m) (nI t) = some s4 := i1
            have far : ∀ j, (j < 33 ∨ (53 ≤ j ∧ j < 213)) → s4 j = s j := fun j hj => by rw [i2 j (by omega), j2 j (by omega), f2 j (by omega), hs1', fr_up (by omega), fr_up (by omega)]
            have hq' : q &&& (1023 ^^^ 2 ^ m) < 1024 := tb_clt hq
            obtain ⟨y1', y2, y3, y4, y5⟩ := goes_rest hm10 hq hn h0 hs1 hJ hV hHd hK (fun j hj => far j (by omega)) k2
            refine ⟨a1, a2, nI (q &&& (1023 ^^^ 2 ^ m)), bs', bw', vp_updL ms1 m 0, vp_updL mw1 m 0, os', ow', a3, a4, a5, s', 1, ?_, ?_, ⟨y1', y2, y3, y4, ?_, y5, ?_, ?_⟩, e3⟩
            · rw [e1, bd_q]
              unfold f_X5_handOver
              rw [addFromT_X3 ht10 (by omega) hm10, bd_q, ck_q hm10 (by omega), nI_clamp (by omega), add_X3 _ _ ht10 (by omega), bd_q, ← hms1, ← hmw1, q3, d1, bd_q, d3, bd_q, depart_X5 hm10 hq, bd_q, bd_q]
            · rw [e2, bd_q, ad_33, ad_33, ad_43, ad_43, ad_23]
              simp (disch := omega) only [ck_q, nm_q, nI_clamp, fr_up, t1, t2, m1, m2, v1]
              rw [← hs1', q4, q5, bd_q, q6, bd_q, k1, bd_q]
            · intro z hz
              obtain ⟨w1, w2, w3⟩ := hM z hz
              by_cases e : z = m
              · subst e
                rw [show s' (33 + z) = 0 by rw [k2, if_pos (by omega)], show s' (43 + z) = 0 by rw [k2, if_pos (by omega)], upL_s, upL_s]
                exact ⟨rfl, rfl, fun _ => ⟨rfl, rfl⟩⟩
              · rw [show s' (33 + z) = s1 (33 + z) by rw [k2, if_neg (by omega), if_neg (by omega), i2 _ (by omega), j2 _ (by omega), f2 _ (by omega)], show s' (43 + z) = s1 (43 + z) by rw [k2, if_neg (by omega), if_neg (by omega), i2 _ (by omega), j2 _ (by omega), f2 _ (by omega)], fr_up e, fr_up e, hs1', hms1, hmw1]
                by_cases e2' : z = t
                · subst e2'
                  simp (disch := omega) only [fr_up, upL_s]
                  refine ⟨by rw [Int64.sub_eq_add_neg, Int64.add_assoc], by rw [Int64.sub_eq_add_neg, Int64.add_assoc], fun y => ?_⟩
                  rw [nn_I (by omega), tb_c q hq m hm10 z hz, hm2.2, show decide (m = z) = false from decide_eq_false (fun y => e y.symm)] at y
                  cases y
                · simp (disch := omega) only [fr_up]
                  refine ⟨w1, w2, fun y => w3 ?_⟩
                  rw [nn_I (by omega), tb_c q hq m hm10 z hz, show decide (m = z) = false from decide_eq_false (fun y => e y.symm)] at y
                  rw [nn_I (by omega)]; simpa using y
            · refine RLt.he_cl hm10 (hL.fr fun j j1 j2 => ?_) (fun k k1 k2 k3 => ?_) (fun k hk z => ?_)
              · rw [k2, if_neg (by omega), if_neg (by omega), far j (by omega)]
              · rw [nn_I (by omega)] at k3 ⊢
                rw [tb_c q hq m hm10 k k1, k3, show decide (m = k) = false from decide_eq_false (fun y => k2 y.symm)]; rfl
              · have := hno k (by omega) hk
                exact ⟨fun y => this ⟨z, Or.inl y⟩, fun y => this ⟨z, Or.inr y⟩⟩
            · intro i hi
              obtain ⟨a, b, ha', hb', rfl⟩ : ∃ a b, a < 10 ∧ b < 10 ∧ i = 10 * a + b := ⟨i / 10, i % 10, by omega, by omega, by omega⟩
              have r1 : (10 * a + b) / 10 = a := by omega
              have r2 : (10 * a + b) % 10 = b := by omega
              have hB : ∀ a b, a < 10 → b < 10 → s1 (213 + 10 * a + b) = bs (10 * a + b) ∧ s1 (313 + 10 * a + b) = bw (10 * a + b) ∧ s2 (413 + 10 * a + b) = os (10 * a + b) ∧ s3 (513 + 10 * a + b) = ow (10 * a + b) := fun a b ha hb => by
                obtain ⟨w1, w2, w3, w4, -⟩ := hQ (10 * a + b) (by omega)
                rw [j2 _ (by omega), f2 _ (by omega), f2 _ (by omega), hs1']
                simp (disch := omega) only [fr_up]
                rw [← w1, ← w2, ← w3, ← w4, Nat.add_assoc, Nat.add_assoc, Nat.add_assoc, Nat.add_assoc]
                exact ⟨rfl, rfl, rfl, rfl⟩
              have z1 : s' (213 + (10 * a + b)) = if a = m ∨ b = m then 0 else s2 (213 + 10 * a + b) := by
                rw [k2, if_neg (by omega), i2 _ (by omega), j2 _ (by omega), ← Nat.add_assoc]; exact ifc (by omega)
              have z2 : s' (313 + (10 * a + b)) = if a = m ∨ b = m then 0 else s2 (313 + 10 * a + b) := by
                rw [k2, if_neg (by omega), i2 _ (by omega), j2 _ (by omega), ← Nat.add_assoc]; exact ifc (by omega)
              have z3 : s' (413 + (10 * a + b)) = s3 (413 + 10 * a + b) := by
                rw [k2, if_neg (by omega), if_neg (by omega), i2 _ (by omega), ← Nat.add_assoc]
              have z4 : s' (513 + (10 * a + b)) = s4 (513 + 10 * a + b) := by
                rw [k2, if_neg (by omega), if_neg (by omega), ← Nat.add_assoc]
              obtain ⟨p1, p2⟩ := f3 a b ha' hb'
              obtain ⟨e1', e2', e3', e4'⟩ := hB a b ha' hb'
              obtain ⟨am1, am2, am3, am4⟩ := hB a m ha' hm10
              obtain ⟨mb1, mb2, mb3, mb4⟩ := hB m b hm10 hb'
              obtain ⟨-, -, tt3, tt4⟩ := hB t t ht10 ht10
              obtain ⟨-, -, mm3, mm4⟩ := hB m m hm10 hm10
              obtain ⟨-, -, tm3, tm4⟩ := hB t m ht10 hm10
              obtain ⟨-, -, mt3, mt4⟩ := hB m t hm10 ht10
              obtain ⟨l1, l2⟩ := d2 (10 * a + b) (by omega)
              obtain ⟨l3, l4⟩ := b2 a b ha' hb'
              rw [r1, r2] at l1 l2
              rw [z1, z2, z3, z4, p1, p2, j3 a b ha' hb', i3 a b ha' hb', e1', e2', e3', e4', am1, am2, am3, am4, mb1, mb2, mb3, mb4, tt3, tt4, mm3, mm4, tm3, tm4, mt3, mt4, l1, l2, l3, l4, nn_I (by omega), r1, r2]
              by_cases hab : a < n ∧ b < n
              · obtain ⟨o1, o2⟩ := d4 a b hab.1 hab.2
                rw [o1, o2]
                refine ⟨?_, ?_, rfl, rfl, fun w => absurd w (by omega)⟩ <;> (repeat' split) <;> first | rfl | (exfalso; omega)
              · obtain ⟨o1, o2⟩ := d5 a b ha' hb' (by omega)
                obtain ⟨-, -, -, -, n1⟩ := hQ (10 * a + b) (by omega)
                rw [nn_I (by omega), r1, r2] at n1
                obtain ⟨n1, n2, n3, n4⟩ := n1 (by omega)
                have Z : n ≤ a → bs (10 * a + m) = 0 ∧ bw (10 * a + m) = 0 ∧ os (10 * a + m) = 0 ∧ ow (10 * a + m) = 0 := fun y => by
                  obtain ⟨-, -, -, -, y2⟩ := hQ (10 * a + m) (by omega)
                  rw [nn_I (by omega)] at y2; exact y2 (by omega)
                have Z2 : n ≤ b → bs (10 * m + b) = 0 ∧ bw (10 * m + b) = 0 ∧ os (10 * m + b) = 0 ∧ ow (10 * m + b) = 0 := fun y => by
                  obtain ⟨-, -, -, -, y2⟩ := hQ (10 * m + b) (by omega)
                  rw [nn_I (by omega)] at y2; exact y2 (by omega)
                rw [o1, o2, n1, n2, n3, n4]
                have L : ∀ x : Int64, x = 0 → (0 : Int64) + x = 0 := fun x hx => by rw [hx]; decide
                refine ⟨?_, ?_, ?_, ?_, fun _ => ⟨?_, ?_, rfl, rfl⟩⟩ <;> (repeat' split) <;> first | rfl | (exfalso; omega) | (rw [L _ (Z (by omega)).1]; done) | (rw [L _ (Z (by omega)).2.1]; done) | (rw [L _ (Z (by omega)).2.2.1]; done) | (rw [L _ (Z (by omega)).2.2.2]; done) | (rw [L _ (Z2 (by omega)).1]; done) | (rw [L _ (Z2 (by omega)).2.1]; done) | (rw [L _ (Z2 (by omega)).2.2.1]; done) | (rw [L _ (Z2 (by omega)).2.2.2]; done)
          · rw [if_neg (show ¬ nI c' ≤ (0 : Int32) by rw [show (0 : Int32) = nI 0 from rfl, nI_leI (by omega) (by omega)]; omega), if_neg hc, if_neg (by decide)]
            exact ⟨history_next, history_size, nI q, bs, bw, ms, mw, os, ow, V, undos, kept, s, -2, rfl, rfl, h, hH⟩
        · simp only [bi_f hj, o10, o00, not_false_eq_true, not_true_eq_false, if_true, if_false]
          obtain ⟨c', g1, g2, g3, g4, g5⟩ := any_loop hL undos kept (nI m) (nI t) 8 fu 0 1 (by omega) (fu_ge (by omega)) (by omega)
          have q2 : f_X8_leave_c37 undos kept s (nI m) (nI t) 1 = f_X8_leave_c41 1 undos kept s (nI m) (nI t) (if c' = 0 then 0 else 1) (nI 8) := g4
          rw [q2, if_neg (show ¬ c' = 0 by omega)]
          unfold f_X8_leave_c41
          rw [if_pos (show (8 : Int32) ≤ nI 8 by decide), if_neg (by decide)]
          exact ⟨history_next, history_size, nI q, bs, bw, ms, mw, os, ow, V, undos, kept, s, -2, rfl, rfl, h, hH⟩
    · refine ⟨history_next, history_size, nI q, bs, bw, ms, mw, os, ow, V, undos, kept, s, -1, ?_, ?_, h, hH⟩ <;> simp only [bi_t hm1, bi_f hm2, bd_q, o10, o00, not_false_eq_true, not_true_eq_false, if_true, if_false]
  · refine ⟨history_next, history_size, nI q, bs, bw, ms, mw, os, ow, V, undos, kept, s, -1, ?_, ?_, h, hH⟩ <;> simp only [bi_f hm1, bd_q, o10, o00, not_false_eq_true, not_true_eq_false, if_true, if_false]
