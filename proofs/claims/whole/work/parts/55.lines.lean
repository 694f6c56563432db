/-! how many lines -/
def sumF (f : Nat → Nat) : Nat → Nat → Nat
  | _, 0 => 0
  | lo, d + 1 => f lo + sumF f (lo + 1) d
def cb (b : Bool) : Nat := if b then 1 else 0
theorem pop_sum : ∀ h, h < 1024 → pop h = sumF (fun b => cb (tb h b)) 0 10 := by decide +kernel
theorem pop_le : ∀ h, h < 1024 → pop h ≤ 10 := by decide +kernel
theorem X5_lines_loop (n : Nat) (hn : n ≤ 10) (jo : Nat → Int32) (hj : ∀ a, a < 10 → vp_in (jo a) 1024) : ∀ (d f a acc : Nat), a + d = n → d < f → acc ≤ 10 * a → f_X5_lineCount_c4 (nI n) jo f (nI acc) (nI a) = some (nI ((acc + sumF (fun a => pop (nn (jo a))) a d) / 2))
  | 0, 0, a, acc, h1, h2, h3 => absurd h2 (by omega)
  | d + 1, 0, a, acc, h1, h2, h3 => absurd h2 (by omega)
  | 0, f + 1, a, acc, h1, h2, h3 => by
    unfold f_X5_lineCount_c4
    rw [if_pos ((nI_leI (by omega) (by omega)).mpr (by omega)), ckp_q (by decide), show (2 : Int32) = nI 2 from rfl, pk_div (by omega) (by omega) (by omega)]
    rfl
  | d + 1, f + 1, a, acc, h1, h2, h3 => by
    obtain ⟨e, l⟩ := nn_nI (hj a (by omega)) (by omega)
    have hp := pop_le _ l
    have hbc : f_J6_bitCount_0f7a4 (jo a) = some (nI (pop (nn (jo a)))) := by
      have t := bitc _ l
      rw [← e] at t; exact t
    unfold f_X5_lineCount_c4
    rw [if_neg (fun h => by rw [nI_leI (by omega) (by omega)] at h; omega), ck_q (by omega) (by omega), nI_clamp (by omega), hbc, bd_q, nm_q, nm_q, nI_1, nI_add]
    show f_X5_lineCount_c4 (nI n) jo f (nI (acc + pop (nn (jo a)))) (nI (a + 1)) = _
    rw [X5_lines_loop n hn jo hj d f (a + 1) _ (by omega) (by omega) (by omega)]
    congr 3
    show _ = acc + (pop (nn (jo a)) + sumF _ (a + 1) d)
    omega
theorem X8_lines_in (k4 : Int32 → Int32 → Option Int32) {s : Nat → Int64} {me : Int32} {jo : Nat → Int32} (hJ : RJ me jo s) (a : Nat) (ha : a < 10) : ∀ (d f b acc : Nat), b + d = 10 → d < f → f_X8_lines_c14 k4 s f (nI acc) (nI a) (nI b) = k4 (nI (acc + sumF (fun b => cb (tb (nn (jo a)) b)) b d)) (nI (a + 1))
  | 0, 0, b, acc, h1, h2 => absurd h2 (by omega)
  | d + 1, 0, b, acc, h1, h2 => absurd h2 (by omega)
  | 0, f + 1, b, acc, h1, h2 => by
    unfold f_X8_lines_c14
    rw [show (10 : Int32) = nI 10 from rfl, if_pos ((nI_leI (by omega) (by omega)).mpr (by omega)), nm_q, nI_1]
    rfl
  | d + 1, f + 1, b, acc, h1, h2 => by
    unfold f_X8_lines_c14 f_X8_lines_c35
    rw [show (10 : Int32) = nI 10 from rfl, if_neg (fun h => by rw [nI_leI (by omega) (by omega)] at h; omega), X8_areJoined ha (by omega) hJ, bd_q]
    simp only [nm_q]
    by_cases hb : tb (nn (jo a)) b = true
    · rw [if_neg (by rw [bi_0]; exact fun e => e hb), nI_1, nI_1]
      rw [X8_lines_in k4 hJ a ha d f (b + 1) _ (by omega) (by omega)]
      congr 2
      show _ = acc + (cb (tb (nn (jo a)) b) + sumF _ (b + 1) d)
      rw [hb]; show acc + 1 + _ = acc + (1 + _); omega
    · rw [if_pos (bi_0.mpr hb), nI_1, show nI acc + (0 : Int32) = nI acc by simp]
      rw [X8_lines_in k4 hJ a ha d f (b + 1) _ (by omega) (by omega)]
      congr 2
      show _ = acc + (cb (tb (nn (jo a)) b) + sumF _ (b + 1) d)
      have : tb (nn (jo a)) b = false := by simpa using hb
      rw [this]; show acc + _ = acc + (0 + _); omega
theorem X8_lines_out {s : Nat → Int64} {me : Int32} {jo : Nat → Int32} (hJ : RJ me jo s) : ∀ (d f a acc : Nat), a + d = 10 → d < f → f_X8_lines_c4 s f (nI acc) (nI a) = some (nI (acc + sumF (fun a => sumF (fun b => cb (tb (nn (jo a)) b)) (a + 1) (9 - a)) a d))
  | 0, 0, a, acc, h1, h2 => absurd h2 (by omega)
  | d + 1, 0, a, acc, h1, h2 => absurd h2 (by omega)
  | 0, f + 1, a, acc, h1, h2 => by
    unfold f_X8_lines_c4
    rw [show (10 : Int32) = nI 10 from rfl, if_pos ((nI_leI (by omega) (by omega)).mpr (by omega))]
    rfl
  | d + 1, f + 1, a, acc, h1, h2 => by
    unfold f_X8_lines_c4
    rw [show (10 : Int32) = nI 10 from rfl, if_neg (fun h => by rw [nI_leI (by omega) (by omega)] at h; omega), nm_q, nI_1, X8_lines_in _ hJ a (by omega) (9 - a) fu (a + 1) acc (by omega) (fu_ge (by omega))]
    show f_X8_lines_c4 s f (nI _) (nI (a + 1)) = _
    rw [X8_lines_out hJ d f (a + 1) _ (by omega) (by omega)]
    congr 2
    show _ = acc + (sumF _ (a + 1) (9 - a) + sumF _ (a + 1) d)
    omega
theorem sumF_zero {f : Nat → Nat} : ∀ (d lo : Nat), (∀ a, lo ≤ a → a < lo + d → f a = 0) → sumF f lo d = 0
  | 0, lo, h => rfl
  | d + 1, lo, h => by
    show f lo + sumF f (lo + 1) d = 0
    rw [h lo (by omega) (by omega), sumF_zero d (lo + 1) (fun a h1 h2 => h a (by omega) (by omega))]
theorem sumF_app {f : Nat → Nat} : ∀ (d lo e : Nat), sumF f lo (d + e) = sumF f lo d + sumF f (lo + d) e
  | 0, lo, e => by rw [Nat.zero_add]; show _ = 0 + sumF f lo e; omega
  | d + 1, lo, e => by
    rw [show d + 1 + e = (d + e) + 1 by omega]
    show f lo + sumF f (lo + 1) (d + e) = (f lo + sumF f (lo + 1) d) + _
    rw [sumF_app d (lo + 1) e, show lo + 1 + d = lo + (d + 1) by omega]; omega
theorem sumF_ext {f g : Nat → Nat} : ∀ (d lo : Nat), (∀ a, lo ≤ a → a < lo + d → f a = g a) → sumF f lo d = sumF g lo d
  | 0, lo, h => rfl
  | d + 1, lo, h => by
    show f lo + sumF f (lo + 1) d = g lo + sumF g (lo + 1) d
    rw [h lo (by omega) (by omega), sumF_ext d (lo + 1) (fun a h1 h2 => h a (by omega) (by omega))]
theorem twice (c : Nat → Nat → Nat) (h0 : ∀ a, a < 10 → c a a = 0) (hs : ∀ a b, a < 10 → b < 10 → c a b = c b a) : sumF (fun a => sumF (c a) 0 10) 0 10 = 2 * sumF (fun a => sumF (c a) (a + 1) (9 - a)) 0 10 := by
  have s : ∀ a b, a < 10 → b < a → c a b = c b a := fun a b h1 h2 => hs a b h1 (by omega)
  simp only [sumF, Nat.zero_add, Nat.reduceAdd, Nat.reduceSub, h0 0 (by omega), h0 1 (by omega), h0 2 (by omega), h0 3 (by omega), h0 4 (by omega), h0 5 (by omega), h0 6 (by omega), h0 7 (by omega), h0 8 (by omega), h0 9 (by omega),
    s 1 0 (by omega) (by omega), s 2 0 (by omega) (by omega), s 2 1 (by omega) (by omega), s 3 0 (by omega) (by omega), s 3 1 (by omega) (by omega), s 3 2 (by omega) (by omega), s 4 0 (by omega) (by omega), s 4 1 (by omega) (by omega), s 4 2 (by omega) (by omega), s 4 3 (by omega) (by omega), s 5 0 (by omega) (by omega), s 5 1 (by omega) (by omega), s 5 2 (by omega) (by omega), s 5 3 (by omega) (by omega), s 5 4 (by omega) (by omega), s 6 0 (by omega) (by omega), s 6 1 (by omega) (by omega), s 6 2 (by omega) (by omega), s 6 3 (by omega) (by omega), s 6 4 (by omega) (by omega), s 6 5 (by omega) (by omega), s 7 0 (by omega) (by omega), s 7 1 (by omega) (by omega), s 7 2 (by omega) (by omega), s 7 3 (by omega) (by omega), s 7 4 (by omega) (by omega), s 7 5 (by omega) (by omega), s 7 6 (by omega) (by omega), s 8 0 (by omega) (by omega), s 8 1 (by omega) (by omega), s 8 2 (by omega) (by omega), s 8 3 (by omega) (by omega), s 8 4 (by omega) (by omega), s 8 5 (by omega) (by omega), s 8 6 (by omega) (by omega), s 8 7 (by omega) (by omega), s 9 0 (by omega) (by omega), s 9 1 (by omega) (by omega), s 9 2 (by omega) (by omega), s 9 3 (by omega) (by omega), s 9 4 (by omega) (by omega), s 9 5 (by omega) (by omega), s 9 6 (by omega) (by omega), s 9 7 (by omega) (by omega), s 9 8 (by omega) (by omega)]
  omega
theorem lines_both {n : Nat} {jo : Nat → Int32} {s : Nat → Int64} (hn : n ≤ 10) (hJ : RJ (nI n) jo s) : ∃ r, f_X5_lineCount (nI n) jo = some r ∧ f_X8_lines s = some r := by
  have hj : ∀ a, a < 10 → vp_in (jo a) 1024 := fun a ha => (hJ a ha).1
  refine ⟨_, X5_lines_loop n hn jo hj n fu 0 0 (by omega) (fu_ge (by omega)) (by omega), ?_⟩
  unfold f_X8_lines
  rw [show (0 : Int32) = nI 0 from rfl, X8_lines_out hJ 10 fu 0 0 (by omega) (fu_ge (by omega))]
  congr 2
  have t := twice (fun a b => cb (tb (nn (jo a)) b)) (fun a ha => by show cb (tb (nn (jo a)) a) = 0; rw [(hJ a ha).2.2.1]; rfl) (fun a b ha hb => by show cb _ = cb _; rw [((hJ a ha).2.2.2 b hb).1])
  have e1 : sumF (fun a => pop (nn (jo a))) 0 10 = sumF (fun a => sumF (fun b => cb (tb (nn (jo a)) b)) 0 10) 0 10 := sumF_ext 10 0 (fun a _ ha => pop_sum _ (nn_nI (hj a (by omega)) (by omega)).2)
  have e2 : sumF (fun a => pop (nn (jo a))) 0 10 = sumF (fun a => pop (nn (jo a))) 0 n := by
    have : sumF (fun a => pop (nn (jo a))) (0 + n) (10 - n) = 0 := sumF_zero _ _ (fun a h1 h2 => by
      have z : nn (jo a) = 0 := tb_ext (nn_nI (hj a (by omega)) (by omega)).2 (by omega) (fun b hb => by
        rw [((hJ a (by omega)).2.2.2 b hb).1, ((hJ b hb).2.2.2 a (by omega)).2 (by rw [nn_I (by omega)]; omega)]
        unfold tb; simp)
      show pop (nn (jo a)) = 0
      rw [z]; decide)
    rw [show (10 : Nat) = n + (10 - n) by omega, sumF_app, this]; rfl
  rw [Nat.zero_add, Nat.zero_add, ← e2, e1, t]
  omega
theorem op_line {me : Int32} {he : Int32} {se : Int32} {ta : Int32} {bs : Nat → Int64} {bw : Nat → Int64} {gr : Nat → Int32} {hd : Nat → Int32} {jo : Nat → Int32} {le : Nat → Int32} {cs : Nat → Int64} {cw : Nat → Int64} {fr : Nat → Int32} {to : Nat → Int32} {ms : Nat → Int64} {mw : Nat → Int64} {os : Nat → Int64} {ow : Nat → Int64} {kn : Nat → Int32} {nu : Nat → Int32} {ox : Nat → Int32} {va : Nat → Int32} {s : Nat → Int64} {history_next : Int32} {history_size : Int32} {V : Nat → Option STv} {undos : Int32} {kept : Nat → Int64} (h : RS me he se ta bs bw gr hd jo le cs cw fr to ms mw os ow kn nu ox va s) (hH : RHi history_next history_size V undos kept) (p1 : Int32) (p2 : Int32) : ∃ (history_next' : Int32) (history_size' : Int32) (jo' : Nat → Int32) (V' : Nat → Option STv) (undos' : Int32) (kept' : Nat → Int64) (s' : Nat → Int64) (r : Int32), f_X7_line me he se ta bs bw gr hd le cs cw fr to ms mw os ow kn nu ox va history_next history_size jo V p1 p2 = some (history_next', history_size', jo', V', r) ∧ f_X8_line undos kept s p1 p2 = some (undos', kept', s', r) ∧ RS me he se ta bs bw gr hd jo' le cs cw fr to ms mw os ow kn nu ox va s' ∧ RHi history_next' history_size' V' undos' kept' := by
  obtain ⟨a1, a2, a3, a4, a5, e1, e2, e3⟩ := keep_both h hH
  obtain ⟨h0, hJ, hV, hHd, hM, hK, hL, hQ⟩ := id h
  obtain ⟨n, q, hn, hq, rfl, rfl, hn2, hq2, hs0, hs1, hs2⟩ := h0.get
  unfold f_X7_line f_X8_line
  rw [X7_areTwo p1 p2 hn, X8_isMember p1 hs0 hn, X8_isMember p2 hs0 hn]
  by_cases hm1 : vp_in p1 n
  · by_cases hm2 : vp_in p2 n
    · by_cases hne : ¬ p1 = p2
      · obtain ⟨a, ha, rfl⟩ := vp_in_of hm1 (by omega)
        obtain ⟨b, hb, rfl⟩ := vp_in_of hm2 (by omega)
        have hab : a ≠ b := fun e => hne (by rw [e])
        have ha10 : a < 10 := by omega
        have hb10 : b < 10 := by omega
        obtain ⟨ja1, ja2, ja3, ja4⟩ := hJ a ha10
        obtain ⟨jb1, jb2, jb3, jb4⟩ := hJ b hb10
        obtain ⟨ea, la⟩ := nn_nI ja1 (by omega)
        obtain ⟨eb, lb⟩ := nn_nI jb1 (by omega)
        rw [X5_isJoined ha10 hb10 ja1, X8_areJoined ha10 hb10 hJ, bi_t (show vp_in (nI a) n ∧ vp_in (nI b) n ∧ ¬ nI a = nI b from ⟨hm1, hm2, hne⟩)]
        simp only [bi_t hm1, bi_t hm2, bd_q, o10, o00, not_false_eq_true, not_true_eq_false, if_true, if_false, hne]
        by_cases hj : tb (nn (jo a)) b = true
        · refine ⟨history_next, history_size, jo, V, undos, kept, s, -2, ?_, ?_, h, hH⟩ <;> simp only [bi_t hj, o10, o00, if_true, if_false]
        · have xa : jo a ||| ((1 : Int32) <<< (nI b &&& 31)) = nI (nn (jo a) ||| 2 ^ b) := by conv => lhs; rw [ea]
                                                                                              exact tb_or _ la b hb10
          have xb : jo b ||| ((1 : Int32) <<< (nI a &&& 31)) = nI (nn (jo b) ||| 2 ^ a) := by
            have t := tb_or _ lb a ha10
            rw [← eb] at t; exact t
          have ya : (jo a).toInt64 ||| ((1 : Int64) <<< ((nI b).toInt64 &&& 63)) = (nI (nn (jo a) ||| 2 ^ b)).toInt64 := by
            have t := tb_orl _ la b hb10
            rw [← ea] at t; exact t
          have yb : (jo b).toInt64 ||| ((1 : Int64) <<< ((nI a).toInt64 &&& 63)) = (nI (nn (jo b) ||| 2 ^ a)).toInt64 := by
            have t := tb_orl _ lb a ha10
            rw [← eb] at t; exact t
          obtain ⟨jo', hjo⟩ : ∃ jo' : Nat → Int32, jo' = upd (upd jo a (nI (nn (jo a) ||| 2 ^ b))) b (nI (nn (jo b) ||| 2 ^ a)) := ⟨_, rfl⟩
          obtain ⟨s', hs'⟩ : ∃ s' : Nat → Int64, s' = vp_updL (vp_updL s (3 + a) (nI (nn (jo a) ||| 2 ^ b)).toInt64) (3 + b) (nI (nn (jo b) ||| 2 ^ a)).toInt64 := ⟨_, rfl⟩
          have fr' : ∀ j, (j < 3 ∨ 13 ≤ j) → s' j = s j := fun j hj => by rw [hs', fr_up (by omega), fr_up (by omega)]
          have la2 := tb_olt la hb10
          have lb2 := tb_olt lb ha10
          -- what is joined now
          have hbit : ∀ k, k < 10 → vp_in (jo' k) 1024 ∧ s' (3 + k) = (jo' k).toInt64 ∧ ∀ z, z < 10 → tb (nn (jo' k)) z = (tb (nn (jo k)) z || decide (k = a ∧ z = b ∨ k = b ∧ z = a)) := by
            intro k hk
            obtain ⟨k1, k2, -⟩ := hJ k hk
            rw [hjo, hs', upI_a, upI_a, upL_a, upL_a]
            by_cases c1 : k = b
            · subst c1
              rw [if_pos rfl, if_pos rfl]
              refine ⟨vp_in_nI lb2 (by omega), rfl, fun z hz => ?_⟩
              rw [nn_I (by omega), tb_o]
              congr 1
              simp [hab, Ne.symm hab, eq_comm]
            · rw [if_neg c1, if_neg (show ¬ 3 + k = 3 + b by omega)]
              by_cases c2 : k = a
              · subst c2
                rw [if_pos rfl, if_pos rfl]
                refine ⟨vp_in_nI la2 (by omega), rfl, fun z hz => ?_⟩
                rw [nn_I (by omega), tb_o]
                congr 1
                simp [hab, Ne.symm hab, eq_comm]
              · rw [if_neg c2, if_neg (show ¬ 3 + k = 3 + a by omega)]
                exact ⟨k1, k2, fun z hz => by simp [c1, c2]⟩
          have hJ' : RJ (nI n) jo' s' := by
            intro k hk
            obtain ⟨b1, b2, b3⟩ := hbit k hk
            obtain ⟨k1, k2, k3, k4⟩ := hJ k hk
            refine ⟨b1, b2, ?_, fun z hz => ⟨?_, fun hzn => ?_⟩⟩
            · rw [b3 k hk, k3]; simp; omega
            · rw [b3 z hz, (hbit z hz).2.2 k hk, (k4 z hz).1]
              congr 1; simp only [decide_eq_decide]; omega
            · rw [nn_I (by omega)] at hzn
              rw [b3 z hz, (k4 z hz).2 (by rw [nn_I (by omega)]; exact hzn)]; simp; omega
          obtain ⟨r, r1, r2⟩ := lines_both hn hJ'
          have hjoin : f_X5_join jo (nI a) (nI b) = some jo' := by
            unfold f_X5_join
            rw [ck_q ha10 (by omega), ck_q ha10 (by omega), nm_q, ck_q hb10 (by omega), ck_q hb10 (by omega), nm_q, nI_clamp (by omega), nI_clamp (by omega), xa, upI_a, if_neg (by omega), xb, ← hjo]
          refine ⟨a1, a2, jo', a3, a4, a5, s', r, ?_, ?_, ⟨h0.fr fun j hj => fr' j (by omega), hJ', hV.fr fun j _ => fr' j (by omega), hHd.fr fun j _ _ => fr' j (by omega), hM.fr fun j _ _ => fr' j (by omega), hK.fr fun j _ _ => fr' j (by omega), hL.fr fun j _ _ => fr' j (by omega), hQ.fr fun j _ _ => fr' j (by omega)⟩, e3⟩
          · simp only [bi_f hj, o00, if_true]
            rw [e1, bd_q, hjoin, bd_q, r1, bd_q]
          · simp only [bi_f hj, o00, if_true]
            rw [e2, bd_q, ad_3, ad_3, ck_q (by omega) (by omega), ck_q (by omega) (by omega), nm_q, ck_q (by omega) (by omega), ck_q (by omega) (by omega), nm_q, nI_clamp (by omega), nI_clamp (by omega), ja2, ya, fr_up (by omega), jb2, yb, ← hs', r2, bd_q]
      · rw [bi_f (show ¬ (vp_in p1 n ∧ vp_in p2 n ∧ ¬ p1 = p2) from fun e => hne e.2.2)]
        refine ⟨history_next, history_size, jo, V, undos, kept, s, -1, ?_, ?_, h, hH⟩ <;> simp only [bi_t hm1, bi_t hm2, bd_q, o10, o00, not_false_eq_true, not_true_eq_false, if_true, if_false, hne]
    · refine ⟨history_next, history_size, jo, V, undos, kept, s, -1, ?_, ?_, h, hH⟩ <;> simp only [bi_t hm1, bi_f hm2, bi_f (show ¬ (vp_in p1 n ∧ vp_in p2 n ∧ ¬ p1 = p2) from fun e => hm2 e.2.1), bd_q, o10, o00, not_false_eq_true, not_true_eq_false, if_true, if_false]
  · refine ⟨history_next, history_size, jo, V, undos, kept, s, -1, ?_, ?_, h, hH⟩ <;> simp only [bi_f hm1, bi_f (show ¬ (vp_in p1 n ∧ vp_in p2 n ∧ ¬ p1 = p2) from fun e => hm1 e.1), bd_q, o10, o00, not_false_eq_true, not_true_eq_false, if_true, if_false]
