theorem anyOver_loop (fr to : Nat → Int32) (a b : Int32) : ∀ (d f i : Nat), i + d = 8 → d < f → f_X1_anyOver_c2 fr to f a b (nI i) = some (bi (∃ k, i ≤ k ∧ k < 8 ∧ (¬ fr k = -1 ∧ (fr k = a ∨ to k = a)) ∧ (¬ fr k = -1 ∧ (fr k = b ∨ to k = b))))
  | 0, 0, i, h1, h2 => absurd h2 (by omega)
  | d + 1, 0, i, h1, h2 => absurd h2 (by omega)
  | 0, f + 1, i, h1, h2 => by
    unfold f_X1_anyOver_c2
    rw [show (8 : Int32) = nI 8 from rfl, if_pos ((nI_leI (by omega) (by omega)).mpr (by omega)), bi_f]
    rintro ⟨k, k1, k2, -⟩; omega
  | d + 1, f + 1, i, h1, h2 => by
    unfold f_X1_anyOver_c2 f_X1_anyOver_c28
    rw [show (8 : Int32) = nI 8 from rfl, if_neg (fun h => by rw [nI_leI (by omega) (by omega)] at h; omega), isOf_X1 a (by omega), isOf_X1 b (by omega), bd_q, bd_q, nm_q, nI_1]
    have ih := anyOver_loop fr to a b d f (i + 1) (by omega) (by omega)
    have nx : ¬ ((¬ fr i = -1 ∧ (fr i = a ∨ to i = a)) ∧ (¬ fr i = -1 ∧ (fr i = b ∨ to i = b))) → bi (∃ k, i + 1 ≤ k ∧ k < 8 ∧ (¬ fr k = -1 ∧ (fr k = a ∨ to k = a)) ∧ (¬ fr k = -1 ∧ (fr k = b ∨ to k = b))) = bi (∃ k, i ≤ k ∧ k < 8 ∧ (¬ fr k = -1 ∧ (fr k = a ∨ to k = a)) ∧ (¬ fr k = -1 ∧ (fr k = b ∨ to k = b))) := by
      intro hn
      apply bi_iff
      constructor
      · rintro ⟨k, k1, k2, k3⟩; exact ⟨k, by omega, k2, k3⟩
      · rintro ⟨k, k1, k2, k3⟩
        refine ⟨k, ?_, k2, k3⟩
        by_cases e : k = i
        · subst e; exact absurd k3 hn
        · omega
    by_cases c1 : ¬ fr i = -1 ∧ (fr i = a ∨ to i = a)
    · rw [if_neg (by rw [bi_0]; exact fun e => e c1)]
      by_cases c2 : ¬ fr i = -1 ∧ (fr i = b ∨ to i = b)
      · rw [if_neg (by rw [bi_0]; exact fun e => e c2), bi_t ⟨i, Nat.le_refl _, by omega, c1, c2⟩]
      · rw [if_pos (bi_0.mpr c2), ← nx (fun e => c2 e.2)]; exact ih
    · rw [if_pos (bi_0.mpr c1), ← nx (fun e => c1 e.1)]; exact ih
theorem cut_loop {s : Nat → Int64} {he : Int32} {cs cw : Nat → Int64} {fr to : Nat → Int32} (hL : RLt he cs cw fr to s) (undos : Int32) (kept : Nat → Int64) (a b : Int32) : ∀ (d f i : Nat) (P : Prop), i + d = 8 → d < f → f_X8_cut_c41 f undos kept s a b (bi P) (nI i) = @ite _ (P ∨ ∃ k, i ≤ k ∧ k < 8 ∧ (¬ fr k = -1 ∧ ((fr k = a ∧ to k = b) ∨ (fr k = b ∧ to k = a)))) (Classical.propDecidable _) (some (undos, kept, s, (-2 : Int32))) (f_X8_cut_c41 1 undos kept s a b 0 (nI 8))
  | 0, 0, i, P, h1, h2 => absurd h2 (by omega)
  | d + 1, 0, i, P, h1, h2 => absurd h2 (by omega)
  | 0, f + 1, i, P, h1, h2 => by
    by_cases hP : P
    · rw [if_pos (Or.inl hP), bi_t hP]
      unfold f_X8_cut_c41
      rw [show (8 : Int32) = nI 8 from rfl, if_pos ((nI_leI (by omega) (by omega)).mpr (by omega)), if_neg (by decide)]
    · rw [if_neg (by rintro (e | ⟨k, k1, k2, -⟩); exact hP e; omega), bi_f hP]
      unfold f_X8_cut_c41
      rw [show (8 : Int32) = nI 8 from rfl, if_pos ((nI_leI (by omega) (by omega)).mpr (by omega)), if_pos ((nI_leI (by omega) (by omega)).mpr (by omega))]
  | d + 1, f + 1, i, P, h1, h2 => by
    have ih : ∀ P2 : Prop, (P2 ↔ P ∨ (¬ fr i = -1 ∧ ((fr i = a ∧ to i = b) ∨ (fr i = b ∧ to i = a)))) → f_X8_cut_c41 f undos kept s a b (bi P2) (nI (i + 1)) = @ite _ (P ∨ ∃ k, i ≤ k ∧ k < 8 ∧ (¬ fr k = -1 ∧ ((fr k = a ∧ to k = b) ∨ (fr k = b ∧ to k = a)))) (Classical.propDecidable _) (some (undos, kept, s, (-2 : Int32))) (f_X8_cut_c41 1 undos kept s a b 0 (nI 8)) := by
      intro P2 h2'
      rw [cut_loop hL undos kept a b d f (i + 1) P2 (by omega) (by omega)]
      have e : (P2 ∨ ∃ k, i + 1 ≤ k ∧ k < 8 ∧ (¬ fr k = -1 ∧ ((fr k = a ∧ to k = b) ∨ (fr k = b ∧ to k = a)))) = (P ∨ ∃ k, i ≤ k ∧ k < 8 ∧ (¬ fr k = -1 ∧ ((fr k = a ∧ to k = b) ∨ (fr k = b ∧ to k = a)))) := by
        apply propext
        constructor
        · rintro (z | ⟨k, k1, k2, k3⟩)
          · rcases h2'.mp z with y | y
            · exact Or.inl y
            · exact Or.inr ⟨i, Nat.le_refl _, by omega, y⟩
          · exact Or.inr ⟨k, by omega, k2, k3⟩
        · rintro (z | ⟨k, k1, k2, k3⟩)
          · exact Or.inl (h2'.mpr (Or.inl z))
          · by_cases e : k = i
            · subst e; exact Or.inl (h2'.mpr (Or.inr k3))
            · exact Or.inr ⟨k, by omega, k2, k3⟩
      exact congrArg (fun Z => @ite _ Z (Classical.propDecidable Z) (some (undos, kept, s, (-2 : Int32))) (f_X8_cut_c41 1 undos kept s a b 0 (nI 8))) e
    rw [show f_X8_cut_c41 (f + 1) undos kept s a b (bi P) (nI i) = (if ¬ bi P = 0 then f_X8_cut_c41 f undos kept s a b 1 (nI i + 1) else bd (f_X8_isOver s (nI i) a b) fun R_13 => if R_13 = 0 then f_X8_cut_c41 f undos kept s a b 0 (nI i + 1) else f_X8_cut_c41 f undos kept s a b 1 (nI i + 1)) by
      conv => lhs; unfold f_X8_cut_c41
      rw [show (8 : Int32) = nI 8 from rfl, if_neg (fun h => by rw [nI_leI (by omega) (by omega)] at h; omega)]
      rfl]
    rw [isOver_X8 a b (by omega) hL, bd_q, nI_1]
    by_cases hP : P
    · rw [if_pos (by rw [bi_0]; exact fun e => e hP)]
      have := ih True ⟨fun _ => Or.inl hP, fun _ => trivial⟩
      rw [bi_t trivial] at this; exact this
    · rw [if_neg (by rw [bi_f hP]; exact fun e => e rfl)]
      by_cases c : ¬ fr i = -1 ∧ ((fr i = a ∧ to i = b) ∨ (fr i = b ∧ to i = a))
      · rw [if_neg (by rw [bi_0]; exact fun e => e c)]
        have := ih True ⟨fun _ => Or.inr c, fun _ => trivial⟩
        rw [bi_t trivial] at this; exact this
      · rw [if_pos (bi_0.mpr c)]
        have := ih False ⟨fun e => e.elim, fun e => e.elim hP c⟩
        rw [bi_f (fun e => e)] at this; exact this
theorem op_cut {me : Int32} {he : Int32} {se : Int32} {ta : Int32} {bs : Nat → Int64} {bw : Nat → Int64} {gr : Nat → Int32} {hd : Nat → Int32} {jo : Nat → Int32} {le : Nat → Int32} {cs : Nat → Int64} {cw : Nat → Int64} {fr : Nat → Int32} {to : Nat → Int32} {ms : Nat → Int64} {mw : Nat → Int64} {os : Nat → Int64} {ow : Nat → Int64} {kn : Nat → Int32} {nu : Nat → Int32} {ox : Nat → Int32} {va : Nat → Int32} {s : Nat → Int64} {history_next : Int32} {history_size : Int32} {V : Nat → Option STv} {undos : Int32} {kept : Nat → Int64} (h : RS me he se ta bs bw gr hd jo le cs cw fr to ms mw os ow kn nu ox va s) (hH : RHi history_next history_size V undos kept) (p1 : Int32) (p2 : Int32) : ∃ (history_next' : Int32) (history_size' : Int32) (jo' : Nat → Int32) (V' : Nat → Option STv) (undos' : Int32) (kept' : Nat → Int64) (s' : Nat → Int64) (r : Int32), f_X7_cut me he se ta bs bw gr hd le cs cw fr to ms mw os ow kn nu ox va history_next history_size jo V p1 p2 = some (history_next', history_size', jo', V', r) ∧ f_X8_cut undos kept s p1 p2 = some (undos', kept', s', r) ∧ RS me he se ta bs bw gr hd jo' le cs cw fr to ms mw os ow kn nu ox va s' ∧ RHi history_next' history_size' V' undos' kept' := by
  obtain ⟨a1, a2, a3, a4, a5, e1, e2, e3⟩ := keep_both h hH
  obtain ⟨h0, hJ, hV, hHd, hM, hK, hL, hQ⟩ := id h
  obtain ⟨n, q, hn, hq, rfl, rfl, hn2, hq2, hs0, hs1, hs2⟩ := h0.get
  unfold f_X7_cut f_X8_cut
  rw [X7_areTwo p1 p2 hn, X8_isMember p1 hs0 hn, X8_isMember p2 hs0 hn]
  by_cases hm1 : vp_in p1 n
  · by_cases hm2 : vp_in p2 n
    · by_cases hne : ¬ p1 = p2
      · obtain ⟨a, ha, rfl⟩ := vp_in_of hm1 (by omega)
        obtain ⟨b, hb, rfl⟩ := vp_in_of hm2 (by omega)
        have hab : a ≠ b := fun e => hne (by rw [e])
        have ha10 : a < 10 := by omega
        have hb10 : b < 10 := by omega
        obtain ⟨ja1, ja2, ja3, ja4⟩ := hJ a ha10
        obtain ⟨jb1, jb2, jb3, jb4⟩ := hJ b hb10
        obtain ⟨ea, la⟩ := nn_nI ja1 (by omega)
        obtain ⟨eb, lb⟩ := nn_nI jb1 (by omega)
        rw [X5_isJoined ha10 hb10 ja1, X8_areJoined ha10 hb10 hJ, bi_t (show vp_in (nI a) n ∧ vp_in (nI b) n ∧ ¬ nI a = nI b from ⟨hm1, hm2, hne⟩)]
        unfold f_X1_anyOver f_X8_cut_c37
        rw [show (0 : Int32) = nI 0 from rfl, anyOver_loop fr to (nI a) (nI b) 8 fu 0 (by omega) (fu_ge (by omega))]
        rw [show nI 0 = (0 : Int32) from rfl]
        simp only [bi_t hm1, bi_t hm2, bd_q, o10, o00, not_false_eq_true, not_true_eq_false, if_true, if_false, hne]
        have hover : (∃ k, 0 ≤ k ∧ k < 8 ∧ (¬ fr k = -1 ∧ (fr k = nI a ∨ to k = nI a)) ∧ (¬ fr k = -1 ∧ (fr k = nI b ∨ to k = nI b))) ↔ (∃ k, 0 ≤ k ∧ k < 8 ∧ (¬ fr k = -1 ∧ ((fr k = nI a ∧ to k = nI b) ∨ (fr k = nI b ∧ to k = nI a)))) := by
          constructor
          · rintro ⟨k, k1, k2, ⟨x1, x2⟩, ⟨y1, y2⟩⟩
            refine ⟨k, k1, k2, x1, ?_⟩
            rcases x2 with x | x <;> rcases y2 with y | y
            · exact absurd (x.symm.trans y) hne
            · exact Or.inl ⟨x, y⟩
            · exact Or.inr ⟨y, x⟩
            · exact absurd (x.symm.trans y) hne
          · rintro ⟨k, k1, k2, x1, (⟨x, y⟩ | ⟨x, y⟩)⟩
            · exact ⟨k, k1, k2, ⟨x1, Or.inl x⟩, ⟨x1, Or.inr y⟩⟩
            · exact ⟨k, k1, k2, ⟨x1, Or.inr y⟩, ⟨x1, Or.inl x⟩⟩
        have lp : ∀ P : Prop, f_X8_cut_c41 fu undos kept s (nI a) (nI b) (bi P) 0 = _ := fun P => cut_loop hL undos kept (nI a) (nI b) 8 fu 0 P (by omega) (fu_ge (by omega))
        have lp0 := lp False
        have lp1 := lp True
        rw [bi_f (fun e => e)] at lp0
        rw [bi_t trivial, if_pos (Or.inl trivial)] at lp1
        by_cases hj : tb (nn (jo a)) b = true
        · simp only [bi_t hj, o10, if_false, not_false_eq_true, if_true]
          rw [lp0]
          by_cases ho : (∃ k, 0 ≤ k ∧ k < 8 ∧ (¬ fr k = -1 ∧ ((fr k = nI a ∧ to k = nI b) ∨ (fr k = nI b ∧ to k = nI a))))
          · refine ⟨history_next, history_size, jo, V, undos, kept, s, -2, ?_, ?_, h, hH⟩
            · rw [bi_t (hover.mpr ho), if_neg (by decide)]
            · rw [if_pos (Or.inr ho)]
          · rw [bi_f (fun e => ho (hover.mp e)), if_pos rfl, if_neg (by rintro (e | e); exact e; exact ho e)]
            have xa : jo a &&& (((1 : Int32) <<< (nI b &&& 31)) ^^^ (-1 : Int32)) = nI (nn (jo a) &&& (1023 ^^^ 2 ^ b)) := by
              have t := tb_cl _ la b hb10
              rw [← ea] at t; exact t
            have xb : jo b &&& (((1 : Int32) <<< (nI a &&& 31)) ^^^ (-1 : Int32)) = nI (nn (jo b) &&& (1023 ^^^ 2 ^ a)) := by
              have t := tb_cl _ lb a ha10
              rw [← eb] at t; exact t
            have ya : (jo a).toInt64 &&& (((1 : Int64) <<< ((nI b).toInt64 &&& 63)) ^^^ (-1 : Int64)) = (nI (nn (jo a) &&& (1023 ^^^ 2 ^ b))).toInt64 := by
              have t := tb_cll _ la b hb10
              rw [← ea] at t; exact t
            have yb : (jo b).toInt64 &&& (((1 : Int64) <<< ((nI a).toInt64 &&& 63)) ^^^ (-1 : Int64)) = (nI (nn (jo b) &&& (1023 ^^^ 2 ^ a))).toInt64 := by
              have t := tb_cll _ lb a ha10
              rw [← eb] at t; exact t
            obtain ⟨jo', hjo⟩ : ∃ jo' : Nat → Int32, jo' = upd (upd jo a (nI (nn (jo a) &&& (1023 ^^^ 2 ^ b)))) b (nI (nn (jo b) &&& (1023 ^^^ 2 ^ a))) := ⟨_, rfl⟩
            obtain ⟨s', hs'⟩ : ∃ s' : Nat → Int64, s' = vp_updL (vp_updL s (3 + a) (nI (nn (jo a) &&& (1023 ^^^ 2 ^ b))).toInt64) (3 + b) (nI (nn (jo b) &&& (1023 ^^^ 2 ^ a))).toInt64 := ⟨_, rfl⟩
            have fr' : ∀ j, (j < 3 ∨ 13 ≤ j) → s' j = s j := fun j hj => by rw [hs', fr_up (by omega), fr_up (by omega)]
            have la2 : nn (jo a) &&& (1023 ^^^ 2 ^ b) < 1024 := tb_clt la
            have lb2 : nn (jo b) &&& (1023 ^^^ 2 ^ a) < 1024 := tb_clt lb
            have hbit : ∀ k, k < 10 → vp_in (jo' k) 1024 ∧ s' (3 + k) = (jo' k).toInt64 ∧ ∀ z, z < 10 → tb (nn (jo' k)) z = (tb (nn (jo k)) z && !(decide (k = a ∧ z = b ∨ k = b ∧ z = a))) := by
              intro k hk
              obtain ⟨k1, k2, -⟩ := hJ k hk
              rw [hjo, hs', upI_a, upI_a, upL_a, upL_a]
              by_cases c1 : k = b
              · subst c1
                rw [if_pos rfl, if_pos rfl]
                refine ⟨vp_in_nI lb2 (by omega), rfl, fun z hz => ?_⟩
                rw [nn_I (by omega), tb_c _ lb a ha10 z hz]
                congr 2
                simp [hab, Ne.symm hab, eq_comm]
              · rw [if_neg c1, if_neg (show ¬ 3 + k = 3 + b by omega)]
                by_cases c2 : k = a
                · subst c2
                  rw [if_pos rfl, if_pos rfl]
                  refine ⟨vp_in_nI la2 (by omega), rfl, fun z hz => ?_⟩
                  rw [nn_I (by omega), tb_c _ la b hb10 z hz]
                  congr 2
                  simp [hab, Ne.symm hab, eq_comm]
                · rw [if_neg c2, if_neg (show ¬ 3 + k = 3 + a by omega)]
                  exact ⟨k1, k2, fun z hz => by simp [c1, c2]⟩
            have hJ' : RJ (nI n) jo' s' := by
              intro k hk
              obtain ⟨b1, b2, b3⟩ := hbit k hk
              obtain ⟨k1, k2, k3, k4⟩ := hJ k hk
              refine ⟨b1, b2, ?_, fun z hz => ⟨?_, fun hzn => ?_⟩⟩
              · rw [b3 k hk, k3]; rfl
              · rw [b3 z hz, (hbit z hz).2.2 k hk, (k4 z hz).1]
                congr 2; simp only [decide_eq_decide]; omega
              · rw [nn_I (by omega)] at hzn
                rw [b3 z hz, (k4 z hz).2 (by rw [nn_I (by omega)]; exact hzn)]; rfl
            obtain ⟨r, r1, r2⟩ := lines_both hn hJ'
            have hpart : f_X5_part jo (nI a) (nI b) = some jo' := by
              unfold f_X5_part
              rw [ck_q ha10 (by omega), ck_q ha10 (by omega), nm_q, ck_q hb10 (by omega), ck_q hb10 (by omega), nm_q, nI_clamp (by omega), nI_clamp (by omega), xa, upI_a, if_neg (by omega), xb, ← hjo]
            refine ⟨a1, a2, jo', a3, a4, a5, s', r, ?_, ?_, ⟨h0.fr fun j hj => fr' j (by omega), hJ', hV.fr fun j _ => fr' j (by omega), hHd.fr fun j _ _ => fr' j (by omega), hM.fr fun j _ _ => fr' j (by omega), hK.fr fun j _ _ => fr' j (by omega), hL.fr fun j _ _ => fr' j (by omega), hQ.fr fun j _ _ => fr' j (by omega)⟩, e3⟩
            · rw [e1, bd_q, hpart, bd_q, r1, bd_q]
            · unfold f_X8_cut_c41
              rw [show (8 : Int32) = nI 8 from rfl, if_pos ((nI_leI (by omega) (by omega)).mpr (by omega)), if_pos rfl, e2, bd_q, ad_3, ad_3, ck_q (by omega) (by omega), ck_q (by omega) (by omega), nm_q, ck_q (by omega) (by omega), ck_q (by omega) (by omega), nm_q, nI_clamp (by omega), nI_clamp (by omega), ja2, ya, fr_up (by omega), jb2, yb, ← hs', r2, bd_q]
        · refine ⟨history_next, history_size, jo, V, undos, kept, s, -2, ?_, ?_, h, hH⟩
          · simp only [bi_f hj, o00, if_true]
          · simp only [bi_f hj, o00, if_true, if_false, not_true_eq_false]; exact lp1
      · rw [bi_f (show ¬ (vp_in p1 n ∧ vp_in p2 n ∧ ¬ p1 = p2) from fun e => hne e.2.2)]
        refine ⟨history_next, history_size, jo, V, undos, kept, s, -1, ?_, ?_, h, hH⟩ <;> simp only [bi_t hm1, bi_t hm2, bd_q, o10, o00, not_false_eq_true, not_true_eq_false, if_true, if_false, hne]
    · refine ⟨history_next, history_size, jo, V, undos, kept, s, -1, ?_, ?_, h, hH⟩ <;> simp only [bi_t hm1, bi_f hm2, bi_f (show ¬ (vp_in p1 n ∧ vp_in p2 n ∧ ¬ p1 = p2) from fun e => hm2 e.2.1), bd_q, o10, o00, not_false_eq_true, not_true_eq_false, if_true, if_false]
  · refine ⟨history_next, history_size, jo, V, undos, kept, s, -1, ?_, ?_, h, hH⟩ <;> simp only [bi_f hm1, bi_f (show ¬ (vp_in p1 n ∧ vp_in p2 n ∧ ¬ p1 = p2) from fun e => hm1 e.1), bd_q, o10, o00, not_false_eq_true, not_true_eq_false, if_true, if_false]
