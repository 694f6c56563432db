theorem tick_b {kn nu ox : Nat → Int32} {s : Nat → Int64} {a b ka kb : Nat} (ha : a < 10) (hb : b < 10) (hka : kn a = nI ka) (h4a : ka ≤ 4) (hsa : s (83 + a) = (kn a).toInt64) (hra : ∀ i, i < ka → s (133 + (4 * a + i)) = (ox (4 * a + i)).toInt64) (hkb : kn b = nI kb) (h4 : kb ≤ 4) (hs : s (83 + b) = (kn b).toInt64) (hr : ∀ i, i < kb → s (93 + (4 * b + i)) = (nu (4 * b + i)).toInt64 ∧ s (133 + (4 * b + i)) = (ox (4 * b + i)).toInt64 ∧ ¬ nu (4 * b + i) < 0) : ∀ (d f g i c : Nat) (kn' nu' ox' : Nat → Int32) (K W : Nat → Int64), i + d = kb → d < f → c ≤ 4 + i → RW kn nu ox kn' nu' ox' → RT c kn' nu' ox' K W → ∃ c2 kn2 nu2 ox2 K2 W2, RW kn nu ox kn2 nu2 ox2 ∧ RT c2 kn2 nu2 ox2 K2 W2 ∧ f_X6_share_c34 f kn' nu' ox' (nI a) (nI b) (nI i) = (bd (f_X6_take kn2 nu2 ox2 (nI a)) fun A => bd (f_X6_take A.1 A.2.1 A.2.2 (nI b)) fun B => some (B.1, B.2.1, B.2.2)) ∧ f_X8_tickets_c5 (g + d) K s W (nI a) (nI b) (nI c) (nI (4 + i)) = f_X8_tickets_c5 g K2 s W2 (nI a) (nI b) (nI c2) (nI (4 + kb))
  | 0, 0, g, i, c, kn', nu', ox', K, W, h1, h2, h3, hw, ht => absurd h2 (by omega)
  | d + 1, 0, g, i, c, kn', nu', ox', K, W, h1, h2, h3, hw, ht => absurd h2 (by omega)
  | 0, f + 1, g, i, c, kn', nu', ox', K, W, h1, h2, h3, hw, ht => by
    have e : i = kb := by omega
    subst e
    refine ⟨c, kn', nu', ox', K, W, hw, ht, ?_, rfl⟩
    unfold f_X6_share_c34
    rw [ck_q (by omega) (by omega), nI_clamp (by omega), hw.1 b (by omega), hkb, if_pos (Int32.le_refl _)]
  | d + 1, f + 1, g, i, c, kn', nu', ox', K, W, h1, h2, h3, hw, ht => by
    obtain ⟨r1, r2, r3⟩ := hr i (by omega)
    obtain ⟨w1, w2⟩ := hw.2 (4 * b + i) (by omega)
    have hk' : kn' a = nI ka := by rw [hw.1 a (by omega), hka]
    have hs' : s (83 + a) = (kn' a).toInt64 := by rw [hw.1 a (by omega)]; exact hsa
    obtain ⟨r, k1, k2⟩ := knows_both (ox := ox') ha hk' h4a hs' (fun i hi => by rw [(hw.2 (4 * a + i) (by omega)).2]; exact hra i hi) (ox (4 * b + i)) ka fu 0 (by omega) (fu_ge (by omega))
    have k1' : f_X6_knowsOneOf kn' ox' (nI a) (ox (4 * b + i)) = some r := k1
    have k2' : f_X8_knows s (nI a) (ox (4 * b + i)).toInt64 = some r := k2
    have cls : f_X6_share_c34 (f + 1) kn' nu' ox' (nI a) (nI b) (nI i) = (if ¬ r = 0 then f_X6_share_c34 f kn' nu' ox' (nI a) (nI b) (nI (i + 1)) else (bd (f_X6_insert kn' nu' ox' 10 (nu (4 * b + i)) (ox (4 * b + i))) fun R => f_X6_share_c34 f R.1 R.2.1 R.2.2 (nI a) (nI b) (nI (i + 1)))) := by
      conv => lhs; unfold f_X6_share_c34
      rw [ck_q (by omega) (by omega), nI_clamp (by omega), hw.1 b (by omega), hkb, if_neg (fun w => by rw [nI_leI (by omega) (by omega)] at w; omega), pl_4, ck_q (by omega) (by omega), nI_clamp (by omega), w2, k1', bd_q]
      unfold f_X6_share_c68 f_X6_insertFrom
      rw [pl_4, nm_q, nm_q, ck_q (by omega) (by omega), ck_q (by omega) (by omega), nI_clamp (by omega), w1, w2, nI_1]
      cases f_X6_insert kn' nu' ox' 10 (nu (4 * b + i)) (ox (4 * b + i)) <;> rfl
    have ref : f_X8_tickets_c5 (g + d + 1) K s W (nI a) (nI b) (nI c) (nI (4 + i)) = (if ¬ r = 0 then f_X8_tickets_c5 (g + d) K s W (nI a) (nI b) (nI c) (nI (4 + i) + 1) else f_X8_tickets_c118 (fun K s W x y z w => f_X8_tickets_c5 (g + d) K s W x y z w) fu K s W (nI a) (nI b) (nI c) (nI (4 + i)) (nI c) (nu (4 * b + i)).toInt64 (ox (4 * b + i)).toInt64) := by
      conv => lhs; unfold f_X8_tickets_c5
      rw [if_neg (fun w => by rw [show (8 : Int32) = nI 8 from rfl, nI_leI (by omega) (by omega)] at w; omega), if_pos (show (4 : Int32) ≤ nI (4 + i) by rw [show (4 : Int32) = nI 4 from rfl, nI_leI (by omega) (by omega)]; omega)]
      unfold f_X8_tickets_c23
      rw [ckp_q (by decide), ad_83, ck_q (by omega) (by omega), nI_clamp (by omega), hs, hkb, mod_4 (4 + i) (by omega), show (4 + i) % 4 = i by omega, if_neg (fun w => by rw [i2l_le, nI_leI (by omega) (by omega)] at w; omega), if_neg (show ¬ nI (4 + i) < 4 from fun w => by rw [show (4 : Int32) = nI 4 from rfl, nI_ltI (by omega) (by omega)] at w; omega), ckp_q (by decide), row_b, ck_q (by omega) (by omega), nI_clamp (by omega), r2, k2', bd_q]
      unfold f_X8_tickets_c76 f_X8_tickets_c227
      rw [ckp_q (by decide), mod_4 (4 + i) (by omega), show (4 + i) % 4 = i by omega, row_a, row_b, ck_q (by omega) (by omega), nm_q, nm_q, ckp_q (by decide), ck_q (by omega) (by omega), nm_q, nI_clamp (by omega), nI_clamp (by omega), r1, r2]
    rw [← Nat.add_assoc, cls, ref]
    by_cases z : r = 0
    · obtain ⟨kn1, nu1, ox1, K1, W1, i1, i2, i3, i4, i5⟩ := ins_both ht (by omega) (nu (4 * b + i)) (ox (4 * b + i)) r3
      obtain ⟨c2, kn2, nu2, ox2, K2, W2, j1, j2, j3, j4⟩ := tick_b ha hb hka h4a hsa hra hkb h4 hs hr d f g (i + 1) (c + 1) kn1 nu1 ox1 K1 W1 (by omega) (by omega) (by omega) ⟨fun j hj => by rw [i2 j hj, hw.1 j hj], fun j hj => by rw [(i3 j hj).1, (i3 j hj).2]; exact hw.2 j hj⟩ i4
      refine ⟨c2, kn2, nu2, ox2, K2, W2, j1, j2, ?_, ?_⟩
      · rw [if_neg (fun h => h z), i1, bd_q]; exact j3
      · rw [if_neg (fun h => h z), i5, nI_1, Nat.add_assoc]; exact j4
    · obtain ⟨c2, kn2, nu2, ox2, K2, W2, j1, j2, j3, j4⟩ := tick_b ha hb hka h4a hsa hra hkb h4 hs hr d f g (i + 1) c kn' nu' ox' K W (by omega) (by omega) (by omega) hw ht
      refine ⟨c2, kn2, nu2, ox2, K2, W2, j1, j2, ?_, ?_⟩
      · rw [if_pos z]; exact j3
      · rw [if_pos z, nI_1, Nat.add_assoc]; exact j4
theorem back_loop {K W : Nat → Int64} {a b c : Nat} (ha : a < 10) (hb : b < 10) (hab : a ≠ b) (hc : c ≤ 4) : ∀ (d f i : Nat) (s : Nat → Int64), i + d = c → d < f → ∃ s', f_X8_tickets_c272 f K s W (nI a) (nI b) (nI c) (nI i) = some (K, s', W) ∧ (∀ j, i ≤ j → j < c → s' (93 + (4 * a + j)) = K j ∧ s' (133 + (4 * a + j)) = W j ∧ s' (93 + (4 * b + j)) = K j ∧ s' (133 + (4 * b + j)) = W j) ∧ ∀ z, (∀ j, i ≤ j → j < c → z ≠ 93 + (4 * a + j) ∧ z ≠ 133 + (4 * a + j) ∧ z ≠ 93 + (4 * b + j) ∧ z ≠ 133 + (4 * b + j)) → s' z = s z
  | 0, 0, i, s, h1, h2 => absurd h2 (by omega)
  | d + 1, 0, i, s, h1, h2 => absurd h2 (by omega)
  | 0, f + 1, i, s, h1, h2 => by
    refine ⟨s, ?_, fun j j1 j2 => absurd j2 (by omega), fun _ _ => rfl⟩
    unfold f_X8_tickets_c272
    rw [if_pos ((nI_leI (by omega) (by omega)).mpr (by omega))]
  | d + 1, f + 1, i, s, h1, h2 => by
    obtain ⟨s', e, g, fr'⟩ := back_loop (K := K) (W := W) ha hb hab hc d f (i + 1) (vp_updL (vp_updL (vp_updL (vp_updL s (93 + (4 * a + i)) (K i)) (133 + (4 * a + i)) (W i)) (93 + (4 * b + i)) (K i)) (133 + (4 * b + i)) (W i)) (by omega) (by omega)
    refine ⟨s', ?_, fun j j1 j2 => ?_, fun z hz => ?_⟩
    · unfold f_X8_tickets_c272
      rw [if_neg (fun w => by rw [nI_leI (by omega) (by omega)] at w; omega), row_a, row_b, row_a, row_b]
      simp (disch := omega) only [ck_q, nm_q, nI_clamp]
      rw [nI_1]; exact e
    · rcases Nat.eq_or_lt_of_le j1 with rfl | z
      · rw [fr' _ (fun j k1 k2 => by omega), fr' _ (fun j k1 k2 => by omega), fr' _ (fun j k1 k2 => by omega), fr' _ (fun j k1 k2 => by omega)]
        simp (disch := omega) only [fr_up, upL_s]
        exact ⟨trivial, trivial, trivial, trivial⟩
      · exact g j z j2
    · obtain ⟨y1, y2, y3, y4⟩ := hz i (Nat.le_refl _) (by omega)
      rw [fr' z (fun j k1 k2 => hz j (by omega) k2), fr_up y4, fr_up y3, fr_up y2, fr_up y1]
theorem tickets_both {me he se ta : Int32} {bs bw : Nat → Int64} {gr hd jo le : Nat → Int32} {cs cw : Nat → Int64} {fr to : Nat → Int32} {ms mw os ow : Nat → Int64} {kn nu ox va : Nat → Int32} {s K W : Nat → Int64} {a b : Nat} (h : RS me he se ta bs bw gr hd jo le cs cw fr to ms mw os ow kn nu ox va s) (ha : a < 10) (hb : b < 10) (hab : a ≠ b) : ∃ kn' nu' ox' K' s' W', f_X6_share kn nu ox (nI a) (nI b) = some (kn', nu', ox') ∧ f_X8_tickets K s W (nI a) (nI b) = some (K', s', W') ∧ RS me he se ta bs bw gr hd jo le cs cw fr to ms mw os ow kn' nu' ox' va s' := by
  obtain ⟨h0, hJ, hV, hHd, hM, hK, hL, hQ⟩ := h
  obtain ⟨a1, a2, a3⟩ := hK a ha
  obtain ⟨b1, b2, b3⟩ := hK b hb
  obtain ⟨ea, la⟩ := nn_nI a1 (by omega)
  obtain ⟨eb, lb⟩ := nn_nI b1 (by omega)
  obtain ⟨ka, hka⟩ : ∃ ka, ka = nn (kn a) := ⟨_, rfl⟩
  obtain ⟨kb, hkb⟩ : ∃ kb, kb = nn (kn b) := ⟨_, rfl⟩
  rw [← hka] at ea la a3; rw [← hkb] at eb lb b3
  have hw0 : RW kn nu ox (upd kn 10 0) nu ox := ⟨fun j hj => by rw [upI_a, if_neg hj], fun _ _ => ⟨rfl, rfl⟩⟩
  obtain ⟨g, hg⟩ : ∃ g, fu = ((g + 1 + (4 - kb)) + kb + (4 - ka)) + ka := ⟨fu - 9, by have : 9 < fu := fu_ge (by omega); omega⟩
  obtain ⟨kn1, nu1, ox1, K1, W1, w1, t1, c1, r1⟩ := tick_a ha hb ea (by omega) a2 a3 ka fu ((g + 1 + (4 - kb)) + kb + (4 - ka)) 0 (upd kn 10 0) nu ox K W (by omega) (fu_ge (by omega)) hw0 ⟨by omega, by rw [upI_s]; rfl, fun i hi => absurd hi (by omega), fun i j h1 h2 => absurd h2 (by omega)⟩
  have r2 := skip_a (s := s) (b := b) (c := nI ka) (K := K1) (W := W1) ha (by omega) (by rw [a2, ea]) (4 - ka) ((g + 1 + (4 - kb)) + kb) ka (by omega) (Nat.le_refl _)
  obtain ⟨c2, kn2, nu2, ox2, K2, W2, w2, t2, c3, r3⟩ := tick_b ha hb ea (by omega) a2 (fun i hi => (a3 i hi).2.1) eb (by omega) b2 b3 kb fu (g + 1 + (4 - kb)) 0 ka kn1 nu1 ox1 K1 W1 (by omega) (fu_ge (by omega)) (by omega) w1 t1
  have r4 := skip_b (s := s) (a := a) (c := nI c2) (K := K2) (W := W2) hb (by omega) (by rw [b2, eb]) (4 - kb) (g + 1) kb (by omega) (Nat.le_refl _)
  obtain ⟨t5, t6, t7, t8⟩ := t2
  obtain ⟨m4, hm4⟩ : ∃ m4, m4 = min c2 4 := ⟨_, rfl⟩
  rw [← hm4] at t6 t7
  obtain ⟨s', e1, e2, e3⟩ := back_loop (K := K2) (W := W2) ha hb hab (c := m4) (by omega) m4 fu 0 (vp_updL (vp_updL s (83 + a) (nI m4).toInt64) (83 + b) (nI m4).toInt64) (by omega) (fu_ge (by omega))
  have fr' : ∀ z, (z < 83 ∨ 173 ≤ z) → s' z = s z := fun z hz => by rw [e3 z (fun j j1 j2 => by omega), fr_up (by omega), fr_up (by omega)]
  refine ⟨upd (upd kn2 a (kn2 10)) b (upd kn2 a (kn2 10) 10), va_cpy (va_cpy nu2 nu2 40 (4 * a) 4) (va_cpy nu2 nu2 40 (4 * a) 4) 40 (4 * b) 4, va_cpy (va_cpy ox2 ox2 40 (4 * a) 4) (va_cpy ox2 ox2 40 (4 * a) 4) 40 (4 * b) 4, K2, s', W2, ?_, ?_, ⟨h0.fr fun j hj => fr' j (by omega), hJ.fr fun j _ _ => fr' j (by omega), hV.fr fun j _ => fr' j (by omega), hHd.fr fun j _ _ => fr' j (by omega), hM.fr fun j _ _ => fr' j (by omega), ?_, hL.fr fun j _ _ => fr' j (by omega), hQ.fr fun j _ _ => fr' j (by omega)⟩⟩
  · have c1' : f_X6_share_c10 fu (upd kn 10 0) nu ox (nI a) (nI b) 0 = _ := c1
    have c3' : f_X6_share_c34 fu kn1 nu1 ox1 (nI a) (nI b) 0 = _ := c3
    unfold f_X6_share
    rw [show (10 : Int32) = nI 10 from rfl, ck_q (by omega) (by omega), nm_q, nI_clamp (by omega), c1', c3', take_X6 _ _ _ ha, bd_q, take_X6 _ _ _ hb, bd_q]
  · have r0 := r1
    rw [← hg] at r0
    have r1' : f_X8_tickets_c5 fu K s W (nI a) (nI b) 0 0 = _ := r0
    have r3' : f_X8_tickets_c5 ((g + 1 + (4 - kb)) + kb) K1 s W1 (nI a) (nI b) (nI ka) (nI 4) = _ := r3
    have e1' : f_X8_tickets_c272 fu K2 _ W2 (nI a) (nI b) (nI m4) 0 = _ := e1
    unfold f_X8_tickets
    rw [r1', r2, r3', r4]
    have fin : f_X8_tickets_c243 K2 s W2 (nI a) (nI b) (nI m4) = some (K2, s', W2) := by
      unfold f_X8_tickets_c243
      rw [ad_83, ad_83, ck_q (by omega) (by omega), nm_q, ck_q (by omega) (by omega), nm_q, nI_clamp (by omega), nI_clamp (by omega)]
      exact e1'
    unfold f_X8_tickets_c5
    rw [if_pos (by decide)]
    rcases Nat.lt_or_ge c2 4 with z | z
    · rw [if_neg (fun w => by rw [show (4 : Int32) = nI 4 from rfl, nI_leI (by omega) (by omega)] at w; omega), show c2 = m4 by omega]; exact fin
    · rw [if_pos (show (4 : Int32) ≤ nI c2 by rw [show (4 : Int32) = nI 4 from rfl, nI_leI (by omega) (by omega)]; omega), show (4 : Int32) = nI m4 by rw [show m4 = 4 by omega]; rfl]; exact fin
  · intro m hm
    by_cases zb : m = b
    · subst zb
      rw [upI_s, upI_a, if_neg (by omega), t6, nn_I (by omega)]
      refine ⟨vp_in_nI (by omega) (by omega), ?_, fun i hi => ?_⟩
      · rw [e3 _ (fun j j1 j2 => by omega), upL_s]
      · obtain ⟨-, -, x1, x2⟩ := e2 i (Nat.zero_le _) hi
        obtain ⟨y1, y2, y3⟩ := t7 i hi
        have cc : ∀ f : Nat → Int32, va_cpy (va_cpy f f 40 (4 * a) 4) (va_cpy f f 40 (4 * a) 4) 40 (4 * m) 4 (4 * m + i) = f (40 + i) := fun f => by
          rw [cpy_at, if_pos (by omega), cpy_at, if_neg (by omega)]; congr 1; omega
        rw [x1, x2, cc, cc]
        exact ⟨y1, y2, y3⟩
    · rw [upI_a, if_neg zb]
      by_cases za : m = a
      · subst za
        rw [upI_s, t6, nn_I (by omega)]
        refine ⟨vp_in_nI (by omega) (by omega), ?_, fun i hi => ?_⟩
        · rw [e3 _ (fun j j1 j2 => by omega), fr_up (by omega), upL_s]
        · obtain ⟨x1, x2, -, -⟩ := e2 i (Nat.zero_le _) hi
          obtain ⟨y1, y2, y3⟩ := t7 i hi
          have cc : ∀ f : Nat → Int32, va_cpy (va_cpy f f 40 (4 * m) 4) (va_cpy f f 40 (4 * m) 4) 40 (4 * b) 4 (4 * m + i) = f (40 + i) := fun f => by
            rw [cpy_at, if_neg (by omega), cpy_at, if_pos (by omega)]; congr 1; omega
          rw [x1, x2, cc, cc]
          exact ⟨y1, y2, y3⟩
      · obtain ⟨k1, k2, k3⟩ := hK m hm
        have kl := (nn_nI k1 (by omega)).2
        rw [upI_a, if_neg za, w2.1 m (by omega)]
        refine ⟨k1, ?_, fun i hi => ?_⟩
        · rw [e3 _ (fun j j1 j2 => by omega), fr_up (by omega), fr_up (by omega)]; exact k2
        · obtain ⟨y1, y2⟩ := w2.2 (4 * m + i) (by omega)
          have cc : ∀ f : Nat → Int32, va_cpy (va_cpy f f 40 (4 * a) 4) (va_cpy f f 40 (4 * a) 4) 40 (4 * b) 4 (4 * m + i) = f (4 * m + i) := fun f => by
            rw [cpy_at, if_neg (by omega), cpy_at, if_neg (by omega)]
          rw [e3 _ (fun j j1 j2 => by omega), e3 _ (fun j j1 j2 => by omega), fr_up (by omega), fr_up (by omega), fr_up (by omega), fr_up (by omega), cc, cc, y1, y2]
          exact k3 i hi
