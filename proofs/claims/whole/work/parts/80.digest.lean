/-! digest -/
theorem ck_0 {β : Type} {k : Option β} : ck (0 : Int32) 613 k = k := show ck (nI 0) 613 k = k from ck_q (by omega) (by omega)
theorem le_s {s : Nat → Int64} {n i : Nat} (h0 : s 0 = lN n) (hn : n ≤ 10) (hi : i < 1000) : s (0 : Int32).toNatClampNeg ≤ (nI i).toInt64 ↔ n ≤ i := by
  show s 0 ≤ _ ↔ _
  rw [h0, nI_l (by omega), lN_le (by omega) (by omega)]
theorem at_0 {N i : Nat} (hi : i < N) (hN : N < 1000) (x y : Nat → Int64) : f_X3_at N x y (nI i) 0 = some (x i) := by
  unfold f_X3_at
  rw [if_pos rfl, ck_q hi (by omega), nI_clamp (by omega)]
theorem at_1 {N i : Nat} (hi : i < N) (hN : N < 1000) (x y : Nat → Int64) : f_X3_at N x y (nI i) 1 = some (y i) := by
  unfold f_X3_at
  rw [if_neg (by decide), ck_q hi (by omega), nI_clamp (by omega)]
theorem num_at {m i : Nat} (nu : Nat → Int32) (hm : m < 11) (hi : i < 4) : f_X6_numberAt nu (nI m) (nI i) = some (nu (4 * m + i)) := by
  unfold f_X6_numberAt
  rw [um_4, nI_add, ck_q (by omega) (by omega), nI_clamp (by omega), Nat.mul_comm m 4]
theorem dl_in {n a : Nat} {s : Nat → Int64} {jo : Nat → Int32} (hn : n ≤ 10) (ha : a < n) (h0 : s 0 = lN n) (hJ : RJ (nI n) jo s) (k5 k184 : Int64 → Int32 → Option Int64) : ∀ (d f b : Nat) (h : Int64), b + d = n → d < f → ∃ h', f_X7_digestOfLines_c23 k5 (nI n) jo f h (nI a) (nI b) = k5 h' (nI (a + 1)) ∧ f_X8_digest_c201 k184 s f h (nI a) (nI b) = k184 h' (nI (a + 1))
  | 0, 0, b, h, e1, e2 => absurd e2 (by omega)
  | d + 1, 0, b, h, e1, e2 => absurd e2 (by omega)
  | 0, f + 1, b, h, e1, e2 => by
    unfold f_X7_digestOfLines_c23 f_X8_digest_c201
    rw [if_pos ((nI_leI (by omega) (by omega)).mpr (by omega)), ck_0, if_pos ((le_s h0 hn (by omega)).mpr (by omega)), nm_q, nm_q, nI_1]
    exact ⟨h, rfl, rfl⟩
  | d + 1, f + 1, b, h, e1, e2 => by
    have t := dl_in hn ha h0 hJ k5 k184 d f (b + 1)
    unfold f_X7_digestOfLines_c23 f_X8_digest_c201 f_X7_digestOfLines_c55 f_X8_digest_c234 f_X7_mixed
    rw [if_neg (fun z => by rw [nI_leI (by omega) (by omega)] at z; omega), ck_0, if_neg (fun z => by rw [le_s h0 hn (by omega)] at z; omega), X5_isJoined (by omega) (by omega) (hJ a (by omega)).1, X8_areJoined (by omega) (by omega) hJ]
    simp only [bd_q, nm_q, nI_1]
    by_cases c : bi (tb (nn (jo a)) b = true) = 0
    · rw [if_pos c, if_pos c]; exact t _ (by omega) (by omega)
    · rw [if_neg c, if_neg c]; exact t _ (by omega) (by omega)
theorem dl_out {n : Nat} {s : Nat → Int64} {jo : Nat → Int32} (hn : n ≤ 10) (h0 : s 0 = lN n) (hJ : RJ (nI n) jo s) : ∀ (d f a : Nat) (h : Int64), a + d = n → d < f → ∃ h', f_X7_digestOfLines_c5 (nI n) jo f h (nI a) = some h' ∧ f_X8_digest_c184 s f h (nI a) = f_X8_digest_c250 s fu h' 0
  | 0, 0, a, h, e1, e2 => absurd e2 (by omega)
  | d + 1, 0, a, h, e1, e2 => absurd e2 (by omega)
  | 0, f + 1, a, h, e1, e2 => by
    unfold f_X7_digestOfLines_c5 f_X8_digest_c184
    rw [if_pos ((nI_leI (by omega) (by omega)).mpr (by omega)), ck_0, if_pos ((le_s h0 hn (by omega)).mpr (by omega))]
    exact ⟨h, rfl, rfl⟩
  | d + 1, f + 1, a, h, e1, e2 => by
    unfold f_X7_digestOfLines_c5 f_X8_digest_c184
    rw [if_neg (fun z => by rw [nI_leI (by omega) (by omega)] at z; omega), ck_0, if_neg (fun z => by rw [le_s h0 hn (by omega)] at z; omega), nm_q, nm_q, nI_1]
    obtain ⟨h1, t1, t2⟩ := dl_in hn (show a < n by omega) h0 hJ (fun x y => f_X7_digestOfLines_c5 (nI n) jo f x y) (fun x y => f_X8_digest_c184 s f x y) d fu (a + 1) h (by omega) (fu_ge (by omega))
    obtain ⟨h2, t3, t4⟩ := dl_out hn h0 hJ d f (a + 1) h1 (by omega) (by omega)
    exact ⟨h2, t1.trans t3, t2.trans t4⟩
theorem dq_in {n a : Nat} {s : Nat → Int64} {me : Int32} {bs bw os ow : Nat → Int64} (hn : n ≤ 10) (ha : a < n) (h0 : s 0 = lN n) (hQ : RQ me bs bw os ow s) (k5 k250 : Int64 → Int32 → Option Int64) : ∀ (d f b : Nat) (h : Int64), b + d = n → d < f → ∃ h', f_X7_digestOfBooks_c20 k5 (nI n) bs bw f h (nI a) (nI b) = k5 h' (nI (a + 1)) ∧ f_X8_digest_c265 k250 s f h (nI a) (nI b) = k250 h' (nI (a + 1))
  | 0, 0, b, h, e1, e2 => absurd e2 (by omega)
  | d + 1, 0, b, h, e1, e2 => absurd e2 (by omega)
  | 0, f + 1, b, h, e1, e2 => by
    unfold f_X7_digestOfBooks_c20 f_X8_digest_c265
    rw [if_pos ((nI_leI (by omega) (by omega)).mpr (by omega)), ck_0, if_pos ((le_s h0 hn (by omega)).mpr (by omega)), nm_q, nm_q, nI_1]
    exact ⟨h, rfl, rfl⟩
  | d + 1, f + 1, b, h, e1, e2 => by
    have t := dq_in hn ha h0 hQ k5 k250 d f (b + 1)
    obtain ⟨q1, q2, -⟩ := hQ (a * 10 + b) (by omega)
    unfold f_X7_digestOfBooks_c20 f_X8_digest_c265 f_X7_mixed f_X7_pair
    rw [if_neg (fun z => by rw [nI_leI (by omega) (by omega)] at z; omega), ck_0, if_neg (fun z => by rw [le_s h0 hn (by omega)] at z; omega), bd_q, um_10, nI_add, at_0 (by omega) (by omega), bd_q, bd_q, bd_q, at_1 (by omega) (by omega), bd_q, bd_q, nm_q, nI_1, mu_10, ad_213, ad_313, nI_add, nI_add, ck_q (by omega) (by omega), ck_q (by omega) (by omega), nm_q, nm_q, nI_clamp (by omega), nI_clamp (by omega), show 213 + 10 * a + b = 213 + (a * 10 + b) by omega, show 313 + 10 * a + b = 313 + (a * 10 + b) by omega, q1, q2]
    exact t _ (by omega) (by omega)
theorem dq_out {n : Nat} {s : Nat → Int64} {me : Int32} {bs bw os ow : Nat → Int64} (hn : n ≤ 10) (h0 : s 0 = lN n) (hQ : RQ me bs bw os ow s) : ∀ (d f a : Nat) (h : Int64), a + d = n → d < f → ∃ h', f_X7_digestOfBooks_c5 (nI n) bs bw f h (nI a) = some h' ∧ f_X8_digest_c250 s f h (nI a) = f_X8_digest_c336 s fu h' 0
  | 0, 0, a, h, e1, e2 => absurd e2 (by omega)
  | d + 1, 0, a, h, e1, e2 => absurd e2 (by omega)
  | 0, f + 1, a, h, e1, e2 => by
    unfold f_X7_digestOfBooks_c5 f_X8_digest_c250
    rw [if_pos ((nI_leI (by omega) (by omega)).mpr (by omega)), ck_0, if_pos ((le_s h0 hn (by omega)).mpr (by omega))]
    exact ⟨h, rfl, rfl⟩
  | d + 1, f + 1, a, h, e1, e2 => by
    unfold f_X7_digestOfBooks_c5 f_X8_digest_c250
    rw [if_neg (fun z => by rw [nI_leI (by omega) (by omega)] at z; omega), ck_0, if_neg (fun z => by rw [le_s h0 hn (by omega)] at z; omega)]
    obtain ⟨h1, t1, t2⟩ := dq_in hn (show a < n by omega) h0 hQ (fun x y => f_X7_digestOfBooks_c5 (nI n) bs bw f x y) (fun x y => f_X8_digest_c250 s f x y) n fu 0 h (by omega) (fu_ge (by omega))
    obtain ⟨h2, t3, t4⟩ := dq_out hn h0 hQ d f (a + 1) h1 (by omega) (by omega)
    exact ⟨h2, t1.trans t3, t2.trans t4⟩
theorem dw_no {s : Nat → Int64} {he : Int32} {cs cw : Nat → Int64} {fr to : Nat → Int32} (hL : RLt he cs cw fr to s) (k336 : Int64 → Int32 → Option Int64) {l f : Nat} (hl : l < 8) (h : Int64) (i : Int32) (c : fr l = -1) : f_X8_digest_c345 k336 s (f + 1) h (nI l) i = k336 h (nI (l + 1)) := by
  unfold f_X8_digest_c345 f_X8_digest_c387
  rw [X8_isUnderWay hl hL, bd_q, bi_f (fun z => z c), if_pos (show (0 : Int32) = 0 from rfl), nm_q, nI_1]
  exact ite_self _
theorem dw_st {s : Nat → Int64} {he : Int32} {cs cw : Nat → Int64} {fr to : Nat → Int32} (hL : RLt he cs cw fr to s) (k336 : Int64 → Int32 → Option Int64) {l f i : Nat} (hl : l < 8) (h : Int64) (hi : i < 5) (c : ¬ fr l = -1) : f_X8_digest_c345 k336 s (f + 1) h (nI l) (nI i) = f_X8_digest_c345 k336 s f ((31 : Int64) * h + s (173 + 5 * l + i)) (nI l) (nI (i + 1)) := by
  conv => lhs; unfold f_X8_digest_c345
  rw [if_neg (show ¬ (5 : Int32) ≤ nI i from fun z => by rw [show (5 : Int32) = nI 5 from rfl, nI_leI (by omega) (by omega)] at z; omega), X8_isUnderWay hl hL, bd_q, bi_t c, if_neg (show ¬ (1 : Int32) = 0 by decide), lt_0', nI_add, ck_q (by omega) (by omega), nI_clamp (by omega), nm_q, nm_q, nI_1]
theorem dw_end {s : Nat → Int64} (k336 : Int64 → Int32 → Option Int64) {l f : Nat} (h : Int64) : f_X8_digest_c345 k336 s (f + 1) h (nI l) (nI 5) = k336 h (nI (l + 1)) := by
  unfold f_X8_digest_c345 f_X8_digest_c387
  rw [if_pos (show (5 : Int32) ≤ nI 5 by decide), nm_q, nI_1]
theorem dw_out {s : Nat → Int64} {he : Int32} {cs cw : Nat → Int64} {fr to : Nat → Int32} (hL : RLt he cs cw fr to s) : ∀ (d f l : Nat) (h : Int64), l + d = 8 → d < f → ∃ h', f_X7_digestOfLetters_c5 cs cw fr to f h (nI l) = some h' ∧ f_X8_digest_c336 s f h (nI l) = f_X8_digest_c336 s 1 h' (nI 8)
  | 0, 0, l, h, e1, e2 => absurd e2 (by omega)
  | d + 1, 0, l, h, e1, e2 => absurd e2 (by omega)
  | 0, f + 1, l, h, e1, e2 => by
    obtain rfl : l = 8 := by omega
    refine ⟨h, ?_, ?_⟩
    · unfold f_X7_digestOfLetters_c5
      rw [if_pos (show (8 : Int32) ≤ nI 8 by decide)]
    · unfold f_X8_digest_c336
      rw [if_pos (show (8 : Int32) ≤ nI 8 by decide), if_pos (show (8 : Int32) ≤ nI 8 by decide)]
  | d + 1, f + 1, l, h, e1, e2 => by
    have t := dw_out hL d f (l + 1)
    have hl : l < 8 := by omega
    have hu : f_X1_isUnderWay fr (nI l) = some (bi (¬ fr l = -1)) := by
      rw [X1_isUnderWay, nn_I (by omega)]
      congr 1; exact bi_iff ⟨fun e => e.2, fun e => ⟨vp_in_nI hl (by omega), e⟩⟩
    have h8 : ¬ (8 : Int32) ≤ nI l := fun z => by rw [show (8 : Int32) = nI 8 from rfl, nI_leI (by omega) (by omega)] at z; omega
    unfold f_X7_digestOfLetters_c5
    conv => arg 1; ext h'; arg 2; lhs; unfold f_X8_digest_c336
    rw [if_neg h8, if_neg h8, hu, bd_q]
    by_cases c : fr l = -1
    · rw [bi_f (fun z => z c), if_pos (show (0 : Int32) = 0 from rfl)]
      rw [show fu = 99999 + 1 from rfl, dw_no hL _ hl h _ c]
      unfold f_X7_digestOfLetters_c107
      rw [nm_q, nI_1]
      exact t h (by omega) (by omega)
    · rw [bi_t c, if_neg (show ¬ (1 : Int32) = 0 by decide)]
      rcases hL l hl with ⟨g1, -⟩ | ⟨-, -, -, -, -, g1, g2, g3, g4⟩
      · exact absurd g1 c
      · rw [show fu = 99995 + 1 + 1 + 1 + 1 + 1 from rfl, show (1 : Int32) = nI 1 from rfl, dw_st hL _ hl h (by omega) c, dw_st hL _ hl _ (by omega) c, dw_st hL _ hl _ (by omega) c, dw_st hL _ hl _ (by omega) c, dw_end, show nI 1 = (1 : Int32) from rfl]
        unfold f_X7_mixed f_X7_digestOfLetters_c107
        simp only [bd_q, nm_q, nI_1, ck_q hl (show 8 < 2 ^ 31 by omega), at_0 hl (show 8 < 1000 by omega), at_1 hl (show 8 < 1000 by omega), nI_clamp (show l < 2 ^ 31 by omega), g1, g2, g3, g4]
        exact t _ (by omega) (by omega)
theorem dt_in {m k : Nat} {s : Nat → Int64} {kn nu ox : Nat → Int32} (hm : m < 10) (hK : RK kn nu ox s) (k4 : kn m = nI k) (hk : k ≤ 4) (he : Int32) (gr hd le va : Nat → Int32) (ms mw : Nat → Int64) (k6 : Int64 → Int32 → Option Int64) : ∀ (d f i : Nat) (h : Int64), i + d = k → d < f → ∃ h', f_X7_digestOfMember_c133 he gr hd le ms mw kn nu va f (nI m) h (nI i) = some h' ∧ f_X8_digest_c133 k6 s f h (nI m) (nI i) = k6 h' (nI (m + 1))
  | 0, 0, i, h, e1, e2 => absurd e2 (by omega)
  | d + 1, 0, i, h, e1, e2 => absurd e2 (by omega)
  | 0, f + 1, i, h, e1, e2 => by
    obtain ⟨-, k2, -⟩ := hK m hm
    unfold f_X7_digestOfMember_c133 f_X8_digest_c133 f_X8_digest_c176
    rw [ad_83, ck_q (show m < 11 by omega) (by omega), ck_q (show 83 + m < 613 by omega) (by omega), nI_clamp (show m < 2 ^ 31 by omega), nI_clamp (show 83 + m < 2 ^ 31 by omega), k2, k4, nI_l (show k < 2 ^ 31 by omega), nI_l (show i < 2 ^ 31 by omega), if_pos ((nI_leI (by omega) (by omega)).mpr (by omega)), if_pos ((lN_le (by omega) (by omega)).mpr (by omega)), nm_q, nI_1]
    exact ⟨h, rfl, rfl⟩
  | d + 1, f + 1, i, h, e1, e2 => by
    have t := dt_in hm hK k4 hk he gr hd le va ms mw k6 d f (i + 1)
    obtain ⟨-, k2, k3⟩ := hK m hm
    have k5 : nn (kn m) = k := by rw [k4]; exact nn_I (by omega)
    obtain ⟨x1, -, -⟩ := k3 i (by omega)
    unfold f_X7_digestOfMember_c133 f_X8_digest_c133 f_X7_mixed
    rw [ad_83, ck_q (show m < 11 by omega) (by omega), ck_q (show 83 + m < 613 by omega) (by omega), nI_clamp (show m < 2 ^ 31 by omega), nI_clamp (show 83 + m < 2 ^ 31 by omega), k2, k4, nI_l (show k < 2 ^ 31 by omega), nI_l (show i < 2 ^ 31 by omega), if_neg (fun z => by rw [nI_leI (by omega) (by omega)] at z; omega), if_neg (fun z => by rw [lN_le (by omega) (by omega)] at z; omega), num_at nu (by omega) (by omega), bd_q, bd_q, nm_q, nI_1, mu_4, ad_93, nI_add, ck_q (by omega) (by omega), nI_clamp (show 93 + 4 * m + i < 2 ^ 31 by omega), Nat.add_assoc 93 (4 * m) i, x1, nm_q, nm_q]
    exact t _ (by omega) (by omega)
theorem dom_t {q m : Nat} (hq : q < 1024) (hm : m < 10) (c : tb q m = true) (gr hd le kn nu va : Nat → Int32) (ms mw : Nat → Int64) (h : Int64) : f_X7_digestOfMember (nI q) gr hd le ms mw kn nu va h (nI m) = f_X7_digestOfMember_c133 (nI q) gr hd le ms mw kn nu va fu (nI m) ((31 : Int64) * ((31 : Int64) * ((31 : Int64) * ((31 : Int64) * ((31 : Int64) * ((31 : Int64) * ((31 : Int64) * h + 1) + (va m).toInt64) + ms m) + mw m) + (gr m).toInt64) + (le m).toInt64) + (hd m).toInt64) 0 := by
  unfold f_X7_digestOfMember f_X7_mixed
  rw [X5_isHere hq hm, bd_q, bi_t c, if_pos (show ¬ (1 : Int32) = 0 by decide)]
  simp only [bd_q, ck_q hm (show 10 < 2 ^ 31 by omega), at_0 hm (show 10 < 1000 by omega), at_1 hm (show 10 < 1000 by omega), nI_clamp (show m < 2 ^ 31 by omega)]
theorem dom_f {q m : Nat} (hq : q < 1024) (hm : m < 10) (c : ¬ tb q m = true) (gr hd le kn nu va : Nat → Int32) (ms mw : Nat → Int64) (h : Int64) : f_X7_digestOfMember (nI q) gr hd le ms mw kn nu va h (nI m) = some ((31 : Int64) * h + 0) := by
  unfold f_X7_digestOfMember f_X7_mixed
  rw [X5_isHere hq hm, bd_q, bi_f c, if_neg (fun z => z rfl), bd_q]
theorem dm_out {n q : Nat} {s : Nat → Int64} {se : Int32} {bs bw : Nat → Int64} {gr hd jo le : Nat → Int32} {cs cw : Nat → Int64} {fr to : Nat → Int32} {ms mw os ow : Nat → Int64} {kn nu ox va : Nat → Int32} (hn : n ≤ 10) (hq : q < 1024) (h0 : s 0 = lN n) (hs1 : ∀ m, m < 10 → s (13 + m) = if tb q m then 1 else 0) (hV : RV va gr le s) (hHd : RH (nI n) hd s) (hM : RM (nI q) ms mw s) (hK : RK kn nu ox s) : ∀ (d f m : Nat) (h : Int64), m + d = n → d < f → ∃ h', f_X7_digest_c6 (nI n) (nI q) se bs bw gr hd jo le cs cw fr to ms mw os ow kn nu va f h (nI m) = f_X7_digest_c6 (nI n) (nI q) se bs bw gr hd jo le cs cw fr to ms mw os ow kn nu va 1 h' (nI n) ∧ f_X8_digest_c6 s f h (nI m) = f_X8_digest_c184 s fu h' 0
  | 0, 0, m, h, e1, e2 => absurd e2 (by omega)
  | d + 1, 0, m, h, e1, e2 => absurd e2 (by omega)
  | 0, f + 1, m, h, e1, e2 => by
    obtain rfl : m = n := by omega
    refine ⟨h, ?_, ?_⟩
    · unfold f_X7_digest_c6
      rw [if_pos (Int32.le_refl _), if_pos (Int32.le_refl _)]
    · unfold f_X8_digest_c6
      rw [ck_0, if_pos ((le_s h0 hn (by omega)).mpr (by omega))]
  | d + 1, f + 1, m, h, e1, e2 => by
    have t := dm_out (se := se) (bs := bs) (bw := bw) (jo := jo) (cs := cs) (cw := cw) (fr := fr) (to := to) (os := os) (ow := ow) hn hq h0 hs1 hV hHd hM hK d f (m + 1)
    have hm : m < 10 := by omega
    obtain ⟨v1, v2, v3⟩ := hV m hm
    obtain ⟨m1, m2, -⟩ := hM m hm
    obtain ⟨-, d2, -⟩ := hHd m hm
    obtain ⟨k1, -, -⟩ := hK m hm
    obtain ⟨k4, k5⟩ := nn_nI k1 (by omega)
    have hx : ∀ h1, f_X7_digestOfMember (nI q) gr hd le ms mw kn nu va h (nI m) = some h1 → f_X7_digest_c6 (nI n) (nI q) se bs bw gr hd jo le cs cw fr to ms mw os ow kn nu va (f + 1) h (nI m) = f_X7_digest_c6 (nI n) (nI q) se bs bw gr hd jo le cs cw fr to ms mw os ow kn nu va f h1 (nI (m + 1)) := fun h1 e => by
      conv => lhs; unfold f_X7_digest_c6
      rw [if_neg (fun z => by rw [nI_leI (by omega) (by omega)] at z; omega), e, bd_q, nm_q, nI_1]
    by_cases c : tb q m = true
    · have hy : f_X8_digest_c6 s (f + 1) h (nI m) = f_X8_digest_c133 (fun x y => f_X8_digest_c6 s f x y) s fu ((31 : Int64) * ((31 : Int64) * ((31 : Int64) * ((31 : Int64) * ((31 : Int64) * ((31 : Int64) * ((31 : Int64) * h + 1) + (va m).toInt64) + ms m) + mw m) + (gr m).toInt64) + (le m).toInt64) + (hd m).toInt64) (nI m) 0 := by
        conv => lhs; unfold f_X8_digest_c6
        rw [ck_0, if_neg (fun z => by rw [le_s h0 hn (by omega)] at z; omega), X8_isHere (nI m) hn h0 hs1]
        simp only [nn_I (show m < 2 ^ 31 by omega), bi_t (show vp_in (nI m) n ∧ tb q m = true from ⟨vp_in_nI (show m < n by omega) (by omega), c⟩), bd_q, nm_q, ad_13, ad_23, ad_33, ad_43, ad_53, ad_63, ad_73, ck_q (show 13 + m < 613 by omega) (show 613 < 2 ^ 31 by omega), ck_q (show 23 + m < 613 by omega) (show 613 < 2 ^ 31 by omega), ck_q (show 33 + m < 613 by omega) (show 613 < 2 ^ 31 by omega), ck_q (show 43 + m < 613 by omega) (show 613 < 2 ^ 31 by omega), ck_q (show 53 + m < 613 by omega) (show 613 < 2 ^ 31 by omega), ck_q (show 63 + m < 613 by omega) (show 613 < 2 ^ 31 by omega), ck_q (show 73 + m < 613 by omega) (show 613 < 2 ^ 31 by omega), nI_clamp (show 13 + m < 2 ^ 31 by omega), nI_clamp (show 23 + m < 2 ^ 31 by omega), nI_clamp (show 33 + m < 2 ^ 31 by omega), nI_clamp (show 43 + m < 2 ^ 31 by omega), nI_clamp (show 53 + m < 2 ^ 31 by omega), nI_clamp (show 63 + m < 2 ^ 31 by omega), nI_clamp (show 73 + m < 2 ^ 31 by omega), hs1 m hm, v1, v2, v3, m1, m2, d2]
        rw [if_neg (show ¬ (1 : Int32) = 0 by decide), if_pos c]
      obtain ⟨h1, t1, t2⟩ := dt_in hm hK k4 (by omega) (nI q) gr hd le va ms mw (fun x y => f_X8_digest_c6 s f x y) (nn (kn m)) fu 0 ((31 : Int64) * ((31 : Int64) * ((31 : Int64) * ((31 : Int64) * ((31 : Int64) * ((31 : Int64) * ((31 : Int64) * h + 1) + (va m).toInt64) + ms m) + mw m) + (gr m).toInt64) + (le m).toInt64) + (hd m).toInt64) (by omega) (fu_ge (by omega))
      obtain ⟨h2, t3, t4⟩ := t h1 (by omega) (by omega)
      exact ⟨h2, (hx h1 ((dom_t hq hm c gr hd le kn nu va ms mw h).trans t1)).trans t3, (hy.trans t2).trans t4⟩
    · have hy : f_X8_digest_c6 s (f + 1) h (nI m) = f_X8_digest_c6 s f ((31 : Int64) * h + 0) (nI (m + 1)) := by
        conv => lhs; unfold f_X8_digest_c6
        rw [ck_0, if_neg (fun z => by rw [le_s h0 hn (by omega)] at z; omega), X8_isHere (nI m) hn h0 hs1, nn_I (show m < 2 ^ 31 by omega), bi_f (show ¬ (vp_in (nI m) n ∧ tb q m = true) from fun w => c w.2), ad_13, ck_q (show 13 + m < 613 by omega) (by omega), nI_clamp (show 13 + m < 2 ^ 31 by omega), hs1 m hm, if_neg c, nm_q, bd_q, if_pos (show (0 : Int32) = 0 from rfl)]
        unfold f_X8_digest_c176
        rw [nm_q, nI_1]
      obtain ⟨h2, t3, t4⟩ := t ((31 : Int64) * h + 0) (by omega) (by omega)
      exact ⟨h2, (hx _ (dom_f hq hm c gr hd le kn nu va ms mw h)).trans t3, hy.trans t4⟩
theorem op_digest {me : Int32} {he : Int32} {se : Int32} {ta : Int32} {bs : Nat → Int64} {bw : Nat → Int64} {gr : Nat → Int32} {hd : Nat → Int32} {jo : Nat → Int32} {le : Nat → Int32} {cs : Nat → Int64} {cw : Nat → Int64} {fr : Nat → Int32} {to : Nat → Int32} {ms : Nat → Int64} {mw : Nat → Int64} {os : Nat → Int64} {ow : Nat → Int64} {kn : Nat → Int32} {nu : Nat → Int32} {ox : Nat → Int32} {va : Nat → Int32} {s : Nat → Int64} {history_next : Int32} {history_size : Int32} {V : Nat → Option STv} {undos : Int32} {kept : Nat → Int64} (h : RS me he se ta bs bw gr hd jo le cs cw fr to ms mw os ow kn nu ox va s) (hH : RHi history_next history_size V undos kept) : ∃ (r : Int64), f_X7_digest me he se bs bw gr hd jo le cs cw fr to ms mw os ow kn nu va = some r ∧ f_X8_digest s = some r := by
  obtain ⟨h0, hJ, hV, hHd, hM, hK, hL, hQ⟩ := id h
  obtain ⟨n, q, hn, hq, rfl, rfl, hn2, hq2, hs0, hs1, hs2⟩ := h0.get
  obtain ⟨-, -, -, -, -, -, g7, -⟩ := h0
  obtain ⟨h1, a1, a2⟩ := dm_out (se := se) (bs := bs) (bw := bw) (jo := jo) (cs := cs) (cw := cw) (fr := fr) (to := to) (os := os) (ow := ow) hn hq hs0 hs1 hV hHd hM hK n fu 0 17 (by omega) (fu_ge (by omega))
  obtain ⟨h2, b1, b2⟩ := dl_out hn hs0 hJ n fu 0 h1 (by omega) (fu_ge (by omega))
  obtain ⟨h3, c1, c2⟩ := dq_out hn hs0 hQ n fu 0 h2 (by omega) (fu_ge (by omega))
  obtain ⟨h4, d1, d2⟩ := dw_out hL 8 fu 0 h3 (by omega) (fu_ge (by omega))
  have b1' : f_X7_digestOfLines (nI n) jo h1 = some h2 := b1
  have c1' : f_X7_digestOfBooks (nI n) bs bw h2 = some h3 := c1
  have d1' : f_X7_digestOfLetters cs cw fr to h3 = some h4 := d1
  refine ⟨(31 : Int64) * ((31 : Int64) * ((31 : Int64) * h4 + accL os 100 0 0) + accL ow 100 0 0) + se.toInt64, (show f_X7_digest (nI n) (nI q) se bs bw gr hd jo le cs cw fr to ms mw os ow kn nu va = _ from a1).trans ?_, (((show f_X8_digest s = _ from a2).trans b2).trans c2).trans (d2.trans ?_)⟩
  rotate_left
  · unfold f_X8_digest_c336
    rw [if_pos (show (8 : Int32) ≤ nI 8 by decide), owed_both hQ, owed_both hQ, bd_q, bd_q, show (1 : Int32) = nI 1 from rfl, ck_q (by omega) (by omega), nI_clamp (by omega), g7]
    rfl
  · unfold f_X7_digest_c6
    rw [if_pos (Int32.le_refl _), b1', bd_q, c1', bd_q, d1', bd_q, total_X3 (by omega), total_X3 (by omega)]
    rfl
