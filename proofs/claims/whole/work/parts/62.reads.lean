theorem in_l (p : Int32) {k : Nat} (hk : k ≤ 4) : f_X8_in p.toInt64 0 ((nI k).toInt64 - 1) = some (bi (vp_in p k)) := by
  rw [in_spec, nI_l (by omega), lN_m1 k (by omega), i2l_i]
  congr 1; apply bi_iff
  rw [vp_in_iff]
  show (0 : Int) ≤ _ ∧ _ ↔ _
  omega
theorem op_ticket {me : Int32} {he : Int32} {se : Int32} {ta : Int32} {bs : Nat → Int64} {bw : Nat → Int64} {gr : Nat → Int32} {hd : Nat → Int32} {jo : Nat → Int32} {le : Nat → Int32} {cs : Nat → Int64} {cw : Nat → Int64} {fr : Nat → Int32} {to : Nat → Int32} {ms : Nat → Int64} {mw : Nat → Int64} {os : Nat → Int64} {ow : Nat → Int64} {kn : Nat → Int32} {nu : Nat → Int32} {ox : Nat → Int32} {va : Nat → Int32} {s : Nat → Int64} {history_next : Int32} {history_size : Int32} {V : Nat → Option STv} {undos : Int32} {kept : Nat → Int64} (h : RS me he se ta bs bw gr hd jo le cs cw fr to ms mw os ow kn nu ox va s) (hH : RHi history_next history_size V undos kept) (p1 : Int32) (p2 : Int32) : ∃ (r : Int32), f_X7_ticket me he kn nu p1 p2 = some r ∧ f_X8_ticket s p1 p2 = some r := by
  obtain ⟨h0, hJ, hV, hHd, hM, hK, hL, hQ⟩ := id h
  obtain ⟨n, q, hn, hq, rfl, rfl, hn2, hq2, hs0, hs1, hs2⟩ := h0.get
  unfold f_X7_ticket f_X8_ticket
  rw [X7_isMember p1 hn, X8_isMember p1 hs0 hn, X8_isHere p1 hn hs0 hs1, bd_q, bd_q]
  by_cases hm : vp_in p1 n
  · obtain ⟨m, hm', rfl⟩ := vp_in_of hm (by omega)
    have hm10 : m < 10 := by omega
    have eb : bi (vp_in (nI m) n ∧ tb q m = true) = bi (tb q m = true) := bi_iff ⟨fun e => e.2, fun e => ⟨hm, e⟩⟩
    rw [X5_isHere hq hm10, nn_I (by omega), eb]
    simp only [bi_t hm, bd_q, o10, o00, not_false_eq_true, not_true_eq_false, if_true, if_false]
    by_cases hb : tb q m = true
    · obtain ⟨k1, k2, k3⟩ := hK m hm10
      obtain ⟨k4, k5⟩ := nn_nI k1 (by omega)
      obtain ⟨k, hk⟩ : ∃ k, k = nn (kn m) := ⟨_, rfl⟩
      rw [← hk] at k3 k4 k5
      simp only [bi_t hb, bd_q, o10, o00, not_false_eq_true, not_true_eq_false, if_true, if_false]
      rw [ad_83, ck_q (by omega) (by omega), ck_q (by omega) (by omega), nI_clamp (by omega), nI_clamp (by omega), k2, k4, in_l p2 (by omega), bd_q]
      by_cases c : vp_in p2 k
      · obtain ⟨i, hi, rfl⟩ := vp_in_of c (by omega)
        obtain ⟨x1, -, -⟩ := k3 i hi
        refine ⟨nu (4 * m + i), ?_, ?_⟩
        · unfold f_X6_numberAt
          rw [if_neg (fun z => c (Or.inl z)), if_neg (fun z => by rw [nI_leI (by omega) (by omega)] at z; omega), um_4, nI_add, ck_q (by omega) (by omega), nI_clamp (by omega), bd_q, Nat.mul_comm m 4]
        · rw [bi_t c, if_neg (by decide), mu_4, ad_93, nI_add, ck_q (by omega) (by omega), nI_clamp (by omega), Nat.add_assoc, x1, i2l_back]
      · refine ⟨-4, ?_, ?_⟩
        · by_cases z : p2 < 0
          · rw [if_pos z]
          · rw [if_neg z, if_pos]
            rcases pk_ix p2 (n := k) (by omega) with w | w | ⟨j, hj, rfl⟩
            · exact absurd w z
            · exact w
            · exact absurd (vp_in_nI hj (by omega)) c
        · rw [bi_f c, if_pos rfl]
    · exact ⟨-2, by simp only [bi_f hb, bd_q, o10, o00, not_false_eq_true, not_true_eq_false, if_true, if_false], by simp only [bi_f hb, bd_q, o10, o00, not_false_eq_true, not_true_eq_false, if_true, if_false]⟩
  · exact ⟨-1, by simp only [bi_f hm, bd_q, o10, o00, not_false_eq_true, not_true_eq_false, if_true, if_false], by simp only [bi_f hm, bd_q, o10, o00, not_false_eq_true, not_true_eq_false, if_true, if_false]⟩
theorem here_8 {s : Nat → Int64} {n q : Nat} (hn : n ≤ 10) (h0 : s 0 = lN n) (h1 : ∀ m, m < 10 → s (13 + m) = if tb q m then 1 else 0) (hs2 : ∀ m, n ≤ m → m < 10 → tb q m = false) : ∀ (d f i a : Nat), i + d = 10 → d < f → f_X8_here_c4 s f (nI a) (nI i) = some (nI (a + sumF (fun b => cb (tb q b)) i d))
  | 0, 0, i, a, e1, e2 => absurd e2 (by omega)
  | d + 1, 0, i, a, e1, e2 => absurd e2 (by omega)
  | 0, f + 1, i, a, e1, e2 => by
    unfold f_X8_here_c4
    rw [show (10 : Int32) = nI 10 from rfl, if_pos ((nI_leI (by omega) (by omega)).mpr (by omega))]; rfl
  | d + 1, f + 1, i, a, e1, e2 => by
    have t := here_8 hn h0 h1 hs2 d f (i + 1)
    have hi : i < 10 := by omega
    unfold f_X8_here_c4 f_X8_here_c24
    rw [show (10 : Int32) = nI 10 from rfl, if_neg (fun h => by rw [nI_leI (by omega) (by omega)] at h; omega), X8_isHere (nI i) hn h0 h1, bd_q, nn_I (by omega)]
    show _ = some (nI (a + (cb (tb q i) + sumF (fun b => cb (tb q b)) (i + 1) d)))
    by_cases c : tb q i = true
    · have hin : i < n := by
        rcases Nat.lt_or_ge i n with z | z
        · exact z
        · rw [hs2 i z hi] at c; cases c
      rw [bi_t ⟨vp_in_nI hin (by omega), c⟩, if_neg (by decide), nm_q, nm_q, nI_1, nI_1, c]
      refine (t (a + 1) (by omega) (by omega)).trans ?_
      rw [Nat.add_assoc]; rfl
    · have c' : tb q i = false := by simpa using c
      rw [bi_f (fun w => c w.2), if_pos rfl, nm_q, nm_q, nI_1, c', Int32.add_zero]
      refine (t a (by omega) (by omega)).trans ?_
      rw [show cb false = 0 from rfl, Nat.zero_add]
theorem here_both {s : Nat → Int64} {n q : Nat} (hn : n ≤ 10) (hq : q < 1024) (h0 : s 0 = lN n) (h1 : ∀ m, m < 10 → s (13 + m) = if tb q m then 1 else 0) (hs2 : ∀ m, n ≤ m → m < 10 → tb q m = false) : f_X5_hereCount (nI q) = some (nI (pop q)) ∧ f_X8_here s = some (nI (pop q)) := by
  constructor
  · unfold f_X5_hereCount; rw [bitc q hq, bd_q]
  · have t : f_X8_here_c4 s fu 0 0 = _ := here_8 hn h0 h1 hs2 10 fu 0 0 (by omega) (fu_ge (by omega))
    unfold f_X8_here
    rw [t, pop_sum q hq, Nat.zero_add]
theorem way_both {s : Nat → Int64} {he : Int32} {cs cw : Nat → Int64} {fr to : Nat → Int32} (hL : RLt he cs cw fr to s) (undos : Int32) : ∀ (d f i : Nat) (a : Int32), i + d = 8 → d < f → ∃ r, f_X1_underWayCount_c4 fr f a (nI i) = some r ∧ f_X8_count_c64 undos s f a (nI i) = some r
  | 0, 0, i, a, e1, e2 => absurd e2 (by omega)
  | d + 1, 0, i, a, e1, e2 => absurd e2 (by omega)
  | 0, f + 1, i, a, e1, e2 => by
    unfold f_X1_underWayCount_c4 f_X8_count_c64
    rw [show (8 : Int32) = nI 8 from rfl, if_pos ((nI_leI (by omega) (by omega)).mpr (by omega)), if_pos ((nI_leI (by omega) (by omega)).mpr (by omega))]
    exact ⟨a, rfl, rfl⟩
  | d + 1, f + 1, i, a, e1, e2 => by
    have hi : i < 8 := by omega
    have t := way_both hL undos d f (i + 1)
    have hu : f_X1_isUnderWay fr (nI i) = some (bi (¬ fr i = -1)) := by
      rw [X1_isUnderWay, nn_I (by omega)]
      congr 1; exact bi_iff ⟨fun e => e.2, fun e => ⟨vp_in_nI hi (by omega), e⟩⟩
    unfold f_X1_underWayCount_c4 f_X8_count_c64 f_X1_underWayCount_c24 f_X8_count_c84
    have hn8 : ¬ nI 8 ≤ nI i := fun h => by rw [nI_leI (by omega) (by omega)] at h; omega
    rw [show (8 : Int32) = nI 8 from rfl, if_neg hn8, if_neg hn8, hu, X8_isUnderWay hi hL, bd_q, bd_q]
    by_cases u : ¬ fr i = -1
    · rw [bi_t u, if_neg (by decide), if_neg (by decide), nm_q, nm_q, nm_q, nm_q, nI_1]
      exact t _ (by omega) (by omega)
    · rw [bi_f u, if_pos rfl, if_pos rfl, nm_q, nm_q, nm_q, nm_q, nI_1]
      exact t _ (by omega) (by omega)
theorem op_count {me : Int32} {he : Int32} {se : Int32} {ta : Int32} {bs : Nat → Int64} {bw : Nat → Int64} {gr : Nat → Int32} {hd : Nat → Int32} {jo : Nat → Int32} {le : Nat → Int32} {cs : Nat → Int64} {cw : Nat → Int64} {fr : Nat → Int32} {to : Nat → Int32} {ms : Nat → Int64} {mw : Nat → Int64} {os : Nat → Int64} {ow : Nat → Int64} {kn : Nat → Int32} {nu : Nat → Int32} {ox : Nat → Int32} {va : Nat → Int32} {s : Nat → Int64} {history_next : Int32} {history_size : Int32} {V : Nat → Option STv} {undos : Int32} {kept : Nat → Int64} (h : RS me he se ta bs bw gr hd jo le cs cw fr to ms mw os ow kn nu ox va s) (hH : RHi history_next history_size V undos kept) (p1 : Int32) : ∃ (r : Int32), f_X7_count history_size me he se ta jo fr p1 = some r ∧ f_X8_count undos s p1 = some r := by
  obtain ⟨h0, hJ, hV, hHd, hM, hK, hL, hQ⟩ := id h
  obtain ⟨n, q, hn, hq, rfl, rfl, hn2, hq2, hs0, hs1, hs2⟩ := h0.get
  obtain ⟨-, g2, -, -, -, -, g7, g8⟩ := h0
  obtain ⟨u, x, -, -, hu1, hu2, -⟩ := hH
  obtain ⟨b1, b2⟩ := here_both hn hq hs0 hs1 hs2
  obtain ⟨rl, l1, l2⟩ := lines_both hn hJ
  obtain ⟨rw', w1, w2⟩ := way_both hL undos 8 fu 0 0 (by omega) (fu_ge (by omega))
  have w1' : f_X1_underWayCount fr = some rw' := w1
  have w2' : f_X8_count_c64 undos s fu 0 0 = some rw' := w2
  unfold f_X7_count f_X8_count
  rw [b1, b2, l1, l2, w1', w2']
  simp only [bd_q]
  rw [ck_v (show vp_in (0 : Int32) 613 from vp_in_nI (show 0 < 613 by omega) (by omega)), ck_v (show vp_in (2 : Int32) 613 from vp_in_nI (show 2 < 613 by omega) (by omega)), ck_v (show vp_in (1 : Int32) 613 from vp_in_nI (show 1 < 613 by omega) (by omega)), show (0 : Int32).toNatClampNeg = 0 from rfl, show (1 : Int32).toNatClampNeg = 1 from rfl, show (2 : Int32).toNatClampNeg = 2 from rfl, g2, g7, g8, i2l_back, i2l_back, hu1, ← hu2]
  by_cases c0 : p1 = 0
  · rw [if_pos c0]; exact ⟨_, rfl, rfl⟩
  rw [if_neg c0]
  by_cases c1 : p1 = 1
  · rw [if_pos c1]; exact ⟨_, rfl, rfl⟩
  rw [if_neg c1]
  by_cases c2 : p1 = 2
  · rw [if_pos c2]; exact ⟨_, rfl, rfl⟩
  rw [if_neg c2]
  by_cases c3 : p1 = 3
  · rw [if_pos c3]; exact ⟨_, rfl, rfl⟩
  rw [if_neg c3]
  by_cases c4 : p1 = 4
  · rw [if_pos c4]; exact ⟨_, rfl, rfl⟩
  rw [if_neg c4]
  by_cases c5 : p1 = 5
  · rw [if_pos c5]; exact ⟨_, rfl, rfl⟩
  rw [if_neg c5]
  by_cases c6 : p1 = 6
  · rw [if_pos c6]; exact ⟨_, rfl, rfl⟩
  rw [if_neg c6]
  exact ⟨_, rfl, rfl⟩
def mk (q : Nat) : Nat → Nat
  | 0 => 0
  | i + 1 => if tb q i then mk q i ||| 2 ^ i else mk q i
theorem mk_10 : ∀ q, q < 1024 → mk q 10 = q := by decide +kernel
theorem mk_lt (q : Nat) : ∀ i, i ≤ 10 → mk q i < 1024
  | 0, _ => by show 0 < 1024; omega
  | i + 1, h => by
    show (if tb q i then mk q i ||| 2 ^ i else mk q i) < 1024
    have := mk_lt q i (by omega)
    split
    · exact tb_olt this (by omega)
    · exact this
theorem unsure_m {s : Nat → Int64} {n q : Nat} (hn : n ≤ 10) (hq : q < 1024) (h0 : s 0 = lN n) (h1 : ∀ m, m < 10 → s (13 + m) = if tb q m then 1 else 0) (hs2 : ∀ m, n ≤ m → m < 10 → tb q m = false) : ∀ (d f i : Nat), i + d = 10 → d < f → f_X8_unsure_c4 s f (nI (mk q i)).toInt64 (nI i) = f_X8_unsure_c36 s fu (nI q).toInt64 0
  | 0, 0, i, e1, e2 => absurd e2 (by omega)
  | d + 1, 0, i, e1, e2 => absurd e2 (by omega)
  | 0, f + 1, i, e1, e2 => by
    unfold f_X8_unsure_c4
    rw [show (10 : Int32) = nI 10 from rfl, if_pos ((nI_leI (by omega) (by omega)).mpr (by omega)), show i = 10 by omega, mk_10 q hq]
  | d + 1, f + 1, i, e1, e2 => by
    have t := unsure_m hn hq h0 h1 hs2 d f (i + 1) (by omega) (by omega)
    have hi : i < 10 := by omega
    have hm := mk_lt q i (by omega)
    unfold f_X8_unsure_c4 f_X8_unsure_c26
    rw [show (10 : Int32) = nI 10 from rfl, if_neg (fun h => by rw [nI_leI (by omega) (by omega)] at h; omega), X8_isHere (nI i) hn h0 h1, bd_q, nn_I (by omega)]
    have em : mk q (i + 1) = if tb q i then mk q i ||| 2 ^ i else mk q i := rfl
    by_cases c : tb q i = true
    · have hin : i < n := by
        rcases Nat.lt_or_ge i n with z | z
        · exact z
        · rw [hs2 i z hi] at c; cases c
      rw [em, if_pos c] at t
      rw [bi_t ⟨vp_in_nI hin (by omega), c⟩, if_neg (by decide), nm_q, nm_q, nI_1, tb_orl _ hm i hi]
      exact t
    · rw [em, if_neg c] at t
      rw [bi_f (fun w => c w.2), if_pos rfl, nm_q, nm_q, nI_1, Int64.or_zero]
      exact t
theorem miss {q h : Int32} : (q.toInt64 &&& (h.toInt64 ^^^ (-1 : Int64)) = 0) ↔ (q &&& (h ^^^ (-1 : Int32)) = 0) := by
  rw [show (-1 : Int64) = (-1 : Int32).toInt64 by decide, ← Int32.toInt64_xor, ← Int32.toInt64_and, show (0 : Int64) = (0 : Int32).toInt64 by decide, i2l_inj]
theorem unsure_8 {s : Nat → Int64} {n q : Nat} {hd : Nat → Int32} (hn : n ≤ 10) (hq : q < 1024) (h0 : s 0 = lN n) (h1 : ∀ m, m < 10 → s (13 + m) = if tb q m then 1 else 0) (hs2 : ∀ m, n ≤ m → m < 10 → tb q m = false) (hHd : RH (nI n) hd s) : ∀ (d f g i : Nat), i + d = 10 → d < f → n ≤ g + i → ∃ r, f_X7_unsure_c2 (nI n) (nI q) hd (g + 1) (nI i) = some r ∧ f_X8_unsure_c36 s f (nI q).toInt64 (nI i) = some r
  | 0, 0, g, i, e1, e2, e3 => absurd e2 (by omega)
  | d + 1, 0, g, i, e1, e2, e3 => absurd e2 (by omega)
  | 0, f + 1, g, i, e1, e2, e3 => by
    unfold f_X7_unsure_c2 f_X8_unsure_c36
    rw [show (10 : Int32) = nI 10 from rfl, if_pos ((nI_leI (by omega) (by omega)).mpr (by omega)), if_pos ((nI_leI (by omega) (by omega)).mpr (by omega))]
    exact ⟨_, rfl, rfl⟩
  | d + 1, f + 1, g, i, e1, e2, e3 => by
    have hi : i < 10 := by omega
    have h10 : ¬ nI 10 ≤ nI i := fun h => by rw [nI_leI (by omega) (by omega)] at h; omega
    rcases Nat.lt_or_ge i n with hin | hin
    · obtain ⟨g', rfl⟩ : ∃ g', g = g' + 1 := ⟨g - 1, by omega⟩
      have t := unsure_8 hn hq h0 h1 hs2 hHd d f g' (i + 1) (by omega) (by omega) (by omega)
      obtain ⟨-, k2, -⟩ := hHd i hi
      unfold f_X7_unsure_c2 f_X8_unsure_c36 f_X7_unsure_c48 f_X8_unsure_c72
      rw [show (10 : Int32) = nI 10 from rfl, if_neg h10, if_neg (fun h => by rw [nI_leI (by omega) (by omega)] at h; omega), X8_isHere (nI i) hn h0 h1, X5_isHere hq hi, bd_q, bd_q, nn_I (by omega)]
      by_cases c : tb q i = true
      · rw [bi_t c, bi_t ⟨vp_in_nI hin (by omega), c⟩, if_neg (show ¬ (1 : Int32) = 0 by decide), if_neg (show ¬ (1 : Int32) = 0 by decide), ck_q hi (by omega), ad_73, ck_q (by omega) (by omega), nI_clamp (by omega), nI_clamp (by omega), k2]
        by_cases z : (nI q &&& (hd i ^^^ (-1 : Int32))) = 0
        · rw [if_pos z, if_pos (miss.mpr z), nm_q, nm_q, nI_1]; exact t
        · rw [if_neg z, if_neg (fun w => z (miss.mp w))]; exact ⟨_, rfl, rfl⟩
      · rw [bi_f c, bi_f (fun w => c w.2), if_pos (show (0 : Int32) = 0 from rfl), if_pos (show (0 : Int32) = 0 from rfl), nm_q, nm_q, nI_1]; exact t
    · obtain ⟨r, t1, t2⟩ := unsure_8 hn hq h0 h1 hs2 hHd d f g (i + 1) (by omega) (by omega) (by omega)
      refine ⟨r, ?_, ?_⟩
      · unfold f_X7_unsure_c2 at t1 ⊢
        rw [if_pos ((nI_leI (by omega) (by omega)).mpr (by omega))] at t1
        rw [if_pos ((nI_leI (by omega) (by omega)).mpr (by omega))]; exact t1
      · unfold f_X8_unsure_c36 f_X8_unsure_c72
        rw [show (10 : Int32) = nI 10 from rfl, if_neg h10, X8_isHere (nI i) hn h0 h1, bd_q, nn_I (by omega), bi_f (fun w => by rw [hs2 i hin hi] at w; exact absurd w.2 (by decide)), if_pos rfl, nm_q, nI_1]
        exact t2
theorem op_unsure {me : Int32} {he : Int32} {se : Int32} {ta : Int32} {bs : Nat → Int64} {bw : Nat → Int64} {gr : Nat → Int32} {hd : Nat → Int32} {jo : Nat → Int32} {le : Nat → Int32} {cs : Nat → Int64} {cw : Nat → Int64} {fr : Nat → Int32} {to : Nat → Int32} {ms : Nat → Int64} {mw : Nat → Int64} {os : Nat → Int64} {ow : Nat → Int64} {kn : Nat → Int32} {nu : Nat → Int32} {ox : Nat → Int32} {va : Nat → Int32} {s : Nat → Int64} {history_next : Int32} {history_size : Int32} {V : Nat → Option STv} {undos : Int32} {kept : Nat → Int64} (h : RS me he se ta bs bw gr hd jo le cs cw fr to ms mw os ow kn nu ox va s) (hH : RHi history_next history_size V undos kept) : ∃ (r : Int32), f_X7_unsure me he hd = some r ∧ f_X8_unsure s = some r := by
  obtain ⟨h0, hJ, hV, hHd, hM, hK, hL, hQ⟩ := id h
  obtain ⟨n, q, hn, hq, rfl, rfl, hn2, hq2, hs0, hs1, hs2⟩ := h0.get
  obtain ⟨r, t1, t2⟩ := unsure_8 hn hq hs0 hs1 hs2 hHd 10 fu 99999 0 (by omega) (fu_ge (by omega)) (by omega)
  have t3 : f_X8_unsure_c4 s fu 0 0 = _ := unsure_m hn hq hs0 hs1 hs2 10 fu 0 (by omega) (fu_ge (by omega))
  refine ⟨r, t1, ?_⟩
  unfold f_X8_unsure
  rw [t3]; exact t2
