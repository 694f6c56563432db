def accL (g : Nat → Int64) : Nat → Nat → Int64 → Int64
  | 0, _, a => a
  | d + 1, i, a => accL g d (i + 1) (a + g i)
theorem accL_0 (g : Nat → Int64) : ∀ (d i : Nat) (a : Int64), accL g d i a = a + accL g d i 0
  | 0, i, a => by show a = a + 0; rw [Int64.add_zero]
  | d + 1, i, a => by
    show accL g d (i + 1) (a + g i) = a + accL g d (i + 1) (0 + g i)
    rw [accL_0 g d (i + 1) (a + g i), accL_0 g d (i + 1) (0 + g i), Int64.zero_add, Int64.add_assoc]
theorem accL_ext {g k : Nat → Int64} : ∀ (d i : Nat) (a : Int64), (∀ j, i ≤ j → j < i + d → g j = k j) → accL g d i a = accL k d i a
  | 0, i, a, _ => rfl
  | d + 1, i, a, h => by
    show accL g d (i + 1) (a + g i) = accL k d (i + 1) (a + k i)
    rw [h i (by omega) (by omega)]
    exact accL_ext d (i + 1) _ fun j h1 h2 => h j (by omega) (by omega)
theorem total_a {N : Nat} (hN : N < 2 ^ 31) (x y : Nat → Int64) : ∀ (d f i : Nat) (a : Int64), i + d = N → d < f → f_X3_total_c100021 N x y f a (nI i) = some (accL x d i a)
  | 0, 0, i, a, h1, h2 => absurd h2 (by omega)
  | d + 1, 0, i, a, h1, h2 => absurd h2 (by omega)
  | 0, f + 1, i, a, h1, h2 => by
    unfold f_X3_total_c100021
    rw [show Int32.ofNat N = nI N from rfl, if_pos ((nI_leI (by omega) (by omega)).mpr (by omega))]; rfl
  | d + 1, f + 1, i, a, h1, h2 => by
    unfold f_X3_total_c100021
    rw [show Int32.ofNat N = nI N from rfl, if_neg (fun h => by rw [nI_leI (by omega) (by omega)] at h; omega), ck_q (by omega) hN, nm_q, nm_q, nI_1, nI_clamp (by omega)]
    exact total_a hN x y d f (i + 1) _ (by omega) (by omega)
theorem total_b {N : Nat} (hN : N < 2 ^ 31) (x y : Nat → Int64) : ∀ (d f i : Nat) (a : Int64), i + d = N → d < f → f_X3_total_c21 N x y f a (nI i) = some (accL y d i a)
  | 0, 0, i, a, h1, h2 => absurd h2 (by omega)
  | d + 1, 0, i, a, h1, h2 => absurd h2 (by omega)
  | 0, f + 1, i, a, h1, h2 => by
    unfold f_X3_total_c21
    rw [show Int32.ofNat N = nI N from rfl, if_pos ((nI_leI (by omega) (by omega)).mpr (by omega))]; rfl
  | d + 1, f + 1, i, a, h1, h2 => by
    unfold f_X3_total_c21
    rw [show Int32.ofNat N = nI N from rfl, if_neg (fun h => by rw [nI_leI (by omega) (by omega)] at h; omega), ck_q (by omega) hN, nm_q, nm_q, nI_1, nI_clamp (by omega)]
    exact total_b hN x y d f (i + 1) _ (by omega) (by omega)
theorem total_X3 {N : Nat} (hN : N < 1000) (x y : Nat → Int64) (p : Int32) : f_X3_total N x y p = some (accL (if p = 0 then x else y) N 0 0) := by
  unfold f_X3_total
  by_cases c : p = 0
  · rw [if_pos c, if_pos c]; exact total_a (by omega) x y N fu 0 0 (by omega) (fu_ge (by omega))
  · rw [if_neg c, if_neg c]; exact total_b (by omega) x y N fu 0 0 (by omega) (fu_ge (by omega))
theorem owed_8 (s : Nat → Int64) (p : Int32) : ∀ (d f i : Nat) (a : Int64), i + d = 100 → d < f → f_X8_owed_c5 s f p a (nI i) = some (accL (fun j => s ((if p = 0 then 413 else 513) + j)) d i a)
  | 0, 0, i, a, h1, h2 => absurd h2 (by omega)
  | d + 1, 0, i, a, h1, h2 => absurd h2 (by omega)
  | 0, f + 1, i, a, h1, h2 => by
    unfold f_X8_owed_c5
    rw [show (100 : Int32) = nI 100 from rfl, if_pos ((nI_leI (by omega) (by omega)).mpr (by omega))]; rfl
  | d + 1, f + 1, i, a, h1, h2 => by
    unfold f_X8_owed_c5 f_X8_owed_c30
    have t := owed_8 s p d f (i + 1)
    rw [show (100 : Int32) = nI 100 from rfl, if_neg (fun h => by rw [nI_leI (by omega) (by omega)] at h; omega)]
    by_cases c : p = 0
    · simp only [if_pos c] at t
      rw [if_pos c, ad_413, ck_q (by omega) (by omega), nm_q, nm_q, nI_1, nI_clamp (by omega)]
      refine (t _ (by omega) (by omega)).trans ?_
      simp only [if_pos c]; rfl
    · simp only [if_neg c] at t
      rw [if_neg c, ad_513, ck_q (by omega) (by omega), nm_q, nm_q, nI_1, nI_clamp (by omega)]
      refine (t _ (by omega) (by omega)).trans ?_
      simp only [if_neg c]; rfl
theorem owed_both {me : Int32} {bs bw os ow : Nat → Int64} {s : Nat → Int64} (hQ : RQ me bs bw os ow s) (p : Int32) : f_X8_owed s p = some (accL (if p = 0 then os else ow) 100 0 0) := by
  have t : f_X8_owed_c5 s fu p 0 0 = _ := owed_8 s p 100 fu 0 0 (by omega) (fu_ge (by omega))
  unfold f_X8_owed
  rw [t]
  refine congrArg some ?_
  refine accL_ext 100 0 0 fun j _ h2 => ?_
  obtain ⟨-, -, q3, q4, -⟩ := hQ j (by omega)
  by_cases c : p = 0
  · rw [if_pos c, if_pos c]; exact q3
  · rw [if_neg c, if_neg c]; exact q4
theorem op_owed {me : Int32} {he : Int32} {se : Int32} {ta : Int32} {bs : Nat → Int64} {bw : Nat → Int64} {gr : Nat → Int32} {hd : Nat → Int32} {jo : Nat → Int32} {le : Nat → Int32} {cs : Nat → Int64} {cw : Nat → Int64} {fr : Nat → Int32} {to : Nat → Int32} {ms : Nat → Int64} {mw : Nat → Int64} {os : Nat → Int64} {ow : Nat → Int64} {kn : Nat → Int32} {nu : Nat → Int32} {ox : Nat → Int32} {va : Nat → Int32} {s : Nat → Int64} {history_next : Int32} {history_size : Int32} {V : Nat → Option STv} {undos : Int32} {kept : Nat → Int64} (h : RS me he se ta bs bw gr hd jo le cs cw fr to ms mw os ow kn nu ox va s) (hH : RHi history_next history_size V undos kept) (p1 : Int32) : ∃ (r : Int64), f_X7_owed os ow p1 = some r ∧ f_X8_owed s p1 = some r := by
  obtain ⟨h0, hJ, hV, hHd, hM, hK, hL, hQ⟩ := id h
  refine ⟨accL (if p1 = 0 then os else ow) 100 0 0, ?_, owed_both hQ p1⟩
  unfold f_X7_owed
  rw [total_X3 (by omega), bd_q]
theorem all_8l {s : Nat → Int64} {he : Int32} {cs cw : Nat → Int64} {fr to : Nat → Int32} (hL : RLt he cs cw fr to s) (p : Int32) : ∀ (d f i : Nat) (a : Int64), i + d = 8 → d < f → f_X8_all_c35 s f p a (nI i) = some (accL (if p = 0 then cs else cw) d i a)
  | 0, 0, i, a, h1, h2 => absurd h2 (by omega)
  | d + 1, 0, i, a, h1, h2 => absurd h2 (by omega)
  | 0, f + 1, i, a, h1, h2 => by
    unfold f_X8_all_c35
    rw [show (8 : Int32) = nI 8 from rfl, if_pos ((nI_leI (by omega) (by omega)).mpr (by omega))]; rfl
  | d + 1, f + 1, i, a, h1, h2 => by
    have t := all_8l hL p d f (i + 1)
    have hi : i < 8 := by omega
    unfold f_X8_all_c35 f_X8_all_c73 f_X8_all_c79
    rw [show (8 : Int32) = nI 8 from rfl, if_neg (fun h => by rw [nI_leI (by omega) (by omega)] at h; omega), X8_isUnderWay hi hL, bd_q, lt_3, lt_4]
    show _ = some (accL (if p = 0 then cs else cw) d (i + 1) (a + (if p = 0 then cs else cw) i))
    by_cases u : ¬ fr i = -1
    · rw [bi_t u, if_neg (by decide)]
      rcases hL i hi with ⟨g1, -⟩ | ⟨-, -, -, -, -, -, -, g3, g4⟩
      · exact absurd g1 u
      · by_cases c : p = 0
        · simp only [if_pos c] at t ⊢
          rw [ck_q (by omega) (by omega), nm_q, nm_q, nI_1, nI_clamp (by omega), g3]
          exact t _ (by omega) (by omega)
        · simp only [if_neg c] at t ⊢
          rw [ck_q (by omega) (by omega), nm_q, nm_q, nI_1, nI_clamp (by omega), g4]
          exact t _ (by omega) (by omega)
    · rw [bi_f u, if_pos rfl, nm_q, nm_q, nI_1]
      refine (t _ (by omega) (by omega)).trans ?_
      rcases hL i hi with ⟨-, -, g3, g4⟩ | ⟨f1, -⟩
      · have e : (if p = 0 then cs else cw) i = 0 := by
          by_cases c : p = 0
          · rw [if_pos c]; exact g3
          · rw [if_neg c]; exact g4
        rw [e]
      · refine absurd (fun q => ?_) u
        rw [q] at f1; exact f1 (Or.inl (by decide))
theorem all_8m {n q : Nat} {s : Nat → Int64} {ms mw : Nat → Int64} (hn : n ≤ 10) (h0 : s 0 = lN n) (hs1 : ∀ m, m < 10 → s (13 + m) = if tb q m then 1 else 0) (hs2 : ∀ m, n ≤ m → m < 10 → tb q m = false) (hq : q < 1024) (hM : RM (nI q) ms mw s) (p : Int32) : ∀ (d f i : Nat) (a : Int64), i + d = 10 → d < f → f_X8_all_c9 s f p a (nI i) = f_X8_all_c35 s fu p (accL (if p = 0 then ms else mw) d i a) 0
  | 0, 0, i, a, h1, h2 => absurd h2 (by omega)
  | d + 1, 0, i, a, h1, h2 => absurd h2 (by omega)
  | 0, f + 1, i, a, h1, h2 => by
    unfold f_X8_all_c9
    rw [show (10 : Int32) = nI 10 from rfl, if_pos ((nI_leI (by omega) (by omega)).mpr (by omega))]; rfl
  | d + 1, f + 1, i, a, h1, h2 => by
    have t := all_8m hn h0 hs1 hs2 hq hM p d f (i + 1)
    have hi : i < 10 := by omega
    obtain ⟨m1, m2, m3⟩ := hM i hi
    have e : f_X8_mass s (nI i) p = some ((if p = 0 then ms else mw) i) := by
      unfold f_X8_mass
      rw [X8_isHere (nI i) hn h0 hs1, bd_q, nn_I (by omega)]
      by_cases c : tb q i = true
      · have hin : i < n := by
          rcases Nat.lt_or_ge i n with z | z
          · exact z
          · rw [hs2 i z hi] at c; cases c
        rw [bi_t ⟨vp_in_nI hin (by omega), c⟩, if_pos (by decide), ad_33, ad_43, ck_q (by omega) (by omega), ck_q (by omega) (by omega), nI_clamp (by omega), nI_clamp (by omega), m1, m2]
        by_cases z : p = 0
        · rw [if_pos z, if_pos z]
        · rw [if_neg z, if_neg z]
      · obtain ⟨z1, z2⟩ := m3 (by rw [nn_I (by omega)]; simpa using c)
        rw [bi_f (fun w => c w.2), if_neg (by decide)]
        by_cases z : p = 0
        · rw [if_pos z, z1]
        · rw [if_neg z, z2]
    unfold f_X8_all_c9
    rw [show (10 : Int32) = nI 10 from rfl, if_neg (fun h => by rw [nI_leI (by omega) (by omega)] at h; omega), e, bd_q, nm_q, nm_q, nI_1]
    exact t _ (by omega) (by omega)
theorem op_all {me : Int32} {he : Int32} {se : Int32} {ta : Int32} {bs : Nat → Int64} {bw : Nat → Int64} {gr : Nat → Int32} {hd : Nat → Int32} {jo : Nat → Int32} {le : Nat → Int32} {cs : Nat → Int64} {cw : Nat → Int64} {fr : Nat → Int32} {to : Nat → Int32} {ms : Nat → Int64} {mw : Nat → Int64} {os : Nat → Int64} {ow : Nat → Int64} {kn : Nat → Int32} {nu : Nat → Int32} {ox : Nat → Int32} {va : Nat → Int32} {s : Nat → Int64} {history_next : Int32} {history_size : Int32} {V : Nat → Option STv} {undos : Int32} {kept : Nat → Int64} (h : RS me he se ta bs bw gr hd jo le cs cw fr to ms mw os ow kn nu ox va s) (hH : RHi history_next history_size V undos kept) (p1 : Int32) : ∃ (r : Int64), f_X7_all cs cw ms mw os ow p1 = some r ∧ f_X8_all s p1 = some r := by
  obtain ⟨h0, hJ, hV, hHd, hM, hK, hL, hQ⟩ := id h
  obtain ⟨n, q, hn, hq, rfl, rfl, hn2, hq2, hs0, hs1, hs2⟩ := h0.get
  have t1 : f_X8_all_c9 s fu p1 (accL (if p1 = 0 then os else ow) 100 0 0) 0 = _ := all_8m hn hs0 hs1 hs2 hq hM p1 10 fu 0 _ (by omega) (fu_ge (by omega))
  have t2 := all_8l hL p1 8 fu 0 (accL (if p1 = 0 then ms else mw) 10 0 (accL (if p1 = 0 then os else ow) 100 0 0)) (by omega) (fu_ge (by omega))
  refine ⟨accL (if p1 = 0 then cs else cw) 8 0 (accL (if p1 = 0 then ms else mw) 10 0 (accL (if p1 = 0 then os else ow) 100 0 0)), ?_, ?_⟩
  rotate_left
  · unfold f_X8_all
    rw [owed_both hQ, bd_q, t1]
    exact t2
  · unfold f_X7_all
    rw [total_X3 (by omega), bd_q, total_X3 (by omega), bd_q, total_X3 (by omega), bd_q, accL_0 _ 8 0 (accL _ _ _ _), accL_0 _ 10 0 (accL _ _ _ _), Int64.add_comm _ (accL (if p1 = 0 then os else ow) 100 0 0), Int64.add_assoc]
