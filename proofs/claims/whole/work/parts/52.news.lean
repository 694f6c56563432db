/-! news of one: what all know, tickets, the seed -/
theorem drawn_i (S : Nat) (hS : S < 2 ^ 31) : ((nI S * (1103515245 : Int32)) + (12345 : Int32)) &&& (2147483647 : Int32) = nI ((S * 1103515245 + 12345) % 2 ^ 31) := by
  rw [show (1103515245 : Int32) = nI 1103515245 from rfl, show (12345 : Int32) = nI 12345 from rfl, pk_mul, nI_add, pk_and _ 31 (by decide)]
  have e : ∀ N : Nat, (nI N).toBitVec.toNat % 2 ^ 31 = N % 2 ^ 31 := fun N => by
    show (BitVec.ofNat 32 N).toNat % 2 ^ 31 = _
    rw [BitVec.toNat_ofNat]; omega
  rw [e]
theorem drawn_l (S : Nat) (hS : S < 2 ^ 31) : ((lN S * (1103515245 : Int64)) + (12345 : Int64)) &&& (2147483647 : Int64) = lN ((S * 1103515245 + 12345) % 2 ^ 31) := by
  rw [show (1103515245 : Int64) = lN 1103515245 from rfl, show (12345 : Int64) = lN 12345 from rfl, lN_mul, lN_add, show (2147483647 : Int64) = lN (2 ^ 31 - 1) from rfl, wb_mask (by omega) (by omega)]
theorem drawn_both {se : Int32} {s : Nat → Int64} (h0 : ¬ se < 0) (h1 : s 1 = se.toInt64) : ∃ t : Int32, ¬ t < 0 ∧ f_X5_nextDrawn se = some (t, t) ∧ f_X8_drawn s = some (vp_updL s 1 t.toInt64, t) := by
  obtain ⟨S, hS, rfl⟩ := nI_of h0
  have hm : (S * 1103515245 + 12345) % 2 ^ 31 < 2 ^ 31 := Nat.mod_lt _ (by decide)
  refine ⟨nI ((S * 1103515245 + 12345) % 2 ^ 31), nI_pos hm, ?_, ?_⟩
  · unfold f_X5_nextDrawn
    rw [nm_q, drawn_i S hS]
  · unfold f_X8_drawn
    rw [show (1 : Int32) = nI 1 from rfl, ck_q (by omega) (by omega), ck_q (by omega) (by omega), nm_q, ck_q (by omega) (by omega), nI_clamp (by omega), h1, nI_l hS, drawn_l S hS, upL_s, lN_i, nI_l hm]
theorem hear_loop (n' : Nat) (hn : n' ≤ 10) (va gr le : Nat → Int32) (m : Nat) (hm : m < 10) : ∀ (d f i : Nat) (hd : Nat → Int32), i + d = n' → d < f → f_X5_hearNews_c2 (nI n') va f gr hd le (nI m) (nI i) = some (upd gr m (va m), upd (fun k => if i ≤ k ∧ k < n' then hd k &&& (((1 : Int32) <<< (nI m &&& 31)) ^^^ (-1 : Int32)) else hd k) m ((1 : Int32) <<< (nI m &&& 31)), upd le m (va m))
  | 0, 0, i, hd, h1, h2 => absurd h2 (by omega)
  | d + 1, 0, i, hd, h1, h2 => absurd h2 (by omega)
  | 0, f + 1, i, hd, h1, h2 => by
    unfold f_X5_hearNews_c2 f_X5_knowItselfAlone
    rw [if_pos ((nI_leI (by omega) (by omega)).mpr (by omega)), ck_q (by omega) (by omega), ck_q (by omega) (by omega), nm_q, ck_q (by omega) (by omega), ck_q (by omega) (by omega), nm_q, ck_q (by omega) (by omega), nm_q, bd_q, nI_clamp (by omega)]
    have : (fun k => if i ≤ k ∧ k < n' then hd k &&& (((1 : Int32) <<< (nI m &&& 31)) ^^^ (-1 : Int32)) else hd k) = hd := by funext k; rw [if_neg (by omega)]
    rw [this]
  | d + 1, f + 1, i, hd, h1, h2 => by
    unfold f_X5_hearNews_c2
    rw [if_neg (fun h => by rw [nI_leI (by omega) (by omega)] at h; omega), ck_q (by omega) (by omega), ck_q (by omega) (by omega), nm_q, nm_q, nI_clamp (by omega), nI_1]
    show f_X5_hearNews_c2 (nI n') va f gr _ le (nI m) (nI (i + 1)) = _
    rw [hear_loop n' hn va gr le m hm d f (i + 1) _ (by omega) (by omega)]
    congr 4
    funext k
    rw [upI_a]
    by_cases hk : k = i
    · subst hk; rw [if_neg (by omega), if_pos rfl, if_pos (by omega)]
    · by_cases h3 : i + 1 ≤ k ∧ k < n'
      · rw [if_pos h3, if_neg hk, if_pos (by omega)]
      · rw [if_neg h3, if_neg hk, if_neg (by omega)]
theorem know_loop (m : Nat) (hm : m < 10) : ∀ (d f i : Nat) (s : Nat → Int64), i + d = 10 → d < f → f_X8_knowsItself_c38 f s (nI m) (nI i) = some (vp_updL (fun j => if 73 + i ≤ j ∧ j < 83 then s j &&& (((1 : Int64) <<< ((nI m).toInt64 &&& 63)) ^^^ (-1 : Int64)) else s j) (73 + m) ((1 : Int64) <<< ((nI m).toInt64 &&& 63)))
  | 0, 0, i, s, h1, h2 => absurd h2 (by omega)
  | d + 1, 0, i, s, h1, h2 => absurd h2 (by omega)
  | 0, f + 1, i, s, h1, h2 => by
    unfold f_X8_knowsItself_c38
    rw [show (10 : Int32) = nI 10 from rfl, if_pos ((nI_leI (by omega) (by omega)).mpr (by omega)), ad_73, ck_q (by omega) (by omega), nm_q, nI_clamp (by omega)]
    have : (fun j => if 73 + i ≤ j ∧ j < 83 then s j &&& (((1 : Int64) <<< ((nI m).toInt64 &&& 63)) ^^^ (-1 : Int64)) else s j) = s := by funext k; rw [if_neg (by omega)]
    rw [this]
  | d + 1, f + 1, i, s, h1, h2 => by
    unfold f_X8_knowsItself_c38
    rw [show (10 : Int32) = nI 10 from rfl, if_neg (fun h => by rw [nI_leI (by omega) (by omega)] at h; omega), ad_73 i, ck_q (by omega) (by omega), ck_q (by omega) (by omega), nm_q, nm_q, nI_clamp (by omega), nI_1]
    show f_X8_knowsItself_c38 f _ (nI m) (nI (i + 1)) = _
    rw [know_loop m hm d f (i + 1) _ (by omega) (by omega)]
    congr 2
    funext k
    rw [upL_a]
    by_cases hk : k = 73 + i
    · subst hk; rw [if_neg (by omega), if_pos rfl, if_pos (by omega)]
    · by_cases h3 : 73 + (i + 1) ≤ k ∧ k < 83
      · rw [if_pos h3, if_neg hk, if_pos (by omega)]
      · rw [if_neg h3, if_neg hk, if_neg (by omega)]
/-- one's value is told: what all know of it -/
theorem news_both {n' m : Nat} {me0 : Int32} {va gr hd le : Nat → Int32} {s : Nat → Int64} (hn : n' ≤ 10) (hm : m < n') (hle : nn me0 ≤ n') (h1 : ∀ k, k < 10 → s (23 + k) = (va k).toInt64) (h2 : ∀ k, k < 10 → s (53 + k) = (gr k).toInt64 ∧ s (63 + k) = (le k).toInt64) (h3 : RH me0 hd s) :
    ∃ gr' hd' le' s', f_X5_hearNews (nI n') va gr hd le (nI m) = some (gr', hd', le') ∧ f_X8_knowsItself s (nI m) = some s' ∧ RV va gr' le' s' ∧ RH (nI n') hd' s' ∧ ∀ j, (j < 53 ∨ 83 ≤ j) → s' j = s j := by
  have hm10 : m < 10 := by omega
  refine ⟨_, _, _, vp_updL (fun j => if 73 + 0 ≤ j ∧ j < 83 then (vp_updL (vp_updL s (53 + m) (s (23 + m))) (63 + m) (vp_updL s (53 + m) (s (23 + m)) (23 + m))) j &&& (((1 : Int64) <<< ((nI m).toInt64 &&& 63)) ^^^ (-1 : Int64)) else (vp_updL (vp_updL s (53 + m) (s (23 + m))) (63 + m) (vp_updL s (53 + m) (s (23 + m)) (23 + m))) j) (73 + m) ((1 : Int64) <<< ((nI m).toInt64 &&& 63)), hear_loop n' hn va gr le m hm10 n' fu 0 hd (by omega) (fu_ge (by omega)), ?_, ?_, ?_, ?_⟩
  · unfold f_X8_knowsItself
    rw [ad_23, ad_53, ad_63, ck_q (by omega) (by omega), ck_q (by omega) (by omega), nm_q, ck_q (by omega) (by omega), ck_q (by omega) (by omega), nm_q, nI_clamp (by omega), nI_clamp (by omega), nI_clamp (by omega)]
    exact know_loop m hm10 10 fu 0 _ (by omega) (fu_ge (by omega))
  · intro k hk
    simp only [upL_a, upI_a]
    refine ⟨?_, ?_, ?_⟩
    · rw [if_neg (by omega), if_neg (by omega), if_neg (by omega), if_neg (by omega)]; exact h1 k hk
    · rw [if_neg (by omega), if_neg (by omega), if_neg (by omega)]
      by_cases e : k = m
      · subst e; rw [if_pos rfl, if_pos rfl]; exact h1 k hk
      · rw [if_neg (by omega), if_neg e]; exact (h2 k hk).1
    · rw [if_neg (by omega), if_neg (by omega)]
      by_cases e : k = m
      · subst e; rw [if_pos rfl, if_neg (by omega), if_pos rfl]; exact h1 k hk
      · rw [if_neg (by omega), if_neg (by omega), if_neg e]; exact (h2 k hk).2
  · intro k hk
    obtain ⟨a1, a2, a3⟩ := h3 k hk
    obtain ⟨e1, l1⟩ := nn_nI a1 (by omega)
    simp only [upL_a, upI_a]
    by_cases e : k = m
    · subst e
      rw [if_pos rfl, if_pos rfl, (tb_sh k hk).1, (tb_sh k hk).2]
      refine ⟨vp_in_nI ?_ (by omega), rfl, fun h => ?_⟩
      · show 2 ^ k < 2 ^ 10; exact Nat.pow_lt_pow_right (by decide) hk
      · rw [nn_I (by omega)] at h; omega
    · rw [if_neg e, if_neg (show ¬ 73 + k = 73 + m by omega), if_pos (show 73 + 0 ≤ 73 + k ∧ 73 + k < 83 by omega), if_neg (show ¬ 73 + k = 63 + m by omega), if_neg (show ¬ 73 + k = 53 + m by omega), a2]
      by_cases hk2 : k < n'
      · rw [if_pos (by omega)]
        have e6 : (hd k).toInt64 &&& (((1 : Int64) <<< ((nI m).toInt64 &&& 63)) ^^^ (-1 : Int64)) = (nI (nn (hd k) &&& (1023 ^^^ 2 ^ m))).toInt64 := by
          conv => lhs; rw [e1]
          exact tb_cll _ l1 m hm10
        have e5 : hd k &&& (((1 : Int32) <<< (nI m &&& 31)) ^^^ (-1 : Int32)) = nI (nn (hd k) &&& (1023 ^^^ 2 ^ m)) := by
          conv => lhs; rw [e1]
          exact tb_cl _ l1 m hm10
        rw [e5, e6]
        exact ⟨vp_in_nI (tb_clt l1) (by omega), rfl, fun h => by rw [nn_I (by omega)] at h; omega⟩
      · rw [if_neg (by omega)]
        have z : hd k = 0 := a3 (by omega)
        rw [z]
        refine ⟨vp_in_nI (n := 0) (by omega) (by omega), ?_, fun _ => rfl⟩
        simp
  · intro j hj
    simp only [upL_a]
    rw [if_neg (by omega), if_neg (by omega), if_neg (by omega), if_neg (by omega)]
/-- a ticket of one's own alone -/
theorem ticket_both {m : Nat} {se : Int32} {kn nu ox : Nat → Int32} {s : Nat → Int64} (hm : m < 10) (h0 : ¬ se < 0) (h1 : s 1 = se.toInt64) (hK : ∀ k, k < 10 → k ≠ m → vp_in (kn k) 5 ∧ s (83 + k) = (kn k).toInt64 ∧ ∀ i, i < nn (kn k) → s (93 + (4 * k + i)) = (nu (4 * k + i)).toInt64 ∧ s (133 + (4 * k + i)) = (ox (4 * k + i)).toInt64 ∧ ¬ nu (4 * k + i) < 0) :
    ∃ t kn' nu' ox' s', ¬ t < 0 ∧ f_X5_nextDrawn se = some (t, t) ∧ f_X6_knowAlone kn nu ox (nI m) t = some (kn', nu', ox') ∧ f_X8_drawsTicket s (nI m) = some s' ∧ RK kn' nu' ox' s' ∧ s' 1 = t.toInt64 ∧ ∀ j, j ≠ 1 → (j < 83 ∨ 173 ≤ j) → s' j = s j := by
  have hs1 : (vp_updL s (83 + m) 1) 1 = se.toInt64 := by rw [fr_up (by omega)]; exact h1
  obtain ⟨t, ht, e1, e2⟩ := drawn_both h0 hs1
  refine ⟨t, upd (upd kn m 0) m 1, upd nu (4 * m) t, upd ox (4 * m) (nI m), vp_updL (vp_updL (vp_updL (vp_updL s (83 + m) 1) 1 t.toInt64) (93 + 4 * m) t.toInt64) (133 + 4 * m) (nI m).toInt64, ht, e1, ?_, ?_, ?_, ?_, ?_⟩
  · unfold f_X6_knowAlone f_X6_insert
    rw [ck_q (by omega) (by omega), nm_q, nm_q, ck_q (by omega) (by omega), nm_q, nI_clamp (by omega), upI_s, if_neg (by decide), ck_q (by omega) (by omega), nm_q]
    unfold fu f_X6_insert_c54 f_X6_insert_c125
    rw [if_pos (Int32.le_refl _), um_4, show nI (m * 4) + (0 : Int32) = nI (m * 4) by simp, ck_q (by omega) (by omega), nm_q, ck_q (by omega) (by omega), nm_q, bd_q, nI_clamp (by omega), show m * 4 = 4 * m by omega]
    rfl
  · unfold f_X8_drawsTicket
    rw [ad_83, ck_q (by omega) (by omega), nm_q, nI_clamp (by omega), e2, bd_q, mu_4, ad_93, ck_q (by omega) (by omega), nm_q, ad_133, ck_q (by omega) (by omega), nm_q, nI_clamp (by omega), nI_clamp (by omega)]
  · intro k hk
    simp only [upL_a, upI_a]
    by_cases e : k = m
    · subst e
      rw [if_pos rfl, if_neg (by omega), if_neg (by omega), if_neg (by omega), if_pos rfl]
      refine ⟨vp_in_nI (n := 1) (by omega) (by omega), rfl, fun i hi => ?_⟩
      have : i = 0 := by have : nn (1 : Int32) = 1 := rfl; omega
      subst this
      rw [if_neg (by omega), if_pos (by omega), if_pos (by omega), if_pos (by omega), if_pos (by omega)]
      exact ⟨rfl, rfl, ht⟩
    · obtain ⟨a1, a2, a3⟩ := hK k hk e
      have hb := (nn_nI a1 (by omega)).2
      rw [if_neg e, if_neg e, if_neg (by omega), if_neg (by omega), if_neg (by omega), if_neg (by omega)]
      refine ⟨a1, a2, fun i hi => ?_⟩
      rw [if_neg (by omega), if_neg (by omega), if_neg (by omega), if_neg (by omega), if_neg (by omega), if_neg (by omega), if_neg (by omega), if_neg (by omega), if_neg (by omega), if_neg (by omega)]
      exact a3 i hi
  · rw [fr_up (by omega), fr_up (by omega), upL_s]
  · intro j h1 h2
    rw [fr_up (by omega), fr_up (by omega), fr_up (by omega), fr_up (by omega)]
