/-- the open lines, listed alike -/
def LR (n q : Nat) (jo : Nat → Int32) (N : Nat) (cl co rl ro : Nat → Int32) : Prop := ∀ z, z < N → ∃ a b, cl z = nI a ∧ co z = nI b ∧ rl z = nI a ∧ ro z = nI b ∧ a < n ∧ b < n ∧ a ≠ b ∧ tb q a = true ∧ tb q b = true ∧ tb (nn (jo a)) b = true
theorem LR.add {n q N a b : Nat} {jo cl co rl ro : Nat → Int32} (h : LR n q jo N cl co rl ro) (ha : a < n) (hb : b < n) (hab : a ≠ b) (ta : tb q a = true) (tb' : tb q b = true) (hj : tb (nn (jo a)) b = true) : LR n q jo (N + 1) (upd cl N (nI a)) (upd co N (nI b)) (upd rl N (nI a)) (upd ro N (nI b)) := fun z hz => by
  by_cases c : z = N
  · subst c
    exact ⟨a, b, upI_s, upI_s, upI_s, upI_s, ha, hb, hab, ta, tb', hj⟩
  · rw [upI_a, upI_a, upI_a, upI_a, if_neg c, if_neg c, if_neg c, if_neg c]
    exact h z (by omega)
theorem look_in {n q i : Nat} {me : Int32} {jo : Nat → Int32} {s : Nat → Int64} (k7 k7' : Int32 → (Nat → Int32) → (Nat → Int32) → Int32 → Option (Int32 × (Nat → Int32) × (Nat → Int32))) (hn : n ≤ 10) (hq : q < 1024) (hJ : RJ me jo s) (h0 : s 0 = lN n) (h1 : ∀ m, m < 10 → s (13 + m) = if tb q m then 1 else 0) (hs2 : ∀ m, n ≤ m → m < 10 → tb q m = false) (hi : i < n) : ∀ (d f g j N : Nat) (cl co rl ro : Nat → Int32), j + d = 10 → d < f → n ≤ g + j → i < j → N + d ≤ 45 → LR n q jo N cl co rl ro → ∃ N' cl' co' rl' ro', f_X2_listOf_c19 k7 (nI n) (nI q) jo (g + 1) (nI N) cl co (nI i) (nI j) = k7 (nI N') cl' co' (nI (i + 1)) ∧ f_X8_look_c17 k7' s f (nI N) rl ro (nI i) (nI j) = k7' (nI N') rl' ro' (nI (i + 1)) ∧ LR n q jo N' cl' co' rl' ro' ∧ N' ≤ N + d
  | 0, 0, g, j, N, cl, co, rl, ro, e1, e2, e3, e4, e5, hl => absurd e2 (by omega)
  | d + 1, 0, g, j, N, cl, co, rl, ro, e1, e2, e3, e4, e5, hl => absurd e2 (by omega)
  | 0, f + 1, g, j, N, cl, co, rl, ro, e1, e2, e3, e4, e5, hl => by
    refine ⟨N, cl, co, rl, ro, ?_, ?_, hl, Nat.le_refl _⟩
    · unfold f_X2_listOf_c19
      rw [if_pos ((nI_leI (by omega) (by omega)).mpr (by omega)), nm_q, nI_1]
    · unfold f_X8_look_c17
      rw [show (10 : Int32) = nI 10 from rfl, if_pos ((nI_leI (by omega) (by omega)).mpr (by omega)), nm_q, nI_1]
  | d + 1, f + 1, g, j, N, cl, co, rl, ro, e1, e2, e3, e4, e5, hl => by
    have hj : j < 10 := by omega
    have hi10 : i < 10 := by omega
    have h10 : ¬ nI 10 ≤ nI j := fun h => by rw [nI_leI (by omega) (by omega)] at h; omega
    have hva := (hJ i hi10).1
    rcases Nat.lt_or_ge j n with hin | hin
    · obtain ⟨g', rfl⟩ : ∃ g', g = g' + 1 := ⟨g - 1, by omega⟩
      have hni : ¬ nI n ≤ nI j := fun h => by rw [nI_leI (by omega) (by omega)] at h; omega
      by_cases c : tb (nn (jo i)) j = true ∧ tb q i = true ∧ tb q j = true
      · obtain ⟨N', cl', co', rl', ro', t1, t2, t3, t4⟩ := look_in k7 k7' hn hq hJ h0 h1 hs2 hi d f g' (j + 1) (N + 1) _ _ _ _ (by omega) (by omega) (by omega) (by omega) (by omega) (hl.add hi hin (by omega) c.2.1 c.2.2 c.1)
        refine ⟨N', cl', co', rl', ro', ?_, ?_, t3, by omega⟩
        · unfold f_X2_listOf_c19 f_X2_listOf_c58 f_X2_add
          rw [if_neg hni, X5_isJoined hi10 hj hva, bd_q, bi_t c.1, if_neg (by decide), X5_isHere hq hi10, bd_q, bi_t c.2.1, if_neg (by decide), X5_isHere hq hj, bd_q, bi_t c.2.2, if_neg (by decide), show (45 : Int32) = nI 45 from rfl, if_neg (fun h => by rw [nI_leI (by omega) (by omega)] at h; omega)]
          simp (disch := omega) only [ck_q, nm_q, nI_clamp, bd_q]
          rw [nI_1, nI_1]; exact t1
        · unfold f_X8_look_c17 f_X8_look_c78
          rw [show (10 : Int32) = nI 10 from rfl, if_neg h10, X8_areJoined hi10 hj hJ, bd_q, bi_t c.1, if_neg (by decide), X8_isHere (nI i) hn h0 h1, bd_q, nn_I (by omega), bi_t ⟨vp_in_nI hi (by omega), c.2.1⟩, if_neg (by decide), X8_isHere (nI j) hn h0 h1, bd_q, nn_I (by omega), bi_t ⟨vp_in_nI hin (by omega), c.2.2⟩, if_neg (by decide)]
          simp (disch := omega) only [ck_q, nm_q, nI_clamp]
          rw [nI_1, nI_1]; exact t2
      · obtain ⟨N', cl', co', rl', ro', t1, t2, t3, t4⟩ := look_in k7 k7' hn hq hJ h0 h1 hs2 hi d f g' (j + 1) N cl co rl ro (by omega) (by omega) (by omega) (by omega) (by omega) hl
        refine ⟨N', cl', co', rl', ro', ?_, ?_, t3, by omega⟩
        · unfold f_X2_listOf_c19 f_X2_listOf_c58
          rw [if_neg hni, X5_isJoined hi10 hj hva, bd_q, X5_isHere hq hi10, bd_q, X5_isHere hq hj, bd_q, nm_q, nI_1]
          by_cases c1 : tb (nn (jo i)) j = true
          · rw [bi_t c1, if_neg (show ¬ (1 : Int32) = 0 by decide)]
            by_cases c2 : tb q i = true
            · rw [bi_t c2, if_neg (show ¬ (1 : Int32) = 0 by decide), bi_f (fun c3 => c ⟨c1, c2, c3⟩), if_pos (show (0 : Int32) = 0 from rfl)]; exact t1
            · rw [bi_f c2, if_pos (show (0 : Int32) = 0 from rfl)]; exact t1
          · rw [bi_f c1, if_pos (show (0 : Int32) = 0 from rfl)]; exact t1
        · unfold f_X8_look_c17 f_X8_look_c78
          rw [show (10 : Int32) = nI 10 from rfl, if_neg h10, X8_areJoined hi10 hj hJ, bd_q, X8_isHere (nI i) hn h0 h1, bd_q, nn_I (by omega), X8_isHere (nI j) hn h0 h1, bd_q, nn_I (by omega), nm_q, nI_1]
          by_cases c1 : tb (nn (jo i)) j = true
          · rw [bi_t c1, if_neg (show ¬ (1 : Int32) = 0 by decide)]
            by_cases c2 : tb q i = true
            · rw [bi_t ⟨vp_in_nI hi (by omega), c2⟩, if_neg (show ¬ (1 : Int32) = 0 by decide), bi_f (fun c3 => c ⟨c1, c2, c3.2⟩), if_pos (show (0 : Int32) = 0 from rfl)]; exact t2
            · rw [bi_f (fun w => c2 w.2), if_pos (show (0 : Int32) = 0 from rfl)]; exact t2
          · rw [bi_f c1, if_pos (show (0 : Int32) = 0 from rfl)]; exact t2
    · obtain ⟨N', cl', co', rl', ro', t1, t2, t3, t4⟩ := look_in k7 k7' hn hq hJ h0 h1 hs2 hi d f g (j + 1) N cl co rl ro (by omega) (by omega) (by omega) (by omega) (by omega) hl
      refine ⟨N', cl', co', rl', ro', ?_, ?_, t3, by omega⟩
      · unfold f_X2_listOf_c19 at t1 ⊢
        rw [if_pos ((nI_leI (by omega) (by omega)).mpr (by omega))] at t1
        rw [if_pos ((nI_leI (by omega) (by omega)).mpr (by omega))]; exact t1
      · unfold f_X8_look_c17 f_X8_look_c78
        rw [show (10 : Int32) = nI 10 from rfl, if_neg h10, X8_areJoined hi10 hj hJ, bd_q, X8_isHere (nI i) hn h0 h1, bd_q, nn_I (by omega), X8_isHere (nI j) hn h0 h1, bd_q, nn_I (by omega), nm_q, nI_1]
        by_cases c1 : tb (nn (jo i)) j = true
        · rw [bi_t c1, if_neg (show ¬ (1 : Int32) = 0 by decide)]
          by_cases c2 : tb q i = true
          · rw [bi_t ⟨vp_in_nI hi (by omega), c2⟩, if_neg (show ¬ (1 : Int32) = 0 by decide), bi_f (fun c3 => by rw [hs2 j hin hj] at c3; exact absurd c3.2 (by decide)), if_pos (show (0 : Int32) = 0 from rfl)]; exact t2
          · rw [bi_f (fun w => c2 w.2), if_pos (show (0 : Int32) = 0 from rfl)]; exact t2
        · rw [bi_f c1, if_pos (show (0 : Int32) = 0 from rfl)]; exact t2
