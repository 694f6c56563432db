theorem look_skip {n q i : Nat} {me : Int32} {jo : Nat → Int32} {s : Nat → Int64} (k7' : Int32 → (Nat → Int32) → (Nat → Int32) → Int32 → Option (Int32 × (Nat → Int32) × (Nat → Int32))) (hn : n ≤ 10) (hJ : RJ me jo s) (h0 : s 0 = lN n) (h1 : ∀ m, m < 10 → s (13 + m) = if tb q m then 1 else 0) (hs2 : ∀ m, n ≤ m → m < 10 → tb q m = false) (hi : n ≤ i) (hi10 : i < 10) : ∀ (d f j : Nat) (N : Int32) (rl ro : Nat → Int32), j + d = 10 → d < f → f_X8_look_c17 k7' s f N rl ro (nI i) (nI j) = k7' N rl ro (nI (i + 1))
  | 0, 0, j, N, rl, ro, e1, e2 => absurd e2 (by omega)
  | d + 1, 0, j, N, rl, ro, e1, e2 => absurd e2 (by omega)
  | 0, f + 1, j, N, rl, ro, e1, e2 => by
    unfold f_X8_look_c17
    rw [show (10 : Int32) = nI 10 from rfl, if_pos ((nI_leI (by omega) (by omega)).mpr (by omega)), nm_q, nI_1]
  | d + 1, f + 1, j, N, rl, ro, e1, e2 => by
    have hj : j < 10 := by omega
    have t := look_skip k7' hn hJ h0 h1 hs2 hi hi10 d f (j + 1) N rl ro (by omega) (by omega)
    unfold f_X8_look_c17 f_X8_look_c78
    rw [show (10 : Int32) = nI 10 from rfl, if_neg (fun h => by rw [nI_leI (by omega) (by omega)] at h; omega), X8_areJoined hi10 hj hJ, bd_q, X8_isHere (nI i) hn h0 h1, bd_q, nn_I (by omega), nm_q, nI_1]
    by_cases c1 : tb (nn (jo i)) j = true
    · rw [bi_t c1, if_neg (show ¬ (1 : Int32) = 0 by decide), bi_f (fun c3 => by rw [hs2 i hi hi10] at c3; exact absurd c3.2 (by decide)), if_pos (show (0 : Int32) = 0 from rfl)]; exact t
    · rw [bi_f c1, if_pos (show (0 : Int32) = 0 from rfl)]; exact t
def prs : Nat → Nat
  | 0 => 0
  | d + 1 => prs d + d
theorem look_out {n q : Nat} {me : Int32} {jo : Nat → Int32} {s : Nat → Int64} (hn : n ≤ 10) (hq : q < 1024) (hJ : RJ me jo s) (h0 : s 0 = lN n) (h1 : ∀ m, m < 10 → s (13 + m) = if tb q m then 1 else 0) (hs2 : ∀ m, n ≤ m → m < 10 → tb q m = false) : ∀ (d f g i N : Nat) (cl co rl ro : Nat → Int32), i + d = 10 → d < f → n ≤ g + i → N + prs d ≤ 45 → LR n q jo N cl co rl ro → ∃ N' cl' co' rl' ro', f_X2_listOf_c7 (nI n) (nI q) jo (g + 1) (nI N) cl co (nI i) = some (nI N', cl', co') ∧ f_X8_look_c7 s f (nI N) rl ro (nI i) = some (nI N', rl', ro') ∧ LR n q jo N' cl' co' rl' ro' ∧ N' ≤ 45
  | 0, 0, g, i, N, cl, co, rl, ro, e1, e2, e3, e4, hl => absurd e2 (by omega)
  | d + 1, 0, g, i, N, cl, co, rl, ro, e1, e2, e3, e4, hl => absurd e2 (by omega)
  | 0, f + 1, g, i, N, cl, co, rl, ro, e1, e2, e3, e4, hl => by
    refine ⟨N, cl, co, rl, ro, ?_, ?_, hl, Nat.le_trans (Nat.le_add_right _ _) e4⟩
    · unfold f_X2_listOf_c7
      rw [if_pos ((nI_leI (by omega) (by omega)).mpr (by omega))]
    · unfold f_X8_look_c7
      rw [show (10 : Int32) = nI 10 from rfl, if_pos ((nI_leI (by omega) (by omega)).mpr (by omega))]
  | d + 1, f + 1, g, i, N, cl, co, rl, ro, e1, e2, e3, e4, hl => by
    have e4' : N + (prs d + d) ≤ 45 := e4
    have h10 : ¬ nI 10 ≤ nI i := fun h => by rw [nI_leI (by omega) (by omega)] at h; omega
    rcases Nat.lt_or_ge i n with hin | hin
    · obtain ⟨g', rfl⟩ : ∃ g', g = g' + 1 := ⟨g - 1, by omega⟩
      obtain ⟨N1, cl1, co1, rl1, ro1, t1, t2, t3, t4⟩ := look_in (fun k7_size k7_lesser k7_other k7_l2 => f_X2_listOf_c7 (nI n) (nI q) jo (g' + 1) k7_size k7_lesser k7_other k7_l2) (fun k7_open k7_lesser k7_other k7_l1 => f_X8_look_c7 s f k7_open k7_lesser k7_other k7_l1) hn hq hJ h0 h1 hs2 hin d fu 99999 (i + 1) N cl co rl ro (by omega) (fu_ge (by omega)) (by omega) (by omega) (by omega) hl
      obtain ⟨N', cl', co', rl', ro', u1, u2, u3, u4⟩ := look_out hn hq hJ h0 h1 hs2 d f g' (i + 1) N1 cl1 co1 rl1 ro1 (by omega) (by omega) (by omega) (by omega) t3
      refine ⟨N', cl', co', rl', ro', ?_, ?_, u3, u4⟩
      · unfold f_X2_listOf_c7
        rw [if_neg (fun h => by rw [nI_leI (by omega) (by omega)] at h; omega), nm_q, nI_1]
        exact t1.trans u1
      · unfold f_X8_look_c7
        rw [show (10 : Int32) = nI 10 from rfl, if_neg h10, nm_q, nI_1]
        exact t2.trans u2
    · obtain ⟨N', cl', co', rl', ro', u1, u2, u3, u4⟩ := look_out hn hq hJ h0 h1 hs2 d f g (i + 1) N cl co rl ro (by omega) (by omega) (by omega) (by omega) hl
      refine ⟨N', cl', co', rl', ro', ?_, ?_, u3, u4⟩
      · unfold f_X2_listOf_c7 at u1 ⊢
        rw [if_pos ((nI_leI (by omega) (by omega)).mpr (by omega))] at u1
        rw [if_pos ((nI_leI (by omega) (by omega)).mpr (by omega))]; exact u1
      · unfold f_X8_look_c7
        rw [show (10 : Int32) = nI 10 from rfl, if_neg h10, nm_q, nI_1]
        exact (look_skip (fun k7_open k7_lesser k7_other k7_l1 => f_X8_look_c7 s f k7_open k7_lesser k7_other k7_l1) hn hJ h0 h1 hs2 hin (by omega) (10 - (i + 1)) fu (i + 1) (nI N) rl ro (by omega) (fu_ge (by omega))).trans u2
theorem look_both {n q : Nat} {me : Int32} {jo : Nat → Int32} {s : Nat → Int64} (hn : n ≤ 10) (hq : q < 1024) (hJ : RJ me jo s) (h0 : s 0 = lN n) (h1 : ∀ m, m < 10 → s (13 + m) = if tb q m then 1 else 0) (hs2 : ∀ m, n ≤ m → m < 10 → tb q m = false) (x y : Int32) (cl co rl ro : Nat → Int32) : ∃ N cl' co' rl' ro', f_X2_listOf (nI n) (nI q) jo x cl co = some (nI N, cl', co') ∧ f_X8_look s y rl ro = some (nI N, rl', ro') ∧ LR n q jo N cl' co' rl' ro' ∧ N ≤ 45 :=
  look_out hn hq hJ h0 h1 hs2 10 fu 99999 0 0 cl co rl ro (by omega) (fu_ge (by omega)) (by omega) (by decide) (fun z hz => absurd hz (by omega))
