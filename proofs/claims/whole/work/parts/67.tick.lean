theorem mod_4 : ∀ i, i < 8 → nI i - nI i / 4 * 4 = nI (i % 4) := by decide
theorem row_a (a : Nat) (i : Nat) : ((93 : Int32) + (4 : Int32) * nI a) + nI i = nI (93 + (4 * a + i)) := by rw [mu_4, ad_93, nI_add, Nat.add_assoc]
theorem row_b (a : Nat) (i : Nat) : ((133 : Int32) + (4 : Int32) * nI a) + nI i = nI (133 + (4 * a + i)) := by rw [mu_4, ad_133, nI_add, Nat.add_assoc]
theorem pl_4 (a i : Nat) : nI a * (4 : Int32) + nI i = nI (4 * a + i) := by rw [um_4, nI_add, Nat.mul_comm]
theorem take_X6 (kn nu ox : Nat → Int32) {a : Nat} (ha : a < 10) : f_X6_take kn nu ox (nI a) = some (upd kn a (kn 10), va_cpy nu nu 40 (4 * a) 4, va_cpy ox ox 40 (4 * a) 4) := by
  unfold f_X6_take
  rw [um_4, show (10 : Int32) = nI 10 from rfl, show (40 : Int32) = nI 40 from rfl, show (4 : Int32) = nI 4 from rfl, ck_q (by omega) (by omega), ck_q (by omega) (by omega), nm_q, nI_clamp (by omega), nI_clamp (by omega), nI_clamp (by omega), nI_clamp (by omega), nI_clamp (by omega)]
  have q : ¬ nI 40 < 0 ∧ ¬ nI (a * 4) < 0 ∧ ¬ nI 4 < 0 ∧ 40 + 4 ≤ 44 ∧ a * 4 + 4 ≤ 44 := ⟨by decide, fun w => by rw [Int32.lt_iff_toInt_lt, nI_toInt (by omega)] at w; have : (0 : Int32).toInt = 0 := rfl; omega, by decide, by omega, by omega⟩
  rw [ckp_q q, nm_q, ckp_q q, nm_q, Nat.mul_comm]
theorem cpy_at (f : Nat → Int32) (a j : Nat) : va_cpy f f 40 (4 * a) 4 j = if 4 * a ≤ j ∧ j < 4 * a + 4 then f (40 + (j - 4 * a)) else f j := by
  unfold va_cpy
  by_cases c : 4 * a ≤ j ∧ j < 4 * a + 4
  · rw [if_pos c]
  · rw [if_neg c]
/-- the rows of two members stand as they stood -/
def RW (kn nu ox kn' nu' ox' : Nat → Int32) : Prop := (∀ j, j ≠ 10 → kn' j = kn j) ∧ ∀ j, (j < 40 ∨ 44 ≤ j) → nu' j = nu j ∧ ox' j = ox j
theorem tick_a {kn nu ox : Nat → Int32} {s : Nat → Int64} {a b ka : Nat} (ha : a < 10) (hb : b < 10) (hka : kn a = nI ka) (h4 : ka ≤ 4) (hs : s (83 + a) = (kn a).toInt64) (hr : ∀ i, i < ka → s (93 + (4 * a + i)) = (nu (4 * a + i)).toInt64 ∧ s (133 + (4 * a + i)) = (ox (4 * a + i)).toInt64 ∧ ¬ nu (4 * a + i) < 0) : ∀ (d f g i : Nat) (kn' nu' ox' : Nat → Int32) (K W : Nat → Int64), i + d = ka → d < f → RW kn nu ox kn' nu' ox' → RT i kn' nu' ox' K W → ∃ kn2 nu2 ox2 K2 W2, RW kn nu ox kn2 nu2 ox2 ∧ RT ka kn2 nu2 ox2 K2 W2 ∧ f_X6_share_c10 f kn' nu' ox' (nI a) (nI b) (nI i) = f_X6_share_c34 fu kn2 nu2 ox2 (nI a) (nI b) 0 ∧ f_X8_tickets_c5 (g + d) K s W (nI a) (nI b) (nI i) (nI i) = f_X8_tickets_c5 g K2 s W2 (nI a) (nI b) (nI ka) (nI ka)
  | 0, 0, g, i, kn', nu', ox', K, W, h1, h2, hw, ht => absurd h2 (by omega)
  | d + 1, 0, g, i, kn', nu', ox', K, W, h1, h2, hw, ht => absurd h2 (by omega)
  | 0, f + 1, g, i, kn', nu', ox', K, W, h1, h2, hw, ht => by
    have e : i = ka := by omega
    subst e
    refine ⟨kn', nu', ox', K, W, hw, ht, ?_, rfl⟩
    unfold f_X6_share_c10
    rw [ck_q (by omega) (by omega), nI_clamp (by omega), hw.1 a (by omega), hka, if_pos (Int32.le_refl _)]
  | d + 1, f + 1, g, i, kn', nu', ox', K, W, h1, h2, hw, ht => by
    obtain ⟨r1, r2, r3⟩ := hr i (by omega)
    obtain ⟨w1, w2⟩ := hw.2 (4 * a + i) (by omega)
    obtain ⟨kn1, nu1, ox1, K1, W1, i1, i2, i3, i4, i5⟩ := ins_both ht (by omega) (nu (4 * a + i)) (ox (4 * a + i)) r3
    obtain ⟨kn2, nu2, ox2, K2, W2, j1, j2, j3, j4⟩ := tick_a ha hb hka h4 hs hr d f g (i + 1) kn1 nu1 ox1 K1 W1 (by omega) (by omega) ⟨fun j hj => by rw [i2 j hj, hw.1 j hj], fun j hj => by rw [(i3 j hj).1, (i3 j hj).2]; exact hw.2 j hj⟩ i4
    refine ⟨kn2, nu2, ox2, K2, W2, j1, j2, ?_, ?_⟩
    · unfold f_X6_share_c10
      rw [ck_q (by omega) (by omega), nI_clamp (by omega), hw.1 a (by omega), hka, if_neg (fun w => by rw [nI_leI (by omega) (by omega)] at w; omega)]
      unfold f_X6_insertFrom
      rw [pl_4, nm_q, ck_q (by omega) (by omega), ck_q (by omega) (by omega), nI_clamp (by omega), w1, w2, i1, bd_q, bd_q, nm_q, nI_1]
      exact j3
    · rw [← Nat.add_assoc]
      conv => lhs; unfold f_X8_tickets_c5
      rw [if_neg (fun w => by rw [show (8 : Int32) = nI 8 from rfl, nI_leI (by omega) (by omega)] at w; omega), if_neg (fun w => by rw [show (4 : Int32) = nI 4 from rfl, nI_leI (by omega) (by omega)] at w; omega)]
      unfold f_X8_tickets_c23
      rw [ckp_q (by decide), ad_83, ck_q (by omega) (by omega), nI_clamp (by omega), hs, hka, mod_4 i (by omega), Nat.mod_eq_of_lt (show i < 4 by omega), if_neg (fun w => by rw [i2l_le, nI_leI (by omega) (by omega)] at w; omega), if_pos (show nI i < 4 by rw [show (4 : Int32) = nI 4 from rfl, nI_ltI (by omega) (by omega)]; omega)]
      unfold f_X8_tickets_c76
      rw [ckp_q (by decide), mod_4 i (by omega), Nat.mod_eq_of_lt (show i < 4 by omega), row_a, row_b, ck_q (by omega) (by omega), nm_q, ckp_q (by decide), ck_q (by omega) (by omega), nm_q, nI_clamp (by omega), nI_clamp (by omega), r1, r2, i5, nI_1]
      exact j4
theorem skip_a {s : Nat → Int64} {a b ka : Nat} {c : Int32} {K W : Nat → Int64} (ha : a < 10) (h4 : ka ≤ 4) (hs : s (83 + a) = (nI ka).toInt64) : ∀ (d g i : Nat), i + d = 4 → ka ≤ i → f_X8_tickets_c5 (g + d) K s W (nI a) (nI b) c (nI i) = f_X8_tickets_c5 g K s W (nI a) (nI b) c (nI 4)
  | 0, g, i, h1, h2 => by rw [show i = 4 by omega]; rfl
  | d + 1, g, i, h1, h2 => by
    rw [← skip_a ha h4 hs d g (i + 1) (by omega) (by omega), ← Nat.add_assoc]
    conv => lhs; unfold f_X8_tickets_c5
    rw [if_neg (fun w => by rw [show (8 : Int32) = nI 8 from rfl, nI_leI (by omega) (by omega)] at w; omega), if_neg (fun w => by rw [show (4 : Int32) = nI 4 from rfl, nI_leI (by omega) (by omega)] at w; omega)]
    unfold f_X8_tickets_c23
    rw [ckp_q (by decide), ad_83, ck_q (by omega) (by omega), nI_clamp (by omega), hs, mod_4 i (by omega), Nat.mod_eq_of_lt (show i < 4 by omega), if_pos (by rw [i2l_le, nI_leI (by omega) (by omega)]; omega)]
    unfold f_X8_tickets_c227
    rw [nm_q, nI_1]
theorem skip_b {s : Nat → Int64} {a b kb : Nat} {c : Int32} {K W : Nat → Int64} (hb : b < 10) (h4 : kb ≤ 4) (hs : s (83 + b) = (nI kb).toInt64) : ∀ (d g i : Nat), i + d = 4 → kb ≤ i → f_X8_tickets_c5 (g + d) K s W (nI a) (nI b) c (nI (4 + i)) = f_X8_tickets_c5 g K s W (nI a) (nI b) c (nI 8)
  | 0, g, i, h1, h2 => by rw [show i = 4 by omega]; rfl
  | d + 1, g, i, h1, h2 => by
    rw [← skip_b hb h4 hs d g (i + 1) (by omega) (by omega), ← Nat.add_assoc]
    conv => lhs; unfold f_X8_tickets_c5
    rw [if_neg (fun w => by rw [show (8 : Int32) = nI 8 from rfl, nI_leI (by omega) (by omega)] at w; omega), if_pos (show (4 : Int32) ≤ nI (4 + i) by rw [show (4 : Int32) = nI 4 from rfl, nI_leI (by omega) (by omega)]; omega)]
    unfold f_X8_tickets_c23
    rw [ckp_q (by decide), ad_83, ck_q (by omega) (by omega), nI_clamp (by omega), hs, mod_4 (4 + i) (by omega), show (4 + i) % 4 = i by omega, if_pos (by rw [i2l_le, nI_leI (by omega) (by omega)]; omega)]
    unfold f_X8_tickets_c227
    rw [nm_q, nI_1, Nat.add_assoc]
theorem knows_both {kn ox : Nat → Int32} {s : Nat → Int64} {a ka : Nat} (ha : a < 10) (hka : kn a = nI ka) (h4 : ka ≤ 4) (hs : s (83 + a) = (kn a).toInt64) (hr : ∀ i, i < ka → s (133 + (4 * a + i)) = (ox (4 * a + i)).toInt64) (o : Int32) : ∀ (d f i : Nat), i + d = ka → d < f → ∃ r, f_X6_knowsOneOf_c2 kn ox f (nI a) o (nI i) = some r ∧ f_X8_knows_c3 s f (nI a) o.toInt64 (nI i) = some r
  | 0, 0, i, h1, h2 => absurd h2 (by omega)
  | d + 1, 0, i, h1, h2 => absurd h2 (by omega)
  | 0, f + 1, i, h1, h2 => by
    refine ⟨0, ?_, ?_⟩
    · unfold f_X6_knowsOneOf_c2
      rw [ck_q (by omega) (by omega), nI_clamp (by omega), hka, if_pos (by rw [nI_leI (by omega) (by omega)]; omega)]
    · unfold f_X8_knows_c3
      rw [ad_83, ck_q (by omega) (by omega), nI_clamp (by omega), hs, hka, if_pos (by rw [i2l_le, nI_leI (by omega) (by omega)]; omega)]
  | d + 1, f + 1, i, h1, h2 => by
    obtain ⟨r, t1, t2⟩ := knows_both ha hka h4 hs hr o d f (i + 1) (by omega) (by omega)
    have e := hr i (by omega)
    by_cases c : ox (4 * a + i) = o
    · refine ⟨1, ?_, ?_⟩
      · unfold f_X6_knowsOneOf_c2
        rw [ck_q (by omega) (by omega), nI_clamp (by omega), hka, if_neg (fun w => by rw [nI_leI (by omega) (by omega)] at w; omega), pl_4, ck_q (by omega) (by omega), nI_clamp (by omega), if_neg (fun h => h c)]
      · unfold f_X8_knows_c3
        rw [ad_83, ck_q (by omega) (by omega), nI_clamp (by omega), hs, hka, if_neg (fun w => by rw [i2l_le, nI_leI (by omega) (by omega)] at w; omega), row_b, ck_q (by omega) (by omega), nI_clamp (by omega), e, if_neg (fun h => h (by rw [c]))]
    · refine ⟨r, ?_, ?_⟩
      · unfold f_X6_knowsOneOf_c2
        rw [ck_q (by omega) (by omega), nI_clamp (by omega), hka, if_neg (fun w => by rw [nI_leI (by omega) (by omega)] at w; omega), pl_4, ck_q (by omega) (by omega), nI_clamp (by omega), if_pos c, nm_q, nI_1]
        exact t1
      · unfold f_X8_knows_c3
        rw [ad_83, ck_q (by omega) (by omega), nI_clamp (by omega), hs, hka, if_neg (fun w => by rw [i2l_le, nI_leI (by omega) (by omega)] at w; omega), row_b, ck_q (by omega) (by omega), nI_clamp (by omega), e, if_pos (fun h => c (i2l_inj.mp h)), nm_q, nI_1]
        exact t2
