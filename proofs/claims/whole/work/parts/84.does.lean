/-! the reference's search -/
def Sr (d : Nat) (x : (Nat → Int64) × (Nat → Int64)) (sums weights : Nat → Int64) : Prop := ∀ m, m < 10 → sums (10 * d + m) = x.1 m ∧ weights (10 * d + m) = x.2 m
def Lk (x : (Nat → Int64) × (Nat → Int64)) (a b : Nat) : Prop := x.1 a = x.1 b ∧ x.2 a = x.2 b
theorem alike_in {n q : Nat} {s : Nat → Int64} (hn : n ≤ 10) (h0 : s 0 = lN n) (hs1 : ∀ m, m < 10 → s (13 + m) = if tb q m then 1 else 0) (hs2 : ∀ m, n ≤ m → m < 10 → tb q m = false) {d : Nat} (hd : d ≤ 4) {x : (Nat → Int64) × (Nat → Int64)} {sums weights : Nat → Int64} (hS : Sr d x sums weights) : ∀ (e f m : Nat), m + e = 10 → e < f → (∀ p, p < 10 → f_X8_areLike_c4 s sums weights f (nI d) (nI p) (nI m) = some (bi (∀ a, m ≤ a → a < 10 → tb q a = true → Lk x p a))) ∧ f_X8_areLike_c4 s sums weights f (nI d) (-1) (nI m) = some (bi (∀ a b, m ≤ a → m ≤ b → a < 10 → b < 10 → tb q a = true → tb q b = true → Lk x a b))
  | 0, 0, m, e1, e2 => absurd e2 (by omega)
  | e + 1, 0, m, e1, e2 => absurd e2 (by omega)
  | 0, f + 1, m, e1, e2 => by
    unfold f_X8_areLike_c4
    have c : (10 : Int32) ≤ nI m := by rw [show (10 : Int32) = nI 10 from rfl]; exact (nI_leI (by omega) (by omega)).mpr (by omega)
    constructor
    · intro p hp
      rw [if_pos c, bi_t (fun a h1 h2 => by omega)]
    · rw [if_pos c, bi_t (fun a b h1 _ h3 => by omega)]
  | e + 1, f + 1, m, e1, e2 => by
    obtain ⟨t1, t2⟩ := alike_in hn h0 hs1 hs2 hd hS e f (m + 1) (by omega) (by omega)
    have hm : m < 10 := by omega
    obtain ⟨a1, a2⟩ := hS m hm
    have c : ¬ (10 : Int32) ≤ nI m := fun z => by rw [show (10 : Int32) = nI 10 from rfl, nI_leI (by omega) (by omega)] at z; omega
    have hh : f_X8_isHere s (nI m) = some (bi (tb q m = true)) := by
      rw [X8_isHere (nI m) hn h0 hs1, nn_I (by omega)]
      congr 1; apply bi_iff
      constructor
      · exact fun z => z.2
      · intro z
        rcases Nat.lt_or_ge m n with w | w
        · exact ⟨vp_in_nI w (by omega), z⟩
        · rw [hs2 m w hm] at z; cases z
    unfold f_X8_areLike_c4 f_X8_areLike_c76 f_X8_areLike_c78
    simp only [if_neg c, hh, bd_q, nm_q, nI_1]
    by_cases b : tb q m = true
    · rw [bi_t b]
      constructor
      · intro p hp
        obtain ⟨b1, b2⟩ := hS p hp
        rw [if_neg (show ¬ (1 : Int32) = 0 by decide), if_neg (fun z => by rw [show (0 : Int32) = nI 0 from rfl, nI_ltI (by omega) (by omega)] at z; omega), mu_10, nI_add, nI_add, ck_q (by omega) (by omega), ck_q (by omega) (by omega), nI_clamp (show 10 * d + m < 2 ^ 31 by omega), nI_clamp (show 10 * d + p < 2 ^ 31 by omega), ck_q (by omega) (by omega), ck_q (by omega) (by omega), a1, a2, b1, b2]
        by_cases g1 : x.1 m = x.1 p
        · rw [if_neg (fun z => z g1)]
          by_cases g2 : x.2 m = x.2 p
          · rw [if_pos g2]
            refine (t1 m hm).trans ?_
            congr 1; apply bi_iff
            constructor
            · intro k a h1 h2 h3
              by_cases ea : a = m
              · subst ea; exact ⟨g1.symm, g2.symm⟩
              · obtain ⟨k1, k2⟩ := k a (by omega) h2 h3
                exact ⟨g1.symm.trans k1, g2.symm.trans k2⟩
            · intro k a h1 h2 h3
              obtain ⟨k1, k2⟩ := k a (by omega) h2 h3
              exact ⟨g1.trans k1, g2.trans k2⟩
          · rw [if_neg g2, bi_f (fun k => g2 (k m (Nat.le_refl _) hm b).2.symm)]
        · rw [if_pos g1, bi_f (fun k => g1 (k m (Nat.le_refl _) hm b).1.symm)]
      · rw [if_neg (show ¬ (1 : Int32) = 0 by decide), if_pos (show (-1 : Int32) < 0 by decide)]
        refine (t1 m hm).trans ?_
        congr 1; apply bi_iff
        constructor
        · intro k a a' h1 h2 h3 h4 h5 h6
          have f1 : ∀ w, m ≤ w → w < 10 → tb q w = true → Lk x m w := fun w w1 w2 w3 => by
            by_cases ew : w = m
            · subst ew; exact ⟨rfl, rfl⟩
            · exact k w (by omega) w2 w3
          obtain ⟨p1, p2⟩ := f1 a h1 h3 h5
          obtain ⟨p3, p4⟩ := f1 a' h2 h4 h6
          exact ⟨p1.symm.trans p3, p2.symm.trans p4⟩
        · intro k a h1 h2 h3
          exact k m a (Nat.le_refl _) (by omega) hm h2 b h3
    · rw [bi_f b]
      constructor
      · intro p hp
        rw [if_pos (show (0 : Int32) = 0 from rfl)]
        refine (t1 p hp).trans ?_
        congr 1; apply bi_iff
        constructor
        · intro k a h1 h2 h3
          by_cases ea : a = m
          · subst ea; exact absurd h3 b
          · exact k a (by omega) h2 h3
        · intro k a h1 h2 h3
          exact k a (by omega) h2 h3
      · rw [if_pos (show (0 : Int32) = 0 from rfl)]
        refine t2.trans ?_
        congr 1; apply bi_iff
        constructor
        · intro k a a' h1 h2 h3 h4 h5 h6
          by_cases ea : a = m
          · subst ea; exact absurd h5 b
          · by_cases eb : a' = m
            · subst eb; exact absurd h6 b
            · exact k a a' (by omega) (by omega) h3 h4 h5 h6
        · intro k a a' h1 h2 h3 h4 h5 h6
          exact k a a' (by omega) (by omega) h3 h4 h5 h6
theorem alike_8 {n q : Nat} {s : Nat → Int64} (hn : n ≤ 10) (h0 : s 0 = lN n) (hs1 : ∀ m, m < 10 → s (13 + m) = if tb q m then 1 else 0) (hs2 : ∀ m, n ≤ m → m < 10 → tb q m = false) {d : Nat} (hd : d ≤ 4) {x : (Nat → Int64) × (Nat → Int64)} {sums weights : Nat → Int64} (hS : Sr d x sums weights) : f_X8_areLike s sums weights (nI d) = some (bi (alk q x)) := by
  have t := (alike_in hn h0 hs1 hs2 hd hS 10 fu 0 (by omega) (fu_ge (by omega))).2
  unfold f_X8_areLike
  rw [show (0 : Int32) = nI 0 from rfl, t]
  congr 1; apply bi_iff
  constructor
  · intro k a b h1 h2 h3 h4; exact k a b (Nat.zero_le _) (Nat.zero_le _) h1 h2 h3 h4
  · intro k a b _ _ h1 h2 h3 h4; exact k a b h1 h2 h3 h4
noncomputable def cpd (d m : Nat) (z : Nat → Int64) : Nat → Int64 := fun i => if 10 * d + 10 + m ≤ i ∧ i < 10 * d + 20 then z (i - 10) else z i
theorem cpd_up {d m : Nat} (hm : m < 10) (z : Nat → Int64) : cpd d (m + 1) (vp_updL z (10 * d + 10 + m) (z (10 * d + m))) = cpd d m z := by
  funext i
  unfold cpd
  by_cases c : 10 * d + 10 + m = i
  · subst c
    rw [if_neg (by omega), if_pos (by omega), upL_s]; congr 1; omega
  · by_cases c2 : 10 * d + 10 + m ≤ i ∧ i < 10 * d + 20
    · rw [if_pos (by omega), if_pos c2, upL_a, if_neg (by omega)]
    · rw [if_neg (by omega), if_neg c2, upL_a, if_neg (by omega)]
theorem evens_in (lesser other : Nat → Int32) {d : Nat} (l : Int32) (hd : d ≤ 3) : ∀ (e f m : Nat) (sums weights : Nat → Int64), m + e = 10 → e < f → f_X8_evens_c2 lesser other f sums weights (nI d) l (nI m) = f_X8_evens_c2 lesser other 1 (cpd d m sums) (cpd d m weights) (nI d) l (nI 10)
  | 0, 0, m, sums, weights, e1, e2 => absurd e2 (by omega)
  | e + 1, 0, m, sums, weights, e1, e2 => absurd e2 (by omega)
  | 0, f + 1, m, sums, weights, e1, e2 => by
    obtain rfl : m = 10 := by omega
    have k : ∀ z : Nat → Int64, cpd d 10 z = z := fun z => by
      funext i; unfold cpd; rw [if_neg (by omega)]
    rw [k, k]
    have c : (10 : Int32) ≤ nI 10 := Int32.le_refl _
    conv => lhs; unfold f_X8_evens_c2
    conv => rhs; unfold f_X8_evens_c2
    rw [if_pos c, if_pos c]
  | e + 1, f + 1, m, sums, weights, e1, e2 => by
    have c : ¬ (10 : Int32) ≤ nI m := fun z => by rw [show (10 : Int32) = nI 10 from rfl, nI_leI (by omega) (by omega)] at z; omega
    have t := evens_in lesser other l hd e f (m + 1) (vp_updL sums (10 * d + 10 + m) (sums (10 * d + m))) (vp_updL weights (10 * d + 10 + m) (weights (10 * d + m))) (by omega) (by omega)
    rw [cpd_up (by omega), cpd_up (by omega)] at t
    conv => lhs; unfold f_X8_evens_c2
    rw [if_neg c, mu_10, show (10 : Int32) = nI 10 from rfl, nI_add, nI_add, nI_add, ck_q (by omega) (by omega), ck_q (by omega) (by omega), nm_q, ck_q (by omega) (by omega), ck_q (by omega) (by omega), nm_q, nm_q, nI_1, nI_clamp (show 10 * d + m < 2 ^ 31 by omega), nI_clamp (show 10 * d + 10 + m < 2 ^ 31 by omega)]
    exact t
theorem evens_8 {lesser other : Nat → Int32} {a b d l : Nat} (hd : d ≤ 3) (hl : l < 45) (hla : lesser l = nI a) (hlb : other l = nI b) (ha : a < 10) (hb : b < 10) (hab : a ≠ b) {x : (Nat → Int64) × (Nat → Int64)} {sums weights : Nat → Int64} (hS : Sr d x sums weights) : ∃ sums' weights', f_X8_evens lesser other sums weights (nI d) (nI l) = some (sums', weights') ∧ Sr (d + 1) (evv a b x) sums' weights' ∧ ∀ i, i < 10 * d + 10 → sums' i = sums i ∧ weights' i = weights i := by
  have t := evens_in lesser other (nI l) hd 10 fu 0 sums weights (by omega) (fu_ge (by omega))
  have k : ∀ (z : Nat → Int64) m, m < 10 → cpd d 0 z (10 * d + 10 + m) = z (10 * d + m) := fun z m hm => by
    unfold cpd; rw [if_pos (by omega)]; congr 1; omega
  unfold f_X8_evens
  rw [show (0 : Int32) = nI 0 from rfl, t]
  unfold f_X8_evens_c2
  rw [if_pos (show (10 : Int32) ≤ nI 10 from Int32.le_refl _), mu_10, show (10 : Int32) = nI 10 from rfl, nI_add, nm_q, ck_q hl (by omega), nI_clamp (show l < 2 ^ 31 by omega), hla, hlb, nI_add, nI_add, ck_q (by omega) (by omega), ck_q hl (by omega), ck_q (by omega) (by omega), nm_q, ck_q hl (by omega), ck_q (by omega) (by omega), ck_q hl (by omega), ck_q (by omega) (by omega), nm_q, ck_q hl (by omega), ck_q (by omega) (by omega), nm_q, ck_q hl (by omega), ck_q (by omega) (by omega), nm_q, ck_q hl (by omega), ck_q (by omega) (by omega), nm_q, ck_q hl (by omega), ck_q (by omega) (by omega), nm_q, nI_clamp (show 10 * d + 10 + a < 2 ^ 31 by omega), nI_clamp (show 10 * d + 10 + b < 2 ^ 31 by omega), k sums a ha, k sums b hb, k weights a ha, k weights b hb, (hS a ha).1, (hS b hb).1, (hS a ha).2, (hS b hb).2]
  refine ⟨_, _, rfl, fun m hm => ?_, fun i hi => ?_⟩
  · obtain ⟨s1, s2⟩ := hS m hm
    show vp_updL (vp_updL (cpd d 0 sums) _ (hlf _)) _ (_ - hlf _) (10 * (d + 1) + m) = vp_updL (vp_updL x.1 b (hlf _)) a (_ - hlf _) m ∧ vp_updL (vp_updL (cpd d 0 weights) _ (hlf _)) _ (_ - hlf _) (10 * (d + 1) + m) = vp_updL (vp_updL x.2 b (hlf _)) a (_ - hlf _) m
    rw [show 10 * (d + 1) + m = 10 * d + 10 + m by omega]
    rw [upL_a, upL_a, upL_a, upL_a, upL_a, upL_a, upL_a, upL_a, k sums m hm, k weights m hm, s1, s2]
    by_cases c1 : m = a
    · have hA : 10 * d + 10 + m = 10 * d + 10 + a := by omega
      rw [if_pos c1, if_pos c1, if_pos hA, if_pos hA]; exact ⟨rfl, rfl⟩
    · have hA : ¬ 10 * d + 10 + m = 10 * d + 10 + a := by omega
      rw [if_neg c1, if_neg c1, if_neg hA, if_neg hA]
      by_cases c2 : m = b
      · have hB : 10 * d + 10 + m = 10 * d + 10 + b := by omega
        rw [if_pos c2, if_pos c2, if_pos hB, if_pos hB]; exact ⟨rfl, rfl⟩
      · have hB : ¬ 10 * d + 10 + m = 10 * d + 10 + b := by omega
        rw [if_neg c2, if_neg c2, if_neg hB, if_neg hB]; exact ⟨rfl, rfl⟩
  · rw [upL_a, upL_a, upL_a, upL_a, if_neg (by omega), if_neg (by omega), if_neg (by omega), if_neg (by omega)]
    unfold cpd
    rw [if_neg (by omega), if_neg (by omega)]; exact ⟨rfl, rfl⟩
def UU (o : Nat) : Nat → Nat → Nat
  | 0, _ => 0
  | r + 1, e => 1 + e * (1 + UU o r o)
theorem UU_s (o r e : Nat) : UU o (r + 1) (e + 1) = UU o r o + UU o (r + 1) e + 1 := by
  show 1 + (e + 1) * (1 + UU o r o) = UU o r o + (1 + e * (1 + UU o r o)) + 1
  rw [Nat.add_mul, Nat.one_mul]; omega
theorem UU_b : ∀ o, o < 46 → ∀ r, r < 4 → UU o r o < 99990 := by decide +kernel
theorem m1_1 (l : Nat) : (nI l + (-1 : Int32)) + (1 : Int32) = nI l := by
  rw [Int32.add_assoc, show (-1 : Int32) + 1 = 0 by decide, Int32.add_zero]
theorem l_m1 (l : Nat) : nI (l + 1) + (-1 : Int32) = nI l := by
  rw [← nI_1, Int32.add_assoc, show (1 : Int32) + -1 = 0 by decide, Int32.add_zero]
/-- the loop of the reference, from a line on, at a depth -/
theorem does_in {n q o len : Nat} {la lb : Nat → Nat} {lesser other : Nat → Int32} {s : Nat → Int64} (hn : n ≤ 10) (h0 : s 0 = lN n) (hs1 : ∀ m, m < 10 → s (13 + m) = if tb q m then 1 else 0) (hs2 : ∀ m, n ≤ m → m < 10 → tb q m = false) (ho : o ≤ 45) (hlen : len ≤ 3) (hl : ∀ l, l < o → lesser l = nI (la l) ∧ other l = nI (lb l) ∧ la l < 10 ∧ lb l < 10 ∧ la l ≠ lb l) : ∀ (r e l d g : Nat) (row : Nat → Int32) (sums weights : Nat → Int64) (x : (Nat → Int64) × (Nat → Int64)), e + l = o → d + (r + 1) = len → row d = nI l + (-1 : Int32) → Sr d x sums weights → ∃ row' sums' weights', (∀ j, j < d → row' j = row j) ∧ (∀ i, i < 10 * d + 10 → sums' i = sums i ∧ weights' i = weights i) ∧ (∀ rr, fst1 (fun l => srch q o la lb r (evv (la l) (lb l) x)) e l = some rr → f_X8_does_c19 (nI o) lesser other s (UU o (r + 1) e + g) row sums weights (nI len) (nI d) = some (row', sums', weights', 1) ∧ ∀ i, i < r + 1 → row' (d + i) = nI (rr.getD i 0)) ∧ (fst1 (fun l => srch q o la lb r (evv (la l) (lb l) x)) e l = none → f_X8_does_c19 (nI o) lesser other s (UU o (r + 1) e + g) row sums weights (nI len) (nI d) = f_X8_does_c19 (nI o) lesser other s g row' sums' weights' (nI len) (nI d + (-1 : Int32)))
  | r, 0, l, d, g, row, sums, weights, x, e1, e2, e3, hS => by
    obtain rfl : l = o := by omega
    refine ⟨upd row d (nI l), sums, weights, fun j hj => by rw [upI_a, if_neg (by omega)], fun i _ => ⟨rfl, rfl⟩, (fun rr h => by cases h), fun _ => ?_⟩
    have hu : UU l (r + 1) 0 + g = g + 1 := by show 1 + 0 * _ + g = _; rw [Nat.zero_mul]; omega
    rw [hu]
    conv => lhs; unfold f_X8_does_c19
    rw [if_neg (fun z => by rw [show (0 : Int32) = nI 0 from rfl, nI_ltI (by omega) (by omega)] at z; omega), ck_q (show d < 5 by omega) (by omega), ck_q (show d < 5 by omega) (by omega), nI_clamp (show d < 2 ^ 31 by omega), e3, m1_1, nm_q, ck_q (show d < 5 by omega) (by omega), upI_s, if_neg (fun z => z rfl), nm_q]
  | r, e + 1, l, d, g, row, sums, weights, x, e1, e2, e3, hS => by
    obtain ⟨l1, l2, l3, l4, l5⟩ := hl l (by omega)
    obtain ⟨sums1, weights1, v1, v2, v3⟩ := evens_8 (d := d) (l := l) (by omega) (by omega) l1 l2 l3 l4 l5 hS
    have hS1 : Sr d x sums1 weights1 := fun m hm => by
      obtain ⟨w1, w2⟩ := v3 (10 * d + m) (by omega)
      rw [w1, w2]; exact hS m hm
    have hst : f_X8_does_c19 (nI o) lesser other s (UU o (r + 1) (e + 1) + g) row sums weights (nI len) (nI d) = if nI len ≤ nI (d + 1) then (bd (f_X8_areLike s sums1 weights1 (nI len)) fun R_10 => if R_10 = 0 then f_X8_does_c19 (nI o) lesser other s (UU o r o + UU o (r + 1) e + g) (upd row d (nI l)) sums1 weights1 (nI len) (nI d) else some (upd row d (nI l), sums1, weights1, 1)) else f_X8_does_c19 (nI o) lesser other s (UU o r o + UU o (r + 1) e + g) (upd (upd row d (nI l)) (d + 1) (-1)) sums1 weights1 (nI len) (nI (d + 1)) := by
      rw [UU_s, show UU o r o + UU o (r + 1) e + 1 + g = (UU o r o + UU o (r + 1) e + g) + 1 by omega]
      conv => lhs; unfold f_X8_does_c19
      rw [if_neg (fun z => by rw [show (0 : Int32) = nI 0 from rfl, nI_ltI (by omega) (by omega)] at z; omega), ck_q (show d < 5 by omega) (by omega), ck_q (show d < 5 by omega) (by omega), nI_clamp (show d < 2 ^ 31 by omega), e3, m1_1, nm_q, ck_q (show d < 5 by omega) (by omega), upI_s, if_pos (fun z => by rw [nI_eq (by omega) (by omega)] at z; omega), ck_q (show d < 5 by omega) (by omega), v1, bd_q, nI_1]
      dsimp only
      by_cases c : nI len ≤ nI (d + 1)
      · rw [if_pos c, if_pos c]
      · rw [if_neg c, if_neg c, nm_q]
        have c' : ¬ len ≤ d + 1 := fun z => c ((nI_leI (by omega) (by omega)).mpr z)
        rw [ck_q (show d + 1 < 5 by omega) (by omega), nI_clamp (show d + 1 < 2 ^ 31 by omega), nm_q]
    have hf : fst1 (fun l => srch q o la lb r (evv (la l) (lb l) x)) (e + 1) l = (match srch q o la lb r (evv (la l) (lb l) x) with | some r' => some (l :: r') | none => fst1 (fun l => srch q o la lb r (evv (la l) (lb l) x)) e (l + 1)) := rfl
    match r, hst, hf, e2 with
    | 0, hst, hf, e2 =>
      have ek : len = d + 1 := by omega
      subst ek
      rw [if_pos (Int32.le_refl _), alike_8 hn h0 hs1 hs2 (by omega) v2, bd_q] at hst
      by_cases c : alk q (evv (la l) (lb l) x)
      · rw [bi_t c, if_neg (show ¬ (1 : Int32) = 0 by decide)] at hst
        have hq : srch q o la lb 0 (evv (la l) (lb l) x) = some [] := if_pos c
        rw [hq] at hf
        refine ⟨_, _, _, fun j hj => ?_, v3, fun rr h => ⟨hst, fun i hi => ?_⟩, fun h => by rw [hf] at h; cases h⟩
        · rw [upI_a, if_neg (by omega)]
        · rw [hf] at h
          obtain rfl := Option.some.inj h
          obtain rfl : i = 0 := by omega
          rw [Nat.add_zero, upI_s]; rfl
      · rw [bi_f c, if_pos (show (0 : Int32) = 0 from rfl)] at hst
        have hq : srch q o la lb 0 (evv (la l) (lb l) x) = none := if_neg c
        rw [hq] at hf
        obtain ⟨row', sums', weights', g1, g2, g3, g4⟩ := does_in hn h0 hs1 hs2 ho hlen hl 0 e (l + 1) d g (upd row d (nI l)) sums1 weights1 x (by omega) e2 (by rw [upI_s, l_m1]) hS1
        have hu : UU o 0 o + UU o (0 + 1) e + g = UU o (0 + 1) e + g := by show 0 + _ + g = _; omega
        rw [hu] at hst
        refine ⟨row', sums', weights', fun j hj => ?_, fun i hi => ?_, fun rr h => ?_, fun h => ?_⟩
        · rw [g1 j hj, upI_a, if_neg (by omega)]
        · obtain ⟨k1, k2⟩ := g2 i hi
          obtain ⟨k3, k4⟩ := v3 i hi
          exact ⟨k1.trans k3, k2.trans k4⟩
        · rw [hf] at h
          rw [hst]; exact g3 rr h
        · rw [hf] at h
          rw [hst]; exact g4 h
    | r + 1, hst, hf, e2 =>
      rw [if_neg (fun z => by rw [nI_leI (by omega) (by omega)] at z; omega)] at hst
      have hx : UU o (r + 1) o + UU o (r + 1 + 1) e + g = UU o (r + 1) o + (UU o (r + 1 + 1) e + g) := by omega
      rw [hx] at hst
      obtain ⟨row1, sums2, weights2, g1, g2, g3, g4⟩ := does_in hn h0 hs1 hs2 ho hlen hl r o 0 (d + 1) (UU o (r + 1 + 1) e + g) (upd (upd row d (nI l)) (d + 1) (-1)) sums1 weights1 (evv (la l) (lb l) x) (by omega) (by omega) (by rw [upI_s]; decide) v2
      have hrow : row1 d = nI l := by rw [g1 d (by omega), upI_a, if_neg (by omega), upI_s]
      have hsame : ∀ j, j < d → row1 j = row j := fun j hj => by rw [g1 j (by omega), upI_a, if_neg (by omega), upI_a, if_neg (by omega)]
      cases hq : srch q o la lb (r + 1) (evv (la l) (lb l) x) with
      | some r' =>
        rw [hq] at hf
        obtain ⟨k1, k2⟩ := g3 r' hq
        rw [k1] at hst
        refine ⟨row1, sums2, weights2, hsame, fun i hi => ?_, fun rr h => ⟨hst, fun i hi => ?_⟩, fun h => by rw [hf] at h; cases h⟩
        · obtain ⟨p1, p2⟩ := g2 i (by omega)
          obtain ⟨p3, p4⟩ := v3 i hi
          exact ⟨p1.trans p3, p2.trans p4⟩
        · rw [hf] at h
          obtain rfl := Option.some.inj h
          cases i with
          | zero => rw [Nat.add_zero, hrow]; rfl
          | succ i => rw [show d + (i + 1) = d + 1 + i by omega, k2 i (by omega)]; rfl
      | none =>
        rw [hq] at hf
        rw [g4 hq, l_m1] at hst
        obtain ⟨row', sums', weights', u1, u2, u3, u4⟩ := does_in hn h0 hs1 hs2 ho hlen hl (r + 1) e (l + 1) d g row1 sums2 weights2 x (by omega) e2 (by rw [hrow, l_m1]) (fun m hm => by
          obtain ⟨p1, p2⟩ := g2 (10 * d + m) (by omega)
          rw [p1, p2]; exact hS1 m hm)
        refine ⟨row', sums', weights', fun j hj => (u1 j hj).trans (hsame j hj), fun i hi => ?_, fun rr h => ?_, fun h => ?_⟩
        · obtain ⟨p1, p2⟩ := g2 i (by omega)
          obtain ⟨p3, p4⟩ := v3 i hi
          obtain ⟨p5, p6⟩ := u2 i hi
          exact ⟨p5.trans (p1.trans p3), p6.trans (p2.trans p4)⟩
        · rw [hf] at h
          rw [hst]; exact u3 rr h
        · rw [hf] at h
          rw [hst]; exact u4 h
  termination_by r e => (r, e)
theorem does_8 {n q o len : Nat} {la lb : Nat → Nat} {lesser other : Nat → Int32} {s : Nat → Int64} (hn : n ≤ 10) (h0 : s 0 = lN n) (hs1 : ∀ m, m < 10 → s (13 + m) = if tb q m then 1 else 0) (hs2 : ∀ m, n ≤ m → m < 10 → tb q m = false) (ho : o ≤ 45) (hlen : len ≤ 3) (hl : ∀ l, l < o → lesser l = nI (la l) ∧ other l = nI (lb l) ∧ la l < 10 ∧ lb l < 10 ∧ la l ≠ lb l) (row : Nat → Int32) {sums weights : Nat → Int64} {x : (Nat → Int64) × (Nat → Int64)} (hS : Sr 0 x sums weights) : ∃ row' sums' weights' r, f_X8_does (nI o) lesser other s row sums weights (nI len) = some (row', sums', weights', r) ∧ Sr 0 x sums' weights' ∧ Res (srch q o la lb len x) len 0 row' r := by
  unfold f_X8_does
  rw [show (0 : Int32) = nI 0 from rfl, ck_q (show 0 < 5 by omega) (by omega), nI_clamp (show 0 < 2 ^ 31 by omega), nm_q]
  match len, hlen with
  | 0, hlen =>
    rw [if_neg (fun z => z rfl), alike_8 hn h0 hs1 hs2 (by omega) hS, bd_q, ckp_q (nb_bi _)]
    refine ⟨_, _, _, _, rfl, hS, ?_⟩
    unfold srch
    by_cases c : alk q x
    · rw [if_pos c, bi_t c]
      exact ⟨(fun z => by cases z), fun rr _ => ⟨rfl, fun i hi => absurd hi (by omega)⟩⟩
    · rw [if_neg c, bi_f c]; exact Res.no
  | r + 1, hlen =>
    rw [if_pos (fun z => by rw [nI_eq (by omega) (by omega)] at z; omega)]
    have hb := UU_b o (by omega) (r + 1) (by omega)
    obtain ⟨row', sums', weights', g1, g2, g3, g4⟩ := does_in hn h0 hs1 hs2 ho hlen hl r o 0 0 (fu - UU o (r + 1) o) (upd row 0 (-1)) sums weights x (by omega) (by omega) (by rw [upI_s]; decide) hS
    have hfu : fu = 100000 := rfl
    rw [show UU o (r + 1) o + (fu - UU o (r + 1) o) = fu by omega] at g3 g4
    have hS' : Sr 0 x sums' weights' := fun m hm => by
      obtain ⟨p1, p2⟩ := g2 (10 * 0 + m) (by omega)
      rw [p1, p2]; exact hS m hm
    have hq : srch q o la lb (r + 1) x = fst1 (fun l => srch q o la lb r (evv (la l) (lb l) x)) o 0 := rfl
    rw [hq]
    cases hf : fst1 (fun l => srch q o la lb r (evv (la l) (lb l) x)) o 0 with
    | some rr =>
      obtain ⟨k1, k2⟩ := g3 rr hf
      refine ⟨row', sums', weights', 1, k1, hS', ⟨(fun z => by cases z), fun r' z => ⟨rfl, fun i hi => ?_⟩⟩⟩
      obtain rfl := Option.some.inj z
      exact k2 i hi
    | none =>
      have k := g4 hf
      refine ⟨row', sums', weights', 0, ?_, hS', Res.no⟩
      refine k.trans ?_
      rw [show fu - UU o (r + 1) o = (fu - UU o (r + 1) o - 1) + 1 by omega]
      unfold f_X8_does_c19
      rw [if_pos (show nI 0 + (-1 : Int32) < 0 by decide)]
