/-! the cuts of the class, and its crowd -/
theorem like_X4 {ms mw : Nat → Int64} {a b : Nat} (ha : a < 10) (hb : b < 10) : f_X4_isLike ms mw (nI a) (nI b) = some (bi (ms a = ms b ∧ mw a = mw b)) := by
  unfold f_X4_isLike
  rw [ck_q ha (by omega), ck_q hb (by omega), nI_clamp (show a < 2 ^ 31 by omega), nI_clamp (show b < 2 ^ 31 by omega), ck_q ha (by omega), ck_q hb (by omega)]
  by_cases h1 : ms a = ms b
  · rw [if_neg (fun z => z h1)]
    by_cases h2 : mw a = mw b
    · rw [if_neg (fun z => z h2), bi_t ⟨h1, h2⟩]
    · rw [if_pos h2, bi_f (fun z => h2 z.2)]
  · rw [if_pos h1, bi_f (fun z => h1 z.1)]
theorem most_X4 {cs u most : Nat} (crowd : Nat → Int32) (ms mw : Nat → Int64) (hu : u < 1000) (hm : most < 1000) : f_X4_hasUnlikeAtMost_c48 (nI cs) crowd ms mw (nI most) (nI u) = some (bi (u ≤ most)) := by
  unfold f_X4_hasUnlikeAtMost_c48
  rw [ite_01]
  congr 1; apply bi_iff
  rw [nI_ltI (by omega) (by omega)]; omega
theorem unlike_X4 {cs : Nat} {c : Nat → Nat} {crowd : Nat → Int32} {ms mw : Nat → Int64} (hcs : cs ≤ 10) (hc : ∀ i, i < cs → crowd i = nI (c i) ∧ c i < 10) {m most : Nat} (hm : m < 10) (hmo : most < 1000) : ∀ (d f u i : Nat), i + d = cs → d < f → u + d < 1000 → f_X4_hasUnlikeAtMost_c5 (nI cs) crowd ms mw f (nI m) (nI most) (nI u) (nI i) = some (bi (u + sumF (fun t => cb (unl c (ms, mw) m t)) i d ≤ most))
  | 0, 0, u, i, e1, e2, e3 => absurd e2 (by omega)
  | d + 1, 0, u, i, e1, e2, e3 => absurd e2 (by omega)
  | 0, f + 1, u, i, e1, e2, e3 => by
    unfold f_X4_hasUnlikeAtMost_c5
    rw [if_pos ((nI_leI (by omega) (by omega)).mpr (by omega)), most_X4 crowd ms mw (by omega) hmo]; rfl
  | d + 1, f + 1, u, i, e1, e2, e3 => by
    have hs : sumF (fun t => cb (unl c (ms, mw) m t)) i (d + 1) = cb (unl c (ms, mw) m i) + sumF (fun t => cb (unl c (ms, mw) m t)) (i + 1) d := rfl
    obtain ⟨c1, c2⟩ := hc i (by omega)
    unfold f_X4_hasUnlikeAtMost_c5
    rw [if_neg (fun z => by rw [nI_leI (by omega) (by omega)] at z; omega)]
    by_cases w : most < u
    · rw [if_pos ((nI_ltI (by omega) (by omega)).mpr w), most_X4 crowd ms mw (by omega) hmo, bi_f (by omega), bi_f (by omega)]
    · have t := fun u' => unlike_X4 (c := c) (crowd := crowd) (ms := ms) (mw := mw) hcs hc hm hmo d f u' (i + 1) (by omega) (by omega)
      rw [if_neg (fun z => w ((nI_ltI (by omega) (by omega)).mp z)), ck_q (show i < 10 by omega) (by omega), nI_clamp (show i < 2 ^ 31 by omega), c1, like_X4 hm c2, bd_q, hs]
      unfold f_X4_hasUnlikeAtMost_c40
      by_cases k : ms m = ms (c i) ∧ mw m = mw (c i)
      · rw [bi_t k, if_neg (show ¬ (1 : Int32) = 0 by decide), nm_q, nm_q, nI_1, Int32.add_zero, show unl c (ms, mw) m i = false from decide_eq_false (fun z => z k), show cb false = 0 from rfl, Nat.zero_add]
        exact t u (by omega)
      · rw [bi_f k, if_pos (show (0 : Int32) = 0 from rfl), nm_q, nm_q, nI_1, nI_1, show unl c (ms, mw) m i = true from decide_eq_true k, show cb true = 1 from rfl, ← Nat.add_assoc]
        exact t (u + 1) (by omega)
theorem near_in {cs j : Nat} {c : Nat → Nat} {crowd : Nat → Int32} {ms mw : Nat → Int64} (hcs : cs ≤ 10) (hc : ∀ i, i < cs → crowd i = nI (c i) ∧ c i < 10) (hj : j < 100) : ∀ (d f i : Nat), i + d = cs → d < f → f_X4_isNear_c16 (nI cs) crowd ms mw f (nI (2 * j)) (nI i) = some (bi (∃ t, i ≤ t ∧ t ≤ 2 * j ∧ t < cs ∧ sumF (fun w => cb (unl c (ms, mw) (c t) w)) 0 cs ≤ 2 * j))
  | 0, 0, i, e1, e2 => absurd e2 (by omega)
  | d + 1, 0, i, e1, e2 => absurd e2 (by omega)
  | 0, f + 1, i, e1, e2 => by
    unfold f_X4_isNear_c16
    rw [if_pos (show nI cs ≤ nI i from (nI_leI (by omega) (by omega)).mpr (by omega)), ite_self, bi_f (fun ⟨t, t1, t2, t3, _⟩ => by omega)]
  | d + 1, f + 1, i, e1, e2 => by
    have t := near_in (c := c) (crowd := crowd) (ms := ms) (mw := mw) hcs hc hj d f (i + 1) (by omega) (by omega)
    obtain ⟨c1, c2⟩ := hc i (by omega)
    have hu : f_X4_hasUnlikeAtMost (nI cs) crowd ms mw (nI (c i)) (nI (2 * j)) = some (bi (sumF (fun w => cb (unl c (ms, mw) (c i) w)) 0 cs ≤ 2 * j)) := by
      have := unlike_X4 (c := c) (crowd := crowd) (ms := ms) (mw := mw) hcs hc c2 (show 2 * j < 1000 by omega) cs fu 0 0 (by omega) (fu_ge (by omega)) (by omega)
      rw [Nat.zero_add] at this; exact this
    unfold f_X4_isNear_c16
    by_cases w : 2 * j < i
    · rw [if_pos ((nI_ltI (by omega) (by omega)).mpr w), bi_f (fun ⟨t, t1, t2, _⟩ => by omega)]
    · rw [if_neg (fun z => w ((nI_ltI (by omega) (by omega)).mp z)), if_neg (fun z => by rw [nI_leI (by omega) (by omega)] at z; omega), ck_q (show i < 10 by omega) (by omega), nI_clamp (show i < 2 ^ 31 by omega), c1, hu, bd_q]
      by_cases k : sumF (fun w => cb (unl c (ms, mw) (c i) w)) 0 cs ≤ 2 * j
      · rw [bi_t k, if_neg (show ¬ (1 : Int32) = 0 by decide), bi_t ⟨i, Nat.le_refl _, by omega, by omega, k⟩]
      · rw [bi_f k, if_pos (show (0 : Int32) = 0 from rfl), nm_q, nI_1]
        refine t.trans ?_
        congr 1; apply bi_iff
        constructor
        · rintro ⟨t, t1, t2, t3, t4⟩; exact ⟨t, by omega, t2, t3, t4⟩
        · rintro ⟨t, t1, t2, t3, t4⟩
          by_cases e : t = i
          · subst e; exact absurd t4 k
          · exact ⟨t, by omega, t2, t3, t4⟩
theorem near_X4 {cs : Nat} {c : Nat → Nat} {crowd : Nat → Int32} (ms mw : Nat → Int64) (hcs : cs ≤ 10) (hc : ∀ i, i < cs → crowd i = nI (c i) ∧ c i < 10) (j : Nat) (hj : j < 100) : f_X4_isNear (nI cs) crowd ms mw (nI j) = some (bi (near cs c j (ms, mw))) := by
  have t := near_in (c := c) (crowd := crowd) (ms := ms) (mw := mw) hcs hc hj cs fu 0 (by omega) (fu_ge (by omega))
  unfold f_X4_isNear
  rw [show (2 : Int32) = nI 2 from rfl, pk_mul, nm_q]
  by_cases w : 2 * j < cs
  · rw [if_pos ((nI_ltI (by omega) (by omega)).mpr w), show (0 : Int32) = nI 0 from rfl, t]
    congr 1; apply bi_iff
    unfold near
    constructor
    · rintro ⟨t, t1, t2, t3, t4⟩; exact Or.inr ⟨t, t2, t3, t4⟩
    · rintro (h | ⟨t, t2, t3, t4⟩)
      · omega
      · exact ⟨t, Nat.zero_le _, t2, t3, t4⟩
  · rw [if_neg (fun z => w ((nI_ltI (by omega) (by omega)).mp z)), bi_t (show near cs c j (ms, mw) from Or.inl (by omega))]
def CI (q m N : Nat) (c : Nat → Nat) (crowd : Nat → Int32) : Prop := N ≤ m ∧ (∀ i, i < N → crowd i = nI (c i) ∧ c i < m ∧ tb q (c i) = true) ∧ (∀ i j, i < j → j < N → c i < c j) ∧ ∀ k, k < m → tb q k = true → ∃ i, i < N ∧ c i = k
theorem start_in {n q : Nat} (hn : n ≤ 10) (hq : q < 1024) (a b : Nat → Int64) (x y : Nat → Int64) : ∀ (d f m N : Nat) (c : Nat → Nat) (crowd : Nat → Int32), m + d = n → d < f → CI q m N c crowd → ∃ N' c' crowd', f_X4_start_c23 (nI n) (nI q) a b f (nI N) crowd x y (nI m) = some (nI N', crowd', x, y) ∧ CI q n N' c' crowd'
  | 0, 0, m, N, c, crowd, e1, e2, hI => absurd e2 (by omega)
  | d + 1, 0, m, N, c, crowd, e1, e2, hI => absurd e2 (by omega)
  | 0, f + 1, m, N, c, crowd, e1, e2, hI => by
    obtain rfl : m = n := by omega
    refine ⟨N, c, crowd, ?_, hI⟩
    unfold f_X4_start_c23
    rw [if_pos (Int32.le_refl _)]
  | d + 1, f + 1, m, N, c, crowd, e1, e2, hI => by
    have t := start_in hn hq a b x y d f (m + 1)
    obtain ⟨i1, i2, i3, i4⟩ := hI
    unfold f_X4_start_c23 f_X4_start_c59
    rw [if_neg (fun z => by rw [nI_leI (by omega) (by omega)] at z; omega), X5_isHere hq (show m < 10 by omega), bd_q]
    by_cases h : tb q m = true
    · rw [bi_t h, if_neg (show ¬ (1 : Int32) = 0 by decide), ck_q (show N < 10 by omega) (by omega), nI_clamp (show N < 2 ^ 31 by omega), nm_q, nm_q, nm_q, nI_1, nI_1]
      refine t (N + 1) (fun i => if i = N then m else c i) (upd crowd N (nI m)) (by omega) (by omega) ⟨by omega, fun i hi => ?_, fun i j h1 h2 => ?_, fun k hk hb => ?_⟩
      · show upd crowd N (nI m) i = nI (if i = N then m else c i) ∧ (if i = N then m else c i) < m + 1 ∧ tb q (if i = N then m else c i) = true
        rw [upI_a]
        by_cases e : i = N
        · rw [if_pos e, if_pos e]; exact ⟨rfl, by omega, h⟩
        · rw [if_neg e, if_neg e]
          obtain ⟨g1, g2, g3⟩ := i2 i (by omega)
          exact ⟨g1, by omega, g3⟩
      · dsimp only
        rw [if_neg (show ¬ i = N by omega)]
        by_cases e : j = N
        · rw [if_pos e]; exact (i2 i (by omega)).2.1
        · rw [if_neg e]; exact i3 i j h1 (by omega)
      · by_cases e : k = m
        · exact ⟨N, by omega, (show (if N = N then m else c N) = m from if_pos rfl).trans e.symm⟩
        · obtain ⟨i, h1, h2⟩ := i4 k (by omega) hb
          exact ⟨i, by omega, (show (if i = N then m else c i) = c i from if_neg (by omega)).trans h2⟩
    · rw [bi_f h, if_pos (show (0 : Int32) = 0 from rfl), nm_q, nI_1]
      refine t N c crowd (by omega) (by omega) ⟨by omega, fun i hi => ?_, i3, fun k hk hb => ?_⟩
      · obtain ⟨g1, g2, g3⟩ := i2 i hi
        exact ⟨g1, by omega, g3⟩
      · by_cases e : k = m
        · subst e; exact absurd hb h
        · exact i4 k (by omega) hb
theorem start_X4 {n q : Nat} (hn : n ≤ 10) (hq : q < 1024) (hs2 : ∀ m, n ≤ m → m < 10 → tb q m = false) (a b x y : Nat → Int64) (z : Int32) (crowd : Nat → Int32) : ∃ cs c crowd', f_X4_start (nI n) (nI q) a b z crowd x y = some (nI cs, crowd', va_cpy a x 0 0 10, va_cpy b y 0 0 10) ∧ CR q cs c ∧ cs ≤ 10 ∧ ∀ i, i < cs → crowd' i = nI (c i) ∧ c i < 10 := by
  obtain ⟨cs, c, crowd', t1, i1, i2, i3, i4⟩ := start_in hn hq a b (va_cpy a x 0 0 10) (va_cpy b y 0 0 10) n fu 0 0 (fun i => i) crowd (by omega) (fu_ge (by omega)) ⟨Nat.le_refl _, fun i hi => absurd hi (by omega), fun i j h1 h2 => absurd h2 (by omega), fun k hk => absurd hk (by omega)⟩
  refine ⟨cs, c, crowd', ?_, ⟨fun i hi => ⟨?_, (i2 i hi).2.2⟩, fun i j h1 h2 => Nat.ne_of_lt (i3 i j h1 h2), fun m hm hb => ?_⟩, by omega, fun i hi => ⟨(i2 i hi).1, ?_⟩⟩
  · unfold f_X4_start
    rw [X3_copy 10 (by decide), bd_q]; exact t1
  · have := (i2 i hi).2.1; omega
  · rcases Nat.lt_or_ge m n with h | h
    · exact i4 m h hb
    · rw [hs2 m h hm] at hb; cases hb
  · have := (i2 i hi).2.1; omega
