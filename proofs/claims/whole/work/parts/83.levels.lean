/-! the class's search: a level for each talk -/
def Res (res : Option (List Nat)) (n d : Nat) (row' : Nat → Int32) (r : Int32) : Prop := (res = none → r = 0) ∧ ∀ rr, res = some rr → r = 1 ∧ ∀ i, i < n → row' (d + i) = nI (rr.getD i 0)
theorem Res.v {res : Option (List Nat)} {n d : Nat} {row' : Nat → Int32} {r : Int32} (h : Res res n d row' r) : r = 0 ∨ r = 1 := by
  cases res with
  | none => exact Or.inl (h.1 rfl)
  | some rr => exact Or.inr (h.2 rr rfl).1
theorem Res.no {n d : Nat} {row' : Nat → Int32} : Res none n d row' 0 := ⟨fun _ => rfl, fun rr h => by cases h⟩
theorem Res.leaf {N : Nat → (Nat → Int64) × (Nat → Int64) → Prop} {o k d : Nat} {la lb : Nat → Nat} {x : (Nat → Int64) × (Nat → Int64)} {row' : Nat → Int32} : Res (csr N o la lb (k - k) x) (k - k) d row' (bi (N 0 x)) := by
  rw [Nat.sub_self]
  unfold csr
  by_cases h : N 0 x
  · rw [if_pos h, bi_t h]
    exact ⟨(fun z => by cases z), fun rr _ => ⟨rfl, fun i hi => absurd hi (by omega)⟩⟩
  · rw [if_neg h, bi_f h]; exact Res.no
theorem nI_sub {a b : Nat} (h : b ≤ a) : nI a - nI b = nI (a - b) := by
  rw [Int32.sub_eq_iff_eq_add, nI_add]; congr 1; omega
theorem ev_back1 {a b : Nat} {x : (Nat → Int64) × (Nat → Int64)} (hab : a ≠ b) : vp_updL (vp_updL (evv a b x).1 a (x.1 a)) b (x.1 b) = x.1 := by
  funext j
  rw [upL_a, upL_a]
  by_cases c : j = b
  · rw [if_pos c, c]
  · rw [if_neg c]
    by_cases c2 : j = a
    · rw [if_pos c2, c2]
    · rw [if_neg c2]; exact (ev_out c2 c).1
theorem ev_back2 {a b : Nat} {x : (Nat → Int64) × (Nat → Int64)} (hab : a ≠ b) : vp_updL (vp_updL (evv a b x).2 a (x.2 a)) b (x.2 b) = x.2 := by
  funext j
  rw [upL_a, upL_a]
  by_cases c : j = b
  · rw [if_pos c, c]
  · rw [if_neg c]
    by_cases c2 : j = a
    · rw [if_pos c2, c2]
    · rw [if_neg c2]; exact (ev_out c2 c).2
theorem evens_L0 {o cs k : Nat} {la lb c : Nat → Nat} {crowd lesser other : Nat → Int32} (hcs : cs ≤ 10) (hc : ∀ i, i < cs → crowd i = nI (c i) ∧ c i < 10) (ho : o ≤ 45) (hk : 3 ≤ k) (hk3 : k ≤ 3) (hl : ∀ l, l < o → lesser l = nI (la l) ∧ other l = nI (lb l) ∧ la l < 10 ∧ lb l < 10 ∧ la l ≠ lb l) (x : (Nat → Int64) × (Nat → Int64)) (row : Nat → Int32) : ∃ row' r, f_X4_evensOut_L0 (nI cs) crowd (nI o) lesser other x.1 x.2 row (nI 3) (nI k) = some (row', r) ∧ (∀ i, i < 3 → row' i = row i) ∧ Res (csr (near cs c) o la lb (k - 3) x) (k - 3) 3 row' r := by
  obtain rfl : k = 3 := by omega
  unfold f_X4_evensOut_L0
  rw [if_pos (Int32.le_refl _)]
  refine ⟨row, bi (near cs c 0 x), ?_, fun i _ => rfl, Res.leaf⟩
  unfold f_X4_evensOut_L0_c10
  rw [show (0 : Int32) = nI 0 from rfl, near_X4 x.1 x.2 hcs hc 0 (by omega), bd_q, ckp_q (nb_bi _)]
theorem back_L1 {o cs a b : Nat} {crowd lesser other row : Nat → Int32} {x : (Nat → Int64) × (Nat → Int64)} (ha : a < 10) (hb : b < 10) (hab : a ≠ b) (v : Int32) (hv : v = 0 ∨ v = 1) : f_X4_evensOutOver_L1_c112 (nI cs) crowd (nI o) lesser other (evv a b x).1 (evv a b x).2 row (nI a) (nI b) (x.1 a) (x.2 a) (x.1 b) (x.2 b) v = some (x.1, x.2, row, v) := by
  unfold f_X4_evensOutOver_L1_c112
  rw [put_X3 _ _ ha (by omega), bd_q]
  dsimp only
  rw [put_X3 _ _ hb (by omega), bd_q, ckp_q (nb_v hv), ev_back1 hab, ev_back2 hab]
theorem over_L1 {o cs k a b : Nat} {la lb : Nat → Nat} {N : Nat → (Nat → Int64) × (Nat → Int64) → Prop} {crowd lesser other : Nat → Int32} (hB : ∀ (x : (Nat → Int64) × (Nat → Int64)) (row : Nat → Int32), ∃ row' r, f_X4_evensOut_L0 (nI cs) crowd (nI o) lesser other x.1 x.2 row (nI 3) (nI k) = some (row', r) ∧ (∀ i, i < 3 → row' i = row i) ∧ Res (csr N o la lb (k - 3) x) (k - 3) 3 row' r) (ha : a < 10) (hb : b < 10) (hab : a ≠ b) (x : (Nat → Int64) × (Nat → Int64)) (row : Nat → Int32) : ∃ row' r, f_X4_evensOutOver_L1 (nI cs) crowd (nI o) lesser other x.1 x.2 row (nI a) (nI b) (nI 2) (nI k) = some (x.1, x.2, row', r) ∧ (∀ i, i < 3 → row' i = row i) ∧ Res (@ite _ (idl a x (evv a b x)) (Classical.propDecidable _) none (csr N o la lb (k - 3) (evv a b x))) (k - 3) 3 row' r := by
  obtain ⟨row', r, h1, h2, h3⟩ := hB (evv a b x) row
  have e : f_X3_even 10 x.1 x.2 (nI a) (nI b) = some ((evv a b x).1, (evv a b x).2) := even_X3 ha hb (by omega)
  unfold f_X4_evensOutOver_L1
  rw [ck_q ha (by omega), nI_clamp (show a < 2 ^ 31 by omega), nm_q, ck_q ha (by omega), nm_q, ck_q hb (by omega), nI_clamp (show b < 2 ^ 31 by omega), nm_q, ck_q hb (by omega), nm_q, e, bd_q, ck_q ha (by omega), ck_q ha (by omega)]
  dsimp only
  have go : ¬ idl a x (evv a b x) → ∃ row' r, f_X4_evensOutOver_L1_c88 (nI cs) crowd (nI o) lesser other (evv a b x).1 (evv a b x).2 row (nI a) (nI b) (nI 2) (nI k) (x.1 a) (x.2 a) (x.1 b) (x.2 b) 1 = some (x.1, x.2, row', r) ∧ (∀ i, i < 3 → row' i = row i) ∧ Res (@ite _ (idl a x (evv a b x)) (Classical.propDecidable _) none (csr N o la lb (k - 3) (evv a b x))) (k - 3) 3 row' r := by
    intro hi
    refine ⟨row', r, ?_, h2, by rw [if_neg hi]; exact h3⟩
    unfold f_X4_evensOutOver_L1_c88
    rw [if_neg (show ¬ (1 : Int32) = 0 by decide), nI_1, h1, bd_q]
    dsimp only
    rcases h3.v with hr | hr
    · subst hr
      rw [if_pos (show (0 : Int32) = 0 from rfl)]
      unfold f_X4_evensOutOver_L1_c111
      exact back_L1 ha hb hab 0 (Or.inl rfl)
    · subst hr
      rw [if_neg (show ¬ (1 : Int32) = 0 by decide)]
      exact back_L1 ha hb hab 1 (Or.inr rfl)
  by_cases c1 : (evv a b x).1 a = x.1 a
  · rw [if_neg (fun z => z c1)]
    by_cases c2 : (evv a b x).2 a = x.2 a
    · rw [if_pos c2]
      refine ⟨row, 0, ?_, fun i _ => rfl, by rw [if_pos ⟨c1, c2⟩]; exact Res.no⟩
      unfold f_X4_evensOutOver_L1_c88 f_X4_evensOutOver_L1_c111
      rw [if_pos (show (0 : Int32) = 0 from rfl)]
      exact back_L1 ha hb hab 0 (Or.inl rfl)
    · rw [if_neg c2]
      exact go (fun z => c2 z.2)
  · rw [if_pos c1]
    exact go (fun z => c1 z.1)
theorem loop_L1 {o cs k : Nat} {la lb : Nat → Nat} {N : Nat → (Nat → Int64) × (Nat → Int64) → Prop} {crowd lesser other : Nat → Int32} (hB : ∀ (x : (Nat → Int64) × (Nat → Int64)) (row : Nat → Int32), ∃ row' r, f_X4_evensOut_L0 (nI cs) crowd (nI o) lesser other x.1 x.2 row (nI 3) (nI k) = some (row', r) ∧ (∀ i, i < 3 → row' i = row i) ∧ Res (csr N o la lb (k - 3) x) (k - 3) 3 row' r) (ho : o ≤ 45) (hk : 2 < k) (hl : ∀ l, l < o → lesser l = nI (la l) ∧ other l = nI (lb l) ∧ la l < 10 ∧ lb l < 10 ∧ la l ≠ lb l) (x : (Nat → Int64) × (Nat → Int64)) : ∀ (e f l : Nat) (row : Nat → Int32), l + e = o → e < f → ∃ row' r, f_X4_evensOut_L1_c37 (nI cs) crowd (nI o) lesser other f x.1 x.2 row (nI 2) (nI k) (nI l) = some (x.1, x.2, row', r) ∧ (∀ i, i < 2 → row' i = row i) ∧ Res (fst1 (fun l => @ite _ (idl (la l) x (evv (la l) (lb l) x)) (Classical.propDecidable _) none (csr N o la lb (k - 3) (evv (la l) (lb l) x))) e l) (k - 2) 2 row' r
  | 0, 0, l, row, e1, e2 => absurd e2 (by omega)
  | e + 1, 0, l, row, e1, e2 => absurd e2 (by omega)
  | 0, f + 1, l, row, e1, e2 => by
    refine ⟨row, 0, ?_, fun i _ => rfl, Res.no⟩
    unfold f_X4_evensOut_L1_c37
    rw [if_pos ((nI_leI (by omega) (by omega)).mpr (by omega))]
  | e + 1, f + 1, l, row, e1, e2 => by
    obtain ⟨l1, l2, l3, l4, l5⟩ := hl l (by omega)
    obtain ⟨row1, r, h1, h2, h3⟩ := over_L1 hB l3 l4 l5 x (upd row 2 (nI l))
    unfold f_X4_evensOut_L1_c37
    rw [if_neg (fun z => by rw [nI_leI (by omega) (by omega)] at z; omega), ck_q (show 2 < 3 by omega) (by omega), nI_clamp (show 2 < 2 ^ 31 by omega), nm_q, ck_q (show l < 45 by omega) (by omega), ck_q (show l < 45 by omega) (by omega), nI_clamp (show l < 2 ^ 31 by omega), l1, l2, h1, bd_q]
    dsimp only
    rw [show fst1 (fun l => @ite _ (idl (la l) x (evv (la l) (lb l) x)) (Classical.propDecidable _) none (csr N o la lb (k - 3) (evv (la l) (lb l) x))) (e + 1) l = (match @ite _ (idl (la l) x (evv (la l) (lb l) x)) (Classical.propDecidable _) none (csr N o la lb (k - 3) (evv (la l) (lb l) x)) with | some r => some (l :: r) | none => fst1 (fun l => @ite _ (idl (la l) x (evv (la l) (lb l) x)) (Classical.propDecidable _) none (csr N o la lb (k - 3) (evv (la l) (lb l) x))) e (l + 1)) from rfl]
    generalize @ite _ (idl (la l) x (evv (la l) (lb l) x)) (Classical.propDecidable _) none (csr N o la lb (k - 3) (evv (la l) (lb l) x)) = R at h3
    cases R with
    | none =>
      obtain rfl := h3.1 rfl
      obtain ⟨row2, r2, t1, t2, t3⟩ := loop_L1 hB ho hk hl x e f (l + 1) row1 (by omega) (by omega)
      rw [if_pos (show (0 : Int32) = 0 from rfl), nm_q, nI_1]
      refine ⟨row2, r2, t1, fun i hi => ?_, t3⟩
      rw [t2 i hi, h2 i (by omega), upI_a, if_neg (by omega)]
    | some rr =>
      obtain ⟨rfl, h4⟩ := h3.2 rr rfl
      rw [if_neg (show ¬ (1 : Int32) = 0 by decide)]
      refine ⟨row1, 1, rfl, fun i hi => ?_, ⟨(fun z => by cases z), fun r' z => ⟨rfl, fun i hi => ?_⟩⟩⟩
      · rw [h2 i (by omega), upI_a, if_neg (by omega)]
      · obtain rfl := Option.some.inj z
        cases i with
        | zero => rw [Nat.add_zero, h2 2 (by omega), upI_s]; rfl
        | succ i => rw [show 2 + (i + 1) = 3 + i by omega, h4 i (by omega)]; rfl
theorem evens_L1 {o cs k : Nat} {la lb c : Nat → Nat} {crowd lesser other : Nat → Int32} (hcs : cs ≤ 10) (hc : ∀ i, i < cs → crowd i = nI (c i) ∧ c i < 10) (ho : o ≤ 45) (hk : 2 ≤ k) (hk3 : k ≤ 3) (hl : ∀ l, l < o → lesser l = nI (la l) ∧ other l = nI (lb l) ∧ la l < 10 ∧ lb l < 10 ∧ la l ≠ lb l) (x : (Nat → Int64) × (Nat → Int64)) (row : Nat → Int32) : ∃ row' r, f_X4_evensOut_L1 (nI cs) crowd (nI o) lesser other x.1 x.2 row (nI 2) (nI k) = some (x.1, x.2, row', r) ∧ (∀ i, i < 2 → row' i = row i) ∧ Res (csr (near cs c) o la lb (k - 2) x) (k - 2) 2 row' r := by
  unfold f_X4_evensOut_L1
  by_cases e : k = 2
  · subst e
    rw [if_pos (Int32.le_refl _)]
    refine ⟨row, bi (near cs c 0 x), ?_, fun i _ => rfl, Res.leaf⟩
    unfold f_X4_evensOut_L1_c10
    rw [show (0 : Int32) = nI 0 from rfl, near_X4 x.1 x.2 hcs hc 0 (by omega), bd_q, ckp_q (nb_bi _)]
  · have hB := fun (x : (Nat → Int64) × (Nat → Int64)) (row : Nat → Int32) => evens_L0 (o := o) (la := la) (lb := lb) (lesser := lesser) (other := other) hcs hc ho (show 3 ≤ k by omega) hk3 hl x row
    obtain ⟨row', r, t1, t2, t3⟩ := loop_L1 (N := near cs c) hB ho (show 2 < k by omega) hl x o fu 0 row (by omega) (fu_ge (by omega))
    rw [if_neg (fun z => by rw [nI_leI (by omega) (by omega)] at z; omega), if_pos (show nI 2 < (3 : Int32) by decide), nI_sub (show 2 ≤ k by omega), near_X4 x.1 x.2 hcs hc (k - 2) (by omega), bd_q]
    obtain ⟨k', hk'⟩ : ∃ k', k - 2 = k' + 1 := ⟨k - 3, by omega⟩
    have hk2 : k - 3 = k' := by omega
    rw [hk2] at t3
    rw [hk'] at t3 ⊢
    by_cases w : near cs c (k' + 1) x
    · rw [bi_t w, if_pos (show ¬ (1 : Int32) = 0 by decide)]
      refine ⟨row', r, t1, t2, ?_⟩
      unfold csr
      rw [if_pos w]; exact t3
    · rw [bi_f w, if_neg (fun z => z rfl)]
      refine ⟨row, 0, rfl, fun i _ => rfl, ?_⟩
      unfold csr
      rw [if_neg w]; exact Res.no
theorem back_L2 {o cs a b : Nat} {crowd lesser other row : Nat → Int32} {x : (Nat → Int64) × (Nat → Int64)} (ha : a < 10) (hb : b < 10) (hab : a ≠ b) (v : Int32) (hv : v = 0 ∨ v = 1) : f_X4_evensOutOver_L2_c112 (nI cs) crowd (nI o) lesser other (evv a b x).1 (evv a b x).2 row (nI a) (nI b) (x.1 a) (x.2 a) (x.1 b) (x.2 b) v = some (x.1, x.2, row, v) := by
  unfold f_X4_evensOutOver_L2_c112
  rw [put_X3 _ _ ha (by omega), bd_q]
  dsimp only
  rw [put_X3 _ _ hb (by omega), bd_q, ckp_q (nb_v hv), ev_back1 hab, ev_back2 hab]
theorem over_L2 {o cs k a b : Nat} {la lb : Nat → Nat} {N : Nat → (Nat → Int64) × (Nat → Int64) → Prop} {crowd lesser other : Nat → Int32} (hB : ∀ (x : (Nat → Int64) × (Nat → Int64)) (row : Nat → Int32), ∃ row' r, f_X4_evensOut_L1 (nI cs) crowd (nI o) lesser other x.1 x.2 row (nI 2) (nI k) = some (x.1, x.2, row', r) ∧ (∀ i, i < 2 → row' i = row i) ∧ Res (csr N o la lb (k - 2) x) (k - 2) 2 row' r) (ha : a < 10) (hb : b < 10) (hab : a ≠ b) (x : (Nat → Int64) × (Nat → Int64)) (row : Nat → Int32) : ∃ row' r, f_X4_evensOutOver_L2 (nI cs) crowd (nI o) lesser other x.1 x.2 row (nI a) (nI b) (nI 1) (nI k) = some (x.1, x.2, row', r) ∧ (∀ i, i < 2 → row' i = row i) ∧ Res (@ite _ (idl a x (evv a b x)) (Classical.propDecidable _) none (csr N o la lb (k - 2) (evv a b x))) (k - 2) 2 row' r := by
  obtain ⟨row', r, h1, h2, h3⟩ := hB (evv a b x) row
  have e : f_X3_even 10 x.1 x.2 (nI a) (nI b) = some ((evv a b x).1, (evv a b x).2) := even_X3 ha hb (by omega)
  unfold f_X4_evensOutOver_L2
  rw [ck_q ha (by omega), nI_clamp (show a < 2 ^ 31 by omega), nm_q, ck_q ha (by omega), nm_q, ck_q hb (by omega), nI_clamp (show b < 2 ^ 31 by omega), nm_q, ck_q hb (by omega), nm_q, e, bd_q, ck_q ha (by omega), ck_q ha (by omega)]
  dsimp only
  have go : ¬ idl a x (evv a b x) → ∃ row' r, f_X4_evensOutOver_L2_c88 (nI cs) crowd (nI o) lesser other (evv a b x).1 (evv a b x).2 row (nI a) (nI b) (nI 1) (nI k) (x.1 a) (x.2 a) (x.1 b) (x.2 b) 1 = some (x.1, x.2, row', r) ∧ (∀ i, i < 2 → row' i = row i) ∧ Res (@ite _ (idl a x (evv a b x)) (Classical.propDecidable _) none (csr N o la lb (k - 2) (evv a b x))) (k - 2) 2 row' r := by
    intro hi
    refine ⟨row', r, ?_, h2, by rw [if_neg hi]; exact h3⟩
    unfold f_X4_evensOutOver_L2_c88
    rw [if_neg (show ¬ (1 : Int32) = 0 by decide), nI_1, h1, bd_q]
    dsimp only
    rcases h3.v with hr | hr
    · subst hr
      rw [if_pos (show (0 : Int32) = 0 from rfl)]
      unfold f_X4_evensOutOver_L2_c111
      exact back_L2 ha hb hab 0 (Or.inl rfl)
    · subst hr
      rw [if_neg (show ¬ (1 : Int32) = 0 by decide)]
      exact back_L2 ha hb hab 1 (Or.inr rfl)
  by_cases c1 : (evv a b x).1 a = x.1 a
  · rw [if_neg (fun z => z c1)]
    by_cases c2 : (evv a b x).2 a = x.2 a
    · rw [if_pos c2]
      refine ⟨row, 0, ?_, fun i _ => rfl, by rw [if_pos ⟨c1, c2⟩]; exact Res.no⟩
      unfold f_X4_evensOutOver_L2_c88 f_X4_evensOutOver_L2_c111
      rw [if_pos (show (0 : Int32) = 0 from rfl)]
      exact back_L2 ha hb hab 0 (Or.inl rfl)
    · rw [if_neg c2]
      exact go (fun z => c2 z.2)
  · rw [if_pos c1]
    exact go (fun z => c1 z.1)
theorem loop_L2 {o cs k : Nat} {la lb : Nat → Nat} {N : Nat → (Nat → Int64) × (Nat → Int64) → Prop} {crowd lesser other : Nat → Int32} (hB : ∀ (x : (Nat → Int64) × (Nat → Int64)) (row : Nat → Int32), ∃ row' r, f_X4_evensOut_L1 (nI cs) crowd (nI o) lesser other x.1 x.2 row (nI 2) (nI k) = some (x.1, x.2, row', r) ∧ (∀ i, i < 2 → row' i = row i) ∧ Res (csr N o la lb (k - 2) x) (k - 2) 2 row' r) (ho : o ≤ 45) (hk : 1 < k) (hl : ∀ l, l < o → lesser l = nI (la l) ∧ other l = nI (lb l) ∧ la l < 10 ∧ lb l < 10 ∧ la l ≠ lb l) (x : (Nat → Int64) × (Nat → Int64)) : ∀ (e f l : Nat) (row : Nat → Int32), l + e = o → e < f → ∃ row' r, f_X4_evensOut_L2_c37 (nI cs) crowd (nI o) lesser other f x.1 x.2 row (nI 1) (nI k) (nI l) = some (x.1, x.2, row', r) ∧ (∀ i, i < 1 → row' i = row i) ∧ Res (fst1 (fun l => @ite _ (idl (la l) x (evv (la l) (lb l) x)) (Classical.propDecidable _) none (csr N o la lb (k - 2) (evv (la l) (lb l) x))) e l) (k - 1) 1 row' r
  | 0, 0, l, row, e1, e2 => absurd e2 (by omega)
  | e + 1, 0, l, row, e1, e2 => absurd e2 (by omega)
  | 0, f + 1, l, row, e1, e2 => by
    refine ⟨row, 0, ?_, fun i _ => rfl, Res.no⟩
    unfold f_X4_evensOut_L2_c37
    rw [if_pos ((nI_leI (by omega) (by omega)).mpr (by omega))]
  | e + 1, f + 1, l, row, e1, e2 => by
    obtain ⟨l1, l2, l3, l4, l5⟩ := hl l (by omega)
    obtain ⟨row1, r, h1, h2, h3⟩ := over_L2 hB l3 l4 l5 x (upd row 1 (nI l))
    unfold f_X4_evensOut_L2_c37
    rw [if_neg (fun z => by rw [nI_leI (by omega) (by omega)] at z; omega), ck_q (show 1 < 3 by omega) (by omega), nI_clamp (show 1 < 2 ^ 31 by omega), nm_q, ck_q (show l < 45 by omega) (by omega), ck_q (show l < 45 by omega) (by omega), nI_clamp (show l < 2 ^ 31 by omega), l1, l2, h1, bd_q]
    dsimp only
    rw [show fst1 (fun l => @ite _ (idl (la l) x (evv (la l) (lb l) x)) (Classical.propDecidable _) none (csr N o la lb (k - 2) (evv (la l) (lb l) x))) (e + 1) l = (match @ite _ (idl (la l) x (evv (la l) (lb l) x)) (Classical.propDecidable _) none (csr N o la lb (k - 2) (evv (la l) (lb l) x)) with | some r => some (l :: r) | none => fst1 (fun l => @ite _ (idl (la l) x (evv (la l) (lb l) x)) (Classical.propDecidable _) none (csr N o la lb (k - 2) (evv (la l) (lb l) x))) e (l + 1)) from rfl]
    generalize @ite _ (idl (la l) x (evv (la l) (lb l) x)) (Classical.propDecidable _) none (csr N o la lb (k - 2) (evv (la l) (lb l) x)) = R at h3
    cases R with
    | none =>
      obtain rfl := h3.1 rfl
      obtain ⟨row2, r2, t1, t2, t3⟩ := loop_L2 hB ho hk hl x e f (l + 1) row1 (by omega) (by omega)
      rw [if_pos (show (0 : Int32) = 0 from rfl), nm_q, nI_1]
      refine ⟨row2, r2, t1, fun i hi => ?_, t3⟩
      rw [t2 i hi, h2 i (by omega), upI_a, if_neg (by omega)]
    | some rr =>
      obtain ⟨rfl, h4⟩ := h3.2 rr rfl
      rw [if_neg (show ¬ (1 : Int32) = 0 by decide)]
      refine ⟨row1, 1, rfl, fun i hi => ?_, ⟨(fun z => by cases z), fun r' z => ⟨rfl, fun i hi => ?_⟩⟩⟩
      · rw [h2 i (by omega), upI_a, if_neg (by omega)]
      · obtain rfl := Option.some.inj z
        cases i with
        | zero => rw [Nat.add_zero, h2 1 (by omega), upI_s]; rfl
        | succ i => rw [show 1 + (i + 1) = 2 + i by omega, h4 i (by omega)]; rfl
theorem evens_L2 {o cs k : Nat} {la lb c : Nat → Nat} {crowd lesser other : Nat → Int32} (hcs : cs ≤ 10) (hc : ∀ i, i < cs → crowd i = nI (c i) ∧ c i < 10) (ho : o ≤ 45) (hk : 1 ≤ k) (hk3 : k ≤ 3) (hl : ∀ l, l < o → lesser l = nI (la l) ∧ other l = nI (lb l) ∧ la l < 10 ∧ lb l < 10 ∧ la l ≠ lb l) (x : (Nat → Int64) × (Nat → Int64)) (row : Nat → Int32) : ∃ row' r, f_X4_evensOut_L2 (nI cs) crowd (nI o) lesser other x.1 x.2 row (nI 1) (nI k) = some (x.1, x.2, row', r) ∧ (∀ i, i < 1 → row' i = row i) ∧ Res (csr (near cs c) o la lb (k - 1) x) (k - 1) 1 row' r := by
  unfold f_X4_evensOut_L2
  by_cases e : k = 1
  · subst e
    rw [if_pos (Int32.le_refl _)]
    refine ⟨row, bi (near cs c 0 x), ?_, fun i _ => rfl, Res.leaf⟩
    unfold f_X4_evensOut_L2_c10
    rw [show (0 : Int32) = nI 0 from rfl, near_X4 x.1 x.2 hcs hc 0 (by omega), bd_q, ckp_q (nb_bi _)]
  · have hB := fun (x : (Nat → Int64) × (Nat → Int64)) (row : Nat → Int32) => evens_L1 (o := o) (la := la) (lb := lb) (lesser := lesser) (other := other) hcs hc ho (show 2 ≤ k by omega) hk3 hl x row
    obtain ⟨row', r, t1, t2, t3⟩ := loop_L2 (N := near cs c) hB ho (show 1 < k by omega) hl x o fu 0 row (by omega) (fu_ge (by omega))
    rw [if_neg (fun z => by rw [nI_leI (by omega) (by omega)] at z; omega), if_pos (show nI 1 < (3 : Int32) by decide), nI_sub (show 1 ≤ k by omega), near_X4 x.1 x.2 hcs hc (k - 1) (by omega), bd_q]
    obtain ⟨k', hk'⟩ : ∃ k', k - 1 = k' + 1 := ⟨k - 2, by omega⟩
    have hk2 : k - 2 = k' := by omega
    rw [hk2] at t3
    rw [hk'] at t3 ⊢
    by_cases w : near cs c (k' + 1) x
    · rw [bi_t w, if_pos (show ¬ (1 : Int32) = 0 by decide)]
      refine ⟨row', r, t1, t2, ?_⟩
      unfold csr
      rw [if_pos w]; exact t3
    · rw [bi_f w, if_neg (fun z => z rfl)]
      refine ⟨row, 0, rfl, fun i _ => rfl, ?_⟩
      unfold csr
      rw [if_neg w]; exact Res.no
theorem back_L3 {o cs a b : Nat} {crowd lesser other row : Nat → Int32} {x : (Nat → Int64) × (Nat → Int64)} (ha : a < 10) (hb : b < 10) (hab : a ≠ b) (v : Int32) (hv : v = 0 ∨ v = 1) : f_X4_evensOutOver_L3_c112 (nI cs) crowd (nI o) lesser other (evv a b x).1 (evv a b x).2 row (nI a) (nI b) (x.1 a) (x.2 a) (x.1 b) (x.2 b) v = some (x.1, x.2, row, v) := by
  unfold f_X4_evensOutOver_L3_c112
  rw [put_X3 _ _ ha (by omega), bd_q]
  dsimp only
  rw [put_X3 _ _ hb (by omega), bd_q, ckp_q (nb_v hv), ev_back1 hab, ev_back2 hab]
theorem over_L3 {o cs k a b : Nat} {la lb : Nat → Nat} {N : Nat → (Nat → Int64) × (Nat → Int64) → Prop} {crowd lesser other : Nat → Int32} (hB : ∀ (x : (Nat → Int64) × (Nat → Int64)) (row : Nat → Int32), ∃ row' r, f_X4_evensOut_L2 (nI cs) crowd (nI o) lesser other x.1 x.2 row (nI 1) (nI k) = some (x.1, x.2, row', r) ∧ (∀ i, i < 1 → row' i = row i) ∧ Res (csr N o la lb (k - 1) x) (k - 1) 1 row' r) (ha : a < 10) (hb : b < 10) (hab : a ≠ b) (x : (Nat → Int64) × (Nat → Int64)) (row : Nat → Int32) : ∃ row' r, f_X4_evensOutOver_L3 (nI cs) crowd (nI o) lesser other x.1 x.2 row (nI a) (nI b) (nI 0) (nI k) = some (x.1, x.2, row', r) ∧ (∀ i, i < 1 → row' i = row i) ∧ Res (@ite _ (idl a x (evv a b x)) (Classical.propDecidable _) none (csr N o la lb (k - 1) (evv a b x))) (k - 1) 1 row' r := by
  obtain ⟨row', r, h1, h2, h3⟩ := hB (evv a b x) row
  have e : f_X3_even 10 x.1 x.2 (nI a) (nI b) = some ((evv a b x).1, (evv a b x).2) := even_X3 ha hb (by omega)
  unfold f_X4_evensOutOver_L3
  rw [ck_q ha (by omega), nI_clamp (show a < 2 ^ 31 by omega), nm_q, ck_q ha (by omega), nm_q, ck_q hb (by omega), nI_clamp (show b < 2 ^ 31 by omega), nm_q, ck_q hb (by omega), nm_q, e, bd_q, ck_q ha (by omega), ck_q ha (by omega)]
  dsimp only
  have go : ¬ idl a x (evv a b x) → ∃ row' r, f_X4_evensOutOver_L3_c88 (nI cs) crowd (nI o) lesser other (evv a b x).1 (evv a b x).2 row (nI a) (nI b) (nI 0) (nI k) (x.1 a) (x.2 a) (x.1 b) (x.2 b) 1 = some (x.1, x.2, row', r) ∧ (∀ i, i < 1 → row' i = row i) ∧ Res (@ite _ (idl a x (evv a b x)) (Classical.propDecidable _) none (csr N o la lb (k - 1) (evv a b x))) (k - 1) 1 row' r := by
    intro hi
    refine ⟨row', r, ?_, h2, by rw [if_neg hi]; exact h3⟩
    unfold f_X4_evensOutOver_L3_c88
    rw [if_neg (show ¬ (1 : Int32) = 0 by decide), nI_1, h1, bd_q]
    dsimp only
    rcases h3.v with hr | hr
    · subst hr
      rw [if_pos (show (0 : Int32) = 0 from rfl)]
      unfold f_X4_evensOutOver_L3_c111
      exact back_L3 ha hb hab 0 (Or.inl rfl)
    · subst hr
      rw [if_neg (show ¬ (1 : Int32) = 0 by decide)]
      exact back_L3 ha hb hab 1 (Or.inr rfl)
  by_cases c1 : (evv a b x).1 a = x.1 a
  · rw [if_neg (fun z => z c1)]
    by_cases c2 : (evv a b x).2 a = x.2 a
    · rw [if_pos c2]
      refine ⟨row, 0, ?_, fun i _ => rfl, by rw [if_pos ⟨c1, c2⟩]; exact Res.no⟩
      unfold f_X4_evensOutOver_L3_c88 f_X4_evensOutOver_L3_c111
      rw [if_pos (show (0 : Int32) = 0 from rfl)]
      exact back_L3 ha hb hab 0 (Or.inl rfl)
    · rw [if_neg c2]
      exact go (fun z => c2 z.2)
  · rw [if_pos c1]
    exact go (fun z => c1 z.1)
theorem loop_L3 {o cs k : Nat} {la lb : Nat → Nat} {N : Nat → (Nat → Int64) × (Nat → Int64) → Prop} {crowd lesser other : Nat → Int32} (hB : ∀ (x : (Nat → Int64) × (Nat → Int64)) (row : Nat → Int32), ∃ row' r, f_X4_evensOut_L2 (nI cs) crowd (nI o) lesser other x.1 x.2 row (nI 1) (nI k) = some (x.1, x.2, row', r) ∧ (∀ i, i < 1 → row' i = row i) ∧ Res (csr N o la lb (k - 1) x) (k - 1) 1 row' r) (ho : o ≤ 45) (hk : 0 < k) (hl : ∀ l, l < o → lesser l = nI (la l) ∧ other l = nI (lb l) ∧ la l < 10 ∧ lb l < 10 ∧ la l ≠ lb l) (x : (Nat → Int64) × (Nat → Int64)) : ∀ (e f l : Nat) (row : Nat → Int32), l + e = o → e < f → ∃ row' r, f_X4_evensOut_L3_c37 (nI cs) crowd (nI o) lesser other f x.1 x.2 row (nI 0) (nI k) (nI l) = some (x.1, x.2, row', r) ∧ (∀ i, i < 0 → row' i = row i) ∧ Res (fst1 (fun l => @ite _ (idl (la l) x (evv (la l) (lb l) x)) (Classical.propDecidable _) none (csr N o la lb (k - 1) (evv (la l) (lb l) x))) e l) (k - 0) 0 row' r
  | 0, 0, l, row, e1, e2 => absurd e2 (by omega)
  | e + 1, 0, l, row, e1, e2 => absurd e2 (by omega)
  | 0, f + 1, l, row, e1, e2 => by
    refine ⟨row, 0, ?_, fun i _ => rfl, Res.no⟩
    unfold f_X4_evensOut_L3_c37
    rw [if_pos ((nI_leI (by omega) (by omega)).mpr (by omega))]
  | e + 1, f + 1, l, row, e1, e2 => by
    obtain ⟨l1, l2, l3, l4, l5⟩ := hl l (by omega)
    obtain ⟨row1, r, h1, h2, h3⟩ := over_L3 hB l3 l4 l5 x (upd row 0 (nI l))
    unfold f_X4_evensOut_L3_c37
    rw [if_neg (fun z => by rw [nI_leI (by omega) (by omega)] at z; omega), ck_q (show 0 < 3 by omega) (by omega), nI_clamp (show 0 < 2 ^ 31 by omega), nm_q, ck_q (show l < 45 by omega) (by omega), ck_q (show l < 45 by omega) (by omega), nI_clamp (show l < 2 ^ 31 by omega), l1, l2, h1, bd_q]
    dsimp only
    rw [show fst1 (fun l => @ite _ (idl (la l) x (evv (la l) (lb l) x)) (Classical.propDecidable _) none (csr N o la lb (k - 1) (evv (la l) (lb l) x))) (e + 1) l = (match @ite _ (idl (la l) x (evv (la l) (lb l) x)) (Classical.propDecidable _) none (csr N o la lb (k - 1) (evv (la l) (lb l) x)) with | some r => some (l :: r) | none => fst1 (fun l => @ite _ (idl (la l) x (evv (la l) (lb l) x)) (Classical.propDecidable _) none (csr N o la lb (k - 1) (evv (la l) (lb l) x))) e (l + 1)) from rfl]
    generalize @ite _ (idl (la l) x (evv (la l) (lb l) x)) (Classical.propDecidable _) none (csr N o la lb (k - 1) (evv (la l) (lb l) x)) = R at h3
    cases R with
    | none =>
      obtain rfl := h3.1 rfl
      obtain ⟨row2, r2, t1, t2, t3⟩ := loop_L3 hB ho hk hl x e f (l + 1) row1 (by omega) (by omega)
      rw [if_pos (show (0 : Int32) = 0 from rfl), nm_q, nI_1]
      refine ⟨row2, r2, t1, fun i hi => ?_, t3⟩
      rw [t2 i hi, h2 i (by omega), upI_a, if_neg (by omega)]
    | some rr =>
      obtain ⟨rfl, h4⟩ := h3.2 rr rfl
      rw [if_neg (show ¬ (1 : Int32) = 0 by decide)]
      refine ⟨row1, 1, rfl, fun i hi => ?_, ⟨(fun z => by cases z), fun r' z => ⟨rfl, fun i hi => ?_⟩⟩⟩
      · rw [h2 i (by omega), upI_a, if_neg (by omega)]
      · obtain rfl := Option.some.inj z
        cases i with
        | zero => rw [Nat.add_zero, h2 0 (by omega), upI_s]; rfl
        | succ i => rw [show 0 + (i + 1) = 1 + i by omega, h4 i (by omega)]; rfl
theorem evens_L3 {o cs k : Nat} {la lb c : Nat → Nat} {crowd lesser other : Nat → Int32} (hcs : cs ≤ 10) (hc : ∀ i, i < cs → crowd i = nI (c i) ∧ c i < 10) (ho : o ≤ 45) (hk : 0 ≤ k) (hk3 : k ≤ 3) (hl : ∀ l, l < o → lesser l = nI (la l) ∧ other l = nI (lb l) ∧ la l < 10 ∧ lb l < 10 ∧ la l ≠ lb l) (x : (Nat → Int64) × (Nat → Int64)) (row : Nat → Int32) : ∃ row' r, f_X4_evensOut_L3 (nI cs) crowd (nI o) lesser other x.1 x.2 row (nI 0) (nI k) = some (x.1, x.2, row', r) ∧ (∀ i, i < 0 → row' i = row i) ∧ Res (csr (near cs c) o la lb (k - 0) x) (k - 0) 0 row' r := by
  unfold f_X4_evensOut_L3
  by_cases e : k = 0
  · subst e
    rw [if_pos (Int32.le_refl _)]
    refine ⟨row, bi (near cs c 0 x), ?_, fun i _ => rfl, Res.leaf⟩
    unfold f_X4_evensOut_L3_c10
    rw [show (0 : Int32) = nI 0 from rfl, near_X4 x.1 x.2 hcs hc 0 (by omega), bd_q, ckp_q (nb_bi _)]
  · have hB := fun (x : (Nat → Int64) × (Nat → Int64)) (row : Nat → Int32) => evens_L2 (o := o) (la := la) (lb := lb) (lesser := lesser) (other := other) hcs hc ho (show 1 ≤ k by omega) hk3 hl x row
    obtain ⟨row', r, t1, t2, t3⟩ := loop_L3 (N := near cs c) hB ho (show 0 < k by omega) hl x o fu 0 row (by omega) (fu_ge (by omega))
    rw [if_neg (fun z => by rw [nI_leI (by omega) (by omega)] at z; omega), if_pos (show nI 0 < (3 : Int32) by decide), nI_sub (show 0 ≤ k by omega), near_X4 x.1 x.2 hcs hc (k - 0) (by omega), bd_q]
    obtain ⟨k', hk'⟩ : ∃ k', k - 0 = k' + 1 := ⟨k - 1, by omega⟩
    have hk2 : k - 1 = k' := by omega
    rw [hk2] at t3
    rw [hk'] at t3 ⊢
    by_cases w : near cs c (k' + 1) x
    · rw [bi_t w, if_pos (show ¬ (1 : Int32) = 0 by decide)]
      refine ⟨row', r, t1, t2, ?_⟩
      unfold csr
      rw [if_pos w]; exact t3
    · rw [bi_f w, if_neg (fun z => z rfl)]
      refine ⟨row, 0, rfl, fun i _ => rfl, ?_⟩
      unfold csr
      rw [if_neg w]; exact Res.no
