/-! fewest and plan -/
def RP (pt : Int32) (pl : Nat → Int32) (pm : Int32) (pn : Nat → Int32) : Prop := ∃ p : Nat, p ≤ 3 ∧ pt = nI p ∧ pm = nI p ∧ ∀ i, i < p → pl i = pn i
theorem op_plan {me : Int32} {he : Int32} {se : Int32} {ta : Int32} {bs : Nat → Int64} {bw : Nat → Int64} {gr : Nat → Int32} {hd : Nat → Int32} {jo : Nat → Int32} {le : Nat → Int32} {cs : Nat → Int64} {cw : Nat → Int64} {fr : Nat → Int32} {to : Nat → Int32} {ms : Nat → Int64} {mw : Nat → Int64} {os : Nat → Int64} {ow : Nat → Int64} {kn : Nat → Int32} {nu : Nat → Int32} {ox : Nat → Int32} {va : Nat → Int32} {s : Nat → Int64} {history_next : Int32} {history_size : Int32} {V : Nat → Option STv} {undos : Int32} {kept : Nat → Int64} {plannedTalks : Int32} {planned : Nat → Int32} {planned_m : Int32} {plan : Nat → Int32} (h : RS me he se ta bs bw gr hd jo le cs cw fr to ms mw os ow kn nu ox va s) (hH : RHi history_next history_size V undos kept) (hP : RP plannedTalks planned planned_m plan) (p1 : Int32) : ∃ (r : Int32), f_X7_plan plannedTalks planned p1 = some r ∧ f_X8_plan planned_m plan p1 = some r := by
  obtain ⟨p, hp, rfl, rfl, hpl⟩ := hP
  have hin : f_X8_in p1.toInt64 0 (nI p - (1 : Int32)).toInt64 = some (bi (vp_in p1 p)) := by
    rw [in_spec, i2l_i, i2l_i]
    congr 1; apply bi_iff
    have : ∀ p, p < 4 → (nI p - (1 : Int32)).toInt = (p : Int) - 1 := by decide +kernel
    rw [vp_in_iff, this p (by omega)]
    show (0 : Int) ≤ _ ∧ _ ↔ _
    omega
  unfold f_X7_plan f_X8_plan
  rw [hin, bd_q]
  by_cases c : vp_in p1 p
  · obtain ⟨i, hi, rfl⟩ := vp_in_of c (by omega)
    refine ⟨planned i, ?_, ?_⟩
    · rw [if_neg (fun z => c (Or.inl z)), if_neg (fun z => by rw [nI_leI (by omega) (by omega)] at z; omega), ck_q (by omega) (by omega), nI_clamp (by omega)]
    · rw [bi_t c, if_neg (show ¬ (1 : Int32) = 0 by decide), ck_q (by omega) (by omega), nI_clamp (by omega), hpl i hi]
  · refine ⟨-4, ?_, ?_⟩
    · by_cases z : p1 < 0
      · rw [if_pos z]
      · rw [if_neg z, if_pos]
        rcases pk_ix p1 (n := p) (by omega) with w | w | ⟨j, hj, rfl⟩
        · exact absurd w z
        · exact w
        · exact absurd (vp_in_nI hj (by omega)) c
    · rw [bi_f c, if_pos rfl]
theorem plan_cp {t o : Nat} {s : Nat → Int64} (ht : t ≤ 3) (k64 : Int32 → Int32 → (Nat → Int32) → (Nat → Int32) → (Nat → Int32) → (Nat → Int32) → (Nat → Int64) → (Nat → Int64) → Int32 → Int32 → Option (Int32 × Int32 × (Nat → Int32) × (Nat → Int32) × (Nat → Int32) × (Nat → Int32) × (Nat → Int64) × (Nat → Int64) × Int32)) (pm : Int32) (rl ro row : Nat → Int32) (sums weights : Nat → Int64) : ∀ (e f i : Nat) (pn : Nat → Int32), i + e = t → e < f → f_X8_fewest_c84 k64 s f (nI o) pm rl ro pn row sums weights (nI t) (nI i) = some (nI o, pm, rl, ro, (fun j => if i ≤ j ∧ j < t then row j else pn j), row, sums, weights, nI t)
  | 0, 0, i, pn, e1, e2 => absurd e2 (by omega)
  | e + 1, 0, i, pn, e1, e2 => absurd e2 (by omega)
  | 0, f + 1, i, pn, e1, e2 => by
    unfold f_X8_fewest_c84
    rw [if_pos ((nI_leI (by omega) (by omega)).mpr (by omega))]
    have : (fun j => if i ≤ j ∧ j < t then row j else pn j) = pn := by
      funext j; rw [if_neg (by omega)]
    rw [this]
  | e + 1, f + 1, i, pn, e1, e2 => by
    have h := plan_cp (o := o) (s := s) ht k64 pm rl ro row sums weights e f (i + 1) (upd pn i (row i)) (by omega) (by omega)
    unfold f_X8_fewest_c84
    rw [if_neg (fun z => by rw [nI_leI (by omega) (by omega)] at z; omega), ck_q (by omega) (by omega), ck_q (by omega) (by omega), nm_q, nm_q, nI_1, nI_clamp (by omega)]
    refine h.trans ?_
    have : (fun j => if i + 1 ≤ j ∧ j < t then row j else upd pn i (row i) j) = (fun j => if i ≤ j ∧ j < t then row j else pn j) := by
      funext j
      rw [upI_a]
      by_cases c : j = i
      · subst c; rw [if_neg (by omega), if_pos rfl, if_pos (by omega)]
      · by_cases c2 : i + 1 ≤ j ∧ j < t
        · rw [if_pos c2, if_pos (by omega)]
        · rw [if_neg c2, if_neg c, if_neg (by omega)]
    rw [this]
theorem few_in {n q o cs lim : Nat} {la lb c : Nat → Nat} {s : Nat → Int64} {cl co rl ro crowd : Nat → Int32} (hn : n ≤ 10) (h0 : s 0 = lN n) (hs1 : ∀ m, m < 10 → s (13 + m) = if tb q m then 1 else 0) (hs2 : ∀ m, n ≤ m → m < 10 → tb q m = false) (ho : o ≤ 45) (hC : CR q cs c) (hcs : cs ≤ 10) (hc : ∀ i, i < cs → crowd i = nI (c i) ∧ c i < 10) (hl7 : ∀ l, l < o → cl l = nI (la l) ∧ co l = nI (lb l) ∧ la l < 10 ∧ lb l < 10 ∧ la l ≠ lb l) (hl8 : ∀ l, l < o → rl l = nI (la l) ∧ ro l = nI (lb l) ∧ la l < 10 ∧ lb l < 10 ∧ la l ≠ lb l) (hlim : lim ≤ 3) (x : (Nat → Int64) × (Nat → Int64)) (ao : Nat) (jo : Nat → Int32) (ms mw : Nat → Int64) {pt pm : Int32} {pl pn : Nat → Int32} (hRP : RP pt pl pm pn) : ∀ (e f t : Nat) (row7 row8 : Nat → Int32) (sums weights : Nat → Int64), e + t = lim + 1 → e < f → (∀ t', t = t' + 1 → srch q o la lb t' x = none) → Sr 0 x sums weights → ∃ pt' pl' row7' pm' pn' row8' sums' weights' r, f_X7_fewest_c39 ao (nI n) (nI q) jo ms mw f pt (nI o) cl co pl (nI cs) crowd x.1 x.2 row7 (nI lim) (nI t) = some (pt', nI o, cl, co, pl', nI cs, crowd, x.1, x.2, row7', Value.ref ao, r) ∧ f_X8_fewest_c64 s f (nI o) pm rl ro pn row8 sums weights (nI lim) (nI t) = some (nI o, pm', rl, ro, pn', row8', sums', weights', r) ∧ RP pt' pl' pm' pn'
  | 0, 0, t, row7, row8, sums, weights, e1, e2, e3, hS => absurd e2 (by omega)
  | e + 1, 0, t, row7, row8, sums, weights, e1, e2, e3, hS => absurd e2 (by omega)
  | 0, f + 1, t, row7, row8, sums, weights, e1, e2, e3, hS => by
    unfold f_X7_fewest_c39 f_X8_fewest_c64
    rw [if_pos ((nI_ltI (by omega) (by omega)).mpr (by omega)), if_pos ((nI_ltI (by omega) (by omega)).mpr (by omega))]
    exact ⟨_, _, _, _, _, _, _, _, _, rfl, rfl, hRP⟩
  | e + 1, f + 1, t, row7, row8, sums, weights, e1, e2, e3, hS => by
    have hlt : ¬ nI lim < nI t := fun z => by rw [nI_ltI (by omega) (by omega)] at z; omega
    obtain ⟨row7', r7, a1, -, a3⟩ := evens_L3 (o := o) (k := t) (la := la) (lb := lb) (lesser := cl) (other := co) hcs hc ho (Nat.zero_le _) (by omega) hl7 x row7
    rw [Nat.sub_zero, csr_srch (fun l hl => (hl7 l hl).2.2.2.2) (fun y => near_0 hC y) (fun k y r hh => near_of hC k y r hh) t x e3] at a3
    obtain ⟨row8', sums', weights', r8, b1, b2, b3⟩ := does_8 (len := t) hn h0 hs1 hs2 ho (by omega) hl8 row8 hS
    have hf : f_X4_finds (nI cs) crowd (nI o) cl co x.1 x.2 row7 (nI t) = some (x.1, x.2, row7', r7) := by
      unfold f_X4_finds
      rw [if_neg (fun z => by rw [show (0 : Int32) = nI 0 from rfl, nI_ltI (by omega) (by omega)] at z; omega), if_neg (fun z => by rw [show (3 : Int32) = nI 3 from rfl, nI_ltI (by omega) (by omega)] at z; omega), show (0 : Int32) = nI 0 from rfl, a1, bd_q]
      dsimp only
      rcases a3.v with h | h
      · subst h; exact if_pos rfl
      · subst h; exact if_neg (by decide)
    unfold f_X7_fewest_c39 f_X8_fewest_c64
    rw [if_neg hlt, if_neg hlt, hf, b1, bd_q, bd_q]
    dsimp only
    cases hq : srch q o la lb t x with
    | none =>
      rw [hq] at a3 b3
      obtain rfl := a3.1 rfl
      obtain rfl := b3.1 rfl
      rw [if_pos (show (0 : Int32) = 0 from rfl), if_pos (show (0 : Int32) = 0 from rfl), nm_q, nm_q, nI_1]
      exact few_in hn h0 hs1 hs2 ho hC hcs hc hl7 hl8 hlim x ao jo ms mw hRP e f (t + 1) row7' row8' sums' weights' (by omega) (by omega) (fun t' h => by
        obtain rfl : t' = t := by omega
        exact hq) b2
    | some rr =>
      rw [hq] at a3 b3
      obtain ⟨rfl, a4⟩ := a3.2 rr rfl
      obtain ⟨rfl, b4⟩ := b3.2 rr rfl
      have hck : ¬ (0 : Int32) < 0 ∧ ¬ (0 : Int32) < 0 ∧ ¬ (nI t) < 0 ∧ (0 : Int32).toNatClampNeg + (nI t).toNatClampNeg ≤ 3 ∧ (0 : Int32).toNatClampNeg + (nI t).toNatClampNeg ≤ 3 := by
        refine ⟨by decide, by decide, nI_pos (by omega), ?_, ?_⟩ <;> (rw [nI_clamp (by omega)]; show 0 + t ≤ 3; omega)
      rw [if_neg (show ¬ (1 : Int32) = 0 by decide), if_neg (show ¬ (1 : Int32) = 0 by decide), ckp_q hck, nm_q, nI_clamp (by omega), show (0 : Int32) = nI 0 from rfl, plan_cp (show t ≤ 3 by omega) _ _ _ _ _ _ _ t fu 0 _ (by omega) (fu_ge (by omega))]
      refine ⟨_, _, _, _, _, _, _, _, _, rfl, rfl, t, by omega, rfl, rfl, fun i hi => ?_⟩
      show va_cpy row7' pl 0 0 t i = (if 0 ≤ i ∧ i < t then row8' i else pn i)
      rw [cpyI hi, if_pos ⟨Nat.zero_le _, hi⟩]
      have k1 := a4 i hi
      have k2 := b4 i hi
      rw [Nat.zero_add] at k1 k2
      exact k1.trans k2.symm
theorem take_8 {s : Nat → Int64} (op pm : Int32) (rl ro pn row : Nat → Int32) (l1 : Int32) : ∀ (e f m : Nat) (sums weights : Nat → Int64), m + e = 10 → e < f → (∀ i, i < m → sums i = s (33 + i) ∧ weights i = s (43 + i)) → ∃ sums' weights', f_X8_fewest_c20 s f op pm rl ro pn row sums weights l1 (nI m) = f_X8_fewest_c64 s fu op pm rl ro pn row sums' weights' l1 (nI 0) ∧ ∀ i, i < 10 → sums' i = s (33 + i) ∧ weights' i = s (43 + i)
  | 0, 0, m, sums, weights, e1, e2, h => absurd e2 (by omega)
  | e + 1, 0, m, sums, weights, e1, e2, h => absurd e2 (by omega)
  | 0, f + 1, m, sums, weights, e1, e2, h => by
    obtain rfl : m = 10 := by omega
    refine ⟨sums, weights, ?_, h⟩
    unfold f_X8_fewest_c20
    rw [if_pos (show (10 : Int32) ≤ nI 10 from Int32.le_refl _)]; rfl
  | e + 1, f + 1, m, sums, weights, e1, e2, h => by
    have hm : m < 10 := by omega
    unfold f_X8_fewest_c20
    rw [if_neg (fun z => by rw [show (10 : Int32) = nI 10 from rfl, nI_leI (by omega) (by omega)] at z; omega), ad_33, ck_q (by omega) (by omega), ck_q (by omega) (by omega), nm_q, ad_43, ck_q (by omega) (by omega), ck_q (by omega) (by omega), nm_q, nm_q, nI_1, nI_clamp (show m < 2 ^ 31 by omega), nI_clamp (show 33 + m < 2 ^ 31 by omega), nI_clamp (show 43 + m < 2 ^ 31 by omega)]
    refine take_8 op pm rl ro pn row l1 e f (m + 1) _ _ (by omega) (by omega) fun i hi => ?_
    rw [upL_a, upL_a]
    by_cases c : i = m
    · rw [if_pos c, if_pos c, c]; exact ⟨rfl, rfl⟩
    · rw [if_neg c, if_neg c]; exact h i (by omega)
theorem op_fewest {me : Int32} {he : Int32} {se : Int32} {ta : Int32} {bs : Nat → Int64} {bw : Nat → Int64} {gr : Nat → Int32} {hd : Nat → Int32} {jo : Nat → Int32} {le : Nat → Int32} {cs : Nat → Int64} {cw : Nat → Int64} {fr : Nat → Int32} {to : Nat → Int32} {ms : Nat → Int64} {mw : Nat → Int64} {os : Nat → Int64} {ow : Nat → Int64} {kn : Nat → Int32} {nu : Nat → Int32} {ox : Nat → Int32} {va : Nat → Int32} {s : Nat → Int64} {history_next : Int32} {history_size : Int32} {V : Nat → Option STv} {undos : Int32} {kept : Nat → Int64} {a_open : Nat} {plannedTalks : Int32} {open_size : Int32} {open_lesser : Nat → Int32} {open_other : Nat → Int32} {planned : Nat → Int32} {search_crowdSize : Int32} {search_crowd : Nat → Int32} {search_masses_sums : Nat → Int64} {search_masses_weights : Nat → Int64} {search_row : Nat → Int32} {search_lines : Value} {opn : Int32} {planned_m : Int32} {lesser : Nat → Int32} {other : Nat → Int32} {plan : Nat → Int32} {row : Nat → Int32} {sums : Nat → Int64} {weights : Nat → Int64} (h : RS me he se ta bs bw gr hd jo le cs cw fr to ms mw os ow kn nu ox va s) (hH : RHi history_next history_size V undos kept) (hP : RP plannedTalks planned planned_m plan) (p1 : Int32) : ∃ (plannedTalks' : Int32) (open_size' : Int32) (open_lesser' : Nat → Int32) (open_other' : Nat → Int32) (planned' : Nat → Int32) (search_crowdSize' : Int32) (search_crowd' : Nat → Int32) (search_masses_sums' : Nat → Int64) (search_masses_weights' : Nat → Int64) (search_row' : Nat → Int32) (search_lines' : Value) (opn' : Int32) (planned_m' : Int32) (lesser' : Nat → Int32) (other' : Nat → Int32) (plan' : Nat → Int32) (row' : Nat → Int32) (sums' : Nat → Int64) (weights' : Nat → Int64) (r : Int32), f_X7_fewest a_open me he jo ms mw plannedTalks open_size open_lesser open_other planned search_crowdSize search_crowd search_masses_sums search_masses_weights search_row search_lines p1 = some (plannedTalks', open_size', open_lesser', open_other', planned', search_crowdSize', search_crowd', search_masses_sums', search_masses_weights', search_row', search_lines', r) ∧ f_X8_fewest s opn planned_m lesser other plan row sums weights p1 = some (opn', planned_m', lesser', other', plan', row', sums', weights', r) ∧ RP plannedTalks' planned' planned_m' plan' := by
  obtain ⟨h0, hJ, hV, hHd, hM, hK, hL, hQ⟩ := id h
  obtain ⟨n, q, hn, hq, rfl, rfl, hn2, hq2, hs0, hs1, hs2⟩ := h0.get
  unfold f_X7_fewest f_X8_fewest
  rw [in_small p1 (x := 0) (y := 3) (by decide) (by decide), bd_q]
  have e1 : p1 < 0 ↔ p1.toInt < 0 := Int32.lt_iff_toInt_lt
  have e2 : p1 ≤ (3 : Int32) ↔ p1.toInt ≤ 3 := Int32.le_iff_toInt_le
  by_cases c : 0 ≤ p1.toInt ∧ p1.toInt ≤ 3
  · rw [bi_t c, if_pos (show ¬ (1 : Int32) = 0 by decide), if_neg (by rw [e1]; omega), if_pos (e2.mpr c.2)]
    obtain ⟨lim, hlim, rfl⟩ := vp_in_of (x := p1) (n := 4) (by rw [vp_in_iff]; omega) (by omega)
    obtain ⟨o, cl, co, rl, ro, l1, l2, l3, l4⟩ := look_both hn hq hJ hs0 hs1 hs2 open_size opn open_lesser open_other lesser other
    obtain ⟨cs', cc, crowd', s1, s2, s3, s4⟩ := start_X4 hn hq hs2 ms mw search_masses_sums search_masses_weights search_crowdSize search_crowd
    have hl : ∀ l, l < o → cl l = nI (nn (cl l)) ∧ co l = nI (nn (co l)) ∧ rl l = nI (nn (cl l)) ∧ ro l = nI (nn (co l)) ∧ nn (cl l) < 10 ∧ nn (co l) < 10 ∧ nn (cl l) ≠ nn (co l) := fun l hl => by
      obtain ⟨a, b, g1, g2, g3, g4, g5, g6, g7, -⟩ := l3 l hl
      rw [g1, g2, g3, g4, nn_I (by omega), nn_I (by omega)]
      exact ⟨rfl, rfl, rfl, rfl, by omega, by omega, g7⟩
    obtain ⟨sums', weights', k1, k2⟩ := take_8 (s := s) (nI o) planned_m rl ro plan row (nI lim) 10 fu 0 sums weights (by omega) (fu_ge (by omega)) (fun i hi => absurd hi (by omega))
    have hS : Sr 0 (va_cpy ms search_masses_sums 0 0 10, va_cpy mw search_masses_weights 0 0 10) sums' weights' := fun m hm => by
      obtain ⟨m1, m2, -⟩ := hM m hm
      obtain ⟨k3, k4⟩ := k2 m hm
      rw [show 10 * 0 + m = m by omega, k3, k4, m1, m2]
      exact ⟨(cpyL hm).symm, (cpyL hm).symm⟩
    obtain ⟨pt', pl', row7', pm', pn', row8', sums'', weights'', r, f1, f2, f3⟩ := few_in (la := fun l => nn (cl l)) (lb := fun l => nn (co l)) (c := cc) (cl := cl) (co := co) (rl := rl) (ro := ro) (crowd := crowd') hn hs0 hs1 hs2 l4 s2 s3 s4 (fun l h => ⟨(hl l h).1, (hl l h).2.1, (hl l h).2.2.2.2⟩) (fun l h => ⟨(hl l h).2.2.1, (hl l h).2.2.2.1, (hl l h).2.2.2.2⟩) (show lim ≤ 3 by omega) (va_cpy ms search_masses_sums 0 0 10, va_cpy mw search_masses_weights 0 0 10) a_open jo ms mw hP (lim + 1) fu 0 search_row row sums' weights' (by omega) (fu_ge (by omega)) (fun t' h => absurd h (by omega)) hS
    rw [l1, l2, bd_q, bd_q, s1, bd_q]
    exact ⟨_, _, _, _, _, _, _, _, _, _, _, _, _, _, _, _, _, _, _, _, f1, k1.trans f2, f3⟩
  · refine ⟨plannedTalks, open_size, open_lesser, open_other, planned, search_crowdSize, search_crowd, search_masses_sums, search_masses_weights, search_row, search_lines, opn, planned_m, lesser, other, plan, row, sums, weights, -1, ?_, ?_, hP⟩
    · by_cases hn0 : p1 < 0
      · rw [if_pos hn0]
      · rw [if_neg hn0, if_neg (by rw [e2]; rw [e1] at hn0; omega)]
    · rw [bi_f c, if_neg (fun z => z rfl)]
