/-! copies of a State -/
theorem X6_copy (a b c d e f : Nat → Int32) : f_X6_copyFrom a b c d e f = some (va_cpy a d 0 0 11, va_cpy b e 0 0 44, va_cpy c f 0 0 44) := by
  unfold f_X6_copyFrom
  simp (disch := decide) only [nm_q, ckp_q]
  rfl
theorem X3_copy (N : Nat) (hN : N < 2 ^ 31) (a b d e : Nat → Int64) : f_X3_copyFrom N N a b d e = some (va_cpy a d 0 0 N, va_cpy b e 0 0 N) := by
  unfold f_X3_copyFrom
  have h1 : (Int32.ofNat N).toNatClampNeg = N := nI_clamp hN
  have hc : ¬ (0 : Int32) < 0 ∧ ¬ (0 : Int32) < 0 ∧ ¬ (Int32.ofNat N) < 0 ∧ (0 : Int32).toNatClampNeg + (Int32.ofNat N).toNatClampNeg ≤ N ∧ (0 : Int32).toNatClampNeg + (Int32.ofNat N).toNatClampNeg ≤ N := by
    refine ⟨by decide, by decide, nI_pos hN, ?_, ?_⟩ <;> (rw [h1]; show 0 + N ≤ N; omega)
  simp only [nm_q, ckp_q hc, h1]
  rfl
theorem X1_copy (a b : Nat → Int64) (c d : Nat → Int32) (a' b' : Nat → Int64) (c' d' : Nat → Int32) : f_X1_copyFrom a b c d a' b' c' d' = some (va_cpy a a' 0 0 8, va_cpy b b' 0 0 8, va_cpy c c' 0 0 8, va_cpy d d' 0 0 8) := by
  unfold f_X1_copyFrom
  simp (disch := decide) only [nm_q, ckp_q, X3_copy 8 (by decide), bd_q]
  rfl
theorem X5_copy (me he se ta : Int32) (bs bw : Nat → Int64) (gr hd jo le : Nat → Int32) (cs cw : Nat → Int64) (fr to : Nat → Int32) (ms mw os ow : Nat → Int64) (kn nu ox va : Nat → Int32)
    (me' he' se' ta' : Int32) (bs' bw' : Nat → Int64) (gr' hd' jo' le' : Nat → Int32) (cs' cw' : Nat → Int64) (fr' to' : Nat → Int32) (ms' mw' os' ow' : Nat → Int64) (kn' nu' ox' va' : Nat → Int32) :
    f_X5_copyFrom me he se ta bs bw gr hd jo le cs cw fr to ms mw os ow kn nu ox va me' he' se' ta' bs' bw' gr' hd' jo' le' cs' cw' fr' to' ms' mw' os' ow' kn' nu' ox' va' = some (me, he, se, ta, va_cpy bs bs' 0 0 100, va_cpy bw bw' 0 0 100, va_cpy gr gr' 0 0 10, va_cpy hd hd' 0 0 10, va_cpy jo jo' 0 0 10, va_cpy le le' 0 0 10, va_cpy cs cs' 0 0 8, va_cpy cw cw' 0 0 8, va_cpy fr fr' 0 0 8, va_cpy to to' 0 0 8, va_cpy ms ms' 0 0 10, va_cpy mw mw' 0 0 10, va_cpy os os' 0 0 100, va_cpy ow ow' 0 0 100, va_cpy kn kn' 0 0 11, va_cpy nu nu' 0 0 44, va_cpy ox ox' 0 0 44, va_cpy va va' 0 0 10) := by
  unfold f_X5_copyFrom
  simp (disch := decide) only [nm_q, ckp_q, X6_copy, X3_copy 10 (by decide), X3_copy 100 (by decide), X1_copy, bd_q]
  rfl
/-- a copy holds what its source holds -/
theorem RS_copy {me he se ta : Int32} {bs bw : Nat → Int64} {gr hd jo le : Nat → Int32} {cs cw : Nat → Int64} {fr to : Nat → Int32} {ms mw os ow : Nat → Int64} {kn nu ox va : Nat → Int32} {s : Nat → Int64} (bs' bw' : Nat → Int64) (gr' hd' jo' le' : Nat → Int32) (cs' cw' : Nat → Int64) (fr' to' : Nat → Int32) (ms' mw' os' ow' : Nat → Int64) (kn' nu' ox' va' : Nat → Int32)
    (h : RS me he se ta bs bw gr hd jo le cs cw fr to ms mw os ow kn nu ox va s) : RS me he se ta (va_cpy bs bs' 0 0 100) (va_cpy bw bw' 0 0 100) (va_cpy gr gr' 0 0 10) (va_cpy hd hd' 0 0 10) (va_cpy jo jo' 0 0 10) (va_cpy le le' 0 0 10) (va_cpy cs cs' 0 0 8) (va_cpy cw cw' 0 0 8) (va_cpy fr fr' 0 0 8) (va_cpy to to' 0 0 8) (va_cpy ms ms' 0 0 10) (va_cpy mw mw' 0 0 10) (va_cpy os os' 0 0 100) (va_cpy ow ow' 0 0 100) (va_cpy kn kn' 0 0 11) (va_cpy nu nu' 0 0 44) (va_cpy ox ox' 0 0 44) (va_cpy va va' 0 0 10) s :=
  h.cl (fun i hi => ⟨cpyL hi, cpyL hi, cpyL hi, cpyL hi⟩) (fun i hi => ⟨cpyI hi, cpyI hi, cpyI hi, cpyI hi, cpyI hi, cpyL hi, cpyL hi, cpyI (by omega)⟩) (fun i hi => ⟨cpyL hi, cpyL hi, cpyI hi, cpyI hi⟩) (fun i hi => ⟨cpyI hi, cpyI hi⟩)
theorem RSv.fr {x : STv} {s s' : Nat → Int64} (h : RSv x s) (e : ∀ j, j < 613 → s' j = s j) : RSv x s' := by
  obtain ⟨a1, a2, a3, a4, a5, a6, a7, a8, a9, a10, a11, a12, a13, a14, a15, a16, a17, a18, a19, a20, a21, a22⟩ := x
  exact RS.fr h e
/-- the kept States, and the reference's kept rows -/
def RHi (next size : Int32) (V : Nat → Option STv) (undos : Int32) (kept : Nat → Int64) : Prop := ∃ u x : Nat, u ≤ 20 ∧ x < 20 ∧ size = nI u ∧ undos = nI u ∧ next = nI x ∧ ∀ i, i < u → ∃ v, V ((x + 20 - u + i) % 20) = some v ∧ RSv v (fun k => kept (613 * i + k))
theorem X8_keep2 (s : Nat → Int64) (u : Nat) (hu : u < 20) : ∀ (d n i : Nat) (kept : Nat → Int64), i + d = 613 → d < n → f_X8_keep_c52 s n (nI u) kept (nI i) = some (nI (u + 1), fun j => if 613 * u + i ≤ j ∧ j < 613 * u + 613 then s (j - 613 * u) else kept j)
  | 0, 0, i, kept, h1, h2 => absurd h2 (by omega)
  | d + 1, 0, i, kept, h1, h2 => absurd h2 (by omega)
  | 0, n + 1, i, kept, h1, h2 => by
    unfold f_X8_keep_c52
    rw [show (613 : Int32) = nI 613 from rfl, if_pos ((nI_leI (by omega) (by omega)).mpr (by omega)), nm_q, show (1 : Int32) = nI 1 from rfl, nI_add]
    congr 2; funext j; rw [if_neg (by omega)]
  | d + 1, n + 1, i, kept, h1, h2 => by
    unfold f_X8_keep_c52
    rw [show (613 : Int32) = nI 613 from rfl, if_neg (fun h => by rw [nI_leI (by omega) (by omega)] at h; omega), pk_mul, nI_add, ck_q (by omega) (by omega), ck_q (by omega) (by omega), nm_q, nm_q, show (1 : Int32) = nI 1 from rfl, nI_add, nI_clamp (by omega), nI_clamp (by omega)]
    show f_X8_keep_c52 s n (nI u) _ (nI (i + 1)) = _
    rw [X8_keep2 s u hu d n (i + 1) _ (by omega) (by omega)]
    congr 2; funext j
    rw [upL_a]
    by_cases hj : j = 613 * u + i
    · subst hj; rw [if_neg (by omega), if_pos rfl, if_pos (by omega)]; congr 1; omega
    · by_cases h3 : 613 * u + (i + 1) ≤ j ∧ j < 613 * u + 613
      · rw [if_pos h3, if_pos (by omega)]
      · rw [if_neg h3, if_neg hj, if_neg (by omega)]
theorem X8_keep1 (s : Nat → Int64) : ∀ (d n i : Nat) (kept : Nat → Int64), i + d = 11647 → d < n → f_X8_keep_c11 s n (nI 20) kept (nI i) = some (nI 20, fun j => if 11647 ≤ j ∧ j < 12260 then s (j - 11647) else if i ≤ j ∧ j < 11647 then kept (j + 613) else kept j)
  | 0, 0, i, kept, h1, h2 => absurd h2 (by omega)
  | d + 1, 0, i, kept, h1, h2 => absurd h2 (by omega)
  | 0, n + 1, i, kept, h1, h2 => by
    unfold f_X8_keep_c11
    rw [show (11647 : Int32) = nI 11647 from rfl, if_pos ((nI_leI (by omega) (by omega)).mpr (by omega)), nm_q, show nI 20 - (1 : Int32) = nI 19 from rfl]
    unfold f_X8_keep_c50
    rw [show (0 : Int32) = nI 0 from rfl, X8_keep2 s 19 (by omega) 613 fu 0 kept (by omega) (fu_ge (by omega))]
    congr 2; funext j
    by_cases h3 : 11647 ≤ j ∧ j < 12260
    · rw [if_pos (by omega), if_pos h3]
    · rw [if_neg (by omega), if_neg h3, if_neg (by omega)]
  | d + 1, n + 1, i, kept, h1, h2 => by
    unfold f_X8_keep_c11
    rw [show (11647 : Int32) = nI 11647 from rfl, if_neg (fun h => by rw [nI_leI (by omega) (by omega)] at h; omega), show (613 : Int32) = nI 613 from rfl, nI_add, ck_q (by omega) (by omega), ck_q (by omega) (by omega), nm_q, nm_q, show (1 : Int32) = nI 1 from rfl, nI_add, nI_clamp (by omega), nI_clamp (by omega)]
    show f_X8_keep_c11 s n (nI 20) _ (nI (i + 1)) = _
    rw [X8_keep1 s d n (i + 1) _ (by omega) (by omega)]
    congr 2; funext j
    simp only [upL_a]
    by_cases h3 : 11647 ≤ j ∧ j < 12260
    · rw [if_pos h3, if_pos h3]
    · rw [if_neg h3, if_neg h3]
      by_cases h4 : j = i
      · subst h4; rw [if_neg (by omega), if_pos rfl, if_pos (by omega)]
      · by_cases h5 : i + 1 ≤ j ∧ j < 11647
        · rw [if_pos h5, if_neg (by omega), if_pos (by omega)]
        · rw [if_neg h5, if_neg h4, if_neg (by omega)]
theorem X8_keep (s kept : Nat → Int64) (u : Nat) (hu : u ≤ 20) : f_X8_keep s (nI u) kept = some (nI (if u = 20 then 20 else u + 1), if u = 20 then (fun j => if 11647 ≤ j ∧ j < 12260 then s (j - 11647) else if j < 11647 then kept (j + 613) else kept j) else (fun j => if 613 * u ≤ j ∧ j < 613 * u + 613 then s (j - 613 * u) else kept j)) := by
  unfold f_X8_keep
  rw [show (20 : Int32) = nI 20 from rfl, show (0 : Int32) = nI 0 from rfl]
  by_cases h : u = 20
  · subst h
    rw [if_neg (fun e => e rfl), X8_keep1 s 11647 fu 0 kept (by omega) (fu_ge (by omega)), if_pos rfl, if_pos rfl]
    congr 2; funext j
    by_cases h3 : 11647 ≤ j ∧ j < 12260
    · rw [if_pos h3, if_pos h3]
    · rw [if_neg h3, if_neg h3]
      by_cases h5 : j < 11647
      · rw [if_pos ⟨Nat.zero_le _, h5⟩, if_pos h5]
      · rw [if_neg (by omega), if_neg h5]
  · rw [if_pos (fun e => h ((nI_eq (by omega) (by omega)).mp e)), if_neg h, if_neg h]
    unfold f_X8_keep_c50
    rw [show (0 : Int32) = nI 0 from rfl, X8_keep2 s u (by omega) 613 fu 0 kept (by omega) (fu_ge (by omega))]
    rfl
/-- the class keeps its State where the reference keeps its row -/
theorem keep_both {me he se ta : Int32} {bs bw : Nat → Int64} {gr hd jo le : Nat → Int32} {cs cw : Nat → Int64} {fr to : Nat → Int32} {ms mw os ow : Nat → Int64} {kn nu ox va : Nat → Int32} {s : Nat → Int64} {next size undos : Int32} {V : Nat → Option STv} {kept : Nat → Int64}
    (h : RS me he se ta bs bw gr hd jo le cs cw fr to ms mw os ow kn nu ox va s) (hH : RHi next size V undos kept) : ∃ next' size' V' undos' kept', f_X0_keep me he se ta bs bw gr hd jo le cs cw fr to ms mw os ow kn nu ox va next size V = some (next', size', V') ∧ f_X8_keep s undos kept = some (undos', kept') ∧ RHi next' size' V' undos' kept' := by
  obtain ⟨u, x, hu, hx, rfl, rfl, rfl, hk⟩ := hH
  have hx20 : (nI x).toNatClampNeg = x := nI_clamp (by omega)
  have hn : (nI x + (1 : Int32)) - (nI x + (1 : Int32)) / (20 : Int32) * (20 : Int32) = nI ((x + 1) % 20) := by
    rw [show (1 : Int32) = nI 1 from rfl, show (20 : Int32) = nI 20 from rfl, nI_add, pk_rem (by omega) (by omega) (by omega)]
  have key : ∀ (y : Int32) (R : STv), (if (20 : Int32) ≤ nI u then some (y, nI u, va_up V x (some R)) else nm (nI u + (1 : Int32)) fun x2 => some (y, x2, va_up V x (some R))) = some (y, nI (if u = 20 then 20 else u + 1), va_up V x (some R)) := by
    intro y R
    by_cases h20 : u = 20
    · subst h20; rw [if_pos (show (20 : Int32) ≤ nI 20 from Int32.le_refl _), if_pos rfl]
    · rw [if_neg (fun e => by rw [show (20 : Int32) = nI 20 from rfl, nI_leI (by omega) (by omega)] at e; omega), nm_q, if_neg h20, show (1 : Int32) = nI 1 from rfl, nI_add]
  have hcc : ∃ R : STv, RSv R s ∧ f_X0_keep me he se ta bs bw gr hd jo le cs cw fr to ms mw os ow kn nu ox va (nI x) (nI u) V = some (nI ((x + 1) % 20), nI (if u = 20 then 20 else u + 1), va_up V x (some R)) := by
    cases hV : V x with
    | none =>
      refine ⟨(me, he, se, ta, va_cpy bs stv0.2.2.2.2.1 0 0 100, va_cpy bw stv0.2.2.2.2.2.1 0 0 100, va_cpy gr stv0.2.2.2.2.2.2.1 0 0 10, va_cpy hd stv0.2.2.2.2.2.2.2.1 0 0 10, va_cpy jo stv0.2.2.2.2.2.2.2.2.1 0 0 10, va_cpy le stv0.2.2.2.2.2.2.2.2.2.1 0 0 10, va_cpy cs stv0.2.2.2.2.2.2.2.2.2.2.1 0 0 8, va_cpy cw stv0.2.2.2.2.2.2.2.2.2.2.2.1 0 0 8, va_cpy fr stv0.2.2.2.2.2.2.2.2.2.2.2.2.1 0 0 8, va_cpy to stv0.2.2.2.2.2.2.2.2.2.2.2.2.2.1 0 0 8, va_cpy ms stv0.2.2.2.2.2.2.2.2.2.2.2.2.2.2.1 0 0 10, va_cpy mw stv0.2.2.2.2.2.2.2.2.2.2.2.2.2.2.2.1 0 0 10, va_cpy os stv0.2.2.2.2.2.2.2.2.2.2.2.2.2.2.2.2.1 0 0 100, va_cpy ow stv0.2.2.2.2.2.2.2.2.2.2.2.2.2.2.2.2.2.1 0 0 100, va_cpy kn stv0.2.2.2.2.2.2.2.2.2.2.2.2.2.2.2.2.2.2.1 0 0 11, va_cpy nu stv0.2.2.2.2.2.2.2.2.2.2.2.2.2.2.2.2.2.2.2.1 0 0 44, va_cpy ox stv0.2.2.2.2.2.2.2.2.2.2.2.2.2.2.2.2.2.2.2.2.1 0 0 44, va_cpy va stv0.2.2.2.2.2.2.2.2.2.2.2.2.2.2.2.2.2.2.2.2.2 0 0 10), RS_copy stv0.2.2.2.2.1 stv0.2.2.2.2.2.1 stv0.2.2.2.2.2.2.1 stv0.2.2.2.2.2.2.2.1 stv0.2.2.2.2.2.2.2.2.1 stv0.2.2.2.2.2.2.2.2.2.1 stv0.2.2.2.2.2.2.2.2.2.2.1 stv0.2.2.2.2.2.2.2.2.2.2.2.1 stv0.2.2.2.2.2.2.2.2.2.2.2.2.1 stv0.2.2.2.2.2.2.2.2.2.2.2.2.2.1 stv0.2.2.2.2.2.2.2.2.2.2.2.2.2.2.1 stv0.2.2.2.2.2.2.2.2.2.2.2.2.2.2.2.1 stv0.2.2.2.2.2.2.2.2.2.2.2.2.2.2.2.2.1 stv0.2.2.2.2.2.2.2.2.2.2.2.2.2.2.2.2.2.1 stv0.2.2.2.2.2.2.2.2.2.2.2.2.2.2.2.2.2.2.1 stv0.2.2.2.2.2.2.2.2.2.2.2.2.2.2.2.2.2.2.2.1 stv0.2.2.2.2.2.2.2.2.2.2.2.2.2.2.2.2.2.2.2.2.1 stv0.2.2.2.2.2.2.2.2.2.2.2.2.2.2.2.2.2.2.2.2.2 h, ?_⟩
      unfold f_X0_keep
      rw [ck_q (by omega) (by omega), hx20, hV]
      dsimp only
      rw [X5_copy, bd_q, nm_q, hn]
      exact key _ _
    | some v =>
      refine ⟨(me, he, se, ta, va_cpy bs v.2.2.2.2.1 0 0 100, va_cpy bw v.2.2.2.2.2.1 0 0 100, va_cpy gr v.2.2.2.2.2.2.1 0 0 10, va_cpy hd v.2.2.2.2.2.2.2.1 0 0 10, va_cpy jo v.2.2.2.2.2.2.2.2.1 0 0 10, va_cpy le v.2.2.2.2.2.2.2.2.2.1 0 0 10, va_cpy cs v.2.2.2.2.2.2.2.2.2.2.1 0 0 8, va_cpy cw v.2.2.2.2.2.2.2.2.2.2.2.1 0 0 8, va_cpy fr v.2.2.2.2.2.2.2.2.2.2.2.2.1 0 0 8, va_cpy to v.2.2.2.2.2.2.2.2.2.2.2.2.2.1 0 0 8, va_cpy ms v.2.2.2.2.2.2.2.2.2.2.2.2.2.2.1 0 0 10, va_cpy mw v.2.2.2.2.2.2.2.2.2.2.2.2.2.2.2.1 0 0 10, va_cpy os v.2.2.2.2.2.2.2.2.2.2.2.2.2.2.2.2.1 0 0 100, va_cpy ow v.2.2.2.2.2.2.2.2.2.2.2.2.2.2.2.2.2.1 0 0 100, va_cpy kn v.2.2.2.2.2.2.2.2.2.2.2.2.2.2.2.2.2.2.1 0 0 11, va_cpy nu v.2.2.2.2.2.2.2.2.2.2.2.2.2.2.2.2.2.2.2.1 0 0 44, va_cpy ox v.2.2.2.2.2.2.2.2.2.2.2.2.2.2.2.2.2.2.2.2.1 0 0 44, va_cpy va v.2.2.2.2.2.2.2.2.2.2.2.2.2.2.2.2.2.2.2.2.2 0 0 10), RS_copy v.2.2.2.2.1 v.2.2.2.2.2.1 v.2.2.2.2.2.2.1 v.2.2.2.2.2.2.2.1 v.2.2.2.2.2.2.2.2.1 v.2.2.2.2.2.2.2.2.2.1 v.2.2.2.2.2.2.2.2.2.2.1 v.2.2.2.2.2.2.2.2.2.2.2.1 v.2.2.2.2.2.2.2.2.2.2.2.2.1 v.2.2.2.2.2.2.2.2.2.2.2.2.2.1 v.2.2.2.2.2.2.2.2.2.2.2.2.2.2.1 v.2.2.2.2.2.2.2.2.2.2.2.2.2.2.2.1 v.2.2.2.2.2.2.2.2.2.2.2.2.2.2.2.2.1 v.2.2.2.2.2.2.2.2.2.2.2.2.2.2.2.2.2.1 v.2.2.2.2.2.2.2.2.2.2.2.2.2.2.2.2.2.2.1 v.2.2.2.2.2.2.2.2.2.2.2.2.2.2.2.2.2.2.2.1 v.2.2.2.2.2.2.2.2.2.2.2.2.2.2.2.2.2.2.2.2.1 v.2.2.2.2.2.2.2.2.2.2.2.2.2.2.2.2.2.2.2.2.2 h, ?_⟩
      unfold f_X0_keep
      rw [ck_q (by omega) (by omega), hx20, hV]
      dsimp only
      rw [X5_copy, bd_q, nm_q, hn]
      exact key _ _
  obtain ⟨R, hRs, hK⟩ := hcc
  refine ⟨_, _, _, _, _, hK, X8_keep s kept u hu, ?_⟩
  by_cases h20 : u = 20
  · subst h20
    refine ⟨20, (x + 1) % 20, Nat.le_refl _, Nat.mod_lt _ (by omega), rfl, rfl, rfl, fun i hi => ?_⟩
    rw [if_pos rfl]
    by_cases hi9 : i = 19
    · subst hi9
      refine ⟨R, ?_, ?_⟩
      · rw [show ((x + 1) % 20 + 20 - 20 + 19) % 20 = x by omega]; unfold va_up; rw [if_pos rfl]
      · refine RSv.fr (s := s) hRs fun k hk => ?_
        rw [if_pos (by omega)]; exact congrArg s (by omega)
    · obtain ⟨v, hv1, hv2⟩ := hk (i + 1) (by omega)
      refine ⟨v, ?_, ?_⟩
      · rw [show ((x + 1) % 20 + 20 - 20 + i) % 20 = (x + 20 - 20 + (i + 1)) % 20 by omega]
        unfold va_up; rw [if_neg (by omega)]; exact hv1
      · refine RSv.fr (s := fun k => kept (613 * (i + 1) + k)) hv2 fun k hk => ?_
        rw [if_neg (by omega), if_pos (by omega)]; exact congrArg kept (by omega)
  · refine ⟨u + 1, (x + 1) % 20, by omega, Nat.mod_lt _ (by omega), by rw [if_neg h20], by rw [if_neg h20], rfl, fun i hi => ?_⟩
    rw [if_neg h20]
    by_cases hiu : i = u
    · subst hiu
      refine ⟨R, ?_, ?_⟩
      · rw [show ((x + 1) % 20 + 20 - (i + 1) + i) % 20 = x by omega]; unfold va_up; rw [if_pos rfl]
      · refine RSv.fr (s := s) hRs fun k hk => ?_
        rw [if_pos (by omega)]; exact congrArg s (by omega)
    · obtain ⟨v, hv1, hv2⟩ := hk i (by omega)
      refine ⟨v, ?_, ?_⟩
      · rw [show ((x + 1) % 20 + 20 - (u + 1) + i) % 20 = (x + 20 - u + i) % 20 by omega]
        unfold va_up; rw [if_neg (by omega)]; exact hv1
      · refine RSv.fr (s := fun k => kept (613 * i + k)) hv2 fun k hk => ?_
        rw [if_neg (by omega)]
