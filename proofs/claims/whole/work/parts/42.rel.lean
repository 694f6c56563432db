/-! what a State of the class and the row s of the reference have in common -/
def R0 (me he se ta : Int32) (s : Nat → Int64) : Prop := vp_in me 11 ∧ s 0 = me.toInt64 ∧ vp_in he 1024 ∧ (∀ m, m < 10 → s (13 + m) = if tb (nn he) m then 1 else 0) ∧ (∀ m, nn me ≤ m → m < 10 → tb (nn he) m = false) ∧ ¬ se < 0 ∧ s 1 = se.toInt64 ∧ (s 2).toInt32 = ta
def RJ (me : Int32) (jo : Nat → Int32) (s : Nat → Int64) : Prop := ∀ a, a < 10 → vp_in (jo a) 1024 ∧ s (3 + a) = (jo a).toInt64 ∧ tb (nn (jo a)) a = false ∧ ∀ b, b < 10 → tb (nn (jo a)) b = tb (nn (jo b)) a ∧ (nn me ≤ b → tb (nn (jo a)) b = false)
def RV (va gr le : Nat → Int32) (s : Nat → Int64) : Prop := ∀ m, m < 10 → s (23 + m) = (va m).toInt64 ∧ s (53 + m) = (gr m).toInt64 ∧ s (63 + m) = (le m).toInt64
def RH (me : Int32) (hd : Nat → Int32) (s : Nat → Int64) : Prop := ∀ m, m < 10 → vp_in (hd m) 1024 ∧ s (73 + m) = (hd m).toInt64 ∧ (nn me ≤ m → hd m = 0)
def RM (he : Int32) (ms mw : Nat → Int64) (s : Nat → Int64) : Prop := ∀ m, m < 10 → s (33 + m) = ms m ∧ s (43 + m) = mw m ∧ (tb (nn he) m = false → ms m = 0 ∧ mw m = 0)
def RK (kn nu ow : Nat → Int32) (s : Nat → Int64) : Prop := ∀ m, m < 10 → vp_in (kn m) 5 ∧ s (83 + m) = (kn m).toInt64 ∧ ∀ i, i < nn (kn m) → s (93 + (4 * m + i)) = (nu (4 * m + i)).toInt64 ∧ s (133 + (4 * m + i)) = (ow (4 * m + i)).toInt64 ∧ ¬ nu (4 * m + i) < 0
def RLt (he : Int32) (cs cw : Nat → Int64) (fr to : Nat → Int32) (s : Nat → Int64) : Prop := ∀ k, k < 8 → (fr k = -1 ∧ ¬ s (173 + 5 * k) = 1 ∧ cs k = 0 ∧ cw k = 0) ∨ (vp_in (fr k) 10 ∧ vp_in (to k) 10 ∧ tb (nn he) (nn (fr k)) = true ∧ tb (nn he) (nn (to k)) = true ∧ s (173 + 5 * k) = 1 ∧ s (173 + 5 * k + 1) = (fr k).toInt64 ∧ s (173 + 5 * k + 2) = (to k).toInt64 ∧ s (173 + 5 * k + 3) = cs k ∧ s (173 + 5 * k + 4) = cw k)
def RQ (me : Int32) (bs bw os ow : Nat → Int64) (s : Nat → Int64) : Prop := ∀ i, i < 100 → s (213 + i) = bs i ∧ s (313 + i) = bw i ∧ s (413 + i) = os i ∧ s (513 + i) = ow i ∧ ((nn me ≤ i / 10 ∨ nn me ≤ i % 10) → bs i = 0 ∧ bw i = 0 ∧ os i = 0 ∧ ow i = 0)
def RS (me he se ta : Int32) (bs bw : Nat → Int64) (gr hd jo le : Nat → Int32) (cs cw : Nat → Int64) (fr to : Nat → Int32) (ms mw os ow : Nat → Int64) (kn nu ox va : Nat → Int32) (s : Nat → Int64) : Prop :=
  R0 me he se ta s ∧ RJ me jo s ∧ RV va gr le s ∧ RH me hd s ∧ RM he ms mw s ∧ RK kn nu ox s ∧ RLt he cs cw fr to s ∧ RQ me bs bw os ow s
def RSv (x : STv) (s : Nat → Int64) : Prop := match x with
  | (me, he, se, ta, bs, bw, gr, hd, jo, le, cs, cw, fr, to, ms, mw, os, ow, kn, nu, ox, va) => RS me he se ta bs bw gr hd jo le cs cw fr to ms mw os ow kn nu ox va s
/-- the rows of s that a part of the relation reads -/
theorem R0.fr {me he se ta : Int32} {s s' : Nat → Int64} (h : R0 me he se ta s) (e : ∀ j, (j < 3 ∨ (13 ≤ j ∧ j < 23)) → s' j = s j) : R0 me he se ta s' := by
  obtain ⟨h1, h2, h3, h4, h5, h6, h7, h8⟩ := h
  refine ⟨h1, by rw [e 0 (by omega)]; exact h2, h3, fun m hm => by rw [e (13 + m) (by omega)]; exact h4 m hm, h5, h6, by rw [e 1 (by omega)]; exact h7, by rw [e 2 (by omega)]; exact h8⟩
theorem RJ.fr {me : Int32} {jo : Nat → Int32} {s s' : Nat → Int64} (h : RJ me jo s) (e : ∀ j, 3 ≤ j → j < 13 → s' j = s j) : RJ me jo s' := fun a ha => by
  obtain ⟨h1, h2, h3⟩ := h a ha
  exact ⟨h1, by rw [e (3 + a) (by omega) (by omega)]; exact h2, h3⟩
theorem RV.fr {va gr le : Nat → Int32} {s s' : Nat → Int64} (h : RV va gr le s) (e : ∀ j, ((23 ≤ j ∧ j < 33) ∨ (53 ≤ j ∧ j < 73)) → s' j = s j) : RV va gr le s' := fun m hm => by
  rw [e (23 + m) (by omega), e (53 + m) (by omega), e (63 + m) (by omega)]; exact h m hm
theorem RH.fr {me : Int32} {hd : Nat → Int32} {s s' : Nat → Int64} (h : RH me hd s) (e : ∀ j, 73 ≤ j → j < 83 → s' j = s j) : RH me hd s' := fun m hm => by
  rw [e (73 + m) (by omega) (by omega)]; exact h m hm
theorem RM.fr {he : Int32} {ms mw : Nat → Int64} {s s' : Nat → Int64} (h : RM he ms mw s) (e : ∀ j, 33 ≤ j → j < 53 → s' j = s j) : RM he ms mw s' := fun m hm => by
  rw [e (33 + m) (by omega) (by omega), e (43 + m) (by omega) (by omega)]; exact h m hm
theorem RK.fr {kn nu ow : Nat → Int32} {s s' : Nat → Int64} (h : RK kn nu ow s) (e : ∀ j, 83 ≤ j → j < 173 → s' j = s j) : RK kn nu ow s' := fun m hm => by
  obtain ⟨h1, h2, h3⟩ := h m hm
  refine ⟨h1, by rw [e (83 + m) (by omega) (by omega)]; exact h2, fun i hi => ?_⟩
  have := (nn_nI h1 (by omega)).2
  rw [e (93 + (4 * m + i)) (by omega) (by omega), e (133 + (4 * m + i)) (by omega) (by omega)]; exact h3 i hi
theorem RLt.fr {he : Int32} {cs cw : Nat → Int64} {fr to : Nat → Int32} {s s' : Nat → Int64} (h : RLt he cs cw fr to s) (e : ∀ j, 173 ≤ j → j < 213 → s' j = s j) : RLt he cs cw fr to s' := fun k hk => by
  rw [e (173 + 5 * k) (by omega) (by omega), e (173 + 5 * k + 1) (by omega) (by omega), e (173 + 5 * k + 2) (by omega) (by omega), e (173 + 5 * k + 3) (by omega) (by omega), e (173 + 5 * k + 4) (by omega) (by omega)]; exact h k hk
theorem RQ.fr {me : Int32} {bs bw os ow : Nat → Int64} {s s' : Nat → Int64} (h : RQ me bs bw os ow s) (e : ∀ j, 213 ≤ j → j < 613 → s' j = s j) : RQ me bs bw os ow s' := fun i hi => by
  rw [e (213 + i) (by omega) (by omega), e (313 + i) (by omega) (by omega), e (413 + i) (by omega) (by omega), e (513 + i) (by omega) (by omega)]; exact h i hi
theorem RS.fr {me he se ta : Int32} {bs bw : Nat → Int64} {gr hd jo le : Nat → Int32} {cs cw : Nat → Int64} {fr to : Nat → Int32} {ms mw os ow : Nat → Int64} {kn nu ox va : Nat → Int32} {s s' : Nat → Int64} (h : RS me he se ta bs bw gr hd jo le cs cw fr to ms mw os ow kn nu ox va s) (e : ∀ j, j < 613 → s' j = s j) : RS me he se ta bs bw gr hd jo le cs cw fr to ms mw os ow kn nu ox va s' :=
  ⟨h.1.fr fun j hj => e j (by omega), h.2.1.fr fun j _ _ => e j (by omega), h.2.2.1.fr fun j hj => e j (by omega), h.2.2.2.1.fr fun j _ _ => e j (by omega), h.2.2.2.2.1.fr fun j _ _ => e j (by omega), h.2.2.2.2.2.1.fr fun j _ _ => e j (by omega), h.2.2.2.2.2.2.1.fr fun j _ _ => e j (by omega), h.2.2.2.2.2.2.2.fr fun j _ _ => e j (by omega)⟩
/-- the rows of the class that matter -/
theorem RS.cl {me he se ta : Int32} {bs bw : Nat → Int64} {gr hd jo le : Nat → Int32} {cs cw : Nat → Int64} {fr to : Nat → Int32} {ms mw os ow : Nat → Int64} {kn nu ox va : Nat → Int32} {s : Nat → Int64} {bs' bw' : Nat → Int64} {gr' hd' jo' le' : Nat → Int32} {cs' cw' : Nat → Int64} {fr' to' : Nat → Int32} {ms' mw' os' ow' : Nat → Int64} {kn' nu' ox' va' : Nat → Int32}
    (h : RS me he se ta bs bw gr hd jo le cs cw fr to ms mw os ow kn nu ox va s)
    (e1 : ∀ i, i < 100 → bs' i = bs i ∧ bw' i = bw i ∧ os' i = os i ∧ ow' i = ow i)
    (e2 : ∀ i, i < 10 → gr' i = gr i ∧ hd' i = hd i ∧ jo' i = jo i ∧ le' i = le i ∧ va' i = va i ∧ ms' i = ms i ∧ mw' i = mw i ∧ kn' i = kn i)
    (e3 : ∀ i, i < 8 → cs' i = cs i ∧ cw' i = cw i ∧ fr' i = fr i ∧ to' i = to i)
    (e4 : ∀ i, i < 44 → nu' i = nu i ∧ ox' i = ox i) : RS me he se ta bs' bw' gr' hd' jo' le' cs' cw' fr' to' ms' mw' os' ow' kn' nu' ox' va' s := by
  obtain ⟨h0, hJ, hV, hH, hM, hK, hL, hQ⟩ := h
  refine ⟨h0, fun a ha => ?_, fun m hm => ?_, fun m hm => ?_, fun m hm => ?_, fun m hm => ?_, fun k hk => ?_, fun i hi => ?_⟩
  · obtain ⟨_, _, g3, _⟩ := e2 a ha
    rw [g3]
    obtain ⟨k1, k2, k3, k4⟩ := hJ a ha
    refine ⟨k1, k2, k3, fun b hb => ?_⟩
    rw [(e2 b hb).2.2.1]; exact k4 b hb
  · obtain ⟨g1, _, _, g4, g5, _⟩ := e2 m hm
    rw [g1, g4, g5]; exact hV m hm
  · obtain ⟨_, g2, _⟩ := e2 m hm
    rw [g2]; exact hH m hm
  · obtain ⟨_, _, _, _, _, g6, g7, _⟩ := e2 m hm
    rw [g6, g7]; exact hM m hm
  · obtain ⟨_, _, _, _, _, _, _, g8⟩ := e2 m hm
    rw [g8]
    obtain ⟨k1, k2, k3⟩ := hK m hm
    refine ⟨k1, k2, fun i hi => ?_⟩
    have := (nn_nI k1 (by omega)).2
    rw [(e4 (4 * m + i) (by omega)).1, (e4 (4 * m + i) (by omega)).2]; exact k3 i hi
  · obtain ⟨g1, g2, g3, g4⟩ := e3 k hk
    rw [g1, g2, g3, g4]; exact hL k hk
  · obtain ⟨g1, g2, g3, g4⟩ := e1 i hi
    rw [g1, g2, g3, g4]; exact hQ i hi
