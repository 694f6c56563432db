/-! fewest: rows of talks, looked for plainly and with cuts -/
noncomputable def hlf (x : Int64) : Int64 := x >>> ((1 : Int32).toInt64 &&& 63)
noncomputable def evv (a b : Nat) (x : (Nat → Int64) × (Nat → Int64)) : (Nat → Int64) × (Nat → Int64) := (vp_updL (vp_updL x.1 b (hlf (x.1 a + x.1 b))) a (x.1 a + x.1 b - hlf (x.1 a + x.1 b)), vp_updL (vp_updL x.2 b (hlf (x.2 a + x.2 b))) a (x.2 a + x.2 b - hlf (x.2 a + x.2 b)))
def alk (q : Nat) (x : (Nat → Int64) × (Nat → Int64)) : Prop := ∀ a b, a < 10 → b < 10 → tb q a = true → tb q b = true → x.1 a = x.1 b ∧ x.2 a = x.2 b
def fst1 (F : Nat → Option (List Nat)) : Nat → Nat → Option (List Nat)
  | 0, _ => none
  | d + 1, l => match F l with
    | some r => some (l :: r)
    | none => fst1 F d (l + 1)
theorem fst1_none {F : Nat → Option (List Nat)} : ∀ {d l : Nat}, fst1 F d l = none → ∀ i, l ≤ i → i < l + d → F i = none
  | 0, l, _, i, h1, h2 => absurd h2 (by omega)
  | d + 1, l, h, i, h1, h2 => by
    unfold fst1 at h
    cases hF : F l with
    | some r => rw [hF] at h; cases h
    | none =>
      rw [hF] at h
      by_cases c : i = l
      · subst c; exact hF
      · exact fst1_none (d := d) (l := l + 1) h i (by omega) (by omega)
theorem fst1_no {F : Nat → Option (List Nat)} : ∀ (d l : Nat), (∀ i, l ≤ i → i < l + d → F i = none) → fst1 F d l = none
  | 0, l, _ => rfl
  | d + 1, l, h => by
    unfold fst1
    rw [h l (by omega) (by omega)]
    exact fst1_no d (l + 1) fun i h1 h2 => h i (by omega) (by omega)
theorem fst1_ext {F G : Nat → Option (List Nat)} : ∀ (d l : Nat), (∀ i, l ≤ i → i < l + d → F i = G i) → fst1 F d l = fst1 G d l
  | 0, l, _ => rfl
  | d + 1, l, h => by
    unfold fst1
    rw [h l (by omega) (by omega), fst1_ext d (l + 1) fun i h1 h2 => h i (by omega) (by omega)]
theorem fst1_some {F : Nat → Option (List Nat)} : ∀ (d l : Nat) (r : List Nat), fst1 F d l = some r → ∃ i r', l ≤ i ∧ i < l + d ∧ F i = some r'
  | 0, l, r, h => by cases h
  | d + 1, l, r, h => by
    unfold fst1 at h
    cases hF : F l with
    | some r' => exact ⟨l, r', by omega, by omega, hF⟩
    | none =>
      rw [hF] at h
      obtain ⟨i, r', h1, h2, h3⟩ := fst1_some d (l + 1) r h
      exact ⟨i, r', by omega, by omega, h3⟩
noncomputable def srch (q o : Nat) (la lb : Nat → Nat) : Nat → (Nat → Int64) × (Nat → Int64) → Option (List Nat)
  | 0, x => @ite _ (alk q x) (Classical.propDecidable _) (some []) none
  | k + 1, x => fst1 (fun l => srch q o la lb k (evv (la l) (lb l) x)) o 0
def idl (a : Nat) (x y : (Nat → Int64) × (Nat → Int64)) : Prop := y.1 a = x.1 a ∧ y.2 a = x.2 a
noncomputable def csr (N : Nat → (Nat → Int64) × (Nat → Int64) → Prop) (o : Nat) (la lb : Nat → Nat) : Nat → (Nat → Int64) × (Nat → Int64) → Option (List Nat)
  | 0, x => @ite _ (N 0 x) (Classical.propDecidable _) (some []) none
  | k + 1, x => @ite _ (N (k + 1) x) (Classical.propDecidable _) (fst1 (fun l => @ite _ (idl (la l) x (evv (la l) (lb l) x)) (Classical.propDecidable _) none (csr N o la lb k (evv (la l) (lb l) x))) o 0) none
theorem l_can {u v h : Int64} (e : u + v - h = u) : h = v := by
  rw [Int64.sub_eq_iff_eq_add] at e
  exact ((Int64.add_right_inj u).mp e).symm
theorem up_up (f : Nat → Int64) (a b : Nat) (h : a ≠ b) : vp_updL (vp_updL f b (f b)) a (f a) = f := by
  funext j
  rw [upL_a, upL_a]
  by_cases c : j = a
  · rw [if_pos c, c]
  · rw [if_neg c]
    by_cases c2 : j = b
    · rw [if_pos c2, c2]
    · rw [if_neg c2]
theorem idl_eq {a b : Nat} {x : (Nat → Int64) × (Nat → Int64)} (hab : a ≠ b) (h : idl a x (evv a b x)) : evv a b x = x := by
  obtain ⟨h1, h2⟩ := h
  have e1 : x.1 a + x.1 b - hlf (x.1 a + x.1 b) = x.1 a := by
    have : (evv a b x).1 a = _ := upL_s
    rw [this] at h1; exact h1
  have e2 : x.2 a + x.2 b - hlf (x.2 a + x.2 b) = x.2 a := by
    have : (evv a b x).2 a = _ := upL_s
    rw [this] at h2; exact h2
  unfold evv
  rw [e1, e2, l_can e1, l_can e2, up_up _ _ _ hab, up_up _ _ _ hab]
theorem ev_out {a b m : Nat} {x : (Nat → Int64) × (Nat → Int64)} (h1 : m ≠ a) (h2 : m ≠ b) : (evv a b x).1 m = x.1 m ∧ (evv a b x).2 m = x.2 m := by
  unfold evv
  constructor <;> (dsimp only; rw [upL_a, upL_a, if_neg h1, if_neg h2])
/-- the masses that a row leaves alone -/
theorem touch {q o : Nat} {la lb : Nat → Nat} : ∀ (k : Nat) (x : (Nat → Int64) × (Nat → Int64)) (r : List Nat), srch q o la lb k x = some r → ∃ (T : List Nat) (y : (Nat → Int64) × (Nat → Int64)), T.length ≤ 2 * k ∧ alk q y ∧ ∀ m, ¬ m ∈ T → y.1 m = x.1 m ∧ y.2 m = x.2 m
  | 0, x, r, h => by
    unfold srch at h
    by_cases c : alk q x
    · exact ⟨[], x, Nat.le_refl _, c, fun m _ => ⟨rfl, rfl⟩⟩
    · rw [if_neg c] at h; cases h
  | k + 1, x, r, h => by
    unfold srch at h
    obtain ⟨l, r', -, -, h3⟩ := fst1_some o 0 r h
    obtain ⟨T, y, t1, t2, t3⟩ := touch k _ r' h3
    refine ⟨la l :: lb l :: T, y, by simp only [List.length_cons]; omega, t2, fun m hm => ?_⟩
    simp only [List.mem_cons, not_or] at hm
    obtain ⟨e1, e2⟩ := t3 m hm.2.2
    obtain ⟨g1, g2⟩ := ev_out (x := x) hm.1 hm.2.1
    exact ⟨e1.trans g1, e2.trans g2⟩
/-- where no shorter row does, the search with cuts finds what the plain one finds -/
theorem csr_srch {q o : Nat} {la lb : Nat → Nat} {N : Nat → (Nat → Int64) × (Nat → Int64) → Prop} (hab : ∀ l, l < o → la l ≠ lb l) (h0 : ∀ x, N 0 x ↔ alk q x) (hN : ∀ k x r, srch q o la lb k x = some r → N k x) : ∀ (k : Nat) (x : (Nat → Int64) × (Nat → Int64)), (∀ k', k = k' + 1 → srch q o la lb k' x = none) → csr N o la lb k x = srch q o la lb k x
  | 0, x, _ => by
    unfold csr srch
    by_cases c : alk q x
    · rw [if_pos c, if_pos ((h0 x).mpr c)]
    · rw [if_neg c, if_neg (fun z => c ((h0 x).mp z))]
  | k + 1, x, h => by
    by_cases c : N (k + 1) x
    · have hk := h k rfl
      have hu : csr N o la lb (k + 1) x = fst1 (fun l => @ite _ (idl (la l) x (evv (la l) (lb l) x)) (Classical.propDecidable _) none (csr N o la lb k (evv (la l) (lb l) x))) o 0 := by
        conv => lhs; unfold csr
        rw [if_pos c]
      have hs : srch q o la lb (k + 1) x = fst1 (fun l => srch q o la lb k (evv (la l) (lb l) x)) o 0 := rfl
      rw [hu, hs]
      refine fst1_ext o 0 fun l _ hl => ?_
      have hl' : l < o := by omega
      by_cases ci : idl (la l) x (evv (la l) (lb l) x)
      · rw [if_pos ci, idl_eq (hab l hl') ci, hk]
      · rw [if_neg ci]
        refine csr_srch hab h0 hN k _ fun k' e => ?_
        subst e
        have hs2 : srch q o la lb (k' + 1) x = fst1 (fun l => srch q o la lb k' (evv (la l) (lb l) x)) o 0 := rfl
        rw [hs2] at hk
        exact fst1_none hk l (by omega) (by omega)
    · have hu : csr N o la lb (k + 1) x = none := by
        unfold csr
        rw [if_neg c]
      rw [hu]
      cases hs : srch q o la lb (k + 1) x with
      | none => rfl
      | some r => exact absurd (hN _ _ _ hs) c
theorem sumF_mono {f g : Nat → Nat} : ∀ (d lo : Nat), (∀ a, lo ≤ a → a < lo + d → f a ≤ g a) → sumF f lo d ≤ sumF g lo d
  | 0, lo, _ => Nat.le_refl _
  | d + 1, lo, h => Nat.add_le_add (h lo (by omega) (by omega)) (sumF_mono d (lo + 1) fun a h1 h2 => h a (by omega) (by omega))
theorem sumF_add {f g : Nat → Nat} : ∀ (d lo : Nat), sumF (fun a => f a + g a) lo d = sumF f lo d + sumF g lo d
  | 0, lo => rfl
  | d + 1, lo => by
    show f lo + g lo + sumF (fun a => f a + g a) (lo + 1) d = f lo + sumF f (lo + 1) d + (g lo + sumF g (lo + 1) d)
    rw [sumF_add d (lo + 1)]; omega
theorem sumF_eq0 {f : Nat → Nat} : ∀ (d lo : Nat), sumF f lo d = 0 → ∀ a, lo ≤ a → a < lo + d → f a = 0
  | 0, lo, _, a, h1, h2 => absurd h2 (by omega)
  | d + 1, lo, h, a, h1, h2 => by
    have h' : f lo + sumF f (lo + 1) d = 0 := h
    by_cases c : a = lo
    · subst c; omega
    · exact sumF_eq0 d (lo + 1) (by omega) a (by omega) (by omega)
theorem sumF_ones {f : Nat → Nat} : ∀ (d lo : Nat), (∀ a, lo ≤ a → a < lo + d → f a = 1) → sumF f lo d = d
  | 0, lo, _ => rfl
  | d + 1, lo, h => by
    show f lo + sumF f (lo + 1) d = d + 1
    rw [h lo (by omega) (by omega), sumF_ones d (lo + 1) fun a h1 h2 => h a (by omega) (by omega)]; omega
theorem one_at {c : Nat → Nat} (t : Nat) : ∀ (d lo : Nat), (∀ i j, lo ≤ i → i < j → j < lo + d → c i ≠ c j) → sumF (fun i => cb (decide (c i = t))) lo d ≤ 1
  | 0, lo, _ => Nat.zero_le _
  | d + 1, lo, h => by
    show cb (decide (c lo = t)) + sumF (fun i => cb (decide (c i = t))) (lo + 1) d ≤ 1
    by_cases e : c lo = t
    · rw [sumF_zero d (lo + 1) fun a h1 h2 => by
        rw [decide_eq_false (fun z => h lo a (Nat.le_refl _) (by omega) (by omega) (e.trans z.symm))]; rfl]
      rw [decide_eq_true e]; exact Nat.le_refl _
    · rw [decide_eq_false e]
      have := one_at t d (lo + 1) fun i j h1 h2 h3 => h i j (by omega) h2 (by omega)
      show 0 + _ ≤ 1
      omega
theorem cntT {c : Nat → Nat} {d : Nat} (h : ∀ i j, i < j → j < d → c i ≠ c j) : ∀ T : List Nat, sumF (fun i => cb (decide (c i ∈ T))) 0 d ≤ T.length
  | [] => by
    rw [sumF_zero d 0 fun a _ _ => by rw [decide_eq_false (by simp)]; rfl]
    exact Nat.zero_le _
  | t :: T => by
    have h1 := cntT h T
    have h2 := one_at (c := c) t d 0 fun i j _ h2 h3 => h i j h2 (by omega)
    have h3 : sumF (fun i => cb (decide (c i ∈ t :: T))) 0 d ≤ sumF (fun i => cb (decide (c i = t)) + cb (decide (c i ∈ T))) 0 d := by
      refine sumF_mono d 0 fun a _ _ => ?_
      by_cases e : c a = t
      · rw [decide_eq_true e, decide_eq_true (by rw [e]; exact List.mem_cons_self ..)]
        show 1 ≤ 1 + _
        omega
      · by_cases e2 : c a ∈ T
        · rw [decide_eq_true e2, decide_eq_true (List.mem_cons_of_mem _ e2)]
          show 1 ≤ _ + 1
          omega
        · rw [decide_eq_false (by simp only [List.mem_cons, not_or]; exact ⟨e, e2⟩)]
          exact Nat.zero_le _
    rw [sumF_add] at h3
    simp only [List.length_cons]
    omega
def unl (c : Nat → Nat) (x : (Nat → Int64) × (Nat → Int64)) (m t : Nat) : Bool := decide (¬ (x.1 m = x.1 (c t) ∧ x.2 m = x.2 (c t)))
def near (cs : Nat) (c : Nat → Nat) (j : Nat) (x : (Nat → Int64) × (Nat → Int64)) : Prop := cs ≤ 2 * j ∨ ∃ i, i ≤ 2 * j ∧ i < cs ∧ sumF (fun t => cb (unl c x (c i) t)) 0 cs ≤ 2 * j
/-- the crowd: all who are here, in order -/
def CR (q cs : Nat) (c : Nat → Nat) : Prop := (∀ i, i < cs → c i < 10 ∧ tb q (c i) = true) ∧ (∀ i j, i < j → j < cs → c i ≠ c j) ∧ ∀ m, m < 10 → tb q m = true → ∃ i, i < cs ∧ c i = m
theorem near_of {q o cs : Nat} {la lb c : Nat → Nat} (hC : CR q cs c) (k : Nat) (x : (Nat → Int64) × (Nat → Int64)) (r : List Nat) (h : srch q o la lb k x = some r) : near cs c k x := by
  obtain ⟨T, y, t1, t2, t3⟩ := touch k x r h
  rcases Nat.lt_or_ge (2 * k) cs with hk | hk
  · have hex : ∃ i, i ≤ 2 * k ∧ ¬ c i ∈ T := by
      apply Classical.byContradiction
      intro hno
      have h1 := cntT (c := c) (d := 2 * k + 1) (fun i j h1 h2 => hC.2.1 i j h1 (by omega)) T
      rw [sumF_ones (2 * k + 1) 0 fun a _ h2 => by
        rw [decide_eq_true (Classical.byContradiction fun z => hno ⟨a, by omega, z⟩)]; rfl] at h1
      omega
    obtain ⟨i, i1, i2⟩ := hex
    refine Or.inr ⟨i, i1, by omega, ?_⟩
    refine Nat.le_trans (sumF_mono cs 0 (g := fun t => cb (decide (c t ∈ T))) fun t _ ht => ?_) (Nat.le_trans (cntT hC.2.1 T) t1)
    by_cases e : c t ∈ T
    · rw [decide_eq_true e]
      cases unl c x (c i) t <;> decide
    · obtain ⟨a1, a2⟩ := t3 _ e
      obtain ⟨b1, b2⟩ := t3 _ i2
      obtain ⟨p1, p2⟩ := hC.1 i (by omega)
      obtain ⟨p3, p4⟩ := hC.1 t (by omega)
      obtain ⟨z1, z2⟩ := t2 (c i) (c t) p1 p3 p2 p4
      unfold unl
      rw [decide_eq_false (fun z => z ⟨by rw [← a1, ← b1]; exact z1, by rw [← a2, ← b2]; exact z2⟩)]
      exact Nat.zero_le _
  · exact Or.inl hk
theorem near_0 {q cs : Nat} {c : Nat → Nat} (hC : CR q cs c) (x : (Nat → Int64) × (Nat → Int64)) : near cs c 0 x ↔ alk q x := by
  constructor
  · intro h a b ha hb ta tb'
    obtain ⟨i, i1, i2⟩ := hC.2.2 a ha ta
    obtain ⟨j, j1, j2⟩ := hC.2.2 b hb tb'
    rcases h with h | ⟨t, t1, t2, t3⟩
    · omega
    · have t4 : sumF (fun w => cb (unl c x (c t) w)) 0 cs = 0 := by omega
      have e1 := sumF_eq0 cs 0 t4 i (by omega) (by omega)
      have e2 := sumF_eq0 cs 0 t4 j (by omega) (by omega)
      have u : ∀ w, cb (unl c x (c t) w) = 0 → x.1 (c t) = x.1 (c w) ∧ x.2 (c t) = x.2 (c w) := by
        intro w hw
        apply Classical.byContradiction
        intro z
        unfold unl at hw
        rw [decide_eq_true z] at hw
        exact absurd hw (by decide)
      obtain ⟨g1, g2⟩ := u i e1
      obtain ⟨g3, g4⟩ := u j e2
      rw [i2] at g1 g2; rw [j2] at g3 g4
      exact ⟨g1.symm.trans g3, g2.symm.trans g4⟩
  · intro h
    rcases Nat.eq_zero_or_pos cs with z | z
    · exact Or.inl (by omega)
    · refine Or.inr ⟨0, by omega, z, ?_⟩
      rw [sumF_zero cs 0 fun a _ h2 => ?_]
      · exact Nat.zero_le _
      · obtain ⟨p1, p2⟩ := hC.1 0 z
        obtain ⟨p3, p4⟩ := hC.1 a (by omega)
        unfold unl
        rw [decide_eq_false (fun w => w (h _ _ p1 p3 p2 p4))]; rfl
