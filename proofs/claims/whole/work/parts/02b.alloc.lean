section
variable {p : Program} {l : Launch} {e : Env} {R : Room} {s : State} {m : MethodId} {args : Array Value} {below : List Frame} {meth : Method} {c : Code} {D : va_G} {A : Nat → Prop} {nL cells slots : Nat} {Q : State → Prop} {tys : List (ClassId × FieldType)} {own : String} {cc : ByteArray} {Ts : List Cond} {ret : Option FieldType} {es tl : va_W} {lv : List (Nat × Value)} {pc : Nat} {st : List Value}
/-- a world by its members, whatever their order -/
theorem wm_P {D : va_G} {ws : va_W} {H : Heap} : va_P D vwCl ws H ↔ ∀ q ∈ ws, va_at D vwCl q H := by
  constructor
  · intro h q hq
    obtain ⟨k, hk⟩ := List.getElem?_of_mem hq
    exact h k q hk
  · intro h k q hk
    exact h q (List.mem_of_getElem? hk)
theorem wm_D {A : Nat → Prop} {ws : va_W} : va_D A ws ↔ ws.Pairwise (fun x y => x.1 ≠ y.1) ∧ ∀ q ∈ ws, A q.1 := by
  constructor
  · intro h
    refine ⟨List.pairwise_iff_getElem.mpr (fun i j hi hj hij he => ?_), fun q hq => ?_⟩
    · have := h.1 i j _ _ (List.getElem?_eq_getElem hi) (List.getElem?_eq_getElem hj) he
      omega
    · obtain ⟨k, hk⟩ := List.getElem?_of_mem hq
      exact h.2 k q hk
  · intro h
    refine ⟨fun i j x y hi hj he => ?_, fun k q hk => h.2 q (List.mem_of_getElem? hk)⟩
    obtain ⟨hi', rfl⟩ := List.getElem?_eq_some_iff.mp hi
    obtain ⟨hj', rfl⟩ := List.getElem?_eq_some_iff.mp hj
    rcases Nat.lt_trichotomy i j with hl | hl | hl
    · exact absurd he (List.pairwise_iff_getElem.mp h.1 i j hi' hj' hl)
    · exact hl
    · exact absurd he.symm (List.pairwise_iff_getElem.mp h.1 j i hj' hi' hl)
theorem wm_perm_P {D : va_G} {w1 w2 : va_W} {H : Heap} (hp : w1.Perm w2) (h : va_P D vwCl w1 H) : va_P D vwCl w2 H := wm_P.mpr (fun q hq => wm_P.mp h q (hp.mem_iff.mpr hq))
theorem wm_perm_D {A : Nat → Prop} {w1 w2 : va_W} (hp : w1.Perm w2) (h : va_D A w1) : va_D A w2 := by
  rw [wm_D] at h ⊢
  exact ⟨hp.pairwise h.1 (fun h => Ne.symm h), fun q hq => h.2 q (hp.mem_iff.mpr hq)⟩
theorem x_perm {es' tl' : va_W} (hp : (es ++ tl).Perm (es' ++ tl')) (k : XW p l e R s m args below meth c D A nL cells slots Q es' tl' lv pc st) : XW p l e R s m args below meth c D A nL cells slots Q es tl lv pc st :=
  fun H locs ls hP hD hS hl => k H locs ls (wm_perm_P hp hP) (wm_perm_D hp hD) hS hl
/-- other places, or fewer, of the listed cells -/
theorem x_sel (es' : va_W) (is : List Nat) (hnd : va_nd is = true) (hs : is.map (fun i => es[i]?) = es'.map some) (k : XW p l e R s m args below meth c D A nL cells slots Q es' tl lv pc st) : XW p l e R s m args below meth c D A nL cells slots Q es tl lv pc st := by
  intro H locs ls hP hD hS hl
  have hP0 : va_P D vwCl es H := wm_P.mpr (fun q hq => wm_P.mp hP q (List.mem_append_left _ hq))
  have hPt : va_P D vwCl tl H := wm_P.mpr (fun q hq => wm_P.mp hP q (List.mem_append_right _ hq))
  have hD' := wm_D.mp hD
  rw [List.pairwise_append] at hD'
  have hD0 : va_D A es := wm_D.mpr ⟨hD'.1.1, fun q hq => hD'.2 q (List.mem_append_left _ hq)⟩
  have hP1 := va_P.selm hP0 hs
  have hD1 := va_D.sub hD0 is hnd hs
  have hmem : ∀ q ∈ es', q ∈ es := by
    intro q hq
    have h1 : some q ∈ es'.map some := List.mem_map.mpr ⟨q, hq, rfl⟩
    rw [← hs] at h1
    obtain ⟨i, -, hi⟩ := List.mem_map.mp h1
    exact List.mem_of_getElem? hi
  refine k H locs ls (wm_P.mpr fun q hq => ?_) (wm_D.mpr ⟨?_, fun q hq => ?_⟩) hS hl
  · rcases List.mem_append.mp hq with h | h
    · exact wm_P.mp hP1 q h
    · exact wm_P.mp hPt q h
  · rw [List.pairwise_append]
    exact ⟨(wm_D.mp hD1).1, hD'.1.2.1, fun a ha b hb => hD'.1.2.2 a (hmem a ha) b hb⟩
  · rcases List.mem_append.mp hq with h | h
    · exact (wm_D.mp hD1).2 q h
    · exact hD'.2 q (List.mem_append_right _ h)
theorem x_widen {k n : Nat} (h1 : cells ≤ k) (h2 : slots ≤ n) (kk : XW p l e R s m args below meth c D A nL k n Q es tl lv pc st) : XW p l e R s m args below meth c D A nL cells slots Q es tl lv pc st :=
  fun H locs ls hP hD hS hl => W.widen h1 h2 (kk H locs ls hP hD hS hl)
/-- a method that makes cells: u names the new addresses -/
abbrev EA {S : Type} (D : va_G) (tys : List (ClassId × FieldType)) (post : S → Prop) (w' : S → va_W) (A : Nat → Prop) : Array Value → State → Outcome → State → Prop := va_Qv post (fun u t => va_P D vwCl (w' u) t.heap ∧ va_K D vwCl tys t ∧ va_D A (w' u)) A
def CA {S : Type} (l : Launch) (y : MethodName) (wsy : List Cond) (rm : Room) (D : va_G) (tys : List (ClassId × FieldType)) (As : List Value) (w : va_W) (post : S → Prop) (w' : S → va_W) : Prop := ∀ sz : Nat, Met l y wsy rm (va_Pc As (fun U => U.heap.size = sz ∧ va_P D vwCl w U.heap ∧ va_K D vwCl tys U ∧ va_D (fun _ => True) w ∧ XN U)) (EA D tys post w' (va_A w sz)) rm.cells rm.slots (va_A w sz)
abbrev EAi {S : Type} (D : va_G) (tys : List (ClassId × FieldType)) (post : Int32 → S → Prop) (w' : S → va_W) (A : Nat → Prop) : Array Value → State → Outcome → State → Prop := va_Qi post (fun u t => va_P D vwCl (w' u) t.heap ∧ va_K D vwCl tys t ∧ va_D A (w' u)) A
def CAi {S : Type} (l : Launch) (y : MethodName) (wsy : List Cond) (rm : Room) (D : va_G) (tys : List (ClassId × FieldType)) (As : List Value) (w : va_W) (post : Int32 → S → Prop) (w' : S → va_W) : Prop := ∀ sz : Nat, Met l y wsy rm (va_Pc As (fun U => U.heap.size = sz ∧ va_P D vwCl w U.heap ∧ va_K D vwCl tys U ∧ va_D (fun _ => True) w ∧ XN U)) (EAi D tys post w' (va_A w sz)) rm.cells rm.slots (va_A w sz)

theorem x_entA {S : Type} {y : MethodName} {wsy ws' : List Cond} {rm : Room} {maxL : Nat} {rt : Option FieldType} {As : List Value} {w : va_W} {post : S → Prop} {w' : S → va_W} (es tl : va_W) (hwe : w = es ++ tl) (hy : plainName y.cls = true) (hw : wsy = Cond.code y cc maxL rt :: ws') (hlen : (lg_sl As).length ≤ maxL) (hlv : lv_args 0 As = lv)
    (body : ∀ (p : Program) (e : Env) (s : State) (m : MethodId) (args : Array Value) (below : List Frame) (meth : Method) (c : Code) (A : Nat → Prop) (Q : State → Prop), Q = MQ below (EA D tys post w' A) args s rm.cells rm.slots A → XC p s m args meth c D A maxL tys y.cls cc wsy rt → meth.name = y.name → XW p l e rm s m args below meth c D A maxL 0 0 Q es tl lv 0 []) : CA l y wsy rm D tys As w post w' := by
  intro sz
  refine Met.ofW (cc := cc) (maxL := maxL) (ret := rt) hy hw ?_
  intro p e s m args below meth c s₁ B hml hv
  obtain ⟨rfl, hsz, hP, hK, hD0, hN⟩ := hv
  subst hsz
  have hl := lv_entry As (n := maxL) hlen
  rw [lg_entry_eq]
  have hlv' : lv_has (lg_sl As ++ List.replicate (maxL - (lg_sl As).length) Slot.unset).toArray maxL lv := by rw [← hlv]; exact hl
  have hC : XC p s m As.toArray meth c D (va_A w s.heap.size) maxL tys y.cls cc wsy rt := ⟨B.exec, B.bytes, hml, findClass_of_methodNamed B.named, atoms_spec (ws := wsy) B.pre, hK, fun q h => Or.inr h, B.returns, B.notSynchronized, hN⟩
  exact body p e s m As.toArray below meth c (va_A w s.heap.size) _ rfl hC (name_of_methodNamed B.named B.method).1 s.heap [] _ (by rw [← hwe]; exact hP) (by rw [← hwe]; exact hD0.self) va_S.rf hlv'
theorem x_entAi {S : Type} {y : MethodName} {wsy ws' : List Cond} {rm : Room} {maxL : Nat} {rt : Option FieldType} {As : List Value} {w : va_W} {post : Int32 → S → Prop} {w' : S → va_W} (es tl : va_W) (hwe : w = es ++ tl) (hy : plainName y.cls = true) (hw : wsy = Cond.code y cc maxL rt :: ws') (hlen : (lg_sl As).length ≤ maxL) (hlv : lv_args 0 As = lv)
    (body : ∀ (p : Program) (e : Env) (s : State) (m : MethodId) (args : Array Value) (below : List Frame) (meth : Method) (c : Code) (A : Nat → Prop) (Q : State → Prop), Q = MQ below (EAi D tys post w' A) args s rm.cells rm.slots A → XC p s m args meth c D A maxL tys y.cls cc wsy rt → meth.name = y.name → XW p l e rm s m args below meth c D A maxL 0 0 Q es tl lv 0 []) : CAi l y wsy rm D tys As w post w' := by
  intro sz
  refine Met.ofW (cc := cc) (maxL := maxL) (ret := rt) hy hw ?_
  intro p e s m args below meth c s₁ B hml hv
  obtain ⟨rfl, hsz, hP, hK, hD0, hN⟩ := hv
  subst hsz
  have hl := lv_entry As (n := maxL) hlen
  rw [lg_entry_eq]
  have hlv' : lv_has (lg_sl As ++ List.replicate (maxL - (lg_sl As).length) Slot.unset).toArray maxL lv := by rw [← hlv]; exact hl
  have hC : XC p s m As.toArray meth c D (va_A w s.heap.size) maxL tys y.cls cc wsy rt := ⟨B.exec, B.bytes, hml, findClass_of_methodNamed B.named, atoms_spec (ws := wsy) B.pre, hK, fun q h => Or.inr h, B.returns, B.notSynchronized, hN⟩
  exact body p e s m As.toArray below meth c (va_A w s.heap.size) _ rfl hC (name_of_methodNamed B.named B.method).1 s.heap [] _ (by rw [← hwe]; exact hP) (by rw [← hwe]; exact hD0.self) va_S.rf hlv'
theorem x_vretA {S : Type} {post : S → Prop} {w' : S → va_W} {cm sm : Nat} (u : S) (hC : XC p s m args meth c D A nL tys own cc Ts none) (hdg : decode cc pc = .ok (.return_, 1)) (hQ : Q = MQ below (EA D tys post w' A) args s cm sm A) (hc : cells ≤ cm ∧ slots ≤ sm) (hu : post u) (hw : es ++ tl = w' u) : XW p l e R s m args below meth c D A nL cells slots Q es tl lv pc [] := by
  subst hQ
  intro H locs ls hP hD hS hl
  rw [hw] at hP hD
  exact W.widen hc.1 hc.2 (W.vret hC.1 hC.2.1 hC.2.2.2.2.2.2.2.1 (fun t ht hW => ⟨⟨u, rfl, hu, by rw [ht]; exact hP, va_K.moved hW.alike hC.2.2.2.2.2.1, hD⟩, hS.F ht⟩) hS.2.2 hdg hC.2.2.2.2.2.2.2.2.1)
theorem x_iretA {S : Type} {post : Int32 → S → Prop} {w' : S → va_W} {cm sm : Nat} {r : Int32} (u : S) (hC : XC p s m args meth c D A nL tys own cc Ts (some .int)) (hdg : decode cc pc = .ok (.ireturn, 1)) (hQ : Q = MQ below (EAi D tys post w' A) args s cm sm A) (hc : cells ≤ cm ∧ slots ≤ sm) (hu : post r u) (hw : es ++ tl = w' u) : XW p l e R s m args below meth c D A nL cells slots Q es tl lv pc [.int r] := by
  subst hQ
  intro H locs ls hP hD hS hl
  rw [hw] at hP hD
  exact W.widen hc.1 hc.2 (W.iret hC.1 hC.2.1 hC.2.2.2.2.2.2.2.1 (fun t ht hW => ⟨⟨r, u, rfl, hu, by rw [ht]; exact hP, va_K.moved hW.alike hC.2.2.2.2.2.1, hD⟩, hS.F ht⟩) hS.2.2 hdg hC.2.2.2.2.2.2.2.2.1)
theorem x_zretA {S : Type} {ty : FieldType} {post : Int32 → S → Prop} {w' : S → va_W} {cm sm : Nat} {r : Int32} (u : S) (hC : XC p s m args meth c D A nL tys own cc Ts (some ty)) (hnar : narrow ty (.int r) = .int r) (hdg : decode cc pc = .ok (.ireturn, 1)) (hQ : Q = MQ below (EAi D tys post w' A) args s cm sm A) (hc : cells ≤ cm ∧ slots ≤ sm) (hu : post r u) (hw : es ++ tl = w' u) : XW p l e R s m args below meth c D A nL cells slots Q es tl lv pc [.int r] := by
  subst hQ
  intro H locs ls hP hD hS hl
  rw [hw] at hP hD
  exact W.widen hc.1 hc.2 (W.zret hC.1 hC.2.1 hC.2.2.2.2.2.2.2.1 hnar (fun t ht hW => ⟨⟨r, u, rfl, hu, by rw [ht]; exact hP, va_K.moved hW.alike hC.2.2.2.2.2.1, hD⟩, hS.F ht⟩) hS.2.2 hdg hC.2.2.2.2.2.2.2.2.1)
theorem x_objinit (n : Nat) (hC : XC p s m args meth c D A nL tys own cc Ts ret) {idx a : Nat} (hw1 : Cond.methodLink own idx Lib.objectInit ∈ Ts) (hw2 : Cond.instanceMethod Lib.objectInit ∈ Ts) (hw3 : Cond.code Lib.objectInit ⟨#[0xb1]⟩ 1 none ∈ Ts) (hframes : 1 ≤ R.frames) (hlocals : (st.map fun v => v.category).sum + 12 ≤ R.locals) (hdg : decode cc pc = .ok (.invokespecial idx, 3)) (hn : pc + 3 = n) (k : XW p l e R s m args below meth c D A nL cells slots Q es tl lv n st) : XW p l e R s m args below meth c D A nL cells slots Q es tl lv pc (.ref a :: st) := by
  subst hn
  intro H locs ls hP hD hS hl
  exact W.objInit hC.1 hC.2.1 hC.2.2.2.1 (hC.2.2.2.2.1 _ hw1) (hC.2.2.2.2.1 _ hw2) (hC.2.2.2.2.1 _ hw3) rfl (by rw [hC.2.2.1]; exact hl.1) rfl hdg hframes (by show 2 * 0 + _ + 12 ≤ _; omega) (k H locs ls hP hD hS hl)
theorem x_newai (n N t0 : Nat) (hC : XC p s m args meth c D A nL tys own cc Ts ret) {cA : ClassId} {z : Int32} (hw : Cond.arrayClass .int ∈ Ts) (ht : tys[t0]? = some (cA, .int)) (hz : ¬ z < 0) (hN : z.toNatClampNeg = N) (hb : N * 8 ≤ 536870912) (hRc : cells + 1 ≤ R.cells ∧ slots + N ≤ R.slots) (hdg : decode cc pc = .ok (.newarray .int, 2)) (hn : pc + 2 = n) (k : ∀ q : Nat, XW p l e R s m args below meth c D A nL (cells + 1) (slots + N) Q (es ++ [(q, .inl (cA, N, .inl (fun _ => (0 : Int32))))]) tl lv n (.ref q :: st)) : XW p l e R s m args below meth c D A nL cells slots Q es tl lv pc (.int z :: st) := by
  subst hn
  intro H locs ls hP hD hS hl
  refine va_newa (atype := .int) hC.1 hC.2.1 (hC.2.2.2.2.1 _ hw) rfl hC.2.2.2.2.2.1 hP hD hS hC.2.2.2.2.2.2.1 (a0 := (N, .inl (fun _ => (0 : Int32)))) (fun _ => rfl) hz hN (by show N * _ ≤ _; first | exact hb | (have h8 : N * 4 ≤ N * 8 := Nat.mul_le_mul_left _ (by decide); exact Nat.le_trans h8 hb)) hRc.1 hRc.2 hdg (fun q cB H1 hK1 hP1 hD1 hS1 => ?_)
  have e1 := (hK1.2 tys.length (cB, .int) (by simp; rfl)).2
  have e2 := (hC.2.2.2.2.2.1.2 t0 (cA, .int) ht).2
  have hcc : cB = cA := by
    simp only [va_RA] at e1 e2
    rw [e1] at e2; exact Option.some.inj e2
  subst hcc
  have hp : (es ++ tl ++ [(q, (.inl (cB, N, .inl (fun _ => (0 : Int32))) : va_E))]).Perm ((es ++ [(q, (.inl (cB, N, .inl (fun _ => (0 : Int32))) : va_E))]) ++ tl) := by
    rw [List.append_assoc, List.append_assoc]
    exact List.Perm.append_left _ List.perm_append_comm
  exact k q H1 locs ls (wm_perm_P hp hP1) (wm_perm_D hp hD1) hS1 hl
theorem x_newal (n N t0 : Nat) (hC : XC p s m args meth c D A nL tys own cc Ts ret) {cA : ClassId} {z : Int32} (hw : Cond.arrayClass .long ∈ Ts) (ht : tys[t0]? = some (cA, .long)) (hz : ¬ z < 0) (hN : z.toNatClampNeg = N) (hb : N * 8 ≤ 536870912) (hRc : cells + 1 ≤ R.cells ∧ slots + N ≤ R.slots) (hdg : decode cc pc = .ok (.newarray .long, 2)) (hn : pc + 2 = n) (k : ∀ q : Nat, XW p l e R s m args below meth c D A nL (cells + 1) (slots + N) Q (es ++ [(q, .inl (cA, N, .inr (.inl (fun _ => (0 : Int64)))))]) tl lv n (.ref q :: st)) : XW p l e R s m args below meth c D A nL cells slots Q es tl lv pc (.int z :: st) := by
  subst hn
  intro H locs ls hP hD hS hl
  refine va_newa (atype := .long) hC.1 hC.2.1 (hC.2.2.2.2.1 _ hw) rfl hC.2.2.2.2.2.1 hP hD hS hC.2.2.2.2.2.2.1 (a0 := (N, .inr (.inl (fun _ => (0 : Int64))))) (fun _ => rfl) hz hN (by show N * _ ≤ _; first | exact hb | (have h8 : N * 4 ≤ N * 8 := Nat.mul_le_mul_left _ (by decide); exact Nat.le_trans h8 hb)) hRc.1 hRc.2 hdg (fun q cB H1 hK1 hP1 hD1 hS1 => ?_)
  have e1 := (hK1.2 tys.length (cB, .long) (by simp; rfl)).2
  have e2 := (hC.2.2.2.2.2.1.2 t0 (cA, .long) ht).2
  have hcc : cB = cA := by
    simp only [va_RA] at e1 e2
    rw [e1] at e2; exact Option.some.inj e2
  subst hcc
  have hp : (es ++ tl ++ [(q, (.inl (cB, N, .inr (.inl (fun _ => (0 : Int64)))) : va_E))]).Perm ((es ++ [(q, (.inl (cB, N, .inr (.inl (fun _ => (0 : Int64)))) : va_E))]) ++ tl) := by
    rw [List.append_assoc, List.append_assoc]
    exact List.Perm.append_left _ List.perm_append_comm
  exact k q H1 locs ls (wm_perm_P hp hP1) (wm_perm_D hp hD1) hS1 hl
theorem x_newq (n N t0 : Nat) (hC : XC p s m args meth c D A nL tys own cc Ts ret) {cA : ClassId} {C : String} {index : Nat} {z : Int32} (hcl : Cond.classLink own index C ∈ Ts) (hov : va_AO C s) (ht : tys[t0]? = some (cA, .object C)) (hz : ¬ z < 0) (hN : z.toNatClampNeg = N) (hb : N * 4 ≤ 536870912) (hRc : cells + 1 ≤ R.cells ∧ slots + N ≤ R.slots) (hdg : decode cc pc = .ok (.anewarray index, 3)) (hn : pc + 3 = n) (k : ∀ q : Nat, XW p l e R s m args below meth c D A nL (cells + 1) (slots + N) Q (es ++ [(q, .inl (cA, N, .inr (.inr (.inr (.inr (fun _ => none))))))]) tl lv n (.ref q :: st)) : XW p l e R s m args below meth c D A nL cells slots Q es tl lv pc (.int z :: st) := by
  subst hn
  intro H locs ls hP hD hS hl
  refine va_newq hC.1 hC.2.1 hC.2.2.2.1 (hC.2.2.2.2.1 _ hcl) hov hC.2.2.2.2.2.1 hP hD hS hC.2.2.2.2.2.2.1 hz hN hb hRc.1 hRc.2 hdg (fun q cB H1 hK1 hP1 hD1 hS1 => ?_)
  have e1 := (hK1.2 tys.length (cB, .object C) (by simp)).2
  have e2 := (hC.2.2.2.2.2.1.2 t0 (cA, .object C) ht).2
  have hcc : cB = cA := by
    obtain ⟨kA, comp, -, -, -, h4⟩ := e1
    obtain ⟨kB, comp2, -, -, -, h5⟩ := e2
    rw [h4] at h5; exact Option.some.inj h5
  subst hcc
  have hp : (es ++ tl ++ [(q, (.inl (cB, N, .inr (.inr (.inr (.inr (fun _ => none))))) : va_E))]).Perm ((es ++ [(q, (.inl (cB, N, .inr (.inr (.inr (.inr (fun _ => none))))) : va_E))]) ++ tl) := by
    rw [List.append_assoc, List.append_assoc]
    exact List.Perm.append_left _ List.perm_append_comm
  exact k q H1 locs ls (wm_perm_P hp hP1) (wm_perm_D hp hD1) hS1 hl
theorem x_new (n N : Nat) (hC : XC p s m args meth c D A nL tys own cc Ts ret) {C : String} {T : u_T} {ci index : Nat} (hin : ∀ w ∈ u_ws C T N, w ∈ Ts) (ty : Nat → FieldType) (hty : ∀ k, k < N → parseFieldDescriptor (T k).2.2.1 = some (ty k)) (hcl : Cond.classLink own index C ∈ Ts) (hin2 : Cond.instantiable C N ∈ Ts) (hin3 : Cond.initialized C ∈ Ts) (hc : vwCl[ci]? = some (C, T, N)) (fs : List Value) (hfs : ∀ j, j < N → defaultValue (ty j) = vp_V fs j) (hRc : cells + 1 ≤ R.cells ∧ slots + N ≤ R.slots) (hdg : decode cc pc = .ok (.new index, 3)) (hn : pc + 3 = n) (k : ∀ q : Nat, XW p l e R s m args below meth c D A nL (cells + 1) (slots + N) Q (es ++ [(q, .inr (ci, fs))]) tl lv n (.ref q :: st)) : XW p l e R s m args below meth c D A nL cells slots Q es tl lv pc st := by
  subst hn
  intro H locs ls hP hD hS hl
  refine va_new hC.1 hC.2.1 hC.2.2.2.2.1 hin ty hty hC.2.2.2.1 (hC.2.2.2.2.1 _ hcl) (hC.2.2.2.2.1 _ hin2) (hC.2.2.2.2.1 _ hin3) hC.2.2.2.2.2.1 hP hD hS hC.2.2.2.2.2.2.1 hc hfs hRc.1 hRc.2 hdg (fun q H1 hP1 hD1 hS1 => ?_)
  have hp : (es ++ tl ++ [(q, (.inr (ci, fs) : va_E))]).Perm ((es ++ [(q, (.inr (ci, fs) : va_E))]) ++ tl) := by
    rw [List.append_assoc, List.append_assoc]
    exact List.Perm.append_left _ List.perm_append_comm
  exact k q H1 locs ls (wm_perm_P hp hP1) (wm_perm_D hp hD1) hS1 hl
/-- the callee's cells wc stand last of the listed ones; it gives w1, with new ones -/
theorem x_joinA {er wc w1 : va_W} {H H1 : Heap} (hP : va_P D vwCl ((er ++ wc) ++ tl) H) (hD : va_D A ((er ++ wc) ++ tl)) (hk : ∀ q : Nat, q < H.size → ¬ va_A wc H.size q → H1[q]? = H[q]?) (hF : ∀ q, va_A wc H.size q → A q) (hP1 : va_P D vwCl w1 H1) (hD1 : va_D (va_A wc H.size) w1) : va_P D vwCl ((er ++ w1) ++ tl) H1 ∧ va_D A ((er ++ w1) ++ tl) := by
  have hPm := wm_P.mp hP
  have hDm := wm_D.mp hD
  have hlt : ∀ q ∈ (er ++ wc) ++ tl, q.1 < H.size := by
    intro q hq
    obtain ⟨k, hk⟩ := List.getElem?_of_mem hq
    exact va_P.lt hP hk
  have hpw := hDm.1
  rw [List.pairwise_append, List.pairwise_append] at hpw
  obtain ⟨⟨p1, p2, p3⟩, p4, p5⟩ := hpw
  -- an old cell that is none of the callee's has no address of the callee's
  have hout : ∀ q, (q ∈ er ∨ q ∈ tl) → ¬ va_A wc H.size q.1 := by
    rintro q hq (⟨j, ee, hj⟩ | hj)
    · have hm := List.mem_of_getElem? hj
      rcases hq with hq | hq
      · exact p3 q hq _ hm rfl
      · exact p5 _ (List.mem_append_right _ hm) q hq rfl
    · have : q.1 < H.size := by
        rcases hq with hq | hq
        · exact hlt q (List.mem_append_left _ (List.mem_append_left _ hq))
        · exact hlt q (List.mem_append_right _ hq)
      omega
  have hkeep : ∀ q, (q ∈ er ∨ q ∈ tl) → va_at D vwCl q H1 := by
    intro q hq
    have hm : q ∈ (er ++ wc) ++ tl := by
      rcases hq with hq | hq
      · exact List.mem_append_left _ (List.mem_append_left _ hq)
      · exact List.mem_append_right _ hq
    exact (hPm q hm).kept (hk q.1 (hlt q hm) (hout q hq))
  have hD1m := wm_D.mp hD1
  refine ⟨wm_P.mpr fun q hq => ?_, wm_D.mpr ⟨?_, fun q hq => ?_⟩⟩
  · rcases List.mem_append.mp hq with h | h
    · rcases List.mem_append.mp h with h | h
      · exact hkeep q (Or.inl h)
      · exact wm_P.mp hP1 q h
    · exact hkeep q (Or.inr h)
  · rw [List.pairwise_append, List.pairwise_append]
    refine ⟨⟨p1, hD1m.1, fun a ha b hb he => ?_⟩, p4, fun a ha b hb he => ?_⟩
    · exact hout a (Or.inl ha) (by rw [he]; exact hD1m.2 b hb)
    · rcases List.mem_append.mp ha with h | h
      · exact p5 a (List.mem_append_left _ h) b hb he
      · exact hout b (Or.inr hb) (by rw [← he]; exact hD1m.2 a h)
  · rcases List.mem_append.mp hq with h | h
    · rcases List.mem_append.mp h with h | h
      · exact hDm.2 q (List.mem_append_left _ (List.mem_append_left _ h))
      · exact hF q.1 (hD1m.2 q h)
    · exact hDm.2 q (List.mem_append_right _ h)
theorem x_callAIv {S : Type} (n nA : Nat) (er : va_W) (hC : XC p s m args meth c D A nL tys own cc Ts ret) {y : MethodName} {bytes : ByteArray} {maxL index b : Nat} {wsy ws' : List Cond} {rm : Room} {As st0 : List Value} {wc : va_W} {post : S → Prop} {w' : S → va_W} (wt tl' : va_W) (htl : tl = wt ++ tl') (hM : CA l y wsy rm D tys (.ref b :: As) (wc ++ wt) post w') (hw1 : Cond.initialized y.cls ∈ Ts) (hw2 : Cond.methodLink own index y ∈ Ts) (hw3 : Cond.instanceMethod y ∈ Ts) (hyn : y.name = "<init>") (hG : GoodIn Ts (wsy)) (hw : wsy = Cond.code y bytes maxL none :: ws') (hd : y.cls ≠ "java/lang/invoke/MethodHandle" ∧ y.cls ≠ "java/lang/invoke/VarHandle" ∧ (parseMethodDescriptor y.desc).map (fun d => d.parameters.length) = some nA) (hR : rm.frames + 1 ≤ R.frames ∧ 8 + (maxL + 11) + rm.locals ≤ R.locals) (hnA : As.length = nA) (hes : es = er ++ wc) (hst : st0 = As.reverse ++ .ref b :: st) (hcat : (st.map fun v => v.category).sum ≤ 8) (hRc : cells + rm.cells ≤ R.cells ∧ slots + rm.slots ≤ R.slots) (hdg : decode cc pc = .ok (.invokespecial index, 3)) (hn : pc + 3 = n)
    (k : ∀ u : S, post u → XW p l e R s m args below meth c D A nL (cells + rm.cells) (slots + rm.slots) Q er (w' u ++ tl') lv n st) : XW p l e R s m args below meth c D A nL cells slots Q es tl lv pc st0 := by
  subst hn; subst hes; subst htl
  intro H locs ls hP hD hS hl
  have e1 : (er ++ wc) ++ (wt ++ tl') = (er ++ (wc ++ wt)) ++ tl' := by simp only [List.append_assoc]
  rw [e1] at hP hD
  have hPc : va_P D vwCl (wc ++ wt) H := wm_P.mpr fun q hq => wm_P.mp hP q (List.mem_append_left _ (List.mem_append_right _ hq))
  have hD0 := wm_D.mp hD
  have hpw := hD0.1
  rw [List.pairwise_append, List.pairwise_append] at hpw
  have hDc : va_D A (wc ++ wt) := wm_D.mpr ⟨hpw.1.2.1, fun q hq => hD0.2 q (List.mem_append_left _ (List.mem_append_right _ hq))⟩
  have hFc : ∀ q, va_A (wc ++ wt) H.size q → A q := by
    rintro q (⟨j, ee, hj⟩ | hj)
    · exact hDc.2 j _ hj
    · exact hC.2.2.2.2.2.2.1 q (Nat.le_trans hS.1 hj)
  refine va_callv (va_runI (As := As) (rest := st) ⟨hC.1, hC.2.1, hC.2.2.1, hC.2.2.2.1, hC.2.2.2.2.1⟩ (hM H.size) (cwI nA hC.2.2.2.2.1 hG hw rfl rfl (hC.2.2.2.2.1 _ hw1) (hC.2.2.2.2.1 _ hw2) (hC.2.2.2.2.1 _ hw3) hyn hd hR) ⟨fun a U g mk q => by obtain ⟨q0, q1, qP, qK, qD, qN⟩ := q; exact ⟨q0, q1, qP, va_K.moved (u := U) (U := U.calling g mk a) (Vm.Alike.refl U.vm) qK, qD, qN.call⟩, fun U hU hW => ⟨rfl, by rw [hU], by rw [hU]; exact hPc, va_K.moved hW.alike hC.2.2.2.2.2.1, hDc.weaken (fun _ _ _ _ => trivial), hC.2.2.2.2.2.2.2.2.2.warm hW⟩⟩ rfl hnA hl.1 hst (lv_room hcat) hdg ⟨hRc.1, hRc.2⟩) hS (fun q _ h => hFc q h) hFc (fun u t H1 locs1 ht hvm hr2 hB hz1 hk1 hS1 => ?_)
  obtain ⟨hP1, hK1, hD1⟩ := hB
  rw [ht] at hP1
  obtain ⟨hP2, hD2⟩ := x_joinA (tl := tl') hP hD hk1 hFc hP1 hD1
  rw [List.append_assoc] at hP2 hD2
  exact k u hr2 H1 locs1 ls hP2 hD2 hS1 hl
theorem x_callAINv {S : Type} (n nA : Nat) (er : va_W) (hC : XC p s m args meth c D A nL tys own cc Ts ret) {y : MethodName} {host : String} {bytes : ByteArray} {maxL index b : Nat} {wsy ws' : List Cond} {rm : Room} {As st0 : List Value} {wc : va_W} {post : S → Prop} {w' : S → va_W} (wt tl' : va_W) (htl : tl = wt ++ tl') (hM : CA l y wsy rm D tys (.ref b :: As) (wc ++ wt) post w') (hq : (own, index, y, host) ∈ xnws) (hw1 : Cond.initialized y.cls ∈ Ts) (hw3 : Cond.instanceMethod y ∈ Ts) (hyn : y.name = "<init>") (hG : GoodIn Ts (wsy)) (hw : wsy = Cond.code y bytes maxL none :: ws') (hd : y.cls ≠ "java/lang/invoke/MethodHandle" ∧ y.cls ≠ "java/lang/invoke/VarHandle" ∧ (parseMethodDescriptor y.desc).map (fun d => d.parameters.length) = some nA) (hR : rm.frames + 1 ≤ R.frames ∧ 8 + (maxL + 11) + rm.locals ≤ R.locals) (hnA : As.length = nA) (hes : es = er ++ wc) (hst : st0 = As.reverse ++ .ref b :: st) (hcat : (st.map fun v => v.category).sum ≤ 8) (hRc : cells + rm.cells ≤ R.cells ∧ slots + rm.slots ≤ R.slots) (hdg : decode cc pc = .ok (.invokespecial index, 3)) (hn : pc + 3 = n)
    (k : ∀ u : S, post u → XW p l e R s m args below meth c D A nL (cells + rm.cells) (slots + rm.slots) Q er (w' u ++ tl') lv n st) : XW p l e R s m args below meth c D A nL cells slots Q es tl lv pc st0 := by
  subst hn; subst hes; subst htl
  intro H locs ls hP hD hS hl
  have e1 : (er ++ wc) ++ (wt ++ tl') = (er ++ (wc ++ wt)) ++ tl' := by simp only [List.append_assoc]
  rw [e1] at hP hD
  have hPc : va_P D vwCl (wc ++ wt) H := wm_P.mpr fun q hq => wm_P.mp hP q (List.mem_append_left _ (List.mem_append_right _ hq))
  have hD0 := wm_D.mp hD
  have hpw := hD0.1
  rw [List.pairwise_append, List.pairwise_append] at hpw
  have hDc : va_D A (wc ++ wt) := wm_D.mpr ⟨hpw.1.2.1, fun q hq => hD0.2 q (List.mem_append_left _ (List.mem_append_right _ hq))⟩
  have hFc : ∀ q, va_A (wc ++ wt) H.size q → A q := by
    rintro q (⟨j, ee, hj⟩ | hj)
    · exact hDc.2 j _ hj
    · exact hC.2.2.2.2.2.2.1 q (Nat.le_trans hS.1 hj)
  refine va_callv (va_runIN (As := As) (rest := st) ⟨hC.1, hC.2.1, hC.2.2.1, hC.2.2.2.1, hC.2.2.2.2.1⟩ (hM H.size) ⟨va_cnB (host := host) nA hC.2.2.2.2.1 hG hw rfl rfl (hC.2.2.2.2.2.2.2.2.2.1 _ hq) (hC.2.2.2.2.1 _ hw1) hd hR, hyn, hC.2.2.2.2.1 _ hw3⟩ ⟨fun a U g mk q => by obtain ⟨q0, q1, qP, qK, qD, qN⟩ := q; exact ⟨q0, q1, qP, va_K.moved (u := U) (U := U.calling g mk a) (Vm.Alike.refl U.vm) qK, qD, qN.call⟩, fun U hU hW => ⟨rfl, by rw [hU], by rw [hU]; exact hPc, va_K.moved hW.alike hC.2.2.2.2.2.1, hDc.weaken (fun _ _ _ _ => trivial), hC.2.2.2.2.2.2.2.2.2.warm hW⟩⟩ rfl hnA hl.1 hst (lv_room hcat) hdg ⟨hRc.1, hRc.2⟩) hS (fun q _ h => hFc q h) hFc (fun u t H1 locs1 ht hvm hr2 hB hz1 hk1 hS1 => ?_)
  obtain ⟨hP1, hK1, hD1⟩ := hB
  rw [ht] at hP1
  obtain ⟨hP2, hD2⟩ := x_joinA (tl := tl') hP hD hk1 hFc hP1 hD1
  rw [List.append_assoc] at hP2 hD2
  exact k u hr2 H1 locs1 ls hP2 hD2 hS1 hl
theorem x_callAVv {S : Type} (n qr nA : Nat) (er : va_W) (hC : XC p s m args meth c D A nL tys own cc Ts ret) {y : MethodName} {bytes : ByteArray} {maxL index b : Nat} {rt : Option FieldType} {wsy ws' : List Cond} {rm : Room} {As st0 : List Value} {wc : va_W} {post : S → Prop} {w' : S → va_W} (wt tl' : va_W) (htl : tl = wt ++ tl') (hM : CA l y wsy rm D tys (.ref b :: As) (wc ++ wt) post w') {C : String} {T : u_T} {N ci : Nat} {fs : List Value} (hcl : vwCl[ci]? = some (C, T, N)) (he : (wc ++ wt)[qr]? = some (b, .inr (ci, fs))) (hG : GoodIn Ts (wsV own index C y wsy)) (hw : wsy = Cond.code y bytes maxL rt :: ws') (hd : y.cls = C ∧ y.cls ≠ "java/lang/invoke/MethodHandle" ∧ y.cls ≠ "java/lang/invoke/VarHandle" ∧ (parseMethodDescriptor y.desc).map (fun d => d.parameters.length) = some nA) (hR : rm.frames + 1 ≤ R.frames ∧ 8 + (maxL + 11) + rm.locals ≤ R.locals) (hnA : As.length = nA) (hes : es = er ++ wc) (hst : st0 = As.reverse ++ .ref b :: st) (hcat : (st.map fun v => v.category).sum ≤ 8) (hRc : cells + rm.cells ≤ R.cells ∧ slots + rm.slots ≤ R.slots) (hdg : decode cc pc = .ok (.invokevirtual index, 3)) (hn : pc + 3 = n)
    (k : ∀ u : S, post u → XW p l e R s m args below meth c D A nL (cells + rm.cells) (slots + rm.slots) Q er (w' u ++ tl') lv n st) : XW p l e R s m args below meth c D A nL cells slots Q es tl lv pc st0 := by
  subst hn; subst hes; subst htl
  intro H locs ls hP hD hS hl
  have e1 : (er ++ wc) ++ (wt ++ tl') = (er ++ (wc ++ wt)) ++ tl' := by simp only [List.append_assoc]
  rw [e1] at hP hD
  have hPc : va_P D vwCl (wc ++ wt) H := wm_P.mpr fun q hq => wm_P.mp hP q (List.mem_append_left _ (List.mem_append_right _ hq))
  have hD0 := wm_D.mp hD
  have hpw := hD0.1
  rw [List.pairwise_append, List.pairwise_append] at hpw
  have hDc : va_D A (wc ++ wt) := wm_D.mpr ⟨hpw.1.2.1, fun q hq => hD0.2 q (List.mem_append_left _ (List.mem_append_right _ hq))⟩
  have hFc : ∀ q, va_A (wc ++ wt) H.size q → A q := by
    rintro q (⟨j, ee, hj⟩ | hj)
    · exact hDc.2 j _ hj
    · exact hC.2.2.2.2.2.2.1 q (Nat.le_trans hS.1 hj)
  refine va_callv (va_runV (As := As) (rest := st) ⟨hC.1, hC.2.1, hC.2.2.1, hC.2.2.2.1, hC.2.2.2.2.1⟩ (hM H.size) (cwV nA hC.2.2.2.2.1 hG hw rfl rfl hd hR) ⟨fun a U g mk q => by obtain ⟨q0, q1, qP, qK, qD, qN⟩ := q; exact ⟨q0, q1, qP, va_K.moved (u := U) (U := U.calling g mk a) (Vm.Alike.refl U.vm) qK, qD, qN.call⟩, va_recv hC.2.2.2.2.2.1 hPc hcl he, fun U hU hW => ⟨rfl, by rw [hU], by rw [hU]; exact hPc, va_K.moved hW.alike hC.2.2.2.2.2.1, hDc.weaken (fun _ _ _ _ => trivial), hC.2.2.2.2.2.2.2.2.2.warm hW⟩⟩ rfl hnA hl.1 hst (lv_room hcat) hdg ⟨hRc.1, hRc.2⟩) hS (fun q _ h => hFc q h) hFc (fun u t H1 locs1 ht hvm hr2 hB hz1 hk1 hS1 => ?_)
  obtain ⟨hP1, hK1, hD1⟩ := hB
  rw [ht] at hP1
  obtain ⟨hP2, hD2⟩ := x_joinA (tl := tl') hP hD hk1 hFc hP1 hD1
  rw [List.append_assoc] at hP2 hD2
  exact k u hr2 H1 locs1 ls hP2 hD2 hS1 hl
theorem x_callAVi {S : Type} (n qr nA : Nat) (er : va_W) (hC : XC p s m args meth c D A nL tys own cc Ts ret) {y : MethodName} {bytes : ByteArray} {maxL index b : Nat} {rt : Option FieldType} {wsy ws' : List Cond} {rm : Room} {As st0 : List Value} {wc : va_W} {post : Int32 → S → Prop} {w' : S → va_W} (wt tl' : va_W) (htl : tl = wt ++ tl') (hM : CAi l y wsy rm D tys (.ref b :: As) (wc ++ wt) post w') {C : String} {T : u_T} {N ci : Nat} {fs : List Value} (hcl : vwCl[ci]? = some (C, T, N)) (he : (wc ++ wt)[qr]? = some (b, .inr (ci, fs))) (hG : GoodIn Ts (wsV own index C y wsy)) (hw : wsy = Cond.code y bytes maxL rt :: ws') (hd : y.cls = C ∧ y.cls ≠ "java/lang/invoke/MethodHandle" ∧ y.cls ≠ "java/lang/invoke/VarHandle" ∧ (parseMethodDescriptor y.desc).map (fun d => d.parameters.length) = some nA) (hR : rm.frames + 1 ≤ R.frames ∧ 8 + (maxL + 11) + rm.locals ≤ R.locals) (hnA : As.length = nA) (hes : es = er ++ wc) (hst : st0 = As.reverse ++ .ref b :: st) (hcat : (st.map fun v => v.category).sum ≤ 8) (hRc : cells + rm.cells ≤ R.cells ∧ slots + rm.slots ≤ R.slots) (hdg : decode cc pc = .ok (.invokevirtual index, 3)) (hn : pc + 3 = n)
    (k : ∀ (r : Int32) (u : S), post r u → XW p l e R s m args below meth c D A nL (cells + rm.cells) (slots + rm.slots) Q er (w' u ++ tl') lv n (.int r :: st)) : XW p l e R s m args below meth c D A nL cells slots Q es tl lv pc st0 := by
  subst hn; subst hes; subst htl
  intro H locs ls hP hD hS hl
  have e1 : (er ++ wc) ++ (wt ++ tl') = (er ++ (wc ++ wt)) ++ tl' := by simp only [List.append_assoc]
  rw [e1] at hP hD
  have hPc : va_P D vwCl (wc ++ wt) H := wm_P.mpr fun q hq => wm_P.mp hP q (List.mem_append_left _ (List.mem_append_right _ hq))
  have hD0 := wm_D.mp hD
  have hpw := hD0.1
  rw [List.pairwise_append, List.pairwise_append] at hpw
  have hDc : va_D A (wc ++ wt) := wm_D.mpr ⟨hpw.1.2.1, fun q hq => hD0.2 q (List.mem_append_left _ (List.mem_append_right _ hq))⟩
  have hFc : ∀ q, va_A (wc ++ wt) H.size q → A q := by
    rintro q (⟨j, ee, hj⟩ | hj)
    · exact hDc.2 j _ hj
    · exact hC.2.2.2.2.2.2.1 q (Nat.le_trans hS.1 hj)
  refine va_calli (va_runV (As := As) (rest := st) ⟨hC.1, hC.2.1, hC.2.2.1, hC.2.2.2.1, hC.2.2.2.2.1⟩ (hM H.size) (cwV nA hC.2.2.2.2.1 hG hw rfl rfl hd hR) ⟨fun a U g mk q => by obtain ⟨q0, q1, qP, qK, qD, qN⟩ := q; exact ⟨q0, q1, qP, va_K.moved (u := U) (U := U.calling g mk a) (Vm.Alike.refl U.vm) qK, qD, qN.call⟩, va_recv hC.2.2.2.2.2.1 hPc hcl he, fun U hU hW => ⟨rfl, by rw [hU], by rw [hU]; exact hPc, va_K.moved hW.alike hC.2.2.2.2.2.1, hDc.weaken (fun _ _ _ _ => trivial), hC.2.2.2.2.2.2.2.2.2.warm hW⟩⟩ rfl hnA hl.1 hst (lv_room hcat) hdg ⟨hRc.1, hRc.2⟩) hS (fun q _ h => hFc q h) hFc (fun r2 u t H1 locs1 ht hvm hr2 hB hz1 hk1 hS1 => ?_)
  obtain ⟨hP1, hK1, hD1⟩ := hB
  rw [ht] at hP1
  obtain ⟨hP2, hD2⟩ := x_joinA (tl := tl') hP hD hk1 hFc hP1 hD1
  rw [List.append_assoc] at hP2 hD2
  exact k r2 u hr2 H1 locs1 ls hP2 hD2 hS1 hl
end
