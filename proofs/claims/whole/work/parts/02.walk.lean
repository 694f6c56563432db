/-- the private methods and constructors that another class of the nest calls: each caller's class, its number there, the method, the host -/
def xnws : List (String × Nat × MethodName × String) := [(RX5, 126, yX7_pair, RX7), (RX5, 42, yX6_init, RX7), (RX0, 24, yX5_init, RX7), (RX7, 11, yX5_init, RX7), (RX7, 18, yX0_init, RX7), (RX7, 25, yX2_init, RX7), (RX7, 32, yX4_init, RX7)]
def XN (U : State) : Prop := (∀ q ∈ xnws, va_Nw (.methodLinkNest q.1 q.2.1 q.2.2.1 q.2.2.2) U) ∧ va_AO "WhisperCrowd$State" U
theorem XN.warm {s U : State} (hW : s.WarmedH U.vm) (h : XN s) : XN U := ⟨fun q hq => va_Nw.warmM hW (h.1 q hq), va_AO.moved hW.alike h.2⟩
theorem XN.call {U : State} {g : JFrame} {mk : MethodId} {a : Array Value} (h : XN U) : XN (U.calling g mk a) := ⟨fun q hq => va_Nw.same rfl (u := U) rfl (h.1 q hq), va_AO.moved (u := U) (Vm.Alike.refl U.vm) h.2⟩
section
variable {p : Program} {l : Launch} {e : Env} {R : Room} {s : State} {m : MethodId} {args : Array Value} {below : List Frame} {meth : Method} {c : Code} {D : va_G} {A : Nat → Prop} {nL cells slots : Nat} {Q : State → Prop} {tys : List (ClassId × FieldType)} {own : String} {cc : ByteArray} {Ts : List Cond} {ret : Option FieldType} {es tl : va_W} {lv : List (Nat × Value)} {pc : Nat} {st : List Value}
/-- from any heap with the world es ++ tl and any locals lv the machine, at pc with the stack st, comes to Q -/
def XW (p : Program) (l : Launch) (e : Env) (R : Room) (s : State) (m : MethodId) (args : Array Value) (below : List Frame) (meth : Method) (c : Code) (D : va_G) (A : Nat → Prop) (nL cells slots : Nat) (Q : State → Prop) (es tl : va_W) (lv : List (Nat × Value)) (pc : Nat) (st : List Value) : Prop :=
  ∀ (H : Heap) (locs : List Loc) (ls : Array Slot), va_P D vwCl (es ++ tl) H → va_D A (es ++ tl) → va_S A s.heap H locs → lv_has ls nL lv → W p l e R s m args below meth c H locs cells slots Q (F0 m pc ls st)
def XC (p : Program) (s : State) (m : MethodId) (args : Array Value) (meth : Method) (c : Code) (D : va_G) (A : Nat → Prop) (nL : Nat) (tys : List (ClassId × FieldType)) (own : String) (cc : ByteArray) (Ts : List Cond) (ret : Option FieldType) : Prop :=
  p.tables.exec = Jvm.exec ∧ c.code = cc ∧ c.maxLocals = nL ∧ s.vm.findClass own = some m.cls ∧ (∀ w ∈ Ts, w.before args s = true) ∧ va_K D vwCl tys s ∧ (∀ q, s.heap.size ≤ q → A q) ∧ meth.sig.returnType = ret ∧ meth.locks = false ∧ XN s
theorem es_get {q0 : Nat} {x : Nat × va_E} (h : es[q0]? = some x) : (es ++ tl)[q0]? = some x := by
  have hlt : q0 < es.length := (List.getElem?_eq_some_iff.mp h).1
  rw [List.getElem?_append_left hlt]; exact h
theorem es_set {q0 : Nat} {x y : Nat × va_E} (h : es[q0]? = some x) : (es ++ tl).set q0 y = es.set q0 y ++ tl := by
  have hlt : q0 < es.length := (List.getElem?_eq_some_iff.mp h).1
  exact List.set_append_left _ _ hlt
/-- the steps of a pure text -/
def nm {α β : Type} (x : α) (k : α → Option β) : Option β := k x
def ck {β : Type} (i : Int32) (n : Nat) (k : Option β) : Option β := if i < 0 ∨ n ≤ i.toNatClampNeg then none else k
def ckp {β : Type} (P : Prop) (i : Decidable P) (k : Option β) : Option β := @ite _ P i k none
def bd {α β : Type} (x : Option α) (k : α → Option β) : Option β := match x with
  | none => none
  | some y => k y
theorem nmx_e {α β : Type} {x : α} {k : α → Option β} {r : β} (h : nm x k = some r) : ∃ z, z = x ∧ k z = some r := ⟨x, rfl, h⟩
theorem ck_e {β : Type} {i : Int32} {n : Nat} {k : Option β} {r : β} (h : ck i n k = some r) : vp_in i n ∧ k = some r := by
  unfold ck at h
  by_cases hc : i < 0 ∨ n ≤ i.toNatClampNeg
  · rw [if_pos hc] at h; cases h
  · rw [if_neg hc] at h; exact ⟨hc, h⟩
theorem ckp_e {β : Type} {P : Prop} {i : Decidable P} {k : Option β} {r : β} (h : ckp P i k = some r) : P ∧ k = some r := by
  unfold ckp at h
  by_cases hc : P
  · rw [if_pos hc] at h; exact ⟨hc, h⟩
  · rw [if_neg hc] at h; cases h
theorem bd_e {α β : Type} {x : Option α} {k : α → Option β} {r : β} (h : bd x k = some r) : ∃ y, x = some y ∧ k y = some r := by
  cases x with
  | none => cases h
  | some y => exact ⟨y, rfl, h⟩
theorem if_t {β : Type} {P : Prop} {i : Decidable P} {a b : Option β} {r : β} (h : @ite _ P i a b = some r) (hc : P) : a = some r := (if_pos hc).symm.trans h
theorem if_f {β : Type} {P : Prop} {i : Decidable P} {a b : Option β} {r : β} (h : @ite _ P i a b = some r) (hc : ¬ P) : b = some r := (if_neg hc).symm.trans h
def fu : Nat := 100000

theorem x_iadd (n : Nat) (hC : XC p s m args meth c D A nL tys own cc Ts ret) {x y : Int32} (hdg : decode cc pc = .ok (.iadd, 1)) (hn : pc + 1 = n) (k : XW p l e R s m args below meth c D A nL cells slots Q es tl lv n (.int (x + y) :: st)) : XW p l e R s m args below meth c D A nL cells slots Q es tl lv pc (.int y :: .int x :: st) := by
  subst hn; exact fun H locs ls hP hD hS hl => lv_iadd hC.1 hC.2.1 hdg (k H locs ls hP hD hS hl)
theorem x_isub (n : Nat) (hC : XC p s m args meth c D A nL tys own cc Ts ret) {x y : Int32} (hdg : decode cc pc = .ok (.isub, 1)) (hn : pc + 1 = n) (k : XW p l e R s m args below meth c D A nL cells slots Q es tl lv n (.int (x - y) :: st)) : XW p l e R s m args below meth c D A nL cells slots Q es tl lv pc (.int y :: .int x :: st) := by
  subst hn; exact fun H locs ls hP hD hS hl => lv_isub hC.1 hC.2.1 hdg (k H locs ls hP hD hS hl)
theorem x_imul (n : Nat) (hC : XC p s m args meth c D A nL tys own cc Ts ret) {x y : Int32} (hdg : decode cc pc = .ok (.imul, 1)) (hn : pc + 1 = n) (k : XW p l e R s m args below meth c D A nL cells slots Q es tl lv n (.int (x * y) :: st)) : XW p l e R s m args below meth c D A nL cells slots Q es tl lv pc (.int y :: .int x :: st) := by
  subst hn; exact fun H locs ls hP hD hS hl => lv_imul hC.1 hC.2.1 hdg (k H locs ls hP hD hS hl)
theorem x_iand (n : Nat) (hC : XC p s m args meth c D A nL tys own cc Ts ret) {x y : Int32} (hdg : decode cc pc = .ok (.iand, 1)) (hn : pc + 1 = n) (k : XW p l e R s m args below meth c D A nL cells slots Q es tl lv n (.int (x &&& y) :: st)) : XW p l e R s m args below meth c D A nL cells slots Q es tl lv pc (.int y :: .int x :: st) := by
  subst hn; exact fun H locs ls hP hD hS hl => lv_iand hC.1 hC.2.1 hdg (k H locs ls hP hD hS hl)
theorem x_ior (n : Nat) (hC : XC p s m args meth c D A nL tys own cc Ts ret) {x y : Int32} (hdg : decode cc pc = .ok (.ior, 1)) (hn : pc + 1 = n) (k : XW p l e R s m args below meth c D A nL cells slots Q es tl lv n (.int (x ||| y) :: st)) : XW p l e R s m args below meth c D A nL cells slots Q es tl lv pc (.int y :: .int x :: st) := by
  subst hn; exact fun H locs ls hP hD hS hl => lv_ior hC.1 hC.2.1 hdg (k H locs ls hP hD hS hl)
theorem x_ixor (n : Nat) (hC : XC p s m args meth c D A nL tys own cc Ts ret) {x y : Int32} (hdg : decode cc pc = .ok (.ixor, 1)) (hn : pc + 1 = n) (k : XW p l e R s m args below meth c D A nL cells slots Q es tl lv n (.int (x ^^^ y) :: st)) : XW p l e R s m args below meth c D A nL cells slots Q es tl lv pc (.int y :: .int x :: st) := by
  subst hn; exact fun H locs ls hP hD hS hl => lv_ixor hC.1 hC.2.1 hdg (k H locs ls hP hD hS hl)
theorem x_ishl (n : Nat) (hC : XC p s m args meth c D A nL tys own cc Ts ret) {x y : Int32} (hdg : decode cc pc = .ok (.ishl, 1)) (hn : pc + 1 = n) (k : XW p l e R s m args below meth c D A nL cells slots Q es tl lv n (.int (x <<< (y &&& 31)) :: st)) : XW p l e R s m args below meth c D A nL cells slots Q es tl lv pc (.int y :: .int x :: st) := by
  subst hn; exact fun H locs ls hP hD hS hl => lv_ishl hC.1 hC.2.1 hdg (k H locs ls hP hD hS hl)
theorem x_ishr (n : Nat) (hC : XC p s m args meth c D A nL tys own cc Ts ret) {x y : Int32} (hdg : decode cc pc = .ok (.ishr, 1)) (hn : pc + 1 = n) (k : XW p l e R s m args below meth c D A nL cells slots Q es tl lv n (.int (x >>> (y &&& 31)) :: st)) : XW p l e R s m args below meth c D A nL cells slots Q es tl lv pc (.int y :: .int x :: st) := by
  subst hn; exact fun H locs ls hP hD hS hl => lv_ishr hC.1 hC.2.1 hdg (k H locs ls hP hD hS hl)
theorem x_iushr (n : Nat) (hC : XC p s m args meth c D A nL tys own cc Ts ret) {x y : Int32} (hdg : decode cc pc = .ok (.iushr, 1)) (hn : pc + 1 = n) (k : XW p l e R s m args below meth c D A nL cells slots Q es tl lv n (.int ((x.toUInt32 >>> (y.toUInt32 &&& Int32.toUInt32 31)).toInt32) :: st)) : XW p l e R s m args below meth c D A nL cells slots Q es tl lv pc (.int y :: .int x :: st) := by
  subst hn; exact fun H locs ls hP hD hS hl => lv_iushr hC.1 hC.2.1 hdg rfl (k H locs ls hP hD hS hl)
theorem x_idiv (n : Nat) (hC : XC p s m args meth c D A nL tys own cc Ts ret) {x y : Int32} (hdg : decode cc pc = .ok (.idiv, 1)) (hn : pc + 1 = n) (hne : ¬ y = 0) (k : XW p l e R s m args below meth c D A nL cells slots Q es tl lv n (.int (x / y) :: st)) : XW p l e R s m args below meth c D A nL cells slots Q es tl lv pc (.int y :: .int x :: st) := by
  subst hn; exact fun H locs ls hP hD hS hl => lv_idiv hC.1 hC.2.1 hdg hne (k H locs ls hP hD hS hl)
theorem x_irem (n : Nat) (hC : XC p s m args meth c D A nL tys own cc Ts ret) {x y : Int32} (hdg : decode cc pc = .ok (.irem, 1)) (hn : pc + 1 = n) (hne : ¬ y = 0) (k : XW p l e R s m args below meth c D A nL cells slots Q es tl lv n (.int (x - x / y * y) :: st)) : XW p l e R s m args below meth c D A nL cells slots Q es tl lv pc (.int y :: .int x :: st) := by
  subst hn; exact fun H locs ls hP hD hS hl => lv_irem hC.1 hC.2.1 hdg hne (k H locs ls hP hD hS hl)
theorem x_ladd (n : Nat) (hC : XC p s m args meth c D A nL tys own cc Ts ret) {x y : Int64} (hdg : decode cc pc = .ok (.ladd, 1)) (hn : pc + 1 = n) (k : XW p l e R s m args below meth c D A nL cells slots Q es tl lv n (.long (x + y) :: st)) : XW p l e R s m args below meth c D A nL cells slots Q es tl lv pc (.long y :: .long x :: st) := by
  subst hn; exact fun H locs ls hP hD hS hl => lv_ladd hC.1 hC.2.1 hdg (k H locs ls hP hD hS hl)
theorem x_lsub (n : Nat) (hC : XC p s m args meth c D A nL tys own cc Ts ret) {x y : Int64} (hdg : decode cc pc = .ok (.lsub, 1)) (hn : pc + 1 = n) (k : XW p l e R s m args below meth c D A nL cells slots Q es tl lv n (.long (x - y) :: st)) : XW p l e R s m args below meth c D A nL cells slots Q es tl lv pc (.long y :: .long x :: st) := by
  subst hn; exact fun H locs ls hP hD hS hl => lv_lsub hC.1 hC.2.1 hdg (k H locs ls hP hD hS hl)
theorem x_lmul (n : Nat) (hC : XC p s m args meth c D A nL tys own cc Ts ret) {x y : Int64} (hdg : decode cc pc = .ok (.lmul, 1)) (hn : pc + 1 = n) (k : XW p l e R s m args below meth c D A nL cells slots Q es tl lv n (.long (x * y) :: st)) : XW p l e R s m args below meth c D A nL cells slots Q es tl lv pc (.long y :: .long x :: st) := by
  subst hn; exact fun H locs ls hP hD hS hl => lv_lmul hC.1 hC.2.1 hdg (k H locs ls hP hD hS hl)
theorem x_land (n : Nat) (hC : XC p s m args meth c D A nL tys own cc Ts ret) {x y : Int64} (hdg : decode cc pc = .ok (.land, 1)) (hn : pc + 1 = n) (k : XW p l e R s m args below meth c D A nL cells slots Q es tl lv n (.long (x &&& y) :: st)) : XW p l e R s m args below meth c D A nL cells slots Q es tl lv pc (.long y :: .long x :: st) := by
  subst hn; exact fun H locs ls hP hD hS hl => lv_land hC.1 hC.2.1 hdg (k H locs ls hP hD hS hl)
theorem x_lor (n : Nat) (hC : XC p s m args meth c D A nL tys own cc Ts ret) {x y : Int64} (hdg : decode cc pc = .ok (.lor, 1)) (hn : pc + 1 = n) (k : XW p l e R s m args below meth c D A nL cells slots Q es tl lv n (.long (x ||| y) :: st)) : XW p l e R s m args below meth c D A nL cells slots Q es tl lv pc (.long y :: .long x :: st) := by
  subst hn; exact fun H locs ls hP hD hS hl => lv_lor hC.1 hC.2.1 hdg (k H locs ls hP hD hS hl)
theorem x_lxor (n : Nat) (hC : XC p s m args meth c D A nL tys own cc Ts ret) {x y : Int64} (hdg : decode cc pc = .ok (.lxor, 1)) (hn : pc + 1 = n) (k : XW p l e R s m args below meth c D A nL cells slots Q es tl lv n (.long (x ^^^ y) :: st)) : XW p l e R s m args below meth c D A nL cells slots Q es tl lv pc (.long y :: .long x :: st) := by
  subst hn; exact fun H locs ls hP hD hS hl => lv_lxor hC.1 hC.2.1 hdg (k H locs ls hP hD hS hl)
theorem x_lneg (n : Nat) (hC : XC p s m args meth c D A nL tys own cc Ts ret) {x : Int64} (hdg : decode cc pc = .ok (.lneg, 1)) (hn : pc + 1 = n) (k : XW p l e R s m args below meth c D A nL cells slots Q es tl lv n (.long (-x) :: st)) : XW p l e R s m args below meth c D A nL cells slots Q es tl lv pc (.long x :: st) := by
  subst hn; exact fun H locs ls hP hD hS hl => lv_lneg hC.1 hC.2.1 hdg (k H locs ls hP hD hS hl)
theorem x_lshl (n : Nat) (hC : XC p s m args meth c D A nL tys own cc Ts ret) {x : Int64} {y : Int32} (hdg : decode cc pc = .ok (.lshl, 1)) (hn : pc + 1 = n) (k : XW p l e R s m args below meth c D A nL cells slots Q es tl lv n (.long (x <<< (y.toInt64 &&& 63)) :: st)) : XW p l e R s m args below meth c D A nL cells slots Q es tl lv pc (.int y :: .long x :: st) := by
  subst hn; exact fun H locs ls hP hD hS hl => lv_lshl hC.1 hC.2.1 hdg rfl (k H locs ls hP hD hS hl)
theorem x_lshr (n : Nat) (hC : XC p s m args meth c D A nL tys own cc Ts ret) {x : Int64} {y : Int32} (hdg : decode cc pc = .ok (.lshr, 1)) (hn : pc + 1 = n) (k : XW p l e R s m args below meth c D A nL cells slots Q es tl lv n (.long (x >>> (y.toInt64 &&& 63)) :: st)) : XW p l e R s m args below meth c D A nL cells slots Q es tl lv pc (.int y :: .long x :: st) := by
  subst hn; exact fun H locs ls hP hD hS hl => lv_lshr hC.1 hC.2.1 hdg rfl (k H locs ls hP hD hS hl)
theorem x_i2l (n : Nat) (hC : XC p s m args meth c D A nL tys own cc Ts ret) {x : Int32} (hdg : decode cc pc = .ok (.i2l, 1)) (hn : pc + 1 = n) (k : XW p l e R s m args below meth c D A nL cells slots Q es tl lv n (.long (x.toInt64) :: st)) : XW p l e R s m args below meth c D A nL cells slots Q es tl lv pc (.int x :: st) := by
  subst hn; exact fun H locs ls hP hD hS hl => lv_i2l hC.1 hC.2.1 hdg rfl (k H locs ls hP hD hS hl)
theorem x_l2i (n : Nat) (hC : XC p s m args meth c D A nL tys own cc Ts ret) {x : Int64} (hdg : decode cc pc = .ok (.l2i, 1)) (hn : pc + 1 = n) (k : XW p l e R s m args below meth c D A nL cells slots Q es tl lv n (.int (x.toInt32) :: st)) : XW p l e R s m args below meth c D A nL cells slots Q es tl lv pc (.long x :: st) := by
  subst hn; exact fun H locs ls hP hD hS hl => lv_l2i hC.1 hC.2.1 hdg rfl (k H locs ls hP hD hS hl)
theorem x_i2d (n : Nat) (hC : XC p s m args meth c D A nL tys own cc Ts ret) {x : Int32} (hdg : decode cc pc = .ok (.i2d, 1)) (hn : pc + 1 = n) (k : XW p l e R s m args below meth c D A nL cells slots Q es tl lv n (.double (FP.i2d x) :: st)) : XW p l e R s m args below meth c D A nL cells slots Q es tl lv pc (.int x :: st) := by
  subst hn; exact fun H locs ls hP hD hS hl => lv_i2d hC.1 hC.2.1 hdg (k H locs ls hP hD hS hl)
theorem x_l2d (n : Nat) (hC : XC p s m args meth c D A nL tys own cc Ts ret) {x : Int64} (hdg : decode cc pc = .ok (.l2d, 1)) (hn : pc + 1 = n) (k : XW p l e R s m args below meth c D A nL cells slots Q es tl lv n (.double (FP.l2d x) :: st)) : XW p l e R s m args below meth c D A nL cells slots Q es tl lv pc (.long x :: st) := by
  subst hn; exact fun H locs ls hP hD hS hl => lv_l2d hC.1 hC.2.1 hdg (k H locs ls hP hD hS hl)
theorem x_d2l (n : Nat) (hC : XC p s m args meth c D A nL tys own cc Ts ret) {x : UInt64} (hdg : decode cc pc = .ok (.d2l, 1)) (hn : pc + 1 = n) (k : XW p l e R s m args below meth c D A nL cells slots Q es tl lv n (.long (FP.d2l x) :: st)) : XW p l e R s m args below meth c D A nL cells slots Q es tl lv pc (.double x :: st) := by
  subst hn; exact fun H locs ls hP hD hS hl => lv_d2l hC.1 hC.2.1 hdg (k H locs ls hP hD hS hl)
theorem x_dneg (n : Nat) (hC : XC p s m args meth c D A nL tys own cc Ts ret) {x : UInt64} (hdg : decode cc pc = .ok (.dneg, 1)) (hn : pc + 1 = n) (k : XW p l e R s m args below meth c D A nL cells slots Q es tl lv n (.double (FP.dneg x) :: st)) : XW p l e R s m args below meth c D A nL cells slots Q es tl lv pc (.double x :: st) := by
  subst hn; exact fun H locs ls hP hD hS hl => lv_dneg hC.1 hC.2.1 hdg (k H locs ls hP hD hS hl)
theorem x_dmul (n : Nat) (hC : XC p s m args meth c D A nL tys own cc Ts ret) {x y : UInt64} (hdg : decode cc pc = .ok (.dmul, 1)) (hn : pc + 1 = n) (hne : FP.dmul x y &&& 0x7fffffffffffffff ≤ 0x7ff0000000000000) (k : XW p l e R s m args below meth c D A nL cells slots Q es tl lv n (.double (FP.dmul x y) :: st)) : XW p l e R s m args below meth c D A nL cells slots Q es tl lv pc (.double y :: .double x :: st) := by
  subst hn; exact fun H locs ls hP hD hS hl => lv_dmul hC.1 hC.2.1 hdg hne (k H locs ls hP hD hS hl)
theorem x_ddiv (n : Nat) (hC : XC p s m args meth c D A nL tys own cc Ts ret) {x y : UInt64} (hdg : decode cc pc = .ok (.ddiv, 1)) (hn : pc + 1 = n) (hne : FP.ddiv x y &&& 0x7fffffffffffffff ≤ 0x7ff0000000000000) (k : XW p l e R s m args below meth c D A nL cells slots Q es tl lv n (.double (FP.ddiv x y) :: st)) : XW p l e R s m args below meth c D A nL cells slots Q es tl lv pc (.double y :: .double x :: st) := by
  subst hn; exact fun H locs ls hP hD hS hl => lv_ddiv hC.1 hC.2.1 hdg hne (k H locs ls hP hD hS hl)
theorem x_dsub (n : Nat) (hC : XC p s m args meth c D A nL tys own cc Ts ret) {x y : UInt64} (hdg : decode cc pc = .ok (.dsub, 1)) (hn : pc + 1 = n) (hne : FP.dsub x y &&& 0x7fffffffffffffff ≤ 0x7ff0000000000000) (k : XW p l e R s m args below meth c D A nL cells slots Q es tl lv n (.double (FP.dsub x y) :: st)) : XW p l e R s m args below meth c D A nL cells slots Q es tl lv pc (.double y :: .double x :: st) := by
  subst hn; exact fun H locs ls hP hD hS hl => lv_dsub hC.1 hC.2.1 hdg hne (k H locs ls hP hD hS hl)
theorem x_dcmp (n : Nat) (hC : XC p s m args meth c D A nL tys own cc Ts ret) {x y : UInt64} {op : CmpOp} (hdg : decode cc pc = .ok (.dcmp op, 1)) (hn : pc + 1 = n) (k : XW p l e R s m args below meth c D A nL cells slots Q es tl lv n (.int (Op.cmpValue (FP.dcmp x y) op) :: st)) : XW p l e R s m args below meth c D A nL cells slots Q es tl lv pc (.double y :: .double x :: st) := by
  subst hn; exact fun H locs ls hP hD hS hl => lv_dcmp hC.1 hC.2.1 hdg (k H locs ls hP hD hS hl)
theorem x_iconst (n : Nat) (hC : XC p s m args meth c D A nL tys own cc Ts ret) {q : Int} (v : Int32) (hdg : decode cc pc = .ok (.iconst q, 1)) (hn : pc + 1 = n) (hv : Int32.ofInt q = v) (k : XW p l e R s m args below meth c D A nL cells slots Q es tl lv n (.int v :: st)) : XW p l e R s m args below meth c D A nL cells slots Q es tl lv pc (st) := by
  subst hn; exact fun H locs ls hP hD hS hl => lv_iconst hC.1 hC.2.1 hdg hv (k H locs ls hP hD hS hl)
theorem x_bipush (n : Nat) (hC : XC p s m args meth c D A nL tys own cc Ts ret) {q : Int} (v : Int32) (hdg : decode cc pc = .ok (.bipush q, 2)) (hn : pc + 2 = n) (hv : (Int8.ofInt q).toInt32 = v) (k : XW p l e R s m args below meth c D A nL cells slots Q es tl lv n (.int v :: st)) : XW p l e R s m args below meth c D A nL cells slots Q es tl lv pc (st) := by
  subst hn; exact fun H locs ls hP hD hS hl => lv_bipush hC.1 hC.2.1 hdg hv (k H locs ls hP hD hS hl)
theorem x_sipush (n : Nat) (hC : XC p s m args meth c D A nL tys own cc Ts ret) {q : Int} (v : Int32) (hdg : decode cc pc = .ok (.sipush q, 3)) (hn : pc + 3 = n) (hv : (Int16.ofInt q).toInt32 = v) (k : XW p l e R s m args below meth c D A nL cells slots Q es tl lv n (.int v :: st)) : XW p l e R s m args below meth c D A nL cells slots Q es tl lv pc (st) := by
  subst hn; exact fun H locs ls hP hD hS hl => lv_sipush hC.1 hC.2.1 hdg hv (k H locs ls hP hD hS hl)
theorem x_lconst (n : Nat) (hC : XC p s m args meth c D A nL tys own cc Ts ret) {q : Fin 2} (v : Int64) (hdg : decode cc pc = .ok (.lconst q, 1)) (hn : pc + 1 = n) (hv : Int64.ofNat (q : Nat) = v) (k : XW p l e R s m args below meth c D A nL cells slots Q es tl lv n (.long v :: st)) : XW p l e R s m args below meth c D A nL cells slots Q es tl lv pc (st) := by
  subst hn; exact fun H locs ls hP hD hS hl => lv_lconst hC.1 hC.2.1 hdg hv (k H locs ls hP hD hS hl)
theorem x_dconst0 (n : Nat) (hC : XC p s m args meth c D A nL tys own cc Ts ret)  (hdg : decode cc pc = .ok (.dconst 0, 1)) (hn : pc + 1 = n) (k : XW p l e R s m args below meth c D A nL cells slots Q es tl lv n (.double FP.dconst0 :: st)) : XW p l e R s m args below meth c D A nL cells slots Q es tl lv pc (st) := by
  subst hn; exact fun H locs ls hP hD hS hl => lv_dconst0 hC.1 hC.2.1 hdg (k H locs ls hP hD hS hl)
theorem x_dconst1 (n : Nat) (hC : XC p s m args meth c D A nL tys own cc Ts ret)  (hdg : decode cc pc = .ok (.dconst 1, 1)) (hn : pc + 1 = n) (k : XW p l e R s m args below meth c D A nL cells slots Q es tl lv n (.double FP.dconst1 :: st)) : XW p l e R s m args below meth c D A nL cells slots Q es tl lv pc (st) := by
  subst hn; exact fun H locs ls hP hD hS hl => lv_dconst1 hC.1 hC.2.1 hdg (k H locs ls hP hD hS hl)
theorem x_ldc (n : Nat) (hC : XC p s m args meth c D A nL tys own cc Ts ret) {index : Nat} {v : Int32} (hw : Cond.constant own index v ∈ Ts) (hdg : decode cc pc = .ok (.ldc index, 2)) (hn : pc + 2 = n) (k : XW p l e R s m args below meth c D A nL cells slots Q es tl lv n (.int v :: st)) : XW p l e R s m args below meth c D A nL cells slots Q es tl lv pc st := by
  subst hn; exact fun H locs ls hP hD hS hl => lv_ldc hC.1 hC.2.1 hC.2.2.2.1 (hC.2.2.2.2.1 _ hw) hdg (k H locs ls hP hD hS hl)
theorem x_ldcw (n : Nat) (hC : XC p s m args meth c D A nL tys own cc Ts ret) {index : Nat} {v : Int32} (hw : Cond.constant own index v ∈ Ts) (hdg : decode cc pc = .ok (.ldc_w index, 3)) (hn : pc + 3 = n) (k : XW p l e R s m args below meth c D A nL cells slots Q es tl lv n (.int v :: st)) : XW p l e R s m args below meth c D A nL cells slots Q es tl lv pc st := by
  subst hn; exact fun H locs ls hP hD hS hl => lv_ldcw hC.1 hC.2.1 hC.2.2.2.1 (hC.2.2.2.2.1 _ hw) hdg (k H locs ls hP hD hS hl)
theorem x_ldc2 (n : Nat) (hC : XC p s m args meth c D A nL tys own cc Ts ret) {index : Nat} {v : Int64} (hw : Cond.constantLong own index v ∈ Ts) (hdg : decode cc pc = .ok (.ldc2_w index, 3)) (hn : pc + 3 = n) (k : XW p l e R s m args below meth c D A nL cells slots Q es tl lv n (.long v :: st)) : XW p l e R s m args below meth c D A nL cells slots Q es tl lv pc st := by
  subst hn; exact fun H locs ls hP hD hS hl => lv_ldc2 hC.1 hC.2.1 hC.2.2.2.1 (hC.2.2.2.2.1 _ hw) hdg (k H locs ls hP hD hS hl)
theorem x_ldc2d (n : Nat) (hC : XC p s m args meth c D A nL tys own cc Ts ret) {index : Nat} {v : UInt64} (hw : Cond.constantDouble own index v ∈ Ts) (hdg : decode cc pc = .ok (.ldc2_w index, 3)) (hn : pc + 3 = n) (k : XW p l e R s m args below meth c D A nL cells slots Q es tl lv n (.double v :: st)) : XW p l e R s m args below meth c D A nL cells slots Q es tl lv pc st := by
  subst hn; exact fun H locs ls hP hD hS hl => lv_ldc2d hC.1 hC.2.1 hC.2.2.2.1 (hC.2.2.2.2.1 _ hw) hdg (k H locs ls hP hD hS hl)
theorem x_null (n : Nat) (hC : XC p s m args meth c D A nL tys own cc Ts ret)  (hdg : decode cc pc = .ok (.aconst_null, 1)) (hn : pc + 1 = n) (k : XW p l e R s m args below meth c D A nL cells slots Q es tl lv n (.null :: st)) : XW p l e R s m args below meth c D A nL cells slots Q es tl lv pc (st) := by
  subst hn; exact fun H locs ls hP hD hS hl => lv_null hC.1 hC.2.1 hdg (k H locs ls hP hD hS hl)
theorem x_dup (n : Nat) (hC : XC p s m args meth c D A nL tys own cc Ts ret) {va : Value} (hdg : decode cc pc = .ok (.dup, 1)) (hn : pc + 1 = n) (hva : va.category = 1) (k : XW p l e R s m args below meth c D A nL cells slots Q es tl lv n (va :: va :: st)) : XW p l e R s m args below meth c D A nL cells slots Q es tl lv pc (va :: st) := by
  subst hn; exact fun H locs ls hP hD hS hl => lv_dup hC.1 hC.2.1 hdg hva (k H locs ls hP hD hS hl)
theorem x_dup2_11 (n : Nat) (hC : XC p s m args meth c D A nL tys own cc Ts ret) {va vb : Value} (hdg : decode cc pc = .ok (.dup2, 1)) (hn : pc + 1 = n) (hva : va.category = 1) (hvb : vb.category = 1) (k : XW p l e R s m args below meth c D A nL cells slots Q es tl lv n (va :: vb :: va :: vb :: st)) : XW p l e R s m args below meth c D A nL cells slots Q es tl lv pc (va :: vb :: st) := by
  subst hn; exact fun H locs ls hP hD hS hl => lv_dup2_11 hC.1 hC.2.1 hdg hva hvb (k H locs ls hP hD hS hl)
theorem x_dup2_2 (n : Nat) (hC : XC p s m args meth c D A nL tys own cc Ts ret) {va : Value} (hdg : decode cc pc = .ok (.dup2, 1)) (hn : pc + 1 = n) (hva : va.category = 2) (k : XW p l e R s m args below meth c D A nL cells slots Q es tl lv n (va :: va :: st)) : XW p l e R s m args below meth c D A nL cells slots Q es tl lv pc (va :: st) := by
  subst hn; exact fun H locs ls hP hD hS hl => lv_dup2_2 hC.1 hC.2.1 hdg hva (k H locs ls hP hD hS hl)
theorem x_iload (n w : Nat) (hC : XC p s m args meth c D A nL tys own cc Ts ret) {i : Nat} {x : Int32} (hdg : decode cc pc = .ok (.iload i, 2)) (hn : pc + 2 = n) (hk : lv[w]? = some (i, .int x)) (k : XW p l e R s m args below meth c D A nL cells slots Q es tl lv n (.int x :: st)) : XW p l e R s m args below meth c D A nL cells slots Q es tl lv pc st := by
  subst hn; exact fun H locs ls hP hD hS hl => lv_iload hC.1 hC.2.1 hdg (lv_at hl w hk) (k H locs ls hP hD hS hl)
theorem x_iload_n (n w : Nat) (hC : XC p s m args meth c D A nL tys own cc Ts ret) {i : Nat} {z : Fin 4} {x : Int32} (hdg : decode cc pc = .ok (.iload_n z, 1)) (hn : pc + 1 = n) (hi : (z : Nat) = i) (hk : lv[w]? = some (i, .int x)) (k : XW p l e R s m args below meth c D A nL cells slots Q es tl lv n (.int x :: st)) : XW p l e R s m args below meth c D A nL cells slots Q es tl lv pc st := by
  subst hn; exact fun H locs ls hP hD hS hl => lv_iload_n hC.1 hC.2.1 hdg hi (lv_at hl w hk) (k H locs ls hP hD hS hl)
theorem x_istore (n : Nat) (lv' : List (Nat × Value)) (hC : XC p s m args meth c D A nL tys own cc Ts ret) {i : Nat} {x x' : Int32} (hdg : decode cc pc = .ok (.istore i, 2)) (hn : pc + 2 = n) (hx : x' = x) (hb : i < nL) (hf : (i, Value.int x') :: lv.filter (fun q => !(q.1 == i) && !(q.1 + 1 == i && q.2.category == 2)) = lv') (k : XW p l e R s m args below meth c D A nL cells slots Q es tl lv' n st) : XW p l e R s m args below meth c D A nL cells slots Q es tl lv pc (.int x :: st) := by
  subst hn; subst hx; exact fun H locs ls hP hD hS hl => lv_istore hC.1 hC.2.1 hdg hl hb hf (fun ls2 hl2 => k H locs ls2 hP hD hS hl2)
theorem x_istore_n (n : Nat) (lv' : List (Nat × Value)) (hC : XC p s m args meth c D A nL tys own cc Ts ret) {i : Nat} {z : Fin 4} {x x' : Int32} (hdg : decode cc pc = .ok (.istore_n z, 1)) (hn : pc + 1 = n) (hi : (z : Nat) = i) (hx : x' = x) (hb : i < nL) (hf : (i, Value.int x') :: lv.filter (fun q => !(q.1 == i) && !(q.1 + 1 == i && q.2.category == 2)) = lv') (k : XW p l e R s m args below meth c D A nL cells slots Q es tl lv' n st) : XW p l e R s m args below meth c D A nL cells slots Q es tl lv pc (.int x :: st) := by
  subst hn; subst hx; exact fun H locs ls hP hD hS hl => lv_istore_n hC.1 hC.2.1 hdg hi hl hb hf (fun ls2 hl2 => k H locs ls2 hP hD hS hl2)
theorem x_lload (n w : Nat) (hC : XC p s m args meth c D A nL tys own cc Ts ret) {i : Nat} {x : Int64} (hdg : decode cc pc = .ok (.lload i, 2)) (hn : pc + 2 = n) (hk : lv[w]? = some (i, .long x)) (k : XW p l e R s m args below meth c D A nL cells slots Q es tl lv n (.long x :: st)) : XW p l e R s m args below meth c D A nL cells slots Q es tl lv pc st := by
  subst hn; exact fun H locs ls hP hD hS hl => lv_lload hC.1 hC.2.1 hdg (lv_at hl w hk) (k H locs ls hP hD hS hl)
theorem x_lload_n (n w : Nat) (hC : XC p s m args meth c D A nL tys own cc Ts ret) {i : Nat} {z : Fin 4} {x : Int64} (hdg : decode cc pc = .ok (.lload_n z, 1)) (hn : pc + 1 = n) (hi : (z : Nat) = i) (hk : lv[w]? = some (i, .long x)) (k : XW p l e R s m args below meth c D A nL cells slots Q es tl lv n (.long x :: st)) : XW p l e R s m args below meth c D A nL cells slots Q es tl lv pc st := by
  subst hn; exact fun H locs ls hP hD hS hl => lv_lload_n hC.1 hC.2.1 hdg hi (lv_at hl w hk) (k H locs ls hP hD hS hl)
theorem x_lstore (n : Nat) (lv' : List (Nat × Value)) (hC : XC p s m args meth c D A nL tys own cc Ts ret) {i : Nat} {x x' : Int64} (hdg : decode cc pc = .ok (.lstore i, 2)) (hn : pc + 2 = n) (hx : x' = x) (hb : i + 1 < nL) (hf : (i, Value.long x') :: lv.filter (fun q => !(q.1 == i) && (!(q.1 == i + 1) && !(q.1 + 1 == i && q.2.category == 2))) = lv') (k : XW p l e R s m args below meth c D A nL cells slots Q es tl lv' n st) : XW p l e R s m args below meth c D A nL cells slots Q es tl lv pc (.long x :: st) := by
  subst hn; subst hx; exact fun H locs ls hP hD hS hl => lv_lstore hC.1 hC.2.1 hdg hl hb hf (fun ls2 hl2 => k H locs ls2 hP hD hS hl2)
theorem x_lstore_n (n : Nat) (lv' : List (Nat × Value)) (hC : XC p s m args meth c D A nL tys own cc Ts ret) {i : Nat} {z : Fin 4} {x x' : Int64} (hdg : decode cc pc = .ok (.lstore_n z, 1)) (hn : pc + 1 = n) (hi : (z : Nat) = i) (hx : x' = x) (hb : i + 1 < nL) (hf : (i, Value.long x') :: lv.filter (fun q => !(q.1 == i) && (!(q.1 == i + 1) && !(q.1 + 1 == i && q.2.category == 2))) = lv') (k : XW p l e R s m args below meth c D A nL cells slots Q es tl lv' n st) : XW p l e R s m args below meth c D A nL cells slots Q es tl lv pc (.long x :: st) := by
  subst hn; subst hx; exact fun H locs ls hP hD hS hl => lv_lstore_n hC.1 hC.2.1 hdg hi hl hb hf (fun ls2 hl2 => k H locs ls2 hP hD hS hl2)
theorem x_dload (n w : Nat) (hC : XC p s m args meth c D A nL tys own cc Ts ret) {i : Nat} {x : UInt64} (hdg : decode cc pc = .ok (.dload i, 2)) (hn : pc + 2 = n) (hk : lv[w]? = some (i, .double x)) (k : XW p l e R s m args below meth c D A nL cells slots Q es tl lv n (.double x :: st)) : XW p l e R s m args below meth c D A nL cells slots Q es tl lv pc st := by
  subst hn; exact fun H locs ls hP hD hS hl => lv_dload hC.1 hC.2.1 hdg (lv_at hl w hk) (k H locs ls hP hD hS hl)
theorem x_dload_n (n w : Nat) (hC : XC p s m args meth c D A nL tys own cc Ts ret) {i : Nat} {z : Fin 4} {x : UInt64} (hdg : decode cc pc = .ok (.dload_n z, 1)) (hn : pc + 1 = n) (hi : (z : Nat) = i) (hk : lv[w]? = some (i, .double x)) (k : XW p l e R s m args below meth c D A nL cells slots Q es tl lv n (.double x :: st)) : XW p l e R s m args below meth c D A nL cells slots Q es tl lv pc st := by
  subst hn; exact fun H locs ls hP hD hS hl => lv_dload_n hC.1 hC.2.1 hdg hi (lv_at hl w hk) (k H locs ls hP hD hS hl)
theorem x_dstore (n : Nat) (lv' : List (Nat × Value)) (hC : XC p s m args meth c D A nL tys own cc Ts ret) {i : Nat} {x x' : UInt64} (hdg : decode cc pc = .ok (.dstore i, 2)) (hn : pc + 2 = n) (hx : x' = x) (hb : i + 1 < nL) (hf : (i, Value.double x') :: lv.filter (fun q => !(q.1 == i) && (!(q.1 == i + 1) && !(q.1 + 1 == i && q.2.category == 2))) = lv') (k : XW p l e R s m args below meth c D A nL cells slots Q es tl lv' n st) : XW p l e R s m args below meth c D A nL cells slots Q es tl lv pc (.double x :: st) := by
  subst hn; subst hx; exact fun H locs ls hP hD hS hl => lv_dstore hC.1 hC.2.1 hdg hl hb hf (fun ls2 hl2 => k H locs ls2 hP hD hS hl2)
theorem x_dstore_n (n : Nat) (lv' : List (Nat × Value)) (hC : XC p s m args meth c D A nL tys own cc Ts ret) {i : Nat} {z : Fin 4} {x x' : UInt64} (hdg : decode cc pc = .ok (.dstore_n z, 1)) (hn : pc + 1 = n) (hi : (z : Nat) = i) (hx : x' = x) (hb : i + 1 < nL) (hf : (i, Value.double x') :: lv.filter (fun q => !(q.1 == i) && (!(q.1 == i + 1) && !(q.1 + 1 == i && q.2.category == 2))) = lv') (k : XW p l e R s m args below meth c D A nL cells slots Q es tl lv' n st) : XW p l e R s m args below meth c D A nL cells slots Q es tl lv pc (.double x :: st) := by
  subst hn; subst hx; exact fun H locs ls hP hD hS hl => lv_dstore_n hC.1 hC.2.1 hdg hi hl hb hf (fun ls2 hl2 => k H locs ls2 hP hD hS hl2)
theorem x_aload (n w : Nat) (hC : XC p s m args meth c D A nL tys own cc Ts ret) {i : Nat} {x : Nat} (hdg : decode cc pc = .ok (.aload i, 2)) (hn : pc + 2 = n) (hk : lv[w]? = some (i, .ref x)) (k : XW p l e R s m args below meth c D A nL cells slots Q es tl lv n (.ref x :: st)) : XW p l e R s m args below meth c D A nL cells slots Q es tl lv pc st := by
  subst hn; exact fun H locs ls hP hD hS hl => lv_aload hC.1 hC.2.1 hdg (lv_at hl w hk) (k H locs ls hP hD hS hl)
theorem x_aload_n (n w : Nat) (hC : XC p s m args meth c D A nL tys own cc Ts ret) {i : Nat} {z : Fin 4} {x : Nat} (hdg : decode cc pc = .ok (.aload_n z, 1)) (hn : pc + 1 = n) (hi : (z : Nat) = i) (hk : lv[w]? = some (i, .ref x)) (k : XW p l e R s m args below meth c D A nL cells slots Q es tl lv n (.ref x :: st)) : XW p l e R s m args below meth c D A nL cells slots Q es tl lv pc st := by
  subst hn; exact fun H locs ls hP hD hS hl => lv_aload_n hC.1 hC.2.1 hdg hi (lv_at hl w hk) (k H locs ls hP hD hS hl)
theorem x_astore (n : Nat) (lv' : List (Nat × Value)) (hC : XC p s m args meth c D A nL tys own cc Ts ret) {i : Nat} {x x' : Nat} (hdg : decode cc pc = .ok (.astore i, 2)) (hn : pc + 2 = n) (hx : x' = x) (hb : i < nL) (hf : (i, Value.ref x') :: lv.filter (fun q => !(q.1 == i) && !(q.1 + 1 == i && q.2.category == 2)) = lv') (k : XW p l e R s m args below meth c D A nL cells slots Q es tl lv' n st) : XW p l e R s m args below meth c D A nL cells slots Q es tl lv pc (.ref x :: st) := by
  subst hn; subst hx; exact fun H locs ls hP hD hS hl => lv_astore hC.1 hC.2.1 hdg hl hb hf (fun ls2 hl2 => k H locs ls2 hP hD hS hl2)
theorem x_astore_n (n : Nat) (lv' : List (Nat × Value)) (hC : XC p s m args meth c D A nL tys own cc Ts ret) {i : Nat} {z : Fin 4} {x x' : Nat} (hdg : decode cc pc = .ok (.astore_n z, 1)) (hn : pc + 1 = n) (hi : (z : Nat) = i) (hx : x' = x) (hb : i < nL) (hf : (i, Value.ref x') :: lv.filter (fun q => !(q.1 == i) && !(q.1 + 1 == i && q.2.category == 2)) = lv') (k : XW p l e R s m args below meth c D A nL cells slots Q es tl lv' n st) : XW p l e R s m args below meth c D A nL cells slots Q es tl lv pc (.ref x :: st) := by
  subst hn; subst hx; exact fun H locs ls hP hD hS hl => lv_astore_n hC.1 hC.2.1 hdg hi hl hb hf (fun ls2 hl2 => k H locs ls2 hP hD hS hl2)
theorem x_iinc (n w : Nat) (lv' : List (Nat × Value)) (hC : XC p s m args meth c D A nL tys own cc Ts ret) {i : Nat} {q : Int} {cq x v : Int32} (hdg : decode cc pc = .ok (.iinc i q, 3)) (hn : pc + 3 = n) (hk : lv[w]? = some (i, .int x)) (hv : v = x + cq) (hcq : Int32.ofInt q = cq) (hb : i < nL) (hf : (i, Value.int v) :: lv.filter (fun q => !(q.1 == i) && !(q.1 + 1 == i && q.2.category == 2)) = lv') (k : XW p l e R s m args below meth c D A nL cells slots Q es tl lv' n st) : XW p l e R s m args below meth c D A nL cells slots Q es tl lv pc st := by
  subst hn; exact fun H locs ls hP hD hS hl => lv_iinc hC.1 hC.2.1 hdg hl hk (by rw [hcq]; exact hv.symm) hb hf (fun ls2 hl2 => k H locs ls2 hP hD hS hl2)
theorem x_if_eq (t n : Nat) (hC : XC p s m args meth c D A nL tys own cc Ts ret) {x : Int32} {off : Int} (hdg : decode cc pc = .ok (.ifCond .eq off, 3)) (ht : (pc : Int) + off = (t : Int)) (hn : pc + 3 = n) (kt : x = 0 → XW p l e R s m args below meth c D A nL cells slots Q es tl lv t st) (kf : ¬ (x = 0) → XW p l e R s m args below meth c D A nL cells slots Q es tl lv n st) : XW p l e R s m args below meth c D A nL cells slots Q es tl lv pc (.int x :: st) := by
  subst hn; exact fun H locs ls hP hD hS hl => lv_if_eq hC.1 hC.2.1 hdg ht (fun h => kt h H locs ls hP hD hS hl) (fun h => kf h H locs ls hP hD hS hl)
theorem x_if_ne (t n : Nat) (hC : XC p s m args meth c D A nL tys own cc Ts ret) {x : Int32} {off : Int} (hdg : decode cc pc = .ok (.ifCond .ne off, 3)) (ht : (pc : Int) + off = (t : Int)) (hn : pc + 3 = n) (kt : ¬ x = 0 → XW p l e R s m args below meth c D A nL cells slots Q es tl lv t st) (kf : ¬ (¬ x = 0) → XW p l e R s m args below meth c D A nL cells slots Q es tl lv n st) : XW p l e R s m args below meth c D A nL cells slots Q es tl lv pc (.int x :: st) := by
  subst hn; exact fun H locs ls hP hD hS hl => lv_if_ne hC.1 hC.2.1 hdg ht (fun h => kt h H locs ls hP hD hS hl) (fun h => kf (fun h2 => h2 h) H locs ls hP hD hS hl)
theorem x_if_lt (t n : Nat) (hC : XC p s m args meth c D A nL tys own cc Ts ret) {x : Int32} {off : Int} (hdg : decode cc pc = .ok (.ifCond .lt off, 3)) (ht : (pc : Int) + off = (t : Int)) (hn : pc + 3 = n) (kt : x < 0 → XW p l e R s m args below meth c D A nL cells slots Q es tl lv t st) (kf : ¬ (x < 0) → XW p l e R s m args below meth c D A nL cells slots Q es tl lv n st) : XW p l e R s m args below meth c D A nL cells slots Q es tl lv pc (.int x :: st) := by
  subst hn; exact fun H locs ls hP hD hS hl => lv_if_lt hC.1 hC.2.1 hdg ht (fun h => kt h H locs ls hP hD hS hl) (fun h => kf h H locs ls hP hD hS hl)
theorem x_if_ge (t n : Nat) (hC : XC p s m args meth c D A nL tys own cc Ts ret) {x : Int32} {off : Int} (hdg : decode cc pc = .ok (.ifCond .ge off, 3)) (ht : (pc : Int) + off = (t : Int)) (hn : pc + 3 = n) (kt : 0 ≤ x → XW p l e R s m args below meth c D A nL cells slots Q es tl lv t st) (kf : ¬ (0 ≤ x) → XW p l e R s m args below meth c D A nL cells slots Q es tl lv n st) : XW p l e R s m args below meth c D A nL cells slots Q es tl lv pc (.int x :: st) := by
  subst hn; exact fun H locs ls hP hD hS hl => lv_if_ge hC.1 hC.2.1 hdg ht (fun h => kt h H locs ls hP hD hS hl) (fun h => kf h H locs ls hP hD hS hl)
theorem x_if_gt (t n : Nat) (hC : XC p s m args meth c D A nL tys own cc Ts ret) {x : Int32} {off : Int} (hdg : decode cc pc = .ok (.ifCond .gt off, 3)) (ht : (pc : Int) + off = (t : Int)) (hn : pc + 3 = n) (kt : 0 < x → XW p l e R s m args below meth c D A nL cells slots Q es tl lv t st) (kf : ¬ (0 < x) → XW p l e R s m args below meth c D A nL cells slots Q es tl lv n st) : XW p l e R s m args below meth c D A nL cells slots Q es tl lv pc (.int x :: st) := by
  subst hn; exact fun H locs ls hP hD hS hl => lv_if_gt hC.1 hC.2.1 hdg ht (fun h => kt h H locs ls hP hD hS hl) (fun h => kf h H locs ls hP hD hS hl)
theorem x_if_le (t n : Nat) (hC : XC p s m args meth c D A nL tys own cc Ts ret) {x : Int32} {off : Int} (hdg : decode cc pc = .ok (.ifCond .le off, 3)) (ht : (pc : Int) + off = (t : Int)) (hn : pc + 3 = n) (kt : x ≤ 0 → XW p l e R s m args below meth c D A nL cells slots Q es tl lv t st) (kf : ¬ (x ≤ 0) → XW p l e R s m args below meth c D A nL cells slots Q es tl lv n st) : XW p l e R s m args below meth c D A nL cells slots Q es tl lv pc (.int x :: st) := by
  subst hn; exact fun H locs ls hP hD hS hl => lv_if_le hC.1 hC.2.1 hdg ht (fun h => kt h H locs ls hP hD hS hl) (fun h => kf h H locs ls hP hD hS hl)
theorem x_icmp_eq (t n : Nat) (hC : XC p s m args meth c D A nL tys own cc Ts ret) {x y : Int32} {off : Int} (hdg : decode cc pc = .ok (.if_icmp .eq off, 3)) (ht : (pc : Int) + off = (t : Int)) (hn : pc + 3 = n) (kt : x = y → XW p l e R s m args below meth c D A nL cells slots Q es tl lv t st) (kf : ¬ (x = y) → XW p l e R s m args below meth c D A nL cells slots Q es tl lv n st) : XW p l e R s m args below meth c D A nL cells slots Q es tl lv pc (.int y :: .int x :: st) := by
  subst hn; exact fun H locs ls hP hD hS hl => lv_icmp_eq hC.1 hC.2.1 hdg ht (fun h => kt h H locs ls hP hD hS hl) (fun h => kf h H locs ls hP hD hS hl)
theorem x_icmp_ne (t n : Nat) (hC : XC p s m args meth c D A nL tys own cc Ts ret) {x y : Int32} {off : Int} (hdg : decode cc pc = .ok (.if_icmp .ne off, 3)) (ht : (pc : Int) + off = (t : Int)) (hn : pc + 3 = n) (kt : ¬ x = y → XW p l e R s m args below meth c D A nL cells slots Q es tl lv t st) (kf : ¬ (¬ x = y) → XW p l e R s m args below meth c D A nL cells slots Q es tl lv n st) : XW p l e R s m args below meth c D A nL cells slots Q es tl lv pc (.int y :: .int x :: st) := by
  subst hn; exact fun H locs ls hP hD hS hl => lv_icmp_ne hC.1 hC.2.1 hdg ht (fun h => kt h H locs ls hP hD hS hl) (fun h => kf (fun h2 => h2 h) H locs ls hP hD hS hl)
theorem x_icmp_lt (t n : Nat) (hC : XC p s m args meth c D A nL tys own cc Ts ret) {x y : Int32} {off : Int} (hdg : decode cc pc = .ok (.if_icmp .lt off, 3)) (ht : (pc : Int) + off = (t : Int)) (hn : pc + 3 = n) (kt : x < y → XW p l e R s m args below meth c D A nL cells slots Q es tl lv t st) (kf : ¬ (x < y) → XW p l e R s m args below meth c D A nL cells slots Q es tl lv n st) : XW p l e R s m args below meth c D A nL cells slots Q es tl lv pc (.int y :: .int x :: st) := by
  subst hn; exact fun H locs ls hP hD hS hl => lv_icmp_lt hC.1 hC.2.1 hdg ht (fun h => kt h H locs ls hP hD hS hl) (fun h => kf h H locs ls hP hD hS hl)
theorem x_icmp_ge (t n : Nat) (hC : XC p s m args meth c D A nL tys own cc Ts ret) {x y : Int32} {off : Int} (hdg : decode cc pc = .ok (.if_icmp .ge off, 3)) (ht : (pc : Int) + off = (t : Int)) (hn : pc + 3 = n) (kt : y ≤ x → XW p l e R s m args below meth c D A nL cells slots Q es tl lv t st) (kf : ¬ (y ≤ x) → XW p l e R s m args below meth c D A nL cells slots Q es tl lv n st) : XW p l e R s m args below meth c D A nL cells slots Q es tl lv pc (.int y :: .int x :: st) := by
  subst hn; exact fun H locs ls hP hD hS hl => lv_icmp_ge hC.1 hC.2.1 hdg ht (fun h => kt h H locs ls hP hD hS hl) (fun h => kf h H locs ls hP hD hS hl)
theorem x_icmp_gt (t n : Nat) (hC : XC p s m args meth c D A nL tys own cc Ts ret) {x y : Int32} {off : Int} (hdg : decode cc pc = .ok (.if_icmp .gt off, 3)) (ht : (pc : Int) + off = (t : Int)) (hn : pc + 3 = n) (kt : y < x → XW p l e R s m args below meth c D A nL cells slots Q es tl lv t st) (kf : ¬ (y < x) → XW p l e R s m args below meth c D A nL cells slots Q es tl lv n st) : XW p l e R s m args below meth c D A nL cells slots Q es tl lv pc (.int y :: .int x :: st) := by
  subst hn; exact fun H locs ls hP hD hS hl => lv_icmp_gt hC.1 hC.2.1 hdg ht (fun h => kt h H locs ls hP hD hS hl) (fun h => kf h H locs ls hP hD hS hl)
theorem x_icmp_le (t n : Nat) (hC : XC p s m args meth c D A nL tys own cc Ts ret) {x y : Int32} {off : Int} (hdg : decode cc pc = .ok (.if_icmp .le off, 3)) (ht : (pc : Int) + off = (t : Int)) (hn : pc + 3 = n) (kt : x ≤ y → XW p l e R s m args below meth c D A nL cells slots Q es tl lv t st) (kf : ¬ (x ≤ y) → XW p l e R s m args below meth c D A nL cells slots Q es tl lv n st) : XW p l e R s m args below meth c D A nL cells slots Q es tl lv pc (.int y :: .int x :: st) := by
  subst hn; exact fun H locs ls hP hD hS hl => lv_icmp_le hC.1 hC.2.1 hdg ht (fun h => kt h H locs ls hP hD hS hl) (fun h => kf h H locs ls hP hD hS hl)
theorem xl_cmp_eq (x y : Int64) : (lg_cmp x y = 0) ↔ x = y := by
  unfold lg_cmp
  by_cases h : x > y
  · rw [if_pos h]; constructor
    · intro h2; exact absurd h2 (by decide)
    · intro h2; subst h2; exact absurd h (Int64.lt_irrefl)
  · rw [if_neg h]
    by_cases h2 : x = y
    · rw [if_pos h2]; exact ⟨fun _ => h2, fun _ => rfl⟩
    · rw [if_neg h2]; exact ⟨fun h3 => absurd h3 (by decide), fun h3 => absurd h3 h2⟩
theorem xl_cmp_gt (x y : Int64) : (0 < lg_cmp x y) ↔ y < x := by
  unfold lg_cmp
  by_cases h : x > y
  · rw [if_pos h]; exact ⟨fun _ => h, fun _ => by decide⟩
  · rw [if_neg h]
    by_cases h2 : x = y
    · rw [if_pos h2]; exact ⟨fun h3 => absurd h3 (by decide), fun h3 => absurd h3 h⟩
    · rw [if_neg h2]; exact ⟨fun h3 => absurd h3 (by decide), fun h3 => absurd h3 h⟩
theorem xl_cmp_le (x y : Int64) : (lg_cmp x y ≤ 0) ↔ x ≤ y := by
  rw [← Int32.not_lt, xl_cmp_gt, Int64.not_lt]
theorem xl_cmp_ge (x y : Int64) : (0 ≤ lg_cmp x y) ↔ y ≤ x := lg_cmp_ge x y
theorem xl_cmp_lt (x y : Int64) : (lg_cmp x y < 0) ↔ x < y := by
  rw [← Int32.not_le, xl_cmp_ge, Int64.not_le]
theorem xl_cmp_ne (x y : Int64) : (¬ lg_cmp x y = 0) ↔ ¬ x = y := not_congr (xl_cmp_eq x y)
theorem x_lcmp_eq (t n : Nat) (hC : XC p s m args meth c D A nL tys own cc Ts ret) {x y : Int64} {off : Int} (hd0 : decode cc pc = .ok (.lcmp, 1)) (hdg : decode cc (pc + 1) = .ok (.ifCond .eq off, 3)) (ht : ((pc + 1 : Nat) : Int) + off = (t : Int)) (hn : pc + 1 + 3 = n) (kt : x = y → XW p l e R s m args below meth c D A nL cells slots Q es tl lv t st) (kf : ¬ (x = y) → XW p l e R s m args below meth c D A nL cells slots Q es tl lv n st) : XW p l e R s m args below meth c D A nL cells slots Q es tl lv pc (.long y :: .long x :: st) := by
  subst hn; exact fun H locs ls hP hD hS hl => W.lcmp hC.1 hC.2.1 hd0 (lv_if_eq hC.1 hC.2.1 hdg ht (fun h => kt ((xl_cmp_eq x y).mp h) H locs ls hP hD hS hl) (fun h => kf (fun h2 => h ((xl_cmp_eq x y).mpr h2)) H locs ls hP hD hS hl))
theorem x_lcmp_ne (t n : Nat) (hC : XC p s m args meth c D A nL tys own cc Ts ret) {x y : Int64} {off : Int} (hd0 : decode cc pc = .ok (.lcmp, 1)) (hdg : decode cc (pc + 1) = .ok (.ifCond .ne off, 3)) (ht : ((pc + 1 : Nat) : Int) + off = (t : Int)) (hn : pc + 1 + 3 = n) (kt : ¬ x = y → XW p l e R s m args below meth c D A nL cells slots Q es tl lv t st) (kf : ¬ (¬ x = y) → XW p l e R s m args below meth c D A nL cells slots Q es tl lv n st) : XW p l e R s m args below meth c D A nL cells slots Q es tl lv pc (.long y :: .long x :: st) := by
  subst hn; exact fun H locs ls hP hD hS hl => W.lcmp hC.1 hC.2.1 hd0 (lv_if_ne hC.1 hC.2.1 hdg ht (fun h => kt ((xl_cmp_ne x y).mp h) H locs ls hP hD hS hl) (fun h => kf (fun h2 => h2 ((xl_cmp_eq x y).mp h)) H locs ls hP hD hS hl))
theorem x_lcmp_lt (t n : Nat) (hC : XC p s m args meth c D A nL tys own cc Ts ret) {x y : Int64} {off : Int} (hd0 : decode cc pc = .ok (.lcmp, 1)) (hdg : decode cc (pc + 1) = .ok (.ifCond .lt off, 3)) (ht : ((pc + 1 : Nat) : Int) + off = (t : Int)) (hn : pc + 1 + 3 = n) (kt : x < y → XW p l e R s m args below meth c D A nL cells slots Q es tl lv t st) (kf : ¬ (x < y) → XW p l e R s m args below meth c D A nL cells slots Q es tl lv n st) : XW p l e R s m args below meth c D A nL cells slots Q es tl lv pc (.long y :: .long x :: st) := by
  subst hn; exact fun H locs ls hP hD hS hl => W.lcmp hC.1 hC.2.1 hd0 (lv_if_lt hC.1 hC.2.1 hdg ht (fun h => kt ((xl_cmp_lt x y).mp h) H locs ls hP hD hS hl) (fun h => kf (fun h2 => h ((xl_cmp_lt x y).mpr h2)) H locs ls hP hD hS hl))
theorem x_lcmp_ge (t n : Nat) (hC : XC p s m args meth c D A nL tys own cc Ts ret) {x y : Int64} {off : Int} (hd0 : decode cc pc = .ok (.lcmp, 1)) (hdg : decode cc (pc + 1) = .ok (.ifCond .ge off, 3)) (ht : ((pc + 1 : Nat) : Int) + off = (t : Int)) (hn : pc + 1 + 3 = n) (kt : y ≤ x → XW p l e R s m args below meth c D A nL cells slots Q es tl lv t st) (kf : ¬ (y ≤ x) → XW p l e R s m args below meth c D A nL cells slots Q es tl lv n st) : XW p l e R s m args below meth c D A nL cells slots Q es tl lv pc (.long y :: .long x :: st) := by
  subst hn; exact fun H locs ls hP hD hS hl => W.lcmp hC.1 hC.2.1 hd0 (lv_if_ge hC.1 hC.2.1 hdg ht (fun h => kt ((xl_cmp_ge x y).mp h) H locs ls hP hD hS hl) (fun h => kf (fun h2 => h ((xl_cmp_ge x y).mpr h2)) H locs ls hP hD hS hl))
theorem x_lcmp_gt (t n : Nat) (hC : XC p s m args meth c D A nL tys own cc Ts ret) {x y : Int64} {off : Int} (hd0 : decode cc pc = .ok (.lcmp, 1)) (hdg : decode cc (pc + 1) = .ok (.ifCond .gt off, 3)) (ht : ((pc + 1 : Nat) : Int) + off = (t : Int)) (hn : pc + 1 + 3 = n) (kt : y < x → XW p l e R s m args below meth c D A nL cells slots Q es tl lv t st) (kf : ¬ (y < x) → XW p l e R s m args below meth c D A nL cells slots Q es tl lv n st) : XW p l e R s m args below meth c D A nL cells slots Q es tl lv pc (.long y :: .long x :: st) := by
  subst hn; exact fun H locs ls hP hD hS hl => W.lcmp hC.1 hC.2.1 hd0 (lv_if_gt hC.1 hC.2.1 hdg ht (fun h => kt ((xl_cmp_gt x y).mp h) H locs ls hP hD hS hl) (fun h => kf (fun h2 => h ((xl_cmp_gt x y).mpr h2)) H locs ls hP hD hS hl))
theorem x_lcmp_le (t n : Nat) (hC : XC p s m args meth c D A nL tys own cc Ts ret) {x y : Int64} {off : Int} (hd0 : decode cc pc = .ok (.lcmp, 1)) (hdg : decode cc (pc + 1) = .ok (.ifCond .le off, 3)) (ht : ((pc + 1 : Nat) : Int) + off = (t : Int)) (hn : pc + 1 + 3 = n) (kt : x ≤ y → XW p l e R s m args below meth c D A nL cells slots Q es tl lv t st) (kf : ¬ (x ≤ y) → XW p l e R s m args below meth c D A nL cells slots Q es tl lv n st) : XW p l e R s m args below meth c D A nL cells slots Q es tl lv pc (.long y :: .long x :: st) := by
  subst hn; exact fun H locs ls hP hD hS hl => W.lcmp hC.1 hC.2.1 hd0 (lv_if_le hC.1 hC.2.1 hdg ht (fun h => kt ((xl_cmp_le x y).mp h) H locs ls hP hD hS hl) (fun h => kf (fun h2 => h ((xl_cmp_le x y).mpr h2)) H locs ls hP hD hS hl))
theorem x_goto (t : Nat) (hC : XC p s m args meth c D A nL tys own cc Ts ret) {off : Int} (hdg : decode cc pc = .ok (.goto off, 3)) (ht : (pc : Int) + off = (t : Int)) (k : XW p l e R s m args below meth c D A nL cells slots Q es tl lv t st) : XW p l e R s m args below meth c D A nL cells slots Q es tl lv pc st := fun H locs ls hP hD hS hl => lv_goto hC.1 hC.2.1 hdg ht (k H locs ls hP hD hS hl)
theorem x_ifnull (n : Nat) (hC : XC p s m args meth c D A nL tys own cc Ts ret) {x : Nat} {off : Int} (hdg : decode cc pc = .ok (.ifnull off, 3)) (hn : pc + 3 = n) (k : XW p l e R s m args below meth c D A nL cells slots Q es tl lv n st) : XW p l e R s m args below meth c D A nL cells slots Q es tl lv pc (.ref x :: st) := by
  subst hn; exact fun H locs ls hP hD hS hl => lv_ifnull hC.1 hC.2.1 hdg (k H locs ls hP hD hS hl)
theorem x_ifnonnull (t : Nat) (hC : XC p s m args meth c D A nL tys own cc Ts ret) {x : Nat} {off : Int} (hdg : decode cc pc = .ok (.ifnonnull off, 3)) (ht : (pc : Int) + off = (t : Int)) (k : XW p l e R s m args below meth c D A nL cells slots Q es tl lv t st) : XW p l e R s m args below meth c D A nL cells slots Q es tl lv pc (.ref x :: st) := fun H locs ls hP hD hS hl => lv_ifnonnull hC.1 hC.2.1 hdg ht (k H locs ls hP hD hS hl)
theorem x_tabIn (t : Nat) (hC : XC p s m args meth c D A nL tys own cc Ts ret) {dflt lo hi : Int} {offs : Array Int} {len : Nat} {x : Int32} (v : Int32) (hx : x = v) (off : Int) (hdg : decode cc pc = .ok (.tableswitch dflt lo hi offs, len)) (h1 : ¬ v.toInt < lo) (h2 : ¬ hi < v.toInt) (ho : offs[(v.toInt - lo).toNat]? = some off) (ht : (pc : Int) + off = (t : Int)) (k : XW p l e R s m args below meth c D A nL cells slots Q es tl lv t st) : XW p l e R s m args below meth c D A nL cells slots Q es tl lv pc (.int x :: st) := by
  subst hx; exact fun H locs ls hP hD hS hl => lv_tableIn hC.1 hC.2.1 hdg h1 h2 ho ht (k H locs ls hP hD hS hl)
theorem x_tabOut (t : Nat) (hC : XC p s m args meth c D A nL tys own cc Ts ret) {dflt lo hi : Int} {offs : Array Int} {len : Nat} {x : Int32} (hdg : decode cc pc = .ok (.tableswitch dflt lo hi offs, len)) (h : x.toInt < lo ∨ hi < x.toInt) (ht : (pc : Int) + dflt = (t : Int)) (k : XW p l e R s m args below meth c D A nL cells slots Q es tl lv t st) : XW p l e R s m args below meth c D A nL cells slots Q es tl lv pc (.int x :: st) := fun H locs ls hP hD hS hl => lv_tableOut hC.1 hC.2.1 hdg h ht (k H locs ls hP hD hS hl)
theorem x_lookup (t : Nat) (hC : XC p s m args meth c D A nL tys own cc Ts ret) {dflt : Int} {ps : Array (Int × Int)} {len : Nat} {x : Int32} (off : Int) (hdg : decode cc pc = .ok (.lookupswitch dflt ps, len)) (hp : (ps.toList.zip (ps.toList.drop 1)).all (fun (a, next) => a.1 < next.1) = true) (ho : Op.lookupswitch.offset ps.toList dflt x.toInt = off) (ht : (pc : Int) + off = (t : Int)) (k : XW p l e R s m args below meth c D A nL cells slots Q es tl lv t st) : XW p l e R s m args below meth c D A nL cells slots Q es tl lv pc (.int x :: st) := fun H locs ls hP hD hS hl => lv_lookup hC.1 hC.2.1 hdg hp ho ht (k H locs ls hP hD hS hl)
theorem x_ne_toInt {x : Int32} {v : Int32} (h : ¬ x = v) : x.toInt ≠ v.toInt := fun h2 => h (Int32.toInt_inj.mp h2)
theorem x_neI {x : Int32} {v : Int32} {k : Int} (h : ¬ x = v) (hv : v.toInt = k) : x.toInt ≠ k := fun h2 => h (Int32.toInt_inj.mp (h2.trans hv.symm))
theorem x_mmax (n : Nat) (hC : XC p s m args meth c D A nL tys own cc Ts ret) {index : Nat} {x y : Int32} (hw1 : Cond.methodLink own index Lib.Math.max.name ∈ Ts) (hw2 : Cond.static Lib.Math.max.name ∈ Ts) (hw3 : Cond.initialized "java/lang/Math" ∈ Ts) (hw4 : Cond.code Lib.Math.max.name Lib.Math.max.code 2 (some .int) ∈ Ts) (hframes : 1 ≤ R.frames) (hlocals : (st.map fun v => v.category).sum + 13 ≤ R.locals) (hRc : cells ≤ R.cells ∧ slots ≤ R.slots) (hdg : decode cc pc = .ok (.invokestatic index, 3)) (hn : pc + 3 = n) (k : XW p l e R s m args below meth c D A nL cells slots Q es tl lv n (.int (if x < y then y else x) :: st)) : XW p l e R s m args below meth c D A nL cells slots Q es tl lv pc (.int y :: .int x :: st) := by
  subst hn; exact fun H locs ls hP hD hS hl => va_mmax hC.1 hC.2.1 (by rw [hC.2.2.1]; exact hl.1.symm) hC.2.2.2.1 (hC.2.2.2.2.1 _ hw1) (hC.2.2.2.2.1 _ hw2) (hC.2.2.2.2.1 _ hw3) (hC.2.2.2.2.1 _ hw4) hframes hlocals hRc.1 hRc.2 hdg (k H locs ls hP hD hS hl)
theorem x_mmin (n : Nat) (hC : XC p s m args meth c D A nL tys own cc Ts ret) {index : Nat} {x y : Int32} (hw1 : Cond.methodLink own index Lib.Math.min.name ∈ Ts) (hw2 : Cond.static Lib.Math.min.name ∈ Ts) (hw3 : Cond.initialized "java/lang/Math" ∈ Ts) (hw4 : Cond.code Lib.Math.min.name Lib.Math.min.code 2 (some .int) ∈ Ts) (hframes : 1 ≤ R.frames) (hlocals : (st.map fun v => v.category).sum + 13 ≤ R.locals) (hRc : cells ≤ R.cells ∧ slots ≤ R.slots) (hdg : decode cc pc = .ok (.invokestatic index, 3)) (hn : pc + 3 = n) (k : XW p l e R s m args below meth c D A nL cells slots Q es tl lv n (.int (if y < x then y else x) :: st)) : XW p l e R s m args below meth c D A nL cells slots Q es tl lv pc (.int y :: .int x :: st) := by
  subst hn; exact fun H locs ls hP hD hS hl => va_mmin hC.1 hC.2.1 (by rw [hC.2.2.1]; exact hl.1.symm) hC.2.2.2.1 (hC.2.2.2.2.1 _ hw1) (hC.2.2.2.2.1 _ hw2) (hC.2.2.2.2.1 _ hw3) (hC.2.2.2.2.1 _ hw4) hframes hlocals hRc.1 hRc.2 hdg (k H locs ls hP hD hS hl)
theorem x_raw (n : Nat) (hC : XC p s m args meth c D A nL tys own cc Ts ret) {index : Nat} {x : UInt64} (hw1 : Cond.methodLink own index ⟨"java/lang/Double", "doubleToRawLongBits", "(D)J"⟩ ∈ Ts) (hw2 : Cond.native ⟨"java/lang/Double", "doubleToRawLongBits", "(D)J"⟩ ∈ Ts) (hw3 : Cond.static ⟨"java/lang/Double", "doubleToRawLongBits", "(D)J"⟩ ∈ Ts) (hw4 : Cond.initialized "java/lang/Double" ∈ Ts) (hframes : 1 ≤ R.frames) (hlocals : (st.map fun v => v.category).sum + 15 ≤ R.locals) (hdg : decode cc pc = .ok (.invokestatic index, 3)) (hn : pc + 3 = n) (k : XW p l e R s m args below meth c D A nL cells slots Q es tl lv n (.long x.toInt64 :: st)) : XW p l e R s m args below meth c D A nL cells slots Q es tl lv pc (.double x :: st) := by
  subst hn; exact fun H locs ls hP hD hS hl => vn_d2l hC.1 hC.2.1 (by rw [hC.2.2.1]; exact hl.1.symm) hC.2.2.2.1 (hC.2.2.2.2.1 _ hw1) (hC.2.2.2.2.1 _ hw2) (hC.2.2.2.2.1 _ hw3) (hC.2.2.2.2.1 _ hw4) hframes hlocals hdg (k H locs ls hP hD hS hl)
theorem x_lv (lv' : List (Nat × Value)) (ks : List Nat) (hk : lv_pick lv ks = lv') (k : XW p l e R s m args below meth c D A nL cells slots Q es tl lv' pc st) : XW p l e R s m args below meth c D A nL cells slots Q es tl lv pc st := fun H locs ls hP hD hS hl => k H locs ls hP hD hS (lv_sub hl ks hk)
theorem x_get (n q0 f : Nat) (hC : XC p s m args meth c D A nL tys own cc Ts ret) {C : String} {T : u_T} {N ci index : Nat} {ref : String} {a : Nat} {fs : List Value} {v : Value} (hin : ∀ w ∈ u_ws C T N, w ∈ Ts) (he : es[q0]? = some (a, .inr (ci, fs))) (hc : vwCl[ci]? = some (C, T, N)) (hk : f < N) (hw : Cond.fieldLink own index ref (T f).2.1 (T f).2.2.1 ∈ Ts) (hr : (T f).1 = ref) (hv : fs[f]? = some v) (hdg : decode cc pc = .ok (.getfield index, 3)) (hn : pc + 3 = n) (k : XW p l e R s m args below meth c D A nL cells slots Q es tl lv n (v :: st)) : XW p l e R s m args below meth c D A nL cells slots Q es tl lv pc (.ref a :: st) := by
  subst hn; subst hr; exact fun H locs ls hP hD hS hl => va_get hC.1 hC.2.1 hC.2.2.2.2.1 hin hC.2.2.2.1 hC.2.2.2.2.2.1 hP q0 (es_get he) hc f hk (hC.2.2.2.2.1 _ hw) (fun _ h9 => h9) hv hdg (k H locs ls hP hD hS hl)
theorem x_put (n q0 f : Nat) (es' : va_W) (hC : XC p s m args meth c D A nL tys own cc Ts ret) {C : String} {T : u_T} {N ci index : Nat} {ref : String} {a : Nat} {fs : List Value} {v v' : Value} {ty0 : Nat → FieldType} {ty : FieldType} (hin : ∀ w ∈ u_ws C T N, w ∈ Ts) (hty : ∀ k, k < N → parseFieldDescriptor (T k).2.2.1 = some (ty0 k)) (hnm : ∀ a, a < N → ∀ b, b < N → a ≠ b → (T a).2.1 ≠ (T b).2.1) (he : es[q0]? = some (a, .inr (ci, fs))) (hc : vwCl[ci]? = some (C, T, N)) (hk : f < N) (hw : Cond.fieldLink own index ref (T f).2.1 (T f).2.2.1 ∈ Ts) (hr : (T f).1 = ref) (hfin : (T f).2.2.2 = false) (hd : ty0 f = ty) (hx : v' = v) (hnar : narrow ty v' = v') (hfit : fits ty v' = true) (hl0 : f < fs.length) (hes : es.set q0 (a, .inr (ci, fs.set f v')) = es') (hdg : decode cc pc = .ok (.putfield index, 3)) (hn : pc + 3 = n) (k : XW p l e R s m args below meth c D A nL cells slots Q es' tl lv n st) : XW p l e R s m args below meth c D A nL cells slots Q es tl lv pc (v :: .ref a :: st) := by
  subst hn; subst hr; subst hes; subst hx; exact fun H locs ls hP hD hS hl => va_put hC.1 hC.2.1 hC.2.2.2.2.1 hin ty0 hty hnm hC.2.2.2.1 hC.2.2.2.2.2.1 hP hD hS q0 (es_get he) hc f hk (hC.2.2.2.2.1 _ hw) (fun _ h9 => h9) hfin (by rw [hty f hk, hd]) hnar hfit hl0 hdg (fun H1 locs1 hP1 hD1 hS1 => k H1 locs1 ls (by rw [es_set he] at hP1; exact hP1) (by rw [es_set he] at hD1; exact hD1) hS1 hl)
theorem x_putF (n q0 f : Nat) (es' : va_W) (hC : XC p s m args meth c D A nL tys own cc Ts ret) {C : String} {T : u_T} {N ci index : Nat} {ref : String} {a : Nat} {fs : List Value} {v v' : Value} {ty0 : Nat → FieldType} {ty : FieldType} (hin : ∀ w ∈ u_ws C T N, w ∈ Ts) (hty : ∀ k, k < N → parseFieldDescriptor (T k).2.2.1 = some (ty0 k)) (hnm : ∀ a, a < N → ∀ b, b < N → a ≠ b → (T a).2.1 ≠ (T b).2.1) (he : es[q0]? = some (a, .inr (ci, fs))) (hc : vwCl[ci]? = some (C, T, N)) (hk : f < N) (hw : Cond.fieldLink own index ref (T f).2.1 (T f).2.2.1 ∈ Ts) (hr : (T f).1 = ref) (hfin : (T f).2.2.2 = true) (hin2 : meth.name = "<init>") (hdecl : (T f).1 = own) (hd : ty0 f = ty) (hx : v' = v) (hnar : narrow ty v' = v') (hfit : fits ty v' = true) (hl0 : f < fs.length) (hes : es.set q0 (a, .inr (ci, fs.set f v')) = es') (hdg : decode cc pc = .ok (.putfield index, 3)) (hn : pc + 3 = n) (k : XW p l e R s m args below meth c D A nL cells slots Q es' tl lv n st) : XW p l e R s m args below meth c D A nL cells slots Q es tl lv pc (v :: .ref a :: st) := by
  subst hn; subst hr; subst hes; subst hx; exact fun H locs ls hP hD hS hl => va_putF hC.1 hC.2.1 hC.2.2.2.2.1 hin ty0 hty hnm hC.2.2.2.1 hC.2.2.2.2.2.1 hP hD hS q0 (es_get he) hc f hk (hC.2.2.2.2.1 _ hw) (fun _ h9 => h9) hfin hin2 hdecl (by rw [hty f hk, hd]) hnar hfit hl0 hdg (fun H1 locs1 hP1 hD1 hS1 => k H1 locs1 ls (by rw [es_set he] at hP1; exact hP1) (by rw [es_set he] at hD1; exact hD1) hS1 hl)
theorem x_iald (n q0 t0 : Nat) (hC : XC p s m args meth c D A nL tys own cc Ts ret) {a : Nat} {cA : ClassId} {N : Nat} {f : Nat → Int32} {i : Int32} (ha : es[q0]? = some (a, .inl (cA, N, .inl f))) (ht : tys[t0]? = some (cA, .int)) (hin : vp_in i N) (hdg : decode cc pc = .ok (.iaload, 1)) (hn : pc + 1 = n) (k : XW p l e R s m args below meth c D A nL cells slots Q es tl lv n (.int (f i.toNatClampNeg) :: st)) : XW p l e R s m args below meth c D A nL cells slots Q es tl lv pc (.int i :: .ref a :: st) := by
  subst hn; exact fun H locs ls hP hD hS hl => va_iald hC.1 hC.2.1 hC.2.2.2.2.2.1 hP q0 t0 (es_get ha) ht hin hdg (k H locs ls hP hD hS hl)
theorem x_iast (n q0 t0 : Nat) (es' : va_W) (hC : XC p s m args meth c D A nL tys own cc Ts ret) {a : Nat} {cA : ClassId} {N : Nat} {f g : Nat → Int32} {i : Int32} {x : Int32} (ha : es[q0]? = some (a, .inl (cA, N, .inl f))) (ht : tys[t0]? = some (cA, .int)) (hin : vp_in i N) (hg : g = upd f i.toNatClampNeg x) (hes : es.set q0 (a, .inl (cA, N, .inl g)) = es') (hdg : decode cc pc = .ok (.iastore, 1)) (hn : pc + 1 = n) (k : XW p l e R s m args below meth c D A nL cells slots Q es' tl lv n st) : XW p l e R s m args below meth c D A nL cells slots Q es tl lv pc (.int x :: .int i :: .ref a :: st) := by
  subst hn; subst hes; subst hg; exact fun H locs ls hP hD hS hl => va_iast hC.1 hC.2.1 hC.2.2.2.2.2.1 hP hD hS q0 t0 (es_get ha) ht hin hdg (fun H1 locs1 hP1 hD1 hS1 => k H1 locs1 ls (by rw [es_set ha] at hP1; exact hP1) (by rw [es_set ha] at hD1; exact hD1) hS1 hl)
theorem x_copyi (n q0 q1 t0 : Nat) (es' : va_W) (hC : XC p s m args meth c D A nL tys own cc Ts ret) {a a0 : Nat} {index : Nat} {c0 : ClassId} {N0 N1 : Nat} {f g g' : Nat → Int32} {sp dp z : Int32} (hw1 : Cond.methodLink own index arraycopyName ∈ Ts) (hw2 : Cond.native arraycopyName ∈ Ts) (hw3 : Cond.static arraycopyName ∈ Ts) (hw4 : Cond.initialized "java/lang/System" ∈ Ts) (ha0 : es[q0]? = some (a0, .inl (c0, N0, .inl f))) (ha1 : es[q1]? = some (a, .inl (c0, N1, .inl g))) (ht : tys[t0]? = some (c0, .int)) (hin : ¬ sp < 0 ∧ ¬ dp < 0 ∧ ¬ z < 0 ∧ sp.toNatClampNeg + z.toNatClampNeg ≤ N0 ∧ dp.toNatClampNeg + z.toNatClampNeg ≤ N1) (hg : g' = va_cpy f g sp.toNatClampNeg dp.toNatClampNeg z.toNatClampNeg) (hes : es.set q1 (a, .inl (c0, N1, .inl g')) = es') (hframes : 1 ≤ R.frames) (hlocals : (st.map fun v => v.category).sum + (nativeFrameWords "java/lang/System" "arraycopy" 5 + 11) ≤ R.locals) (hdg : decode cc pc = .ok (.invokestatic index, 3)) (hn : pc + 3 = n) (k : XW p l e R s m args below meth c D A nL cells slots Q es' tl lv n st) : XW p l e R s m args below meth c D A nL cells slots Q es tl lv pc (.int z :: .int dp :: .ref a :: .int sp :: .ref a0 :: st) := by
  subst hn; subst hes; subst hg; exact fun H locs ls hP hD hS hl => va_copyi hC.1 hC.2.1 (by rw [hC.2.2.1]; exact hl.1.symm) hC.2.2.2.1 (hC.2.2.2.2.1 _ hw1) (hC.2.2.2.2.1 _ hw2) (hC.2.2.2.2.1 _ hw3) (hC.2.2.2.2.1 _ hw4) hC.2.2.2.2.2.1 hP hD hS q0 q1 t0 t0 (es_get ha0) (es_get ha1) ht ht rfl hin.1 hin.2.1 hin.2.2.1 hin.2.2.2.1 hin.2.2.2.2 (fun _ _ => rfl) hframes hlocals hdg (fun H1 locs1 hP1 hD1 hS1 => k H1 locs1 ls (by rw [es_set ha1] at hP1; exact hP1) (by rw [es_set ha1] at hD1; exact hD1) hS1 hl)
theorem x_lald (n q0 t0 : Nat) (hC : XC p s m args meth c D A nL tys own cc Ts ret) {a : Nat} {cA : ClassId} {N : Nat} {f : Nat → Int64} {i : Int32} (ha : es[q0]? = some (a, .inl (cA, N, .inr (.inl f)))) (ht : tys[t0]? = some (cA, .long)) (hin : vp_in i N) (hdg : decode cc pc = .ok (.laload, 1)) (hn : pc + 1 = n) (k : XW p l e R s m args below meth c D A nL cells slots Q es tl lv n (.long (f i.toNatClampNeg) :: st)) : XW p l e R s m args below meth c D A nL cells slots Q es tl lv pc (.int i :: .ref a :: st) := by
  subst hn; exact fun H locs ls hP hD hS hl => va_lald hC.1 hC.2.1 hC.2.2.2.2.2.1 hP q0 t0 (es_get ha) ht hin hdg (k H locs ls hP hD hS hl)
theorem x_last (n q0 t0 : Nat) (es' : va_W) (hC : XC p s m args meth c D A nL tys own cc Ts ret) {a : Nat} {cA : ClassId} {N : Nat} {f g : Nat → Int64} {i : Int32} {x : Int64} (ha : es[q0]? = some (a, .inl (cA, N, .inr (.inl f)))) (ht : tys[t0]? = some (cA, .long)) (hin : vp_in i N) (hg : g = vp_updL f i.toNatClampNeg x) (hes : es.set q0 (a, .inl (cA, N, .inr (.inl g))) = es') (hdg : decode cc pc = .ok (.lastore, 1)) (hn : pc + 1 = n) (k : XW p l e R s m args below meth c D A nL cells slots Q es' tl lv n st) : XW p l e R s m args below meth c D A nL cells slots Q es tl lv pc (.long x :: .int i :: .ref a :: st) := by
  subst hn; subst hes; subst hg; exact fun H locs ls hP hD hS hl => va_last hC.1 hC.2.1 hC.2.2.2.2.2.1 hP hD hS q0 t0 (es_get ha) ht hin hdg (fun H1 locs1 hP1 hD1 hS1 => k H1 locs1 ls (by rw [es_set ha] at hP1; exact hP1) (by rw [es_set ha] at hD1; exact hD1) hS1 hl)
theorem x_copyl (n q0 q1 t0 : Nat) (es' : va_W) (hC : XC p s m args meth c D A nL tys own cc Ts ret) {a a0 : Nat} {index : Nat} {c0 : ClassId} {N0 N1 : Nat} {f g g' : Nat → Int64} {sp dp z : Int32} (hw1 : Cond.methodLink own index arraycopyName ∈ Ts) (hw2 : Cond.native arraycopyName ∈ Ts) (hw3 : Cond.static arraycopyName ∈ Ts) (hw4 : Cond.initialized "java/lang/System" ∈ Ts) (ha0 : es[q0]? = some (a0, .inl (c0, N0, .inr (.inl f)))) (ha1 : es[q1]? = some (a, .inl (c0, N1, .inr (.inl g)))) (ht : tys[t0]? = some (c0, .long)) (hin : ¬ sp < 0 ∧ ¬ dp < 0 ∧ ¬ z < 0 ∧ sp.toNatClampNeg + z.toNatClampNeg ≤ N0 ∧ dp.toNatClampNeg + z.toNatClampNeg ≤ N1) (hg : g' = va_cpy f g sp.toNatClampNeg dp.toNatClampNeg z.toNatClampNeg) (hes : es.set q1 (a, .inl (c0, N1, .inr (.inl g'))) = es') (hframes : 1 ≤ R.frames) (hlocals : (st.map fun v => v.category).sum + (nativeFrameWords "java/lang/System" "arraycopy" 5 + 11) ≤ R.locals) (hdg : decode cc pc = .ok (.invokestatic index, 3)) (hn : pc + 3 = n) (k : XW p l e R s m args below meth c D A nL cells slots Q es' tl lv n st) : XW p l e R s m args below meth c D A nL cells slots Q es tl lv pc (.int z :: .int dp :: .ref a :: .int sp :: .ref a0 :: st) := by
  subst hn; subst hes; subst hg; exact fun H locs ls hP hD hS hl => va_copyl hC.1 hC.2.1 (by rw [hC.2.2.1]; exact hl.1.symm) hC.2.2.2.1 (hC.2.2.2.2.1 _ hw1) (hC.2.2.2.2.1 _ hw2) (hC.2.2.2.2.1 _ hw3) (hC.2.2.2.2.1 _ hw4) hC.2.2.2.2.2.1 hP hD hS q0 q1 t0 t0 (es_get ha0) (es_get ha1) ht ht rfl hin.1 hin.2.1 hin.2.2.1 hin.2.2.2.1 hin.2.2.2.2 (fun _ _ => rfl) hframes hlocals hdg (fun H1 locs1 hP1 hD1 hS1 => k H1 locs1 ls (by rw [es_set ha1] at hP1; exact hP1) (by rw [es_set ha1] at hD1; exact hD1) hS1 hl)
theorem x_alen (n q0 t0 : Nat) (hC : XC p s m args meth c D A nL tys own cc Ts ret) {a : Nat} {cA : ClassId} {x : vp_A} {ty : FieldType} (ha : es[q0]? = some (a, .inl (cA, x))) (ht : tys[t0]? = some (cA, ty)) {v : Int32} (hv : Int32.ofNat x.1 = v) (hdg : decode cc pc = .ok (.arraylength, 1)) (hn : pc + 1 = n) (k : XW p l e R s m args below meth c D A nL cells slots Q es tl lv n (.int v :: st)) : XW p l e R s m args below meth c D A nL cells slots Q es tl lv pc (.ref a :: st) := by
  subst hn; exact fun H locs ls hP hD hS hl => va_alen hC.1 hC.2.1 hC.2.2.2.2.2.1 hP q0 t0 (es_get ha) ht hv hdg (k H locs ls hP hD hS hl)
/-- what an end with int says: the answer r, the world w' -/
abbrev Ei (D : va_G) (tys : List (ClassId × FieldType)) (w' : va_W) (r : Int32) (A : Nat → Prop) : Array Value → State → Outcome → State → Prop := va_Qi (fun (r2 : Int32) (_ : Unit) => r2 = r) (fun _ t => va_P D vwCl w' t.heap ∧ va_K D vwCl tys t ∧ va_D A w') A
def Ci (l : Launch) (y : MethodName) (wsy : List Cond) (rm : Room) (D : va_G) (tys : List (ClassId × FieldType)) (As : List Value) (w w' : va_W) (r : Int32) : Prop := ∀ sz : Nat, Met l y wsy rm (va_Pc As (fun U => U.heap.size = sz ∧ va_P D vwCl w U.heap ∧ va_K D vwCl tys U ∧ va_D (fun _ => True) w ∧ XN U)) (Ei D tys w' r (va_A w sz)) 0 0 (va_A w sz)
/-- what an end with long says: the answer r, the world w' -/
abbrev El (D : va_G) (tys : List (ClassId × FieldType)) (w' : va_W) (r : Int64) (A : Nat → Prop) : Array Value → State → Outcome → State → Prop := va_Ql (fun (r2 : Int64) (_ : Unit) => r2 = r) (fun _ t => va_P D vwCl w' t.heap ∧ va_K D vwCl tys t ∧ va_D A w') A
def Cl (l : Launch) (y : MethodName) (wsy : List Cond) (rm : Room) (D : va_G) (tys : List (ClassId × FieldType)) (As : List Value) (w w' : va_W) (r : Int64) : Prop := ∀ sz : Nat, Met l y wsy rm (va_Pc As (fun U => U.heap.size = sz ∧ va_P D vwCl w U.heap ∧ va_K D vwCl tys U ∧ va_D (fun _ => True) w ∧ XN U)) (El D tys w' r (va_A w sz)) 0 0 (va_A w sz)
/-- what an end with double says: the answer r, the world w' -/
abbrev Ed (D : va_G) (tys : List (ClassId × FieldType)) (w' : va_W) (r : UInt64) (A : Nat → Prop) : Array Value → State → Outcome → State → Prop := va_Qd (fun (r2 : UInt64) (_ : Unit) => r2 = r) (fun _ t => va_P D vwCl w' t.heap ∧ va_K D vwCl tys t ∧ va_D A w') A
def Cd (l : Launch) (y : MethodName) (wsy : List Cond) (rm : Room) (D : va_G) (tys : List (ClassId × FieldType)) (As : List Value) (w w' : va_W) (r : UInt64) : Prop := ∀ sz : Nat, Met l y wsy rm (va_Pc As (fun U => U.heap.size = sz ∧ va_P D vwCl w U.heap ∧ va_K D vwCl tys U ∧ va_D (fun _ => True) w ∧ XN U)) (Ed D tys w' r (va_A w sz)) 0 0 (va_A w sz)
abbrev Ev (D : va_G) (tys : List (ClassId × FieldType)) (w' : va_W) (A : Nat → Prop) : Array Value → State → Outcome → State → Prop := va_Qv (fun (_ : Unit) => True) (fun _ t => va_P D vwCl w' t.heap ∧ va_K D vwCl tys t ∧ va_D A w') A
def Cv (l : Launch) (y : MethodName) (wsy : List Cond) (rm : Room) (D : va_G) (tys : List (ClassId × FieldType)) (As : List Value) (w w' : va_W) : Prop := ∀ sz : Nat, Met l y wsy rm (va_Pc As (fun U => U.heap.size = sz ∧ va_P D vwCl w U.heap ∧ va_K D vwCl tys U ∧ va_D (fun _ => True) w ∧ XN U)) (Ev D tys w' (va_A w sz)) 0 0 (va_A w sz)
theorem x_enti {y : MethodName} {wsy ws' : List Cond} {rm : Room} {maxL : Nat} {rt : Option FieldType} {As : List Value} {w w' : va_W} {r : Int32} (hy : plainName y.cls = true) (hw : wsy = Cond.code y cc maxL rt :: ws') (hlen : (lg_sl As).length ≤ maxL) (hlv : lv_args 0 As = lv)
    (body : ∀ (p : Program) (e : Env) (s : State) (m : MethodId) (args : Array Value) (below : List Frame) (meth : Method) (c : Code) (A : Nat → Prop) (Q : State → Prop), Q = MQ below (Ei D tys w' r A) args s 0 0 A → XC p s m args meth c D A maxL tys y.cls cc wsy rt → XW p l e rm s m args below meth c D A maxL 0 0 Q w [] lv 0 []) : Ci l y wsy rm D tys As w w' r := by
  intro sz
  refine Met.ofW (cc := cc) (maxL := maxL) (ret := rt) hy hw ?_
  intro p e s m args below meth c s₁ B hml hv
  obtain ⟨rfl, hsz, hP, hK, hD0, hN⟩ := hv
  subst hsz
  have hl := lv_entry As (n := maxL) hlen
  rw [lg_entry_eq]
  have hlv' : lv_has (lg_sl As ++ List.replicate (maxL - (lg_sl As).length) Slot.unset).toArray maxL lv := by rw [← hlv]; exact hl
  have hC : XC p s m As.toArray meth c D (va_A w s.heap.size) maxL tys y.cls cc wsy rt := ⟨B.exec, B.bytes, hml, findClass_of_methodNamed B.named, atoms_spec (ws := wsy) B.pre, hK, fun q h => Or.inr h, B.returns, B.notSynchronized, hN⟩
  exact body p e s m As.toArray below meth c (va_A w s.heap.size) _ rfl hC s.heap [] _ (by rw [List.append_nil]; exact hP) (by rw [List.append_nil]; exact hD0.self) va_S.rf hlv'
theorem x_entl {y : MethodName} {wsy ws' : List Cond} {rm : Room} {maxL : Nat} {rt : Option FieldType} {As : List Value} {w w' : va_W} {r : Int64} (hy : plainName y.cls = true) (hw : wsy = Cond.code y cc maxL rt :: ws') (hlen : (lg_sl As).length ≤ maxL) (hlv : lv_args 0 As = lv)
    (body : ∀ (p : Program) (e : Env) (s : State) (m : MethodId) (args : Array Value) (below : List Frame) (meth : Method) (c : Code) (A : Nat → Prop) (Q : State → Prop), Q = MQ below (El D tys w' r A) args s 0 0 A → XC p s m args meth c D A maxL tys y.cls cc wsy rt → XW p l e rm s m args below meth c D A maxL 0 0 Q w [] lv 0 []) : Cl l y wsy rm D tys As w w' r := by
  intro sz
  refine Met.ofW (cc := cc) (maxL := maxL) (ret := rt) hy hw ?_
  intro p e s m args below meth c s₁ B hml hv
  obtain ⟨rfl, hsz, hP, hK, hD0, hN⟩ := hv
  subst hsz
  have hl := lv_entry As (n := maxL) hlen
  rw [lg_entry_eq]
  have hlv' : lv_has (lg_sl As ++ List.replicate (maxL - (lg_sl As).length) Slot.unset).toArray maxL lv := by rw [← hlv]; exact hl
  have hC : XC p s m As.toArray meth c D (va_A w s.heap.size) maxL tys y.cls cc wsy rt := ⟨B.exec, B.bytes, hml, findClass_of_methodNamed B.named, atoms_spec (ws := wsy) B.pre, hK, fun q h => Or.inr h, B.returns, B.notSynchronized, hN⟩
  exact body p e s m As.toArray below meth c (va_A w s.heap.size) _ rfl hC s.heap [] _ (by rw [List.append_nil]; exact hP) (by rw [List.append_nil]; exact hD0.self) va_S.rf hlv'
theorem x_entd {y : MethodName} {wsy ws' : List Cond} {rm : Room} {maxL : Nat} {rt : Option FieldType} {As : List Value} {w w' : va_W} {r : UInt64} (hy : plainName y.cls = true) (hw : wsy = Cond.code y cc maxL rt :: ws') (hlen : (lg_sl As).length ≤ maxL) (hlv : lv_args 0 As = lv)
    (body : ∀ (p : Program) (e : Env) (s : State) (m : MethodId) (args : Array Value) (below : List Frame) (meth : Method) (c : Code) (A : Nat → Prop) (Q : State → Prop), Q = MQ below (Ed D tys w' r A) args s 0 0 A → XC p s m args meth c D A maxL tys y.cls cc wsy rt → XW p l e rm s m args below meth c D A maxL 0 0 Q w [] lv 0 []) : Cd l y wsy rm D tys As w w' r := by
  intro sz
  refine Met.ofW (cc := cc) (maxL := maxL) (ret := rt) hy hw ?_
  intro p e s m args below meth c s₁ B hml hv
  obtain ⟨rfl, hsz, hP, hK, hD0, hN⟩ := hv
  subst hsz
  have hl := lv_entry As (n := maxL) hlen
  rw [lg_entry_eq]
  have hlv' : lv_has (lg_sl As ++ List.replicate (maxL - (lg_sl As).length) Slot.unset).toArray maxL lv := by rw [← hlv]; exact hl
  have hC : XC p s m As.toArray meth c D (va_A w s.heap.size) maxL tys y.cls cc wsy rt := ⟨B.exec, B.bytes, hml, findClass_of_methodNamed B.named, atoms_spec (ws := wsy) B.pre, hK, fun q h => Or.inr h, B.returns, B.notSynchronized, hN⟩
  exact body p e s m As.toArray below meth c (va_A w s.heap.size) _ rfl hC s.heap [] _ (by rw [List.append_nil]; exact hP) (by rw [List.append_nil]; exact hD0.self) va_S.rf hlv'
theorem x_entv {y : MethodName} {wsy ws' : List Cond} {rm : Room} {maxL : Nat} {rt : Option FieldType} {As : List Value} {w w' : va_W} (hy : plainName y.cls = true) (hw : wsy = Cond.code y cc maxL rt :: ws') (hlen : (lg_sl As).length ≤ maxL) (hlv : lv_args 0 As = lv)
    (body : ∀ (p : Program) (e : Env) (s : State) (m : MethodId) (args : Array Value) (below : List Frame) (meth : Method) (c : Code) (A : Nat → Prop) (Q : State → Prop), Q = MQ below (Ev D tys w' A) args s 0 0 A → XC p s m args meth c D A maxL tys y.cls cc wsy rt → XW p l e rm s m args below meth c D A maxL 0 0 Q w [] lv 0 []) : Cv l y wsy rm D tys As w w' := by
  intro sz
  refine Met.ofW (cc := cc) (maxL := maxL) (ret := rt) hy hw ?_
  intro p e s m args below meth c s₁ B hml hv
  obtain ⟨rfl, hsz, hP, hK, hD0, hN⟩ := hv
  subst hsz
  have hl := lv_entry As (n := maxL) hlen
  rw [lg_entry_eq]
  have hlv' : lv_has (lg_sl As ++ List.replicate (maxL - (lg_sl As).length) Slot.unset).toArray maxL lv := by rw [← hlv]; exact hl
  have hC : XC p s m As.toArray meth c D (va_A w s.heap.size) maxL tys y.cls cc wsy rt := ⟨B.exec, B.bytes, hml, findClass_of_methodNamed B.named, atoms_spec (ws := wsy) B.pre, hK, fun q h => Or.inr h, B.returns, B.notSynchronized, hN⟩
  exact body p e s m As.toArray below meth c (va_A w s.heap.size) _ rfl hC s.heap [] _ (by rw [List.append_nil]; exact hP) (by rw [List.append_nil]; exact hD0.self) va_S.rf hlv'
theorem x_iret {w' : va_W} {r r' : Int32} (hC : XC p s m args meth c D A nL tys own cc Ts (some .int)) (hdg : decode cc pc = .ok (.ireturn, 1)) (hQ : Q = MQ below (Ei D tys w' r A) args s 0 0 A) (hr : r' = r) (hw : es = w') : XW p l e R s m args below meth c D A nL 0 0 Q es [] lv pc [.int r'] := by
  subst hQ; subst hr; subst hw
  intro H locs ls hP hD hS hl
  rw [List.append_nil] at hP hD
  exact W.iret hC.1 hC.2.1 hC.2.2.2.2.2.2.2.1 (fun t ht hW => ⟨⟨r', (), rfl, rfl, by rw [ht]; exact hP, va_K.moved hW.alike hC.2.2.2.2.2.1, hD⟩, hS.F ht⟩) hS.2.2 hdg hC.2.2.2.2.2.2.2.2.1
theorem x_lret {w' : va_W} {r r' : Int64} (hC : XC p s m args meth c D A nL tys own cc Ts (some .long)) (hdg : decode cc pc = .ok (.lreturn, 1)) (hQ : Q = MQ below (El D tys w' r A) args s 0 0 A) (hr : r' = r) (hw : es = w') : XW p l e R s m args below meth c D A nL 0 0 Q es [] lv pc [.long r'] := by
  subst hQ; subst hr; subst hw
  intro H locs ls hP hD hS hl
  rw [List.append_nil] at hP hD
  exact W.lret hC.1 hC.2.1 hC.2.2.2.2.2.2.2.1 (fun t ht hW => ⟨⟨r', (), rfl, rfl, by rw [ht]; exact hP, va_K.moved hW.alike hC.2.2.2.2.2.1, hD⟩, hS.F ht⟩) hS.2.2 hdg hC.2.2.2.2.2.2.2.2.1
theorem x_dret {w' : va_W} {r r' : UInt64} (hC : XC p s m args meth c D A nL tys own cc Ts (some .double)) (hdg : decode cc pc = .ok (.dreturn, 1)) (hQ : Q = MQ below (Ed D tys w' r A) args s 0 0 A) (hr : r' = r) (hw : es = w') : XW p l e R s m args below meth c D A nL 0 0 Q es [] lv pc [.double r'] := by
  subst hQ; subst hr; subst hw
  intro H locs ls hP hD hS hl
  rw [List.append_nil] at hP hD
  exact W.dret hC.1 hC.2.1 hC.2.2.2.2.2.2.2.1 (fun t ht hW => ⟨⟨r', (), rfl, rfl, by rw [ht]; exact hP, va_K.moved hW.alike hC.2.2.2.2.2.1, hD⟩, hS.F ht⟩) hS.2.2 hdg hC.2.2.2.2.2.2.2.2.1
theorem x_zret {ty : FieldType} {w' : va_W} {r r' : Int32} (hC : XC p s m args meth c D A nL tys own cc Ts (some ty)) (hnar : narrow ty (.int r') = .int r') (hdg : decode cc pc = .ok (.ireturn, 1)) (hQ : Q = MQ below (Ei D tys w' r A) args s 0 0 A) (hr : r' = r) (hw : es = w') : XW p l e R s m args below meth c D A nL 0 0 Q es [] lv pc [.int r'] := by
  subst hQ; subst hr; subst hw
  intro H locs ls hP hD hS hl
  rw [List.append_nil] at hP hD
  exact W.zret hC.1 hC.2.1 hC.2.2.2.2.2.2.2.1 hnar (fun t ht hW => ⟨⟨r', (), rfl, rfl, by rw [ht]; exact hP, va_K.moved hW.alike hC.2.2.2.2.2.1, hD⟩, hS.F ht⟩) hS.2.2 hdg hC.2.2.2.2.2.2.2.2.1
theorem x_vret {w' : va_W} (hC : XC p s m args meth c D A nL tys own cc Ts none) (hdg : decode cc pc = .ok (.return_, 1)) (hQ : Q = MQ below (Ev D tys w' A) args s 0 0 A) (hw : es = w') : XW p l e R s m args below meth c D A nL 0 0 Q es [] lv pc [] := by
  subst hQ; subst hw
  intro H locs ls hP hD hS hl
  rw [List.append_nil] at hP hD
  exact W.vret hC.1 hC.2.1 hC.2.2.2.2.2.2.2.1 (fun t ht hW => ⟨⟨(), rfl, trivial, by rw [ht]; exact hP, va_K.moved hW.alike hC.2.2.2.2.2.1, hD⟩, hS.F ht⟩) hS.2.2 hdg hC.2.2.2.2.2.2.2.2.1
/-- the cells at the places is, replaced by those of w -/
def x_in : va_W → List Nat → va_W → va_W
  | es, i :: is, c :: w => x_in (es.set i c) is w
  | es, _, _ => es
theorem x_in_len : ∀ (is : List Nat) (w es : va_W), (x_in es is w).length = es.length
  | [], w, es => by cases w <;> rfl
  | i :: is, [], es => rfl
  | i :: is, c :: w, es => by show (x_in (es.set i c) is w).length = _; rw [x_in_len is w, List.length_set]
theorem x_in_out : ∀ (is : List Nat) (w es : va_W) (k : Nat), k ∉ is → (x_in es is w)[k]? = es[k]?
  | [], w, es, k, _ => by cases w <;> rfl
  | i :: is, [], es, k, _ => rfl
  | i :: is, c :: w, es, k, h => by
    show (x_in (es.set i c) is w)[k]? = _
    rw [x_in_out is w _ k (fun hm => h (List.mem_cons_of_mem _ hm)), List.getElem?_set_ne (fun he => h (by rw [he]; exact List.mem_cons_self))]
/-- what stands in the new list at k: the old cell, k being none of the places, or a cell of w at its own place -/
theorem x_in_get : ∀ (is : List Nat) (w es : va_W) (k : Nat) (q : Nat × va_E), (x_in es is w)[k]? = some q → (k ∉ is.take w.length ∧ es[k]? = some q) ∨ ∃ j : Nat, is[j]? = some k ∧ w[j]? = some q
  | [], w, es, k, q, h => Or.inl ⟨by simp, by cases w <;> exact h⟩
  | i :: is, [], es, k, q, h => Or.inl ⟨by simp, h⟩
  | i :: is, c :: w, es, k, q, h => by
    rcases x_in_get is w (es.set i c) k q h with ⟨h1, h2⟩ | ⟨j, h1, h2⟩
    · by_cases hk : i = k
      · subst hk
        right
        refine ⟨0, rfl, ?_⟩
        rw [List.getElem?_set] at h2
        by_cases hlt : i < es.length
        · simp [hlt] at h2; simp [h2]
        · simp [hlt] at h2
      · left
        refine ⟨?_, ?_⟩
        · simp only [List.length_cons, List.take_succ_cons, List.mem_cons, not_or]
          exact ⟨fun he => hk he.symm, h1⟩
        · rw [List.getElem?_set_ne hk] at h2; exact h2
    · exact Or.inr ⟨j + 1, h1, h2⟩
theorem va_P.lt {D : va_G} {ws : va_W} {H : Heap} {k : Nat} {q : Nat × va_E} (hP : va_P D vwCl ws H) (h : ws[k]? = some q) : q.1 < H.size := by
  have h1 := hP k q h
  unfold va_at at h1
  split at h1
  · exact (Array.getElem?_eq_some_iff.mp h1).1
  · obtain ⟨r, -, h2⟩ := h1
    obtain ⟨cell, h3, -⟩ := h2
    exact (Array.getElem?_eq_some_iff.mp h3).1
theorem va_P.selm {D : va_G} {ws wc : va_W} {H : Heap} {is : List Nat} (hP : va_P D vwCl ws H) (hs : is.map (fun i => ws[i]?) = wc.map some) : va_P D vwCl wc H := by
  intro k q hk
  have h1 := congrArg (fun z => z[k]?) hs
  simp only [List.getElem?_map, hk, Option.map_some] at h1
  cases hi : is[k]? with
  | none => rw [hi] at h1; simp at h1
  | some i => rw [hi] at h1; exact hP i q (by simpa using h1)
theorem x_in_app : ∀ (es tl : va_W) (is : List Nat) (w : va_W), (∀ i ∈ is, i < es.length) → x_in (es ++ tl) is w = x_in es is w ++ tl
  | es, tl, [], w, _ => by cases w <;> rfl
  | es, tl, i :: is, [], _ => rfl
  | es, tl, i :: is, c :: w, h => by
    show x_in ((es ++ tl).set i c) is w = x_in (es.set i c) is w ++ tl
    rw [List.set_append_left _ _ (h i List.mem_cons_self)]
    exact x_in_app (es.set i c) tl is w (fun j hj => by rw [List.length_set]; exact h j (List.mem_cons_of_mem _ hj))
theorem x_frame {ws wc w1 : va_W} {H H1 : Heap} {is : List Nat} (hP : va_P D vwCl ws H) (hD : va_D A ws) (hC : is.map (fun i => ws[i]?) = wc.map some) (ha : w1.map Prod.fst = wc.map Prod.fst)
    (hk : ∀ q : Nat, q < H.size → ¬ va_A wc H.size q → H1[q]? = H[q]?) (hP1 : va_P D vwCl w1 H1) : va_P D vwCl (x_in ws is w1) H1 ∧ va_D A (x_in ws is w1) := by
  have hlen : is.length = wc.length := by have := congrArg List.length hC; simpa using this
  have hlen1 : w1.length = wc.length := by have := congrArg List.length ha; simpa using this
  have hat : ∀ (j i : Nat), is[j]? = some i → ∃ q, wc[j]? = some q ∧ ws[i]? = some q := by
    intro j i hj
    have h1 := congrArg (fun z => z[j]?) hC
    simp only [List.getElem?_map, hj, Option.map_some] at h1
    cases hw : wc[j]? with
    | none => rw [hw] at h1; simp at h1
    | some q => rw [hw] at h1; exact ⟨q, rfl, by simpa using h1⟩
  have hfst : ∀ (j : Nat) (q : Nat × va_E), w1[j]? = some q → ∃ q2, wc[j]? = some q2 ∧ q2.1 = q.1 := by
    intro j q hj
    have h1 := congrArg (fun z => z[j]?) ha
    simp only [List.getElem?_map, hj, Option.map_some] at h1
    cases hw : wc[j]? with
    | none => rw [hw] at h1; simp at h1
    | some q2 => rw [hw] at h1; exact ⟨q2, rfl, by simpa using h1.symm⟩
  -- each cell of the new list has its address at the same place of the old one
  have hadr : ∀ (k : Nat) (q : Nat × va_E), (x_in ws is w1)[k]? = some q → ∃ q2, ws[k]? = some q2 ∧ q2.1 = q.1 := by
    intro k q h
    rcases x_in_get is w1 ws k q h with ⟨_, h2⟩ | ⟨j, h1, h2⟩
    · exact ⟨q, h2, rfl⟩
    · obtain ⟨q2, e1, e2⟩ := hfst j q h2
      obtain ⟨q3, e3, e4⟩ := hat j k h1
      rw [e1] at e3; cases e3
      exact ⟨q2, e4, e2⟩
  refine ⟨fun k q h => ?_, ⟨fun i j p q hi hj hpq => ?_, fun k q h => ?_⟩⟩
  · rcases x_in_get is w1 ws k q h with ⟨h1, h2⟩ | ⟨j, h1, h2⟩
    · refine (hP k q h2).kept (hk q.1 (va_P.lt hP h2) ?_)
      rintro (⟨j, ee, hj⟩ | hj)
      · have hji : j < is.length := by rw [hlen]; exact (List.getElem?_eq_some_iff.mp hj).1
        obtain ⟨q3, e3, e4⟩ := hat j is[j] (List.getElem?_eq_getElem hji)
        rw [hj] at e3; cases e3
        have hkk := hD.1 _ _ _ _ h2 e4 rfl
        apply h1
        rw [hlen1, ← hlen, List.take_length, hkk]
        exact List.getElem_mem hji
      · exact absurd (va_P.lt hP h2) (by omega)
    · exact hP1 j q h2
  · obtain ⟨p2, e1, e2⟩ := hadr i p hi
    obtain ⟨q2, e3, e4⟩ := hadr j q hj
    exact hD.1 i j p2 q2 e1 e3 (by rw [e2, e4, hpq])
  · obtain ⟨q2, e1, e2⟩ := hadr k q h
    rw [← e2]; exact hD.2 k q2 e1

theorem x_callVi (n qr nA : Nat) (is : List Nat) (es' : va_W) (hC : XC p s m args meth c D A nL tys own cc Ts ret) {y : MethodName} {bytes : ByteArray} {maxL index b : Nat} {rt : Option FieldType} {wsy ws' : List Cond} {rm : Room} {As st0 : List Value} {wc w' : va_W} {r : Int32}  (hM : Ci l y wsy rm D tys (.ref b :: As) wc w' r) {ci : Nat} {C : String} {T : u_T} {N : Nat} {fs : List Value} (hcl : vwCl[ci]? = some (C, T, N)) (he : wc[qr]? = some (b, .inr (ci, fs))) (hG : GoodIn Ts (wsV own index C y wsy)) (hw : wsy = Cond.code y bytes maxL rt :: ws') (hrm : rm.cells = 0 ∧ rm.slots = 0) (hd : y.cls = C ∧ y.cls ≠ "java/lang/invoke/MethodHandle" ∧ y.cls ≠ "java/lang/invoke/VarHandle" ∧ (parseMethodDescriptor y.desc).map (fun d => d.parameters.length) = some nA) (hR : rm.frames + 1 ≤ R.frames ∧ 8 + (maxL + 11) + rm.locals ≤ R.locals) (hnA : As.length = nA) (hsel : is.map (fun i => es[i]?) = wc.map some) (hnd : va_nd is = true) (hadr : w'.map Prod.fst = wc.map Prod.fst) (hes : x_in es is w' = es') (hst : st0 = As.reverse ++ .ref b :: st) (hcat : (st.map fun v => v.category).sum ≤ 8) (hRc : cells + 0 ≤ R.cells ∧ slots + 0 ≤ R.slots) (hdg : decode cc pc = .ok (.invokevirtual index, 3)) (hn : pc + 3 = n)
    (k : XW p l e R s m args below meth c D A nL cells slots Q es' tl lv n (.int r :: st)) : XW p l e R s m args below meth c D A nL cells slots Q es tl lv pc st0 := by
  subst hn; subst hes
  intro H locs ls hP hD hS hl
  have hlt : ∀ i ∈ is, i < es.length := by
    intro i hi
    have h1 : es[i]? ∈ is.map (fun i => es[i]?) := List.mem_map.mpr ⟨i, hi, rfl⟩
    rw [hsel] at h1
    obtain ⟨q, -, hq⟩ := List.mem_map.mp h1
    exact (List.getElem?_eq_some_iff.mp hq.symm).1
  have hsel2 : is.map (fun i => (es ++ tl)[i]?) = wc.map some := by
    rw [← hsel]
    exact List.map_congr_left (fun i hi => List.getElem?_append_left (hlt i hi))
  have hPc := va_P.selm hP hsel2
  have hDc := va_D.sub hD is hnd hsel2
  have hFc := va_free (wc := wc) hD hS hC.2.2.2.2.2.2.1 is hsel2
  refine va_calli (va_runV (As := As) (rest := st) ⟨hC.1, hC.2.1, hC.2.2.1, hC.2.2.2.1, hC.2.2.2.2.1⟩ (hM H.size) (cwV nA hC.2.2.2.2.1 hG hw hrm.1 hrm.2 hd hR) ⟨fun a U g mk q => by obtain ⟨q0, q1, qP, qK, qD, qN⟩ := q; exact ⟨q0, q1, qP, va_K.moved (u := U) (U := U.calling g mk a) (Vm.Alike.refl U.vm) qK, qD, qN.call⟩, va_recv hC.2.2.2.2.2.1 hPc hcl he, fun U hU hW => ⟨rfl, by rw [hU], by rw [hU]; exact hPc, va_K.moved hW.alike hC.2.2.2.2.2.1, hDc.weaken (fun _ _ _ _ => trivial), hC.2.2.2.2.2.2.2.2.2.warm hW⟩⟩ rfl hnA hl.1 hst (lv_room hcat) hdg ⟨hRc.1, hRc.2⟩) hS (fun q _ h => hFc q h) hFc (fun r2 u t H1 locs1 ht hvm hr2 hB hz1 hk1 hS1 => ?_)
  subst hr2; obtain ⟨hP1, hK1, hD1⟩ := hB
  rw [ht] at hP1
  obtain ⟨hP2, hD2⟩ := x_frame hP hD hsel2 hadr hk1 hP1
  rw [x_in_app es tl is w' hlt] at hP2 hD2
  exact k H1 locs1 ls hP2 hD2 hS1 hl
theorem x_callVl (n qr nA : Nat) (is : List Nat) (es' : va_W) (hC : XC p s m args meth c D A nL tys own cc Ts ret) {y : MethodName} {bytes : ByteArray} {maxL index b : Nat} {rt : Option FieldType} {wsy ws' : List Cond} {rm : Room} {As st0 : List Value} {wc w' : va_W} {r : Int64}  (hM : Cl l y wsy rm D tys (.ref b :: As) wc w' r) {ci : Nat} {C : String} {T : u_T} {N : Nat} {fs : List Value} (hcl : vwCl[ci]? = some (C, T, N)) (he : wc[qr]? = some (b, .inr (ci, fs))) (hG : GoodIn Ts (wsV own index C y wsy)) (hw : wsy = Cond.code y bytes maxL rt :: ws') (hrm : rm.cells = 0 ∧ rm.slots = 0) (hd : y.cls = C ∧ y.cls ≠ "java/lang/invoke/MethodHandle" ∧ y.cls ≠ "java/lang/invoke/VarHandle" ∧ (parseMethodDescriptor y.desc).map (fun d => d.parameters.length) = some nA) (hR : rm.frames + 1 ≤ R.frames ∧ 8 + (maxL + 11) + rm.locals ≤ R.locals) (hnA : As.length = nA) (hsel : is.map (fun i => es[i]?) = wc.map some) (hnd : va_nd is = true) (hadr : w'.map Prod.fst = wc.map Prod.fst) (hes : x_in es is w' = es') (hst : st0 = As.reverse ++ .ref b :: st) (hcat : (st.map fun v => v.category).sum ≤ 8) (hRc : cells + 0 ≤ R.cells ∧ slots + 0 ≤ R.slots) (hdg : decode cc pc = .ok (.invokevirtual index, 3)) (hn : pc + 3 = n)
    (k : XW p l e R s m args below meth c D A nL cells slots Q es' tl lv n (.long r :: st)) : XW p l e R s m args below meth c D A nL cells slots Q es tl lv pc st0 := by
  subst hn; subst hes
  intro H locs ls hP hD hS hl
  have hlt : ∀ i ∈ is, i < es.length := by
    intro i hi
    have h1 : es[i]? ∈ is.map (fun i => es[i]?) := List.mem_map.mpr ⟨i, hi, rfl⟩
    rw [hsel] at h1
    obtain ⟨q, -, hq⟩ := List.mem_map.mp h1
    exact (List.getElem?_eq_some_iff.mp hq.symm).1
  have hsel2 : is.map (fun i => (es ++ tl)[i]?) = wc.map some := by
    rw [← hsel]
    exact List.map_congr_left (fun i hi => List.getElem?_append_left (hlt i hi))
  have hPc := va_P.selm hP hsel2
  have hDc := va_D.sub hD is hnd hsel2
  have hFc := va_free (wc := wc) hD hS hC.2.2.2.2.2.2.1 is hsel2
  refine va_calll (va_runV (As := As) (rest := st) ⟨hC.1, hC.2.1, hC.2.2.1, hC.2.2.2.1, hC.2.2.2.2.1⟩ (hM H.size) (cwV nA hC.2.2.2.2.1 hG hw hrm.1 hrm.2 hd hR) ⟨fun a U g mk q => by obtain ⟨q0, q1, qP, qK, qD, qN⟩ := q; exact ⟨q0, q1, qP, va_K.moved (u := U) (U := U.calling g mk a) (Vm.Alike.refl U.vm) qK, qD, qN.call⟩, va_recv hC.2.2.2.2.2.1 hPc hcl he, fun U hU hW => ⟨rfl, by rw [hU], by rw [hU]; exact hPc, va_K.moved hW.alike hC.2.2.2.2.2.1, hDc.weaken (fun _ _ _ _ => trivial), hC.2.2.2.2.2.2.2.2.2.warm hW⟩⟩ rfl hnA hl.1 hst (lv_room hcat) hdg ⟨hRc.1, hRc.2⟩) hS (fun q _ h => hFc q h) hFc (fun r2 u t H1 locs1 ht hvm hr2 hB hz1 hk1 hS1 => ?_)
  subst hr2; obtain ⟨hP1, hK1, hD1⟩ := hB
  rw [ht] at hP1
  obtain ⟨hP2, hD2⟩ := x_frame hP hD hsel2 hadr hk1 hP1
  rw [x_in_app es tl is w' hlt] at hP2 hD2
  exact k H1 locs1 ls hP2 hD2 hS1 hl
theorem x_callVd (n qr nA : Nat) (is : List Nat) (es' : va_W) (hC : XC p s m args meth c D A nL tys own cc Ts ret) {y : MethodName} {bytes : ByteArray} {maxL index b : Nat} {rt : Option FieldType} {wsy ws' : List Cond} {rm : Room} {As st0 : List Value} {wc w' : va_W} {r : UInt64}  (hM : Cd l y wsy rm D tys (.ref b :: As) wc w' r) {ci : Nat} {C : String} {T : u_T} {N : Nat} {fs : List Value} (hcl : vwCl[ci]? = some (C, T, N)) (he : wc[qr]? = some (b, .inr (ci, fs))) (hG : GoodIn Ts (wsV own index C y wsy)) (hw : wsy = Cond.code y bytes maxL rt :: ws') (hrm : rm.cells = 0 ∧ rm.slots = 0) (hd : y.cls = C ∧ y.cls ≠ "java/lang/invoke/MethodHandle" ∧ y.cls ≠ "java/lang/invoke/VarHandle" ∧ (parseMethodDescriptor y.desc).map (fun d => d.parameters.length) = some nA) (hR : rm.frames + 1 ≤ R.frames ∧ 8 + (maxL + 11) + rm.locals ≤ R.locals) (hnA : As.length = nA) (hsel : is.map (fun i => es[i]?) = wc.map some) (hnd : va_nd is = true) (hadr : w'.map Prod.fst = wc.map Prod.fst) (hes : x_in es is w' = es') (hst : st0 = As.reverse ++ .ref b :: st) (hcat : (st.map fun v => v.category).sum ≤ 8) (hRc : cells + 0 ≤ R.cells ∧ slots + 0 ≤ R.slots) (hdg : decode cc pc = .ok (.invokevirtual index, 3)) (hn : pc + 3 = n)
    (k : XW p l e R s m args below meth c D A nL cells slots Q es' tl lv n (.double r :: st)) : XW p l e R s m args below meth c D A nL cells slots Q es tl lv pc st0 := by
  subst hn; subst hes
  intro H locs ls hP hD hS hl
  have hlt : ∀ i ∈ is, i < es.length := by
    intro i hi
    have h1 : es[i]? ∈ is.map (fun i => es[i]?) := List.mem_map.mpr ⟨i, hi, rfl⟩
    rw [hsel] at h1
    obtain ⟨q, -, hq⟩ := List.mem_map.mp h1
    exact (List.getElem?_eq_some_iff.mp hq.symm).1
  have hsel2 : is.map (fun i => (es ++ tl)[i]?) = wc.map some := by
    rw [← hsel]
    exact List.map_congr_left (fun i hi => List.getElem?_append_left (hlt i hi))
  have hPc := va_P.selm hP hsel2
  have hDc := va_D.sub hD is hnd hsel2
  have hFc := va_free (wc := wc) hD hS hC.2.2.2.2.2.2.1 is hsel2
  refine va_calld (va_runV (As := As) (rest := st) ⟨hC.1, hC.2.1, hC.2.2.1, hC.2.2.2.1, hC.2.2.2.2.1⟩ (hM H.size) (cwV nA hC.2.2.2.2.1 hG hw hrm.1 hrm.2 hd hR) ⟨fun a U g mk q => by obtain ⟨q0, q1, qP, qK, qD, qN⟩ := q; exact ⟨q0, q1, qP, va_K.moved (u := U) (U := U.calling g mk a) (Vm.Alike.refl U.vm) qK, qD, qN.call⟩, va_recv hC.2.2.2.2.2.1 hPc hcl he, fun U hU hW => ⟨rfl, by rw [hU], by rw [hU]; exact hPc, va_K.moved hW.alike hC.2.2.2.2.2.1, hDc.weaken (fun _ _ _ _ => trivial), hC.2.2.2.2.2.2.2.2.2.warm hW⟩⟩ rfl hnA hl.1 hst (lv_room hcat) hdg ⟨hRc.1, hRc.2⟩) hS (fun q _ h => hFc q h) hFc (fun r2 u t H1 locs1 ht hvm hr2 hB hz1 hk1 hS1 => ?_)
  subst hr2; obtain ⟨hP1, hK1, hD1⟩ := hB
  rw [ht] at hP1
  obtain ⟨hP2, hD2⟩ := x_frame hP hD hsel2 hadr hk1 hP1
  rw [x_in_app es tl is w' hlt] at hP2 hD2
  exact k H1 locs1 ls hP2 hD2 hS1 hl
theorem x_callVv (n qr nA : Nat) (is : List Nat) (es' : va_W) (hC : XC p s m args meth c D A nL tys own cc Ts ret) {y : MethodName} {bytes : ByteArray} {maxL index b : Nat} {rt : Option FieldType} {wsy ws' : List Cond} {rm : Room} {As st0 : List Value} {wc w' : va_W}  (hM : Cv l y wsy rm D tys (.ref b :: As) wc w') {ci : Nat} {C : String} {T : u_T} {N : Nat} {fs : List Value} (hcl : vwCl[ci]? = some (C, T, N)) (he : wc[qr]? = some (b, .inr (ci, fs))) (hG : GoodIn Ts (wsV own index C y wsy)) (hw : wsy = Cond.code y bytes maxL rt :: ws') (hrm : rm.cells = 0 ∧ rm.slots = 0) (hd : y.cls = C ∧ y.cls ≠ "java/lang/invoke/MethodHandle" ∧ y.cls ≠ "java/lang/invoke/VarHandle" ∧ (parseMethodDescriptor y.desc).map (fun d => d.parameters.length) = some nA) (hR : rm.frames + 1 ≤ R.frames ∧ 8 + (maxL + 11) + rm.locals ≤ R.locals) (hnA : As.length = nA) (hsel : is.map (fun i => es[i]?) = wc.map some) (hnd : va_nd is = true) (hadr : w'.map Prod.fst = wc.map Prod.fst) (hes : x_in es is w' = es') (hst : st0 = As.reverse ++ .ref b :: st) (hcat : (st.map fun v => v.category).sum ≤ 8) (hRc : cells + 0 ≤ R.cells ∧ slots + 0 ≤ R.slots) (hdg : decode cc pc = .ok (.invokevirtual index, 3)) (hn : pc + 3 = n)
    (k : XW p l e R s m args below meth c D A nL cells slots Q es' tl lv n st) : XW p l e R s m args below meth c D A nL cells slots Q es tl lv pc st0 := by
  subst hn; subst hes
  intro H locs ls hP hD hS hl
  have hlt : ∀ i ∈ is, i < es.length := by
    intro i hi
    have h1 : es[i]? ∈ is.map (fun i => es[i]?) := List.mem_map.mpr ⟨i, hi, rfl⟩
    rw [hsel] at h1
    obtain ⟨q, -, hq⟩ := List.mem_map.mp h1
    exact (List.getElem?_eq_some_iff.mp hq.symm).1
  have hsel2 : is.map (fun i => (es ++ tl)[i]?) = wc.map some := by
    rw [← hsel]
    exact List.map_congr_left (fun i hi => List.getElem?_append_left (hlt i hi))
  have hPc := va_P.selm hP hsel2
  have hDc := va_D.sub hD is hnd hsel2
  have hFc := va_free (wc := wc) hD hS hC.2.2.2.2.2.2.1 is hsel2
  refine va_callv (va_runV (As := As) (rest := st) ⟨hC.1, hC.2.1, hC.2.2.1, hC.2.2.2.1, hC.2.2.2.2.1⟩ (hM H.size) (cwV nA hC.2.2.2.2.1 hG hw hrm.1 hrm.2 hd hR) ⟨fun a U g mk q => by obtain ⟨q0, q1, qP, qK, qD, qN⟩ := q; exact ⟨q0, q1, qP, va_K.moved (u := U) (U := U.calling g mk a) (Vm.Alike.refl U.vm) qK, qD, qN.call⟩, va_recv hC.2.2.2.2.2.1 hPc hcl he, fun U hU hW => ⟨rfl, by rw [hU], by rw [hU]; exact hPc, va_K.moved hW.alike hC.2.2.2.2.2.1, hDc.weaken (fun _ _ _ _ => trivial), hC.2.2.2.2.2.2.2.2.2.warm hW⟩⟩ rfl hnA hl.1 hst (lv_room hcat) hdg ⟨hRc.1, hRc.2⟩) hS (fun q _ h => hFc q h) hFc (fun u t H1 locs1 ht hvm hr2 hB hz1 hk1 hS1 => ?_)
  obtain ⟨hP1, hK1, hD1⟩ := hB
  rw [ht] at hP1
  obtain ⟨hP2, hD2⟩ := x_frame hP hD hsel2 hadr hk1 hP1
  rw [x_in_app es tl is w' hlt] at hP2 hD2
  exact k H1 locs1 ls hP2 hD2 hS1 hl
theorem x_callSi (n nA : Nat) (is : List Nat) (es' : va_W) (hC : XC p s m args meth c D A nL tys own cc Ts ret) {y : MethodName} {bytes : ByteArray} {maxL index : Nat} {rt : Option FieldType} {wsy ws' : List Cond} {rm : Room} {As st0 : List Value} {wc w' : va_W} {r : Int32}  (hM : Ci l y wsy rm D tys As wc w' r) (hG : GoodIn Ts (va_wsS own index y wsy)) (hw : wsy = Cond.code y bytes maxL rt :: ws') (hrm : rm.cells = 0 ∧ rm.slots = 0) (hd : y.cls ≠ "java/lang/invoke/MethodHandle" ∧ y.cls ≠ "java/lang/invoke/VarHandle" ∧ (parseMethodDescriptor y.desc).map (fun d => d.parameters.length) = some nA) (hR : rm.frames + 1 ≤ R.frames ∧ 8 + (maxL + 11) + rm.locals ≤ R.locals) (hnA : As.length = nA) (hsel : is.map (fun i => es[i]?) = wc.map some) (hnd : va_nd is = true) (hadr : w'.map Prod.fst = wc.map Prod.fst) (hes : x_in es is w' = es') (hst : st0 = As.reverse ++ st) (hcat : (st.map fun v => v.category).sum ≤ 8) (hRc : cells + 0 ≤ R.cells ∧ slots + 0 ≤ R.slots) (hdg : decode cc pc = .ok (.invokestatic index, 3)) (hn : pc + 3 = n)
    (k : XW p l e R s m args below meth c D A nL cells slots Q es' tl lv n (.int r :: st)) : XW p l e R s m args below meth c D A nL cells slots Q es tl lv pc st0 := by
  subst hn; subst hes
  intro H locs ls hP hD hS hl
  have hlt : ∀ i ∈ is, i < es.length := by
    intro i hi
    have h1 : es[i]? ∈ is.map (fun i => es[i]?) := List.mem_map.mpr ⟨i, hi, rfl⟩
    rw [hsel] at h1
    obtain ⟨q, -, hq⟩ := List.mem_map.mp h1
    exact (List.getElem?_eq_some_iff.mp hq.symm).1
  have hsel2 : is.map (fun i => (es ++ tl)[i]?) = wc.map some := by
    rw [← hsel]
    exact List.map_congr_left (fun i hi => List.getElem?_append_left (hlt i hi))
  have hPc := va_P.selm hP hsel2
  have hDc := va_D.sub hD is hnd hsel2
  have hFc := va_free (wc := wc) hD hS hC.2.2.2.2.2.2.1 is hsel2
  refine va_calli (va_runS (As := As) (rest := st) ⟨hC.1, hC.2.1, hC.2.2.1, hC.2.2.2.1, hC.2.2.2.2.1⟩ (hM H.size) (va_cwS nA hC.2.2.2.2.1 hG hw hrm.1 hrm.2 hd hR) ⟨fun a U g mk q => by obtain ⟨q0, q1, qP, qK, qD, qN⟩ := q; exact ⟨q0, q1, qP, va_K.moved (u := U) (U := U.calling g mk a) (Vm.Alike.refl U.vm) qK, qD, qN.call⟩, fun U hU hW => ⟨rfl, by rw [hU], by rw [hU]; exact hPc, va_K.moved hW.alike hC.2.2.2.2.2.1, hDc.weaken (fun _ _ _ _ => trivial), hC.2.2.2.2.2.2.2.2.2.warm hW⟩⟩ rfl hnA hl.1 hst (lv_room hcat) hdg ⟨hRc.1, hRc.2⟩) hS (fun q _ h => hFc q h) hFc (fun r2 u t H1 locs1 ht hvm hr2 hB hz1 hk1 hS1 => ?_)
  subst hr2; obtain ⟨hP1, hK1, hD1⟩ := hB
  rw [ht] at hP1
  obtain ⟨hP2, hD2⟩ := x_frame hP hD hsel2 hadr hk1 hP1
  rw [x_in_app es tl is w' hlt] at hP2 hD2
  exact k H1 locs1 ls hP2 hD2 hS1 hl
theorem x_callSl (n nA : Nat) (is : List Nat) (es' : va_W) (hC : XC p s m args meth c D A nL tys own cc Ts ret) {y : MethodName} {bytes : ByteArray} {maxL index : Nat} {rt : Option FieldType} {wsy ws' : List Cond} {rm : Room} {As st0 : List Value} {wc w' : va_W} {r : Int64}  (hM : Cl l y wsy rm D tys As wc w' r) (hG : GoodIn Ts (va_wsS own index y wsy)) (hw : wsy = Cond.code y bytes maxL rt :: ws') (hrm : rm.cells = 0 ∧ rm.slots = 0) (hd : y.cls ≠ "java/lang/invoke/MethodHandle" ∧ y.cls ≠ "java/lang/invoke/VarHandle" ∧ (parseMethodDescriptor y.desc).map (fun d => d.parameters.length) = some nA) (hR : rm.frames + 1 ≤ R.frames ∧ 8 + (maxL + 11) + rm.locals ≤ R.locals) (hnA : As.length = nA) (hsel : is.map (fun i => es[i]?) = wc.map some) (hnd : va_nd is = true) (hadr : w'.map Prod.fst = wc.map Prod.fst) (hes : x_in es is w' = es') (hst : st0 = As.reverse ++ st) (hcat : (st.map fun v => v.category).sum ≤ 8) (hRc : cells + 0 ≤ R.cells ∧ slots + 0 ≤ R.slots) (hdg : decode cc pc = .ok (.invokestatic index, 3)) (hn : pc + 3 = n)
    (k : XW p l e R s m args below meth c D A nL cells slots Q es' tl lv n (.long r :: st)) : XW p l e R s m args below meth c D A nL cells slots Q es tl lv pc st0 := by
  subst hn; subst hes
  intro H locs ls hP hD hS hl
  have hlt : ∀ i ∈ is, i < es.length := by
    intro i hi
    have h1 : es[i]? ∈ is.map (fun i => es[i]?) := List.mem_map.mpr ⟨i, hi, rfl⟩
    rw [hsel] at h1
    obtain ⟨q, -, hq⟩ := List.mem_map.mp h1
    exact (List.getElem?_eq_some_iff.mp hq.symm).1
  have hsel2 : is.map (fun i => (es ++ tl)[i]?) = wc.map some := by
    rw [← hsel]
    exact List.map_congr_left (fun i hi => List.getElem?_append_left (hlt i hi))
  have hPc := va_P.selm hP hsel2
  have hDc := va_D.sub hD is hnd hsel2
  have hFc := va_free (wc := wc) hD hS hC.2.2.2.2.2.2.1 is hsel2
  refine va_calll (va_runS (As := As) (rest := st) ⟨hC.1, hC.2.1, hC.2.2.1, hC.2.2.2.1, hC.2.2.2.2.1⟩ (hM H.size) (va_cwS nA hC.2.2.2.2.1 hG hw hrm.1 hrm.2 hd hR) ⟨fun a U g mk q => by obtain ⟨q0, q1, qP, qK, qD, qN⟩ := q; exact ⟨q0, q1, qP, va_K.moved (u := U) (U := U.calling g mk a) (Vm.Alike.refl U.vm) qK, qD, qN.call⟩, fun U hU hW => ⟨rfl, by rw [hU], by rw [hU]; exact hPc, va_K.moved hW.alike hC.2.2.2.2.2.1, hDc.weaken (fun _ _ _ _ => trivial), hC.2.2.2.2.2.2.2.2.2.warm hW⟩⟩ rfl hnA hl.1 hst (lv_room hcat) hdg ⟨hRc.1, hRc.2⟩) hS (fun q _ h => hFc q h) hFc (fun r2 u t H1 locs1 ht hvm hr2 hB hz1 hk1 hS1 => ?_)
  subst hr2; obtain ⟨hP1, hK1, hD1⟩ := hB
  rw [ht] at hP1
  obtain ⟨hP2, hD2⟩ := x_frame hP hD hsel2 hadr hk1 hP1
  rw [x_in_app es tl is w' hlt] at hP2 hD2
  exact k H1 locs1 ls hP2 hD2 hS1 hl
theorem x_callSd (n nA : Nat) (is : List Nat) (es' : va_W) (hC : XC p s m args meth c D A nL tys own cc Ts ret) {y : MethodName} {bytes : ByteArray} {maxL index : Nat} {rt : Option FieldType} {wsy ws' : List Cond} {rm : Room} {As st0 : List Value} {wc w' : va_W} {r : UInt64}  (hM : Cd l y wsy rm D tys As wc w' r) (hG : GoodIn Ts (va_wsS own index y wsy)) (hw : wsy = Cond.code y bytes maxL rt :: ws') (hrm : rm.cells = 0 ∧ rm.slots = 0) (hd : y.cls ≠ "java/lang/invoke/MethodHandle" ∧ y.cls ≠ "java/lang/invoke/VarHandle" ∧ (parseMethodDescriptor y.desc).map (fun d => d.parameters.length) = some nA) (hR : rm.frames + 1 ≤ R.frames ∧ 8 + (maxL + 11) + rm.locals ≤ R.locals) (hnA : As.length = nA) (hsel : is.map (fun i => es[i]?) = wc.map some) (hnd : va_nd is = true) (hadr : w'.map Prod.fst = wc.map Prod.fst) (hes : x_in es is w' = es') (hst : st0 = As.reverse ++ st) (hcat : (st.map fun v => v.category).sum ≤ 8) (hRc : cells + 0 ≤ R.cells ∧ slots + 0 ≤ R.slots) (hdg : decode cc pc = .ok (.invokestatic index, 3)) (hn : pc + 3 = n)
    (k : XW p l e R s m args below meth c D A nL cells slots Q es' tl lv n (.double r :: st)) : XW p l e R s m args below meth c D A nL cells slots Q es tl lv pc st0 := by
  subst hn; subst hes
  intro H locs ls hP hD hS hl
  have hlt : ∀ i ∈ is, i < es.length := by
    intro i hi
    have h1 : es[i]? ∈ is.map (fun i => es[i]?) := List.mem_map.mpr ⟨i, hi, rfl⟩
    rw [hsel] at h1
    obtain ⟨q, -, hq⟩ := List.mem_map.mp h1
    exact (List.getElem?_eq_some_iff.mp hq.symm).1
  have hsel2 : is.map (fun i => (es ++ tl)[i]?) = wc.map some := by
    rw [← hsel]
    exact List.map_congr_left (fun i hi => List.getElem?_append_left (hlt i hi))
  have hPc := va_P.selm hP hsel2
  have hDc := va_D.sub hD is hnd hsel2
  have hFc := va_free (wc := wc) hD hS hC.2.2.2.2.2.2.1 is hsel2
  refine va_calld (va_runS (As := As) (rest := st) ⟨hC.1, hC.2.1, hC.2.2.1, hC.2.2.2.1, hC.2.2.2.2.1⟩ (hM H.size) (va_cwS nA hC.2.2.2.2.1 hG hw hrm.1 hrm.2 hd hR) ⟨fun a U g mk q => by obtain ⟨q0, q1, qP, qK, qD, qN⟩ := q; exact ⟨q0, q1, qP, va_K.moved (u := U) (U := U.calling g mk a) (Vm.Alike.refl U.vm) qK, qD, qN.call⟩, fun U hU hW => ⟨rfl, by rw [hU], by rw [hU]; exact hPc, va_K.moved hW.alike hC.2.2.2.2.2.1, hDc.weaken (fun _ _ _ _ => trivial), hC.2.2.2.2.2.2.2.2.2.warm hW⟩⟩ rfl hnA hl.1 hst (lv_room hcat) hdg ⟨hRc.1, hRc.2⟩) hS (fun q _ h => hFc q h) hFc (fun r2 u t H1 locs1 ht hvm hr2 hB hz1 hk1 hS1 => ?_)
  subst hr2; obtain ⟨hP1, hK1, hD1⟩ := hB
  rw [ht] at hP1
  obtain ⟨hP2, hD2⟩ := x_frame hP hD hsel2 hadr hk1 hP1
  rw [x_in_app es tl is w' hlt] at hP2 hD2
  exact k H1 locs1 ls hP2 hD2 hS1 hl
theorem x_callSv (n nA : Nat) (is : List Nat) (es' : va_W) (hC : XC p s m args meth c D A nL tys own cc Ts ret) {y : MethodName} {bytes : ByteArray} {maxL index : Nat} {rt : Option FieldType} {wsy ws' : List Cond} {rm : Room} {As st0 : List Value} {wc w' : va_W}  (hM : Cv l y wsy rm D tys As wc w') (hG : GoodIn Ts (va_wsS own index y wsy)) (hw : wsy = Cond.code y bytes maxL rt :: ws') (hrm : rm.cells = 0 ∧ rm.slots = 0) (hd : y.cls ≠ "java/lang/invoke/MethodHandle" ∧ y.cls ≠ "java/lang/invoke/VarHandle" ∧ (parseMethodDescriptor y.desc).map (fun d => d.parameters.length) = some nA) (hR : rm.frames + 1 ≤ R.frames ∧ 8 + (maxL + 11) + rm.locals ≤ R.locals) (hnA : As.length = nA) (hsel : is.map (fun i => es[i]?) = wc.map some) (hnd : va_nd is = true) (hadr : w'.map Prod.fst = wc.map Prod.fst) (hes : x_in es is w' = es') (hst : st0 = As.reverse ++ st) (hcat : (st.map fun v => v.category).sum ≤ 8) (hRc : cells + 0 ≤ R.cells ∧ slots + 0 ≤ R.slots) (hdg : decode cc pc = .ok (.invokestatic index, 3)) (hn : pc + 3 = n)
    (k : XW p l e R s m args below meth c D A nL cells slots Q es' tl lv n st) : XW p l e R s m args below meth c D A nL cells slots Q es tl lv pc st0 := by
  subst hn; subst hes
  intro H locs ls hP hD hS hl
  have hlt : ∀ i ∈ is, i < es.length := by
    intro i hi
    have h1 : es[i]? ∈ is.map (fun i => es[i]?) := List.mem_map.mpr ⟨i, hi, rfl⟩
    rw [hsel] at h1
    obtain ⟨q, -, hq⟩ := List.mem_map.mp h1
    exact (List.getElem?_eq_some_iff.mp hq.symm).1
  have hsel2 : is.map (fun i => (es ++ tl)[i]?) = wc.map some := by
    rw [← hsel]
    exact List.map_congr_left (fun i hi => List.getElem?_append_left (hlt i hi))
  have hPc := va_P.selm hP hsel2
  have hDc := va_D.sub hD is hnd hsel2
  have hFc := va_free (wc := wc) hD hS hC.2.2.2.2.2.2.1 is hsel2
  refine va_callv (va_runS (As := As) (rest := st) ⟨hC.1, hC.2.1, hC.2.2.1, hC.2.2.2.1, hC.2.2.2.2.1⟩ (hM H.size) (va_cwS nA hC.2.2.2.2.1 hG hw hrm.1 hrm.2 hd hR) ⟨fun a U g mk q => by obtain ⟨q0, q1, qP, qK, qD, qN⟩ := q; exact ⟨q0, q1, qP, va_K.moved (u := U) (U := U.calling g mk a) (Vm.Alike.refl U.vm) qK, qD, qN.call⟩, fun U hU hW => ⟨rfl, by rw [hU], by rw [hU]; exact hPc, va_K.moved hW.alike hC.2.2.2.2.2.1, hDc.weaken (fun _ _ _ _ => trivial), hC.2.2.2.2.2.2.2.2.2.warm hW⟩⟩ rfl hnA hl.1 hst (lv_room hcat) hdg ⟨hRc.1, hRc.2⟩) hS (fun q _ h => hFc q h) hFc (fun u t H1 locs1 ht hvm hr2 hB hz1 hk1 hS1 => ?_)
  obtain ⟨hP1, hK1, hD1⟩ := hB
  rw [ht] at hP1
  obtain ⟨hP2, hD2⟩ := x_frame hP hD hsel2 hadr hk1 hP1
  rw [x_in_app es tl is w' hlt] at hP2 hD2
  exact k H1 locs1 ls hP2 hD2 hS1 hl
theorem x_callNi (n nA : Nat) (is : List Nat) (es' : va_W) (hC : XC p s m args meth c D A nL tys own cc Ts ret) {y : MethodName} {bytes : ByteArray} {maxL index : Nat} {rt : Option FieldType} {wsy ws' : List Cond} {rm : Room} {As st0 : List Value} {wc w' : va_W} {r : Int32}  {host : String} (hM : Ci l y wsy rm D tys As wc w' r) (hq : (own, index, y, host) ∈ xnws) (hsta : Cond.static y ∈ Ts) (hini : Cond.initialized y.cls ∈ Ts) (hG : GoodIn Ts (wsy)) (hw : wsy = Cond.code y bytes maxL rt :: ws') (hrm : rm.cells = 0 ∧ rm.slots = 0) (hd : y.cls ≠ "java/lang/invoke/MethodHandle" ∧ y.cls ≠ "java/lang/invoke/VarHandle" ∧ (parseMethodDescriptor y.desc).map (fun d => d.parameters.length) = some nA) (hR : rm.frames + 1 ≤ R.frames ∧ 8 + (maxL + 11) + rm.locals ≤ R.locals) (hnA : As.length = nA) (hsel : is.map (fun i => es[i]?) = wc.map some) (hnd : va_nd is = true) (hadr : w'.map Prod.fst = wc.map Prod.fst) (hes : x_in es is w' = es') (hst : st0 = As.reverse ++ st) (hcat : (st.map fun v => v.category).sum ≤ 8) (hRc : cells + 0 ≤ R.cells ∧ slots + 0 ≤ R.slots) (hdg : decode cc pc = .ok (.invokestatic index, 3)) (hn : pc + 3 = n)
    (k : XW p l e R s m args below meth c D A nL cells slots Q es' tl lv n (.int r :: st)) : XW p l e R s m args below meth c D A nL cells slots Q es tl lv pc st0 := by
  subst hn; subst hes
  intro H locs ls hP hD hS hl
  have hlt : ∀ i ∈ is, i < es.length := by
    intro i hi
    have h1 : es[i]? ∈ is.map (fun i => es[i]?) := List.mem_map.mpr ⟨i, hi, rfl⟩
    rw [hsel] at h1
    obtain ⟨q, -, hq⟩ := List.mem_map.mp h1
    exact (List.getElem?_eq_some_iff.mp hq.symm).1
  have hsel2 : is.map (fun i => (es ++ tl)[i]?) = wc.map some := by
    rw [← hsel]
    exact List.map_congr_left (fun i hi => List.getElem?_append_left (hlt i hi))
  have hPc := va_P.selm hP hsel2
  have hDc := va_D.sub hD is hnd hsel2
  have hFc := va_free (wc := wc) hD hS hC.2.2.2.2.2.2.1 is hsel2
  refine va_calli (va_runSN (As := As) (rest := st) ⟨hC.1, hC.2.1, hC.2.2.1, hC.2.2.2.1, hC.2.2.2.2.1⟩ (hM H.size) ⟨va_cnB (host := host) nA hC.2.2.2.2.1 hG hw hrm.1 hrm.2 (hC.2.2.2.2.2.2.2.2.2.1 _ hq) (hC.2.2.2.2.1 _ hini) hd hR, hC.2.2.2.2.1 _ hsta, trivial⟩ ⟨fun a U g mk q => by obtain ⟨q0, q1, qP, qK, qD, qN⟩ := q; exact ⟨q0, q1, qP, va_K.moved (u := U) (U := U.calling g mk a) (Vm.Alike.refl U.vm) qK, qD, qN.call⟩, fun U hU hW => ⟨rfl, by rw [hU], by rw [hU]; exact hPc, va_K.moved hW.alike hC.2.2.2.2.2.1, hDc.weaken (fun _ _ _ _ => trivial), hC.2.2.2.2.2.2.2.2.2.warm hW⟩⟩ rfl hnA hl.1 hst (lv_room hcat) hdg ⟨hRc.1, hRc.2⟩) hS (fun q _ h => hFc q h) hFc (fun r2 u t H1 locs1 ht hvm hr2 hB hz1 hk1 hS1 => ?_)
  subst hr2; obtain ⟨hP1, hK1, hD1⟩ := hB
  rw [ht] at hP1
  obtain ⟨hP2, hD2⟩ := x_frame hP hD hsel2 hadr hk1 hP1
  rw [x_in_app es tl is w' hlt] at hP2 hD2
  exact k H1 locs1 ls hP2 hD2 hS1 hl
end
