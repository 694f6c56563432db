theorem hd_X8_in : yX8_in.cls ≠ "java/lang/invoke/MethodHandle" ∧ yX8_in.cls ≠ "java/lang/invoke/VarHandle" ∧ (parseMethodDescriptor yX8_in.desc).map (fun d => d.parameters.length) = some 3 := by decide +kernel
noncomputable def f_X8_in (p1 : Int64) (p2 : Int64) (p3 : Int64) : Option (Int32) := if p1 < p2 then (some ((0 : Int32))) else (if p3 < p1 then (some ((0 : Int32))) else (some ((1 : Int32))))
set_option maxHeartbeats 4000000 in
set_option maxRecDepth 100000 in
theorem c_X8_in (l : Launch) (D : va_G) (cI cJ cQ : ClassId) (p1 : Int64) (p2 : Int64) (p3 : Int64) (R0 : Int32) (hf : f_X8_in p1 p2 p3 = some R0) : Ci l yX8_in wsX8_in ({ frames := 1, cells := 0, slots := 0, locals := 60 } : Room) D [(cI, .int), (cJ, .long), (cQ, .object "WhisperCrowd$State")] [.long p1, .long p2, .long p3] [] [] R0 := by
  refine x_enti (cc := cX8_in) (maxL := 6) (rt := (some .boolean)) (lv := [(0, .long p1), (2, .long p2), (4, .long p3)]) (by decide) rfl (Nat.le_of_ble_eq_true rfl) rfl ?_
  intro p e s m args below meth c A Q hQ hC
  unfold f_X8_in at hf
  refine x_lload_n 1 0 hC dX8_in_0 rfl rfl rfl ?_
  refine x_lload_n 2 1 hC dX8_in_1 rfl rfl rfl ?_
  refine x_lcmp_lt 17 6 hC dX8_in_2 dX8_in_3 (by decide) rfl (fun c_1 => ?_) (fun c_1 => ?_)
  · have hf := if_t hf c_1
    refine x_iconst 18 hC (0 : Int32) dX8_in_17 rfl (by decide) ?_
    cases hf
    exact x_zret hC rfl dX8_in_18 hQ rfl rfl
  · have hf := if_f hf c_1
    refine x_lload_n 7 0 hC dX8_in_6 rfl rfl rfl ?_
    refine x_lload 9 2 hC dX8_in_7 rfl rfl ?_
    refine x_lcmp_gt 17 13 hC dX8_in_9 dX8_in_10 (by decide) rfl (fun c_2 => ?_) (fun c_2 => ?_)
    · have hf := if_t hf c_2
      refine x_iconst 18 hC (0 : Int32) dX8_in_17 rfl (by decide) ?_
      cases hf
      exact x_zret hC rfl dX8_in_18 hQ rfl rfl
    · have hf := if_f hf c_2
      refine x_iconst 14 hC (1 : Int32) dX8_in_13 rfl (by decide) ?_
      refine x_goto 18 hC dX8_in_14 (by decide) ?_
      cases hf
      exact x_zret hC rfl dX8_in_18 hQ rfl rfl

theorem hd_X8_keep : yX8_keep.cls = RX8 ∧ yX8_keep.cls ≠ "java/lang/invoke/MethodHandle" ∧ yX8_keep.cls ≠ "java/lang/invoke/VarHandle" ∧ (parseMethodDescriptor yX8_keep.desc).map (fun d => d.parameters.length) = some 0 := by decide +kernel
theorem in_X8_keep_X8 : ∀ w ∈ u_ws RX8 TX8 13, w ∈ wsX8_keep := fun w h => List.mem_cons_of_mem _ (List.mem_append_right _ h)
noncomputable def f_X8_keep_c52 (v_s : Nat → Int64) : Nat → Int32 → (Nat → Int64) → Int32 → Option (Int32 × (Nat → Int64))
  | 0, _, _, _ => none
  | n + 1, k52_undos, k52_kept, k52_l1 => if (613 : Int32) ≤ k52_l1 then (nm (k52_undos + (1 : Int32)) fun x_2 => some (x_2, k52_kept)) else (ck k52_l1 613 <| ck (((613 : Int32) * k52_undos) + k52_l1) 12260 <| nm (vp_updL k52_kept (((613 : Int32) * k52_undos) + k52_l1).toNatClampNeg (v_s k52_l1.toNatClampNeg)) fun g_5 => nm (k52_l1 + (1 : Int32)) fun x_6 => (fun k52_undos k52_kept k52_l1 => f_X8_keep_c52 v_s n k52_undos k52_kept k52_l1) k52_undos g_5 x_6)
noncomputable def f_X8_keep_c50 (v_s : Nat → Int64) (k50_undos : Int32) (k50_kept : Nat → Int64) : Option (Int32 × (Nat → Int64)) := f_X8_keep_c52 v_s fu k50_undos k50_kept (0 : Int32)
noncomputable def f_X8_keep_c11 (v_s : Nat → Int64) : Nat → Int32 → (Nat → Int64) → Int32 → Option (Int32 × (Nat → Int64))
  | 0, _, _, _ => none
  | n + 1, k11_undos, k11_kept, k11_l1 => if (11647 : Int32) ≤ k11_l1 then (nm (k11_undos - (1 : Int32)) fun x_8 => f_X8_keep_c50 v_s x_8 k11_kept) else (ck (k11_l1 + (613 : Int32)) 12260 <| ck k11_l1 12260 <| nm (vp_updL k11_kept k11_l1.toNatClampNeg (k11_kept (k11_l1 + (613 : Int32)).toNatClampNeg)) fun g_11 => nm (k11_l1 + (1 : Int32)) fun x_12 => (fun k11_undos k11_kept k11_l1 => f_X8_keep_c11 v_s n k11_undos k11_kept k11_l1) k11_undos g_11 x_12)
noncomputable def f_X8_keep (v_s : Nat → Int64) (v_undos : Int32) (v_kept : Nat → Int64) : Option (Int32 × (Nat → Int64)) := if ¬ v_undos = (20 : Int32) then (f_X8_keep_c50 v_s v_undos v_kept) else (f_X8_keep_c11 v_s fu v_undos v_kept (0 : Int32))
set_option maxHeartbeats 4000000 in
set_option maxRecDepth 100000 in
theorem c_X8_keep (l : Launch) (D : va_G) (cI cJ cQ : ClassId) (a_this : Nat) (a_kept : Nat) (a_s : Nat) (r_known : Value) (r_whose : Value) (r_lesser : Value) (r_other : Value) (r_sums : Value) (r_weights : Value) (r_row : Value) (r_plan : Value) (v_undos : Int32) (v_open : Int32) (v_planned : Int32) (v_kept : Nat → Int64) (v_s : Nat → Int64) (R0 : Int32 × (Nat → Int64)) (hf : f_X8_keep v_s v_undos v_kept = some R0) : Cv l yX8_keep wsX8_keep ({ frames := 1, cells := 0, slots := 0, locals := 60 } : Room) D [(cI, .int), (cJ, .long), (cQ, .object "WhisperCrowd$State")] [.ref a_this] [(a_this, .inr (8, [.ref a_s, .ref a_kept, .int v_undos, r_known, r_whose, r_lesser, r_other, .int v_open, r_sums, r_weights, r_row, r_plan, .int v_planned])), (a_kept, .inl (cJ, 12260, .inr (.inl v_kept))), (a_s, .inl (cJ, 613, .inr (.inl v_s)))] [(a_this, .inr (8, [.ref a_s, .ref a_kept, .int R0.1, r_known, r_whose, r_lesser, r_other, .int v_open, r_sums, r_weights, r_row, r_plan, .int v_planned])), (a_kept, .inl (cJ, 12260, .inr (.inl R0.2))), (a_s, .inl (cJ, 613, .inr (.inl v_s)))] := by
  refine x_entv (cc := cX8_keep) (maxL := 2) (rt := none) (lv := [(0, .ref a_this)]) (by decide) rfl (Nat.le_of_ble_eq_true rfl) rfl ?_
  intro p e s m args below meth c A Q hQ hC
  have J_52 : ∀ (n : Nat) (k52_undos : Int32) (k52_kept : Nat → Int64) (k52_l1 : Int32), f_X8_keep_c52 v_s n k52_undos k52_kept k52_l1 = some R0 → XW p l e ({ frames := 1, cells := 0, slots := 0, locals := 60 } : Room) s m args below meth c D A 2 0 0 Q [(a_this, .inr (8, [.ref a_s, .ref a_kept, .int k52_undos, r_known, r_whose, r_lesser, r_other, .int v_open, r_sums, r_weights, r_row, r_plan, .int v_planned])), (a_kept, .inl (cJ, 12260, .inr (.inl k52_kept))), (a_s, .inl (cJ, 613, .inr (.inl v_s)))] [] [(0, .ref a_this), (1, .int k52_l1)] 52 [] := by
    intro n
    induction n with
    | zero => intro k52_undos k52_kept k52_l1 hf; exact nomatch (show (none : Option (Int32 × (Nat → Int64))) = some R0 from hf)
    | succ n_52 ih_52 =>
      intro k52_undos k52_kept k52_l1 hf
      unfold f_X8_keep_c52 at hf
      refine x_iload_n 53 1 hC dX8_keep_52 rfl rfl rfl ?_
      refine x_sipush 56 hC (613 : Int32) dX8_keep_53 rfl (by decide) ?_
      refine x_icmp_ge 86 59 hC dX8_keep_56 (by decide) rfl (fun c_1 => ?_) (fun c_1 => ?_)
      · have hf := if_t hf c_1
        refine x_aload_n 87 0 hC dX8_keep_86 rfl rfl rfl ?_
        refine x_dup 88 hC dX8_keep_87 rfl rfl ?_
        refine x_get 91 0 2 hC in_X8_keep_X8 rfl rfl (by decide) (List.mem_of_getElem? (i := 1) (by decide +kernel)) rfl rfl dX8_keep_88 rfl ?_
        refine x_iconst 92 hC (1 : Int32) dX8_keep_91 rfl (by decide) ?_
        refine x_iadd 93 hC dX8_keep_92 rfl ?_
        obtain ⟨x_2, e_x_2, hf⟩ := nmx_e hf
        refine x_put 96 0 2 [(a_this, .inr (8, [.ref a_s, .ref a_kept, .int x_2, r_known, r_whose, r_lesser, r_other, .int v_open, r_sums, r_weights, r_row, r_plan, .int v_planned])), (a_kept, .inl (cJ, 12260, .inr (.inl k52_kept))), (a_s, .inl (cJ, 613, .inr (.inl v_s)))] hC in_X8_keep_X8 tyX8_ok nmX8 rfl rfl (by decide) (List.mem_of_getElem? (i := 1) (by decide +kernel)) rfl rfl rfl (congrArg Value.int e_x_2) rfl rfl (Nat.le_of_ble_eq_true rfl) rfl dX8_keep_93 rfl ?_
        cases hf
        exact x_vret hC dX8_keep_96 hQ rfl
      · have hf := if_f hf c_1
        refine x_aload_n 60 0 hC dX8_keep_59 rfl rfl rfl ?_
        refine x_get 63 0 1 hC in_X8_keep_X8 rfl rfl (by decide) (List.mem_of_getElem? (i := 2) (by decide +kernel)) rfl rfl dX8_keep_60 rfl ?_
        refine x_sipush 66 hC (613 : Int32) dX8_keep_63 rfl (by decide) ?_
        refine x_aload_n 67 0 hC dX8_keep_66 rfl rfl rfl ?_
        refine x_get 70 0 2 hC in_X8_keep_X8 rfl rfl (by decide) (List.mem_of_getElem? (i := 1) (by decide +kernel)) rfl rfl dX8_keep_67 rfl ?_
        refine x_imul 71 hC dX8_keep_70 rfl ?_
        refine x_iload_n 72 1 hC dX8_keep_71 rfl rfl rfl ?_
        refine x_iadd 73 hC dX8_keep_72 rfl ?_
        refine x_aload_n 74 0 hC dX8_keep_73 rfl rfl rfl ?_
        refine x_get 77 0 0 hC in_X8_keep_X8 rfl rfl (by decide) (List.mem_of_getElem? (i := 3) (by decide +kernel)) rfl rfl dX8_keep_74 rfl ?_
        refine x_iload_n 78 1 hC dX8_keep_77 rfl rfl rfl ?_
        obtain ⟨h_3, hf⟩ := ck_e hf
        refine x_lald 79 2 1 hC rfl rfl h_3 dX8_keep_78 rfl ?_
        obtain ⟨h_4, hf⟩ := ck_e hf
        obtain ⟨g_5, e_g_5, hf⟩ := nmx_e hf
        refine x_last 80 1 1 [(a_this, .inr (8, [.ref a_s, .ref a_kept, .int k52_undos, r_known, r_whose, r_lesser, r_other, .int v_open, r_sums, r_weights, r_row, r_plan, .int v_planned])), (a_kept, .inl (cJ, 12260, .inr (.inl g_5))), (a_s, .inl (cJ, 613, .inr (.inl v_s)))] hC rfl rfl h_4 e_g_5 rfl dX8_keep_79 rfl ?_
        obtain ⟨x_6, e_x_6, hf⟩ := nmx_e hf
        refine x_iinc 83 1 [(1, .int x_6), (0, .ref a_this)] hC dX8_keep_80 rfl rfl e_x_6 (by decide) (by decide) rfl ?_
        refine x_goto 52 hC dX8_keep_83 (by decide) ?_
        refine x_lv [(0, .ref a_this), (1, .int x_6)] [1, 0] rfl ?_
        exact ih_52 k52_undos g_5 x_6 hf
  have J_50 : ∀ (k50_undos : Int32) (k50_kept : Nat → Int64), f_X8_keep_c50 v_s k50_undos k50_kept = some R0 → XW p l e ({ frames := 1, cells := 0, slots := 0, locals := 60 } : Room) s m args below meth c D A 2 0 0 Q [(a_this, .inr (8, [.ref a_s, .ref a_kept, .int k50_undos, r_known, r_whose, r_lesser, r_other, .int v_open, r_sums, r_weights, r_row, r_plan, .int v_planned])), (a_kept, .inl (cJ, 12260, .inr (.inl k50_kept))), (a_s, .inl (cJ, 613, .inr (.inl v_s)))] [] [(0, .ref a_this)] 50 [] := by
    intro k50_undos k50_kept hf
    unfold f_X8_keep_c50 at hf
    refine x_iconst 51 hC (0 : Int32) dX8_keep_50 rfl (by decide) ?_
    refine x_istore_n 52 [(1, .int (0 : Int32)), (0, .ref a_this)] hC dX8_keep_51 rfl rfl rfl (by decide) rfl ?_
    refine x_lv [(0, .ref a_this), (1, .int (0 : Int32))] [1, 0] rfl ?_
    exact J_52 fu k50_undos k50_kept (0 : Int32) hf
  have J_11 : ∀ (n : Nat) (k11_undos : Int32) (k11_kept : Nat → Int64) (k11_l1 : Int32), f_X8_keep_c11 v_s n k11_undos k11_kept k11_l1 = some R0 → XW p l e ({ frames := 1, cells := 0, slots := 0, locals := 60 } : Room) s m args below meth c D A 2 0 0 Q [(a_this, .inr (8, [.ref a_s, .ref a_kept, .int k11_undos, r_known, r_whose, r_lesser, r_other, .int v_open, r_sums, r_weights, r_row, r_plan, .int v_planned])), (a_kept, .inl (cJ, 12260, .inr (.inl k11_kept))), (a_s, .inl (cJ, 613, .inr (.inl v_s)))] [] [(0, .ref a_this), (1, .int k11_l1)] 11 [] := by
    intro n
    induction n with
    | zero => intro k11_undos k11_kept k11_l1 hf; exact nomatch (show (none : Option (Int32 × (Nat → Int64))) = some R0 from hf)
    | succ n_11 ih_11 =>
      intro k11_undos k11_kept k11_l1 hf
      unfold f_X8_keep_c11 at hf
      refine x_iload_n 12 1 hC dX8_keep_11 rfl rfl rfl ?_
      refine x_sipush 15 hC (11647 : Int32) dX8_keep_12 rfl (by decide) ?_
      refine x_icmp_ge 40 18 hC dX8_keep_15 (by decide) rfl (fun c_7 => ?_) (fun c_7 => ?_)
      · have hf := if_t hf c_7
        refine x_aload_n 41 0 hC dX8_keep_40 rfl rfl rfl ?_
        refine x_dup 42 hC dX8_keep_41 rfl rfl ?_
        refine x_get 45 0 2 hC in_X8_keep_X8 rfl rfl (by decide) (List.mem_of_getElem? (i := 1) (by decide +kernel)) rfl rfl dX8_keep_42 rfl ?_
        refine x_iconst 46 hC (1 : Int32) dX8_keep_45 rfl (by decide) ?_
        refine x_isub 47 hC dX8_keep_46 rfl ?_
        obtain ⟨x_8, e_x_8, hf⟩ := nmx_e hf
        refine x_put 50 0 2 [(a_this, .inr (8, [.ref a_s, .ref a_kept, .int x_8, r_known, r_whose, r_lesser, r_other, .int v_open, r_sums, r_weights, r_row, r_plan, .int v_planned])), (a_kept, .inl (cJ, 12260, .inr (.inl k11_kept))), (a_s, .inl (cJ, 613, .inr (.inl v_s)))] hC in_X8_keep_X8 tyX8_ok nmX8 rfl rfl (by decide) (List.mem_of_getElem? (i := 1) (by decide +kernel)) rfl rfl rfl (congrArg Value.int e_x_8) rfl rfl (Nat.le_of_ble_eq_true rfl) rfl dX8_keep_47 rfl ?_
        refine x_lv [(0, .ref a_this)] [0] rfl ?_
        exact J_50 x_8 k11_kept hf
      · have hf := if_f hf c_7
        refine x_aload_n 19 0 hC dX8_keep_18 rfl rfl rfl ?_
        refine x_get 22 0 1 hC in_X8_keep_X8 rfl rfl (by decide) (List.mem_of_getElem? (i := 2) (by decide +kernel)) rfl rfl dX8_keep_19 rfl ?_
        refine x_iload_n 23 1 hC dX8_keep_22 rfl rfl rfl ?_
        refine x_aload_n 24 0 hC dX8_keep_23 rfl rfl rfl ?_
        refine x_get 27 0 1 hC in_X8_keep_X8 rfl rfl (by decide) (List.mem_of_getElem? (i := 2) (by decide +kernel)) rfl rfl dX8_keep_24 rfl ?_
        refine x_iload_n 28 1 hC dX8_keep_27 rfl rfl rfl ?_
        refine x_sipush 31 hC (613 : Int32) dX8_keep_28 rfl (by decide) ?_
        refine x_iadd 32 hC dX8_keep_31 rfl ?_
        obtain ⟨h_9, hf⟩ := ck_e hf
        refine x_lald 33 1 1 hC rfl rfl h_9 dX8_keep_32 rfl ?_
        obtain ⟨h_10, hf⟩ := ck_e hf
        obtain ⟨g_11, e_g_11, hf⟩ := nmx_e hf
        refine x_last 34 1 1 [(a_this, .inr (8, [.ref a_s, .ref a_kept, .int k11_undos, r_known, r_whose, r_lesser, r_other, .int v_open, r_sums, r_weights, r_row, r_plan, .int v_planned])), (a_kept, .inl (cJ, 12260, .inr (.inl g_11))), (a_s, .inl (cJ, 613, .inr (.inl v_s)))] hC rfl rfl h_10 e_g_11 rfl dX8_keep_33 rfl ?_
        obtain ⟨x_12, e_x_12, hf⟩ := nmx_e hf
        refine x_iinc 37 1 [(1, .int x_12), (0, .ref a_this)] hC dX8_keep_34 rfl rfl e_x_12 (by decide) (by decide) rfl ?_
        refine x_goto 11 hC dX8_keep_37 (by decide) ?_
        refine x_lv [(0, .ref a_this), (1, .int x_12)] [1, 0] rfl ?_
        exact ih_11 k11_undos g_11 x_12 hf
  unfold f_X8_keep at hf
  refine x_aload_n 1 0 hC dX8_keep_0 rfl rfl rfl ?_
  refine x_get 4 0 2 hC in_X8_keep_X8 rfl rfl (by decide) (List.mem_of_getElem? (i := 1) (by decide +kernel)) rfl rfl dX8_keep_1 rfl ?_
  refine x_bipush 6 hC (20 : Int32) dX8_keep_4 rfl (by decide) ?_
  refine x_icmp_ne 50 9 hC dX8_keep_6 (by decide) rfl (fun c_13 => ?_) (fun c_13 => ?_)
  · have hf := if_t hf c_13
    refine x_lv [(0, .ref a_this)] [0] rfl ?_
    exact J_50 v_undos v_kept hf
  · have hf := if_f hf c_13
    refine x_iconst 10 hC (0 : Int32) dX8_keep_9 rfl (by decide) ?_
    refine x_istore_n 11 [(1, .int (0 : Int32)), (0, .ref a_this)] hC dX8_keep_10 rfl rfl rfl (by decide) rfl ?_
    refine x_lv [(0, .ref a_this), (1, .int (0 : Int32))] [1, 0] rfl ?_
    exact J_11 fu v_undos v_kept (0 : Int32) hf

theorem hd_X8_knowsItself : yX8_knowsItself.cls = RX8 ∧ yX8_knowsItself.cls ≠ "java/lang/invoke/MethodHandle" ∧ yX8_knowsItself.cls ≠ "java/lang/invoke/VarHandle" ∧ (parseMethodDescriptor yX8_knowsItself.desc).map (fun d => d.parameters.length) = some 1 := by decide +kernel
theorem in_X8_knowsItself_X8 : ∀ w ∈ u_ws RX8 TX8 13, w ∈ wsX8_knowsItself := fun w h => List.mem_cons_of_mem _ (List.mem_append_right _ h)
noncomputable def f_X8_knowsItself_c38 : Nat → (Nat → Int64) → Int32 → Int32 → Option ((Nat → Int64))
  | 0, _, _, _ => none
  | n + 1, k38_s, k38_l1, k38_l2 => if (10 : Int32) ≤ k38_l2 then (ck ((73 : Int32) + k38_l1) 613 <| nm (vp_updL k38_s ((73 : Int32) + k38_l1).toNatClampNeg ((1 : Int64) <<< (k38_l1.toInt64 &&& 63))) fun g_3 => some (g_3)) else (ck ((73 : Int32) + k38_l2) 613 <| ck ((73 : Int32) + k38_l2) 613 <| nm (vp_updL k38_s ((73 : Int32) + k38_l2).toNatClampNeg ((k38_s ((73 : Int32) + k38_l2).toNatClampNeg) &&& (((1 : Int64) <<< (k38_l1.toInt64 &&& 63)) ^^^ (-1 : Int64)))) fun g_6 => nm (k38_l2 + (1 : Int32)) fun x_7 => (fun k38_s k38_l1 k38_l2 => f_X8_knowsItself_c38 n k38_s k38_l1 k38_l2) g_6 k38_l1 x_7)
noncomputable def f_X8_knowsItself (v_s : Nat → Int64) (p1 : Int32) : Option ((Nat → Int64)) := ck ((23 : Int32) + p1) 613 <| ck ((53 : Int32) + p1) 613 <| nm (vp_updL v_s ((53 : Int32) + p1).toNatClampNeg (v_s ((23 : Int32) + p1).toNatClampNeg)) fun g_10 => ck ((23 : Int32) + p1) 613 <| ck ((63 : Int32) + p1) 613 <| nm (vp_updL g_10 ((63 : Int32) + p1).toNatClampNeg (g_10 ((23 : Int32) + p1).toNatClampNeg)) fun g_13 => f_X8_knowsItself_c38 fu g_13 p1 (0 : Int32)
set_option maxHeartbeats 4000000 in
set_option maxRecDepth 100000 in
theorem c_X8_knowsItself (l : Launch) (D : va_G) (cI cJ cQ : ClassId) (a_this : Nat) (a_s : Nat) (r_kept : Value) (r_known : Value) (r_whose : Value) (r_lesser : Value) (r_other : Value) (r_sums : Value) (r_weights : Value) (r_row : Value) (r_plan : Value) (v_undos : Int32) (v_open : Int32) (v_planned : Int32) (v_s : Nat → Int64) (p1 : Int32) (R0 : (Nat → Int64)) (hf : f_X8_knowsItself v_s p1 = some R0) : Cv l yX8_knowsItself wsX8_knowsItself ({ frames := 1, cells := 0, slots := 0, locals := 60 } : Room) D [(cI, .int), (cJ, .long), (cQ, .object "WhisperCrowd$State")] [.ref a_this, .int p1] [(a_this, .inr (8, [.ref a_s, r_kept, .int v_undos, r_known, r_whose, r_lesser, r_other, .int v_open, r_sums, r_weights, r_row, r_plan, .int v_planned])), (a_s, .inl (cJ, 613, .inr (.inl v_s)))] [(a_this, .inr (8, [.ref a_s, r_kept, .int v_undos, r_known, r_whose, r_lesser, r_other, .int v_open, r_sums, r_weights, r_row, r_plan, .int v_planned])), (a_s, .inl (cJ, 613, .inr (.inl R0)))] := by
  refine x_entv (cc := cX8_knowsItself) (maxL := 3) (rt := none) (lv := [(0, .ref a_this), (1, .int p1)]) (by decide) rfl (Nat.le_of_ble_eq_true rfl) rfl ?_
  intro p e s m args below meth c A Q hQ hC
  have J_38 : ∀ (n : Nat) (k38_s : Nat → Int64) (k38_l1 : Int32) (k38_l2 : Int32), f_X8_knowsItself_c38 n k38_s k38_l1 k38_l2 = some R0 → XW p l e ({ frames := 1, cells := 0, slots := 0, locals := 60 } : Room) s m args below meth c D A 3 0 0 Q [(a_this, .inr (8, [.ref a_s, r_kept, .int v_undos, r_known, r_whose, r_lesser, r_other, .int v_open, r_sums, r_weights, r_row, r_plan, .int v_planned])), (a_s, .inl (cJ, 613, .inr (.inl k38_s)))] [] [(0, .ref a_this), (1, .int k38_l1), (2, .int k38_l2)] 38 [] := by
    intro n
    induction n with
    | zero => intro k38_s k38_l1 k38_l2 hf; exact nomatch (show (none : Option ((Nat → Int64))) = some R0 from hf)
    | succ n_38 ih_38 =>
      intro k38_s k38_l1 k38_l2 hf
      unfold f_X8_knowsItself_c38 at hf
      refine x_iload_n 39 2 hC dX8_knowsItself_38 rfl rfl rfl ?_
      refine x_bipush 41 hC (10 : Int32) dX8_knowsItself_39 rfl (by decide) ?_
      refine x_icmp_ge 69 44 hC dX8_knowsItself_41 (by decide) rfl (fun c_1 => ?_) (fun c_1 => ?_)
      · have hf := if_t hf c_1
        refine x_aload_n 70 0 hC dX8_knowsItself_69 rfl rfl rfl ?_
        refine x_get 73 0 0 hC in_X8_knowsItself_X8 rfl rfl (by decide) (List.mem_of_getElem? (i := 1) (by decide +kernel)) rfl rfl dX8_knowsItself_70 rfl ?_
        refine x_bipush 75 hC (73 : Int32) dX8_knowsItself_73 rfl (by decide) ?_
        refine x_iload_n 76 1 hC dX8_knowsItself_75 rfl rfl rfl ?_
        refine x_iadd 77 hC dX8_knowsItself_76 rfl ?_
        refine x_lconst 78 hC (1 : Int64) dX8_knowsItself_77 rfl (by decide) ?_
        refine x_iload_n 79 1 hC dX8_knowsItself_78 rfl rfl rfl ?_
        refine x_lshl 80 hC dX8_knowsItself_79 rfl ?_
        obtain ⟨h_2, hf⟩ := ck_e hf
        obtain ⟨g_3, e_g_3, hf⟩ := nmx_e hf
        refine x_last 81 1 1 [(a_this, .inr (8, [.ref a_s, r_kept, .int v_undos, r_known, r_whose, r_lesser, r_other, .int v_open, r_sums, r_weights, r_row, r_plan, .int v_planned])), (a_s, .inl (cJ, 613, .inr (.inl g_3)))] hC rfl rfl h_2 e_g_3 rfl dX8_knowsItself_80 rfl ?_
        cases hf
        exact x_vret hC dX8_knowsItself_81 hQ rfl
      · have hf := if_f hf c_1
        refine x_aload_n 45 0 hC dX8_knowsItself_44 rfl rfl rfl ?_
        refine x_get 48 0 0 hC in_X8_knowsItself_X8 rfl rfl (by decide) (List.mem_of_getElem? (i := 1) (by decide +kernel)) rfl rfl dX8_knowsItself_45 rfl ?_
        refine x_bipush 50 hC (73 : Int32) dX8_knowsItself_48 rfl (by decide) ?_
        refine x_iload_n 51 2 hC dX8_knowsItself_50 rfl rfl rfl ?_
        refine x_iadd 52 hC dX8_knowsItself_51 rfl ?_
        refine x_dup2_11 53 hC dX8_knowsItself_52 rfl rfl rfl ?_
        obtain ⟨h_4, hf⟩ := ck_e hf
        refine x_lald 54 1 1 hC rfl rfl h_4 dX8_knowsItself_53 rfl ?_
        refine x_lconst 55 hC (1 : Int64) dX8_knowsItself_54 rfl (by decide) ?_
        refine x_iload_n 56 1 hC dX8_knowsItself_55 rfl rfl rfl ?_
        refine x_lshl 57 hC dX8_knowsItself_56 rfl ?_
        refine x_ldc2 60 hC (v := (-1 : Int64)) (List.mem_of_getElem? (i := 2) (by decide +kernel)) dX8_knowsItself_57 rfl ?_
        refine x_lxor 61 hC dX8_knowsItself_60 rfl ?_
        refine x_land 62 hC dX8_knowsItself_61 rfl ?_
        obtain ⟨h_5, hf⟩ := ck_e hf
        obtain ⟨g_6, e_g_6, hf⟩ := nmx_e hf
        refine x_last 63 1 1 [(a_this, .inr (8, [.ref a_s, r_kept, .int v_undos, r_known, r_whose, r_lesser, r_other, .int v_open, r_sums, r_weights, r_row, r_plan, .int v_planned])), (a_s, .inl (cJ, 613, .inr (.inl g_6)))] hC rfl rfl h_5 e_g_6 rfl dX8_knowsItself_62 rfl ?_
        obtain ⟨x_7, e_x_7, hf⟩ := nmx_e hf
        refine x_iinc 66 2 [(2, .int x_7), (0, .ref a_this), (1, .int k38_l1)] hC dX8_knowsItself_63 rfl rfl e_x_7 (by decide) (by decide) rfl ?_
        refine x_goto 38 hC dX8_knowsItself_66 (by decide) ?_
        refine x_lv [(0, .ref a_this), (1, .int k38_l1), (2, .int x_7)] [1, 2, 0] rfl ?_
        exact ih_38 g_6 k38_l1 x_7 hf
  unfold f_X8_knowsItself at hf
  refine x_aload_n 1 0 hC dX8_knowsItself_0 rfl rfl rfl ?_
  refine x_get 4 0 0 hC in_X8_knowsItself_X8 rfl rfl (by decide) (List.mem_of_getElem? (i := 1) (by decide +kernel)) rfl rfl dX8_knowsItself_1 rfl ?_
  refine x_bipush 6 hC (53 : Int32) dX8_knowsItself_4 rfl (by decide) ?_
  refine x_iload_n 7 1 hC dX8_knowsItself_6 rfl rfl rfl ?_
  refine x_iadd 8 hC dX8_knowsItself_7 rfl ?_
  refine x_aload_n 9 0 hC dX8_knowsItself_8 rfl rfl rfl ?_
  refine x_get 12 0 0 hC in_X8_knowsItself_X8 rfl rfl (by decide) (List.mem_of_getElem? (i := 1) (by decide +kernel)) rfl rfl dX8_knowsItself_9 rfl ?_
  refine x_bipush 14 hC (23 : Int32) dX8_knowsItself_12 rfl (by decide) ?_
  refine x_iload_n 15 1 hC dX8_knowsItself_14 rfl rfl rfl ?_
  refine x_iadd 16 hC dX8_knowsItself_15 rfl ?_
  obtain ⟨h_8, hf⟩ := ck_e hf
  refine x_lald 17 1 1 hC rfl rfl h_8 dX8_knowsItself_16 rfl ?_
  obtain ⟨h_9, hf⟩ := ck_e hf
  obtain ⟨g_10, e_g_10, hf⟩ := nmx_e hf
  refine x_last 18 1 1 [(a_this, .inr (8, [.ref a_s, r_kept, .int v_undos, r_known, r_whose, r_lesser, r_other, .int v_open, r_sums, r_weights, r_row, r_plan, .int v_planned])), (a_s, .inl (cJ, 613, .inr (.inl g_10)))] hC rfl rfl h_9 e_g_10 rfl dX8_knowsItself_17 rfl ?_
  refine x_aload_n 19 0 hC dX8_knowsItself_18 rfl rfl rfl ?_
  refine x_get 22 0 0 hC in_X8_knowsItself_X8 rfl rfl (by decide) (List.mem_of_getElem? (i := 1) (by decide +kernel)) rfl rfl dX8_knowsItself_19 rfl ?_
  refine x_bipush 24 hC (63 : Int32) dX8_knowsItself_22 rfl (by decide) ?_
  refine x_iload_n 25 1 hC dX8_knowsItself_24 rfl rfl rfl ?_
  refine x_iadd 26 hC dX8_knowsItself_25 rfl ?_
  refine x_aload_n 27 0 hC dX8_knowsItself_26 rfl rfl rfl ?_
  refine x_get 30 0 0 hC in_X8_knowsItself_X8 rfl rfl (by decide) (List.mem_of_getElem? (i := 1) (by decide +kernel)) rfl rfl dX8_knowsItself_27 rfl ?_
  refine x_bipush 32 hC (23 : Int32) dX8_knowsItself_30 rfl (by decide) ?_
  refine x_iload_n 33 1 hC dX8_knowsItself_32 rfl rfl rfl ?_
  refine x_iadd 34 hC dX8_knowsItself_33 rfl ?_
  obtain ⟨h_11, hf⟩ := ck_e hf
  refine x_lald 35 1 1 hC rfl rfl h_11 dX8_knowsItself_34 rfl ?_
  obtain ⟨h_12, hf⟩ := ck_e hf
  obtain ⟨g_13, e_g_13, hf⟩ := nmx_e hf
  refine x_last 36 1 1 [(a_this, .inr (8, [.ref a_s, r_kept, .int v_undos, r_known, r_whose, r_lesser, r_other, .int v_open, r_sums, r_weights, r_row, r_plan, .int v_planned])), (a_s, .inl (cJ, 613, .inr (.inl g_13)))] hC rfl rfl h_12 e_g_13 rfl dX8_knowsItself_35 rfl ?_
  refine x_iconst 37 hC (0 : Int32) dX8_knowsItself_36 rfl (by decide) ?_
  refine x_istore_n 38 [(2, .int (0 : Int32)), (0, .ref a_this), (1, .int p1)] hC dX8_knowsItself_37 rfl rfl rfl (by decide) rfl ?_
  refine x_lv [(0, .ref a_this), (1, .int p1), (2, .int (0 : Int32))] [1, 2, 0] rfl ?_
  exact J_38 fu g_13 p1 (0 : Int32) hf

theorem hd_X8_drawn : yX8_drawn.cls = RX8 ∧ yX8_drawn.cls ≠ "java/lang/invoke/MethodHandle" ∧ yX8_drawn.cls ≠ "java/lang/invoke/VarHandle" ∧ (parseMethodDescriptor yX8_drawn.desc).map (fun d => d.parameters.length) = some 0 := by decide +kernel
theorem in_X8_drawn_X8 : ∀ w ∈ u_ws RX8 TX8 13, w ∈ wsX8_drawn := fun w h => List.mem_cons_of_mem _ (List.mem_append_right _ h)
noncomputable def f_X8_drawn (v_s : Nat → Int64) : Option ((Nat → Int64) × Int32) := ck (1 : Int32) 613 <| ck (1 : Int32) 613 <| nm (vp_updL v_s (1 : Int32).toNatClampNeg ((((v_s (1 : Int32).toNatClampNeg) * (1103515245 : Int64)) + (12345 : Int64)) &&& (2147483647 : Int64))) fun g_3 => ck (1 : Int32) 613 <| some (g_3, ((g_3 (1 : Int32).toNatClampNeg).toInt32))
set_option maxHeartbeats 4000000 in
set_option maxRecDepth 100000 in
theorem c_X8_drawn (l : Launch) (D : va_G) (cI cJ cQ : ClassId) (a_this : Nat) (a_s : Nat) (r_kept : Value) (r_known : Value) (r_whose : Value) (r_lesser : Value) (r_other : Value) (r_sums : Value) (r_weights : Value) (r_row : Value) (r_plan : Value) (v_undos : Int32) (v_open : Int32) (v_planned : Int32) (v_s : Nat → Int64) (R0 : (Nat → Int64) × Int32) (hf : f_X8_drawn v_s = some R0) : Ci l yX8_drawn wsX8_drawn ({ frames := 1, cells := 0, slots := 0, locals := 60 } : Room) D [(cI, .int), (cJ, .long), (cQ, .object "WhisperCrowd$State")] [.ref a_this] [(a_this, .inr (8, [.ref a_s, r_kept, .int v_undos, r_known, r_whose, r_lesser, r_other, .int v_open, r_sums, r_weights, r_row, r_plan, .int v_planned])), (a_s, .inl (cJ, 613, .inr (.inl v_s)))] [(a_this, .inr (8, [.ref a_s, r_kept, .int v_undos, r_known, r_whose, r_lesser, r_other, .int v_open, r_sums, r_weights, r_row, r_plan, .int v_planned])), (a_s, .inl (cJ, 613, .inr (.inl R0.1)))] R0.2 := by
  refine x_enti (cc := cX8_drawn) (maxL := 1) (rt := (some .int)) (lv := [(0, .ref a_this)]) (by decide) rfl (Nat.le_of_ble_eq_true rfl) rfl ?_
  intro p e s m args below meth c A Q hQ hC
  unfold f_X8_drawn at hf
  refine x_aload_n 1 0 hC dX8_drawn_0 rfl rfl rfl ?_
  refine x_get 4 0 0 hC in_X8_drawn_X8 rfl rfl (by decide) (List.mem_of_getElem? (i := 1) (by decide +kernel)) rfl rfl dX8_drawn_1 rfl ?_
  refine x_iconst 5 hC (1 : Int32) dX8_drawn_4 rfl (by decide) ?_
  refine x_aload_n 6 0 hC dX8_drawn_5 rfl rfl rfl ?_
  refine x_get 9 0 0 hC in_X8_drawn_X8 rfl rfl (by decide) (List.mem_of_getElem? (i := 1) (by decide +kernel)) rfl rfl dX8_drawn_6 rfl ?_
  refine x_iconst 10 hC (1 : Int32) dX8_drawn_9 rfl (by decide) ?_
  obtain ⟨h_1, hf⟩ := ck_e hf
  refine x_lald 11 1 1 hC rfl rfl h_1 dX8_drawn_10 rfl ?_
  refine x_ldc2 14 hC (v := (1103515245 : Int64)) (List.mem_of_getElem? (i := 2) (by decide +kernel)) dX8_drawn_11 rfl ?_
  refine x_lmul 15 hC dX8_drawn_14 rfl ?_
  refine x_ldc2 18 hC (v := (12345 : Int64)) (List.mem_of_getElem? (i := 3) (by decide +kernel)) dX8_drawn_15 rfl ?_
  refine x_ladd 19 hC dX8_drawn_18 rfl ?_
  refine x_ldc2 22 hC (v := (2147483647 : Int64)) (List.mem_of_getElem? (i := 4) (by decide +kernel)) dX8_drawn_19 rfl ?_
  refine x_land 23 hC dX8_drawn_22 rfl ?_
  obtain ⟨h_2, hf⟩ := ck_e hf
  obtain ⟨g_3, e_g_3, hf⟩ := nmx_e hf
  refine x_last 24 1 1 [(a_this, .inr (8, [.ref a_s, r_kept, .int v_undos, r_known, r_whose, r_lesser, r_other, .int v_open, r_sums, r_weights, r_row, r_plan, .int v_planned])), (a_s, .inl (cJ, 613, .inr (.inl g_3)))] hC rfl rfl h_2 e_g_3 rfl dX8_drawn_23 rfl ?_
  refine x_aload_n 25 0 hC dX8_drawn_24 rfl rfl rfl ?_
  refine x_get 28 0 0 hC in_X8_drawn_X8 rfl rfl (by decide) (List.mem_of_getElem? (i := 1) (by decide +kernel)) rfl rfl dX8_drawn_25 rfl ?_
  refine x_iconst 29 hC (1 : Int32) dX8_drawn_28 rfl (by decide) ?_
  obtain ⟨h_4, hf⟩ := ck_e hf
  refine x_lald 30 1 1 hC rfl rfl h_4 dX8_drawn_29 rfl ?_
  refine x_l2i 31 hC dX8_drawn_30 rfl ?_
  cases hf
  exact x_iret hC dX8_drawn_31 hQ rfl rfl

theorem hd_X8_drawsTicket : yX8_drawsTicket.cls = RX8 ∧ yX8_drawsTicket.cls ≠ "java/lang/invoke/MethodHandle" ∧ yX8_drawsTicket.cls ≠ "java/lang/invoke/VarHandle" ∧ (parseMethodDescriptor yX8_drawsTicket.desc).map (fun d => d.parameters.length) = some 1 := by decide +kernel
theorem in_X8_drawsTicket_X8 : ∀ w ∈ u_ws RX8 TX8 13, w ∈ wsX8_drawsTicket := fun w h => List.mem_cons_of_mem _ (List.mem_append_right _ h)
noncomputable def f_X8_drawsTicket (v_s : Nat → Int64) (p1 : Int32) : Option ((Nat → Int64)) := ck ((83 : Int32) + p1) 613 <| nm (vp_updL v_s ((83 : Int32) + p1).toNatClampNeg (1 : Int64)) fun g_2 => bd (f_X8_drawn g_2) fun R_3 => ck ((93 : Int32) + ((4 : Int32) * p1)) 613 <| nm (vp_updL R_3.1 ((93 : Int32) + ((4 : Int32) * p1)).toNatClampNeg (R_3.2.toInt64)) fun g_5 => ck ((133 : Int32) + ((4 : Int32) * p1)) 613 <| nm (vp_updL g_5 ((133 : Int32) + ((4 : Int32) * p1)).toNatClampNeg (p1.toInt64)) fun g_7 => some (g_7)
set_option maxHeartbeats 4000000 in
set_option maxRecDepth 100000 in
theorem c_X8_drawsTicket (l : Launch) (D : va_G) (cI cJ cQ : ClassId) (a_this : Nat) (a_s : Nat) (r_kept : Value) (r_known : Value) (r_whose : Value) (r_lesser : Value) (r_other : Value) (r_sums : Value) (r_weights : Value) (r_row : Value) (r_plan : Value) (v_undos : Int32) (v_open : Int32) (v_planned : Int32) (v_s : Nat → Int64) (p1 : Int32) (R0 : (Nat → Int64)) (hf : f_X8_drawsTicket v_s p1 = some R0) : Cv l yX8_drawsTicket wsX8_drawsTicket ({ frames := 2, cells := 0, slots := 0, locals := 82 } : Room) D [(cI, .int), (cJ, .long), (cQ, .object "WhisperCrowd$State")] [.ref a_this, .int p1] [(a_this, .inr (8, [.ref a_s, r_kept, .int v_undos, r_known, r_whose, r_lesser, r_other, .int v_open, r_sums, r_weights, r_row, r_plan, .int v_planned])), (a_s, .inl (cJ, 613, .inr (.inl v_s)))] [(a_this, .inr (8, [.ref a_s, r_kept, .int v_undos, r_known, r_whose, r_lesser, r_other, .int v_open, r_sums, r_weights, r_row, r_plan, .int v_planned])), (a_s, .inl (cJ, 613, .inr (.inl R0)))] := by
  refine x_entv (cc := cX8_drawsTicket) (maxL := 2) (rt := none) (lv := [(0, .ref a_this), (1, .int p1)]) (by decide) rfl (Nat.le_of_ble_eq_true rfl) rfl ?_
  intro p e s m args below meth c A Q hQ hC
  unfold f_X8_drawsTicket at hf
  refine x_aload_n 1 0 hC dX8_drawsTicket_0 rfl rfl rfl ?_
  refine x_get 4 0 0 hC in_X8_drawsTicket_X8 rfl rfl (by decide) (List.mem_of_getElem? (i := 1) (by decide +kernel)) rfl rfl dX8_drawsTicket_1 rfl ?_
  refine x_bipush 6 hC (83 : Int32) dX8_drawsTicket_4 rfl (by decide) ?_
  refine x_iload_n 7 1 hC dX8_drawsTicket_6 rfl rfl rfl ?_
  refine x_iadd 8 hC dX8_drawsTicket_7 rfl ?_
  refine x_lconst 9 hC (1 : Int64) dX8_drawsTicket_8 rfl (by decide) ?_
  obtain ⟨h_1, hf⟩ := ck_e hf
  obtain ⟨g_2, e_g_2, hf⟩ := nmx_e hf
  refine x_last 10 1 1 [(a_this, .inr (8, [.ref a_s, r_kept, .int v_undos, r_known, r_whose, r_lesser, r_other, .int v_open, r_sums, r_weights, r_row, r_plan, .int v_planned])), (a_s, .inl (cJ, 613, .inr (.inl g_2)))] hC rfl rfl h_1 e_g_2 rfl dX8_drawsTicket_9 rfl ?_
  refine x_aload_n 11 0 hC dX8_drawsTicket_10 rfl rfl rfl ?_
  refine x_get 14 0 0 hC in_X8_drawsTicket_X8 rfl rfl (by decide) (List.mem_of_getElem? (i := 1) (by decide +kernel)) rfl rfl dX8_drawsTicket_11 rfl ?_
  refine x_bipush 16 hC (93 : Int32) dX8_drawsTicket_14 rfl (by decide) ?_
  refine x_iconst 17 hC (4 : Int32) dX8_drawsTicket_16 rfl (by decide) ?_
  refine x_iload_n 18 1 hC dX8_drawsTicket_17 rfl rfl rfl ?_
  refine x_imul 19 hC dX8_drawsTicket_18 rfl ?_
  refine x_iadd 20 hC dX8_drawsTicket_19 rfl ?_
  refine x_aload_n 21 0 hC dX8_drawsTicket_20 rfl rfl rfl ?_
  obtain ⟨R_3, h_R_3, hf⟩ := bd_e hf
  refine x_callVi 24 0 0 [0, 1] [(a_this, .inr (8, [.ref a_s, r_kept, .int v_undos, r_known, r_whose, r_lesser, r_other, .int v_open, r_sums, r_weights, r_row, r_plan, .int v_planned])), (a_s, .inl (cJ, 613, .inr (.inl R_3.1)))] hC (As := []) (c_X8_drawn l D cI cJ cQ a_this a_s r_kept r_known r_whose r_lesser r_other r_sums r_weights r_row r_plan v_undos v_open v_planned g_2 R_3 h_R_3) rfl rfl gX8_drawsTicket_X8_drawn rfl ⟨rfl, rfl⟩ hd_X8_drawn ⟨Nat.le_of_ble_eq_true rfl, Nat.le_of_ble_eq_true rfl⟩ rfl rfl rfl rfl rfl rfl (Nat.le_of_ble_eq_true rfl) ⟨Nat.le_of_ble_eq_true rfl, Nat.le_of_ble_eq_true rfl⟩ dX8_drawsTicket_21 rfl ?_
  refine x_i2l 25 hC dX8_drawsTicket_24 rfl ?_
  obtain ⟨h_4, hf⟩ := ck_e hf
  obtain ⟨g_5, e_g_5, hf⟩ := nmx_e hf
  refine x_last 26 1 1 [(a_this, .inr (8, [.ref a_s, r_kept, .int v_undos, r_known, r_whose, r_lesser, r_other, .int v_open, r_sums, r_weights, r_row, r_plan, .int v_planned])), (a_s, .inl (cJ, 613, .inr (.inl g_5)))] hC rfl rfl h_4 e_g_5 rfl dX8_drawsTicket_25 rfl ?_
  refine x_aload_n 27 0 hC dX8_drawsTicket_26 rfl rfl rfl ?_
  refine x_get 30 0 0 hC in_X8_drawsTicket_X8 rfl rfl (by decide) (List.mem_of_getElem? (i := 1) (by decide +kernel)) rfl rfl dX8_drawsTicket_27 rfl ?_
  refine x_sipush 33 hC (133 : Int32) dX8_drawsTicket_30 rfl (by decide) ?_
  refine x_iconst 34 hC (4 : Int32) dX8_drawsTicket_33 rfl (by decide) ?_
  refine x_iload_n 35 1 hC dX8_drawsTicket_34 rfl rfl rfl ?_
  refine x_imul 36 hC dX8_drawsTicket_35 rfl ?_
  refine x_iadd 37 hC dX8_drawsTicket_36 rfl ?_
  refine x_iload_n 38 1 hC dX8_drawsTicket_37 rfl rfl rfl ?_
  refine x_i2l 39 hC dX8_drawsTicket_38 rfl ?_
  obtain ⟨h_6, hf⟩ := ck_e hf
  obtain ⟨g_7, e_g_7, hf⟩ := nmx_e hf
  refine x_last 40 1 1 [(a_this, .inr (8, [.ref a_s, r_kept, .int v_undos, r_known, r_whose, r_lesser, r_other, .int v_open, r_sums, r_weights, r_row, r_plan, .int v_planned])), (a_s, .inl (cJ, 613, .inr (.inl g_7)))] hC rfl rfl h_6 e_g_7 rfl dX8_drawsTicket_39 rfl ?_
  cases hf
  exact x_vret hC dX8_drawsTicket_40 hQ rfl

theorem hd_X8_begins : yX8_begins.cls = RX8 ∧ yX8_begins.cls ≠ "java/lang/invoke/MethodHandle" ∧ yX8_begins.cls ≠ "java/lang/invoke/VarHandle" ∧ (parseMethodDescriptor yX8_begins.desc).map (fun d => d.parameters.length) = some 2 := by decide +kernel
theorem in_X8_begins_X8 : ∀ w ∈ u_ws RX8 TX8 13, w ∈ wsX8_begins := fun w h => List.mem_cons_of_mem _ (List.mem_append_right _ h)
noncomputable def f_X8_begins (v_s : Nat → Int64) (p1 : Int32) (p2 : Int32) : Option ((Nat → Int64)) := ck ((13 : Int32) + p1) 613 <| nm (vp_updL v_s ((13 : Int32) + p1).toNatClampNeg (1 : Int64)) fun g_2 => ck ((23 : Int32) + p1) 613 <| nm (vp_updL g_2 ((23 : Int32) + p1).toNatClampNeg (p2.toInt64)) fun g_4 => ck ((33 : Int32) + p1) 613 <| nm (vp_updL g_4 ((33 : Int32) + p1).toNatClampNeg ((p2.toInt64) * (1048576 : Int64))) fun g_6 => ck ((43 : Int32) + p1) 613 <| nm (vp_updL g_6 ((43 : Int32) + p1).toNatClampNeg (1048576 : Int64)) fun g_8 => bd (f_X8_knowsItself g_8 p1) fun R_9 => bd (f_X8_drawsTicket R_9 p1) fun R_10 => some (R_10)
set_option maxHeartbeats 4000000 in
set_option maxRecDepth 100000 in
theorem c_X8_begins (l : Launch) (D : va_G) (cI cJ cQ : ClassId) (a_this : Nat) (a_s : Nat) (r_kept : Value) (r_known : Value) (r_whose : Value) (r_lesser : Value) (r_other : Value) (r_sums : Value) (r_weights : Value) (r_row : Value) (r_plan : Value) (v_undos : Int32) (v_open : Int32) (v_planned : Int32) (v_s : Nat → Int64) (p1 : Int32) (p2 : Int32) (R0 : (Nat → Int64)) (hf : f_X8_begins v_s p1 p2 = some R0) : Cv l yX8_begins wsX8_begins ({ frames := 3, cells := 0, slots := 0, locals := 105 } : Room) D [(cI, .int), (cJ, .long), (cQ, .object "WhisperCrowd$State")] [.ref a_this, .int p1, .int p2] [(a_this, .inr (8, [.ref a_s, r_kept, .int v_undos, r_known, r_whose, r_lesser, r_other, .int v_open, r_sums, r_weights, r_row, r_plan, .int v_planned])), (a_s, .inl (cJ, 613, .inr (.inl v_s)))] [(a_this, .inr (8, [.ref a_s, r_kept, .int v_undos, r_known, r_whose, r_lesser, r_other, .int v_open, r_sums, r_weights, r_row, r_plan, .int v_planned])), (a_s, .inl (cJ, 613, .inr (.inl R0)))] := by
  refine x_entv (cc := cX8_begins) (maxL := 3) (rt := none) (lv := [(0, .ref a_this), (1, .int p1), (2, .int p2)]) (by decide) rfl (Nat.le_of_ble_eq_true rfl) rfl ?_
  intro p e s m args below meth c A Q hQ hC
  unfold f_X8_begins at hf
  refine x_aload_n 1 0 hC dX8_begins_0 rfl rfl rfl ?_
  refine x_get 4 0 0 hC in_X8_begins_X8 rfl rfl (by decide) (List.mem_of_getElem? (i := 1) (by decide +kernel)) rfl rfl dX8_begins_1 rfl ?_
  refine x_bipush 6 hC (13 : Int32) dX8_begins_4 rfl (by decide) ?_
  refine x_iload_n 7 1 hC dX8_begins_6 rfl rfl rfl ?_
  refine x_iadd 8 hC dX8_begins_7 rfl ?_
  refine x_lconst 9 hC (1 : Int64) dX8_begins_8 rfl (by decide) ?_
  obtain ⟨h_1, hf⟩ := ck_e hf
  obtain ⟨g_2, e_g_2, hf⟩ := nmx_e hf
  refine x_last 10 1 1 [(a_this, .inr (8, [.ref a_s, r_kept, .int v_undos, r_known, r_whose, r_lesser, r_other, .int v_open, r_sums, r_weights, r_row, r_plan, .int v_planned])), (a_s, .inl (cJ, 613, .inr (.inl g_2)))] hC rfl rfl h_1 e_g_2 rfl dX8_begins_9 rfl ?_
  refine x_aload_n 11 0 hC dX8_begins_10 rfl rfl rfl ?_
  refine x_get 14 0 0 hC in_X8_begins_X8 rfl rfl (by decide) (List.mem_of_getElem? (i := 1) (by decide +kernel)) rfl rfl dX8_begins_11 rfl ?_
  refine x_bipush 16 hC (23 : Int32) dX8_begins_14 rfl (by decide) ?_
  refine x_iload_n 17 1 hC dX8_begins_16 rfl rfl rfl ?_
  refine x_iadd 18 hC dX8_begins_17 rfl ?_
  refine x_iload_n 19 2 hC dX8_begins_18 rfl rfl rfl ?_
  refine x_i2l 20 hC dX8_begins_19 rfl ?_
  obtain ⟨h_3, hf⟩ := ck_e hf
  obtain ⟨g_4, e_g_4, hf⟩ := nmx_e hf
  refine x_last 21 1 1 [(a_this, .inr (8, [.ref a_s, r_kept, .int v_undos, r_known, r_whose, r_lesser, r_other, .int v_open, r_sums, r_weights, r_row, r_plan, .int v_planned])), (a_s, .inl (cJ, 613, .inr (.inl g_4)))] hC rfl rfl h_3 e_g_4 rfl dX8_begins_20 rfl ?_
  refine x_aload_n 22 0 hC dX8_begins_21 rfl rfl rfl ?_
  refine x_get 25 0 0 hC in_X8_begins_X8 rfl rfl (by decide) (List.mem_of_getElem? (i := 1) (by decide +kernel)) rfl rfl dX8_begins_22 rfl ?_
  refine x_bipush 27 hC (33 : Int32) dX8_begins_25 rfl (by decide) ?_
  refine x_iload_n 28 1 hC dX8_begins_27 rfl rfl rfl ?_
  refine x_iadd 29 hC dX8_begins_28 rfl ?_
  refine x_iload_n 30 2 hC dX8_begins_29 rfl rfl rfl ?_
  refine x_i2l 31 hC dX8_begins_30 rfl ?_
  refine x_ldc2 34 hC (v := (1048576 : Int64)) (List.mem_of_getElem? (i := 2) (by decide +kernel)) dX8_begins_31 rfl ?_
  refine x_lmul 35 hC dX8_begins_34 rfl ?_
  obtain ⟨h_5, hf⟩ := ck_e hf
  obtain ⟨g_6, e_g_6, hf⟩ := nmx_e hf
  refine x_last 36 1 1 [(a_this, .inr (8, [.ref a_s, r_kept, .int v_undos, r_known, r_whose, r_lesser, r_other, .int v_open, r_sums, r_weights, r_row, r_plan, .int v_planned])), (a_s, .inl (cJ, 613, .inr (.inl g_6)))] hC rfl rfl h_5 e_g_6 rfl dX8_begins_35 rfl ?_
  refine x_aload_n 37 0 hC dX8_begins_36 rfl rfl rfl ?_
  refine x_get 40 0 0 hC in_X8_begins_X8 rfl rfl (by decide) (List.mem_of_getElem? (i := 1) (by decide +kernel)) rfl rfl dX8_begins_37 rfl ?_
  refine x_bipush 42 hC (43 : Int32) dX8_begins_40 rfl (by decide) ?_
  refine x_iload_n 43 1 hC dX8_begins_42 rfl rfl rfl ?_
  refine x_iadd 44 hC dX8_begins_43 rfl ?_
  refine x_ldc2 47 hC (v := (1048576 : Int64)) (List.mem_of_getElem? (i := 2) (by decide +kernel)) dX8_begins_44 rfl ?_
  obtain ⟨h_7, hf⟩ := ck_e hf
  obtain ⟨g_8, e_g_8, hf⟩ := nmx_e hf
  refine x_last 48 1 1 [(a_this, .inr (8, [.ref a_s, r_kept, .int v_undos, r_known, r_whose, r_lesser, r_other, .int v_open, r_sums, r_weights, r_row, r_plan, .int v_planned])), (a_s, .inl (cJ, 613, .inr (.inl g_8)))] hC rfl rfl h_7 e_g_8 rfl dX8_begins_47 rfl ?_
  refine x_aload_n 49 0 hC dX8_begins_48 rfl rfl rfl ?_
  refine x_iload_n 50 1 hC dX8_begins_49 rfl rfl rfl ?_
  obtain ⟨R_9, h_R_9, hf⟩ := bd_e hf
  refine x_callVv 53 0 1 [0, 1] [(a_this, .inr (8, [.ref a_s, r_kept, .int v_undos, r_known, r_whose, r_lesser, r_other, .int v_open, r_sums, r_weights, r_row, r_plan, .int v_planned])), (a_s, .inl (cJ, 613, .inr (.inl R_9)))] hC (As := [.int p1]) (c_X8_knowsItself l D cI cJ cQ a_this a_s r_kept r_known r_whose r_lesser r_other r_sums r_weights r_row r_plan v_undos v_open v_planned g_8 p1 R_9 h_R_9) rfl rfl gX8_begins_X8_knowsItself rfl ⟨rfl, rfl⟩ hd_X8_knowsItself ⟨Nat.le_of_ble_eq_true rfl, Nat.le_of_ble_eq_true rfl⟩ rfl rfl rfl rfl rfl rfl (Nat.le_of_ble_eq_true rfl) ⟨Nat.le_of_ble_eq_true rfl, Nat.le_of_ble_eq_true rfl⟩ dX8_begins_50 rfl ?_
  refine x_aload_n 54 0 hC dX8_begins_53 rfl rfl rfl ?_
  refine x_iload_n 55 1 hC dX8_begins_54 rfl rfl rfl ?_
  obtain ⟨R_10, h_R_10, hf⟩ := bd_e hf
  refine x_callVv 58 0 1 [0, 1] [(a_this, .inr (8, [.ref a_s, r_kept, .int v_undos, r_known, r_whose, r_lesser, r_other, .int v_open, r_sums, r_weights, r_row, r_plan, .int v_planned])), (a_s, .inl (cJ, 613, .inr (.inl R_10)))] hC (As := [.int p1]) (c_X8_drawsTicket l D cI cJ cQ a_this a_s r_kept r_known r_whose r_lesser r_other r_sums r_weights r_row r_plan v_undos v_open v_planned R_9 p1 R_10 h_R_10) rfl rfl gX8_begins_X8_drawsTicket rfl ⟨rfl, rfl⟩ hd_X8_drawsTicket ⟨Nat.le_of_ble_eq_true rfl, Nat.le_of_ble_eq_true rfl⟩ rfl rfl rfl rfl rfl rfl (Nat.le_of_ble_eq_true rfl) ⟨Nat.le_of_ble_eq_true rfl, Nat.le_of_ble_eq_true rfl⟩ dX8_begins_55 rfl ?_
  cases hf
  exact x_vret hC dX8_begins_58 hQ rfl

theorem hd_X8_come : yX8_come.cls = RX8 ∧ yX8_come.cls ≠ "java/lang/invoke/MethodHandle" ∧ yX8_come.cls ≠ "java/lang/invoke/VarHandle" ∧ (parseMethodDescriptor yX8_come.desc).map (fun d => d.parameters.length) = some 1 := by decide +kernel
theorem in_X8_come_X8 : ∀ w ∈ u_ws RX8 TX8 13, w ∈ wsX8_come := fun w h => List.mem_cons_of_mem _ (List.mem_append_right _ h)
noncomputable def f_X8_come (v_undos : Int32) (v_kept : Nat → Int64) (v_s : Nat → Int64) (p1 : Int32) : Option (Int32 × (Nat → Int64) × (Nat → Int64) × Int32) := bd (f_X8_in (p1.toInt64) (-1073741824 : Int64) (1073741824 : Int64)) fun R_1 => if ¬ R_1 = 0 then (ck (0 : Int32) 613 <| if ¬ (v_s (0 : Int32).toNatClampNeg) = (10 : Int64) then (bd (f_X8_keep v_s v_undos v_kept) fun R_5 => ck (0 : Int32) 613 <| nm ((v_s (0 : Int32).toNatClampNeg).toInt32) fun x_7 => ck (0 : Int32) 613 <| ck (0 : Int32) 613 <| nm (vp_updL v_s (0 : Int32).toNatClampNeg ((v_s (0 : Int32).toNatClampNeg) + (1 : Int64))) fun g_10 => bd (f_X8_begins g_10 x_7 p1) fun R_11 => some (R_5.1, R_5.2, R_11, x_7)) else (some (v_undos, v_kept, v_s, (-3 : Int32)))) else (some (v_undos, v_kept, v_s, (-1 : Int32)))
set_option maxHeartbeats 4000000 in
set_option maxRecDepth 100000 in
theorem c_X8_come (l : Launch) (D : va_G) (cI cJ cQ : ClassId) (a_this : Nat) (a_kept : Nat) (a_s : Nat) (r_known : Value) (r_whose : Value) (r_lesser : Value) (r_other : Value) (r_sums : Value) (r_weights : Value) (r_row : Value) (r_plan : Value) (v_undos : Int32) (v_open : Int32) (v_planned : Int32) (v_kept : Nat → Int64) (v_s : Nat → Int64) (p1 : Int32) (R0 : Int32 × (Nat → Int64) × (Nat → Int64) × Int32) (hf : f_X8_come v_undos v_kept v_s p1 = some R0) : Ci l yX8_come wsX8_come ({ frames := 4, cells := 0, slots := 0, locals := 129 } : Room) D [(cI, .int), (cJ, .long), (cQ, .object "WhisperCrowd$State")] [.ref a_this, .int p1] [(a_this, .inr (8, [.ref a_s, .ref a_kept, .int v_undos, r_known, r_whose, r_lesser, r_other, .int v_open, r_sums, r_weights, r_row, r_plan, .int v_planned])), (a_kept, .inl (cJ, 12260, .inr (.inl v_kept))), (a_s, .inl (cJ, 613, .inr (.inl v_s)))] [(a_this, .inr (8, [.ref a_s, .ref a_kept, .int R0.1, r_known, r_whose, r_lesser, r_other, .int v_open, r_sums, r_weights, r_row, r_plan, .int v_planned])), (a_kept, .inl (cJ, 12260, .inr (.inl R0.2.1))), (a_s, .inl (cJ, 613, .inr (.inl R0.2.2.1)))] R0.2.2.2 := by
  refine x_enti (cc := cX8_come) (maxL := 3) (rt := (some .int)) (lv := [(0, .ref a_this), (1, .int p1)]) (by decide) rfl (Nat.le_of_ble_eq_true rfl) rfl ?_
  intro p e s m args below meth c A Q hQ hC
  unfold f_X8_come at hf
  refine x_iload_n 1 1 hC dX8_come_0 rfl rfl rfl ?_
  refine x_i2l 2 hC dX8_come_1 rfl ?_
  refine x_ldc2 5 hC (v := (-1073741824 : Int64)) (List.mem_of_getElem? (i := 1) (by decide +kernel)) dX8_come_2 rfl ?_
  refine x_ldc2 8 hC (v := (1073741824 : Int64)) (List.mem_of_getElem? (i := 2) (by decide +kernel)) dX8_come_5 rfl ?_
  obtain ⟨R_1, h_R_1, hf⟩ := bd_e hf
  refine x_callSi 11 3 [] [(a_this, .inr (8, [.ref a_s, .ref a_kept, .int v_undos, r_known, r_whose, r_lesser, r_other, .int v_open, r_sums, r_weights, r_row, r_plan, .int v_planned])), (a_kept, .inl (cJ, 12260, .inr (.inl v_kept))), (a_s, .inl (cJ, 613, .inr (.inl v_s)))] hC (As := [.long (p1.toInt64), .long (-1073741824 : Int64), .long (1073741824 : Int64)]) (c_X8_in l D cI cJ cQ (p1.toInt64) (-1073741824 : Int64) (1073741824 : Int64) R_1 h_R_1) gX8_come_X8_in rfl ⟨rfl, rfl⟩ hd_X8_in ⟨Nat.le_of_ble_eq_true rfl, Nat.le_of_ble_eq_true rfl⟩ rfl rfl rfl rfl rfl rfl (Nat.le_of_ble_eq_true rfl) ⟨Nat.le_of_ble_eq_true rfl, Nat.le_of_ble_eq_true rfl⟩ dX8_come_8 rfl ?_
  refine x_if_ne 16 14 hC dX8_come_11 (by decide) rfl (fun c_2 => ?_) (fun c_2 => ?_)
  · have hf := if_t hf c_2
    refine x_aload_n 17 0 hC dX8_come_16 rfl rfl rfl ?_
    refine x_get 20 0 0 hC in_X8_come_X8 rfl rfl (by decide) (List.mem_of_getElem? (i := 3) (by decide +kernel)) rfl rfl dX8_come_17 rfl ?_
    refine x_iconst 21 hC (0 : Int32) dX8_come_20 rfl (by decide) ?_
    obtain ⟨h_3, hf⟩ := ck_e hf
    refine x_lald 22 2 1 hC rfl rfl h_3 dX8_come_21 rfl ?_
    refine x_ldc2 25 hC (v := (10 : Int64)) (List.mem_of_getElem? (i := 4) (by decide +kernel)) dX8_come_22 rfl ?_
    refine x_lcmp_ne 32 29 hC dX8_come_25 dX8_come_26 (by decide) rfl (fun c_4 => ?_) (fun c_4 => ?_)
    · have hf := if_t hf c_4
      refine x_aload_n 33 0 hC dX8_come_32 rfl rfl rfl ?_
      obtain ⟨R_5, h_R_5, hf⟩ := bd_e hf
      refine x_callVv 36 0 0 [0, 1, 2] [(a_this, .inr (8, [.ref a_s, .ref a_kept, .int R_5.1, r_known, r_whose, r_lesser, r_other, .int v_open, r_sums, r_weights, r_row, r_plan, .int v_planned])), (a_kept, .inl (cJ, 12260, .inr (.inl R_5.2))), (a_s, .inl (cJ, 613, .inr (.inl v_s)))] hC (As := []) (c_X8_keep l D cI cJ cQ a_this a_kept a_s r_known r_whose r_lesser r_other r_sums r_weights r_row r_plan v_undos v_open v_planned v_kept v_s R_5 h_R_5) rfl rfl gX8_come_X8_keep rfl ⟨rfl, rfl⟩ hd_X8_keep ⟨Nat.le_of_ble_eq_true rfl, Nat.le_of_ble_eq_true rfl⟩ rfl rfl rfl rfl rfl rfl (Nat.le_of_ble_eq_true rfl) ⟨Nat.le_of_ble_eq_true rfl, Nat.le_of_ble_eq_true rfl⟩ dX8_come_33 rfl ?_
      refine x_aload_n 37 0 hC dX8_come_36 rfl rfl rfl ?_
      refine x_get 40 0 0 hC in_X8_come_X8 rfl rfl (by decide) (List.mem_of_getElem? (i := 3) (by decide +kernel)) rfl rfl dX8_come_37 rfl ?_
      refine x_iconst 41 hC (0 : Int32) dX8_come_40 rfl (by decide) ?_
      obtain ⟨h_6, hf⟩ := ck_e hf
      refine x_lald 42 2 1 hC rfl rfl h_6 dX8_come_41 rfl ?_
      refine x_l2i 43 hC dX8_come_42 rfl ?_
      obtain ⟨x_7, e_x_7, hf⟩ := nmx_e hf
      refine x_istore_n 44 [(2, .int x_7), (0, .ref a_this), (1, .int p1)] hC dX8_come_43 rfl rfl e_x_7 (by decide) rfl ?_
      refine x_aload_n 45 1 hC dX8_come_44 rfl rfl rfl ?_
      refine x_get 48 0 0 hC in_X8_come_X8 rfl rfl (by decide) (List.mem_of_getElem? (i := 3) (by decide +kernel)) rfl rfl dX8_come_45 rfl ?_
      refine x_iconst 49 hC (0 : Int32) dX8_come_48 rfl (by decide) ?_
      refine x_dup2_11 50 hC dX8_come_49 rfl rfl rfl ?_
      obtain ⟨h_8, hf⟩ := ck_e hf
      refine x_lald 51 2 1 hC rfl rfl h_8 dX8_come_50 rfl ?_
      refine x_lconst 52 hC (1 : Int64) dX8_come_51 rfl (by decide) ?_
      refine x_ladd 53 hC dX8_come_52 rfl ?_
      obtain ⟨h_9, hf⟩ := ck_e hf
      obtain ⟨g_10, e_g_10, hf⟩ := nmx_e hf
      refine x_last 54 2 1 [(a_this, .inr (8, [.ref a_s, .ref a_kept, .int R_5.1, r_known, r_whose, r_lesser, r_other, .int v_open, r_sums, r_weights, r_row, r_plan, .int v_planned])), (a_kept, .inl (cJ, 12260, .inr (.inl R_5.2))), (a_s, .inl (cJ, 613, .inr (.inl g_10)))] hC rfl rfl h_9 e_g_10 rfl dX8_come_53 rfl ?_
      refine x_aload_n 55 1 hC dX8_come_54 rfl rfl rfl ?_
      refine x_iload_n 56 0 hC dX8_come_55 rfl rfl rfl ?_
      refine x_iload_n 57 2 hC dX8_come_56 rfl rfl rfl ?_
      obtain ⟨R_11, h_R_11, hf⟩ := bd_e hf
      refine x_callVv 60 0 2 [0, 2] [(a_this, .inr (8, [.ref a_s, .ref a_kept, .int R_5.1, r_known, r_whose, r_lesser, r_other, .int v_open, r_sums, r_weights, r_row, r_plan, .int v_planned])), (a_kept, .inl (cJ, 12260, .inr (.inl R_5.2))), (a_s, .inl (cJ, 613, .inr (.inl R_11)))] hC (As := [.int x_7, .int p1]) (c_X8_begins l D cI cJ cQ a_this a_s (.ref a_kept) r_known r_whose r_lesser r_other r_sums r_weights r_row r_plan R_5.1 v_open v_planned g_10 x_7 p1 R_11 h_R_11) rfl rfl gX8_come_X8_begins rfl ⟨rfl, rfl⟩ hd_X8_begins ⟨Nat.le_of_ble_eq_true rfl, Nat.le_of_ble_eq_true rfl⟩ rfl rfl rfl rfl rfl rfl (Nat.le_of_ble_eq_true rfl) ⟨Nat.le_of_ble_eq_true rfl, Nat.le_of_ble_eq_true rfl⟩ dX8_come_57 rfl ?_
      refine x_iload_n 61 0 hC dX8_come_60 rfl rfl rfl ?_
      cases hf
      exact x_iret hC dX8_come_61 hQ rfl rfl
    · have hf := if_f hf c_4
      refine x_bipush 31 hC (-3 : Int32) dX8_come_29 rfl (by decide) ?_
      cases hf
      exact x_iret hC dX8_come_31 hQ rfl rfl
  · have hf := if_f hf c_2
    refine x_iconst 15 hC (-1 : Int32) dX8_come_14 rfl (by decide) ?_
    cases hf
    exact x_iret hC dX8_come_15 hQ rfl rfl

theorem hd_X8_isMember : yX8_isMember.cls = RX8 ∧ yX8_isMember.cls ≠ "java/lang/invoke/MethodHandle" ∧ yX8_isMember.cls ≠ "java/lang/invoke/VarHandle" ∧ (parseMethodDescriptor yX8_isMember.desc).map (fun d => d.parameters.length) = some 1 := by decide +kernel
theorem in_X8_isMember_X8 : ∀ w ∈ u_ws RX8 TX8 13, w ∈ wsX8_isMember := fun w h => List.mem_cons_of_mem _ (List.mem_append_right _ h)
noncomputable def f_X8_isMember (v_s : Nat → Int64) (p1 : Int32) : Option (Int32) := ck (0 : Int32) 613 <| bd (f_X8_in (p1.toInt64) (0 : Int64) ((v_s (0 : Int32).toNatClampNeg) - (1 : Int64))) fun R_2 => ckp (narrow .boolean (.int R_2) = .int R_2) (Classical.propDecidable _) <| some (R_2)
set_option maxHeartbeats 4000000 in
set_option maxRecDepth 100000 in
theorem c_X8_isMember (l : Launch) (D : va_G) (cI cJ cQ : ClassId) (a_this : Nat) (a_s : Nat) (r_kept : Value) (r_known : Value) (r_whose : Value) (r_lesser : Value) (r_other : Value) (r_sums : Value) (r_weights : Value) (r_row : Value) (r_plan : Value) (v_undos : Int32) (v_open : Int32) (v_planned : Int32) (v_s : Nat → Int64) (p1 : Int32) (R0 : Int32) (hf : f_X8_isMember v_s p1 = some R0) : Ci l yX8_isMember wsX8_isMember ({ frames := 2, cells := 0, slots := 0, locals := 87 } : Room) D [(cI, .int), (cJ, .long), (cQ, .object "WhisperCrowd$State")] [.ref a_this, .int p1] [(a_this, .inr (8, [.ref a_s, r_kept, .int v_undos, r_known, r_whose, r_lesser, r_other, .int v_open, r_sums, r_weights, r_row, r_plan, .int v_planned])), (a_s, .inl (cJ, 613, .inr (.inl v_s)))] [(a_this, .inr (8, [.ref a_s, r_kept, .int v_undos, r_known, r_whose, r_lesser, r_other, .int v_open, r_sums, r_weights, r_row, r_plan, .int v_planned])), (a_s, .inl (cJ, 613, .inr (.inl v_s)))] R0 := by
  refine x_enti (cc := cX8_isMember) (maxL := 2) (rt := (some .boolean)) (lv := [(0, .ref a_this), (1, .int p1)]) (by decide) rfl (Nat.le_of_ble_eq_true rfl) rfl ?_
  intro p e s m args below meth c A Q hQ hC
  unfold f_X8_isMember at hf
  refine x_iload_n 1 1 hC dX8_isMember_0 rfl rfl rfl ?_
  refine x_i2l 2 hC dX8_isMember_1 rfl ?_
  refine x_lconst 3 hC (0 : Int64) dX8_isMember_2 rfl (by decide) ?_
  refine x_aload_n 4 0 hC dX8_isMember_3 rfl rfl rfl ?_
  refine x_get 7 0 0 hC in_X8_isMember_X8 rfl rfl (by decide) (List.mem_of_getElem? (i := 1) (by decide +kernel)) rfl rfl dX8_isMember_4 rfl ?_
  refine x_iconst 8 hC (0 : Int32) dX8_isMember_7 rfl (by decide) ?_
  obtain ⟨h_1, hf⟩ := ck_e hf
  refine x_lald 9 1 1 hC rfl rfl h_1 dX8_isMember_8 rfl ?_
  refine x_lconst 10 hC (1 : Int64) dX8_isMember_9 rfl (by decide) ?_
  refine x_lsub 11 hC dX8_isMember_10 rfl ?_
  obtain ⟨R_2, h_R_2, hf⟩ := bd_e hf
  refine x_callSi 14 3 [] [(a_this, .inr (8, [.ref a_s, r_kept, .int v_undos, r_known, r_whose, r_lesser, r_other, .int v_open, r_sums, r_weights, r_row, r_plan, .int v_planned])), (a_s, .inl (cJ, 613, .inr (.inl v_s)))] hC (As := [.long (p1.toInt64), .long (0 : Int64), .long ((v_s (0 : Int32).toNatClampNeg) - (1 : Int64))]) (c_X8_in l D cI cJ cQ (p1.toInt64) (0 : Int64) ((v_s (0 : Int32).toNatClampNeg) - (1 : Int64)) R_2 h_R_2) gX8_isMember_X8_in rfl ⟨rfl, rfl⟩ hd_X8_in ⟨Nat.le_of_ble_eq_true rfl, Nat.le_of_ble_eq_true rfl⟩ rfl rfl rfl rfl rfl rfl (Nat.le_of_ble_eq_true rfl) ⟨Nat.le_of_ble_eq_true rfl, Nat.le_of_ble_eq_true rfl⟩ dX8_isMember_11 rfl ?_
  obtain ⟨h_3, hf⟩ := ckp_e hf
  cases hf
  exact x_zret hC h_3 dX8_isMember_14 hQ rfl rfl

theorem hd_X8_areJoined : yX8_areJoined.cls = RX8 ∧ yX8_areJoined.cls ≠ "java/lang/invoke/MethodHandle" ∧ yX8_areJoined.cls ≠ "java/lang/invoke/VarHandle" ∧ (parseMethodDescriptor yX8_areJoined.desc).map (fun d => d.parameters.length) = some 2 := by decide +kernel
theorem in_X8_areJoined_X8 : ∀ w ∈ u_ws RX8 TX8 13, w ∈ wsX8_areJoined := fun w h => List.mem_cons_of_mem _ (List.mem_append_right _ h)
noncomputable def f_X8_areJoined (v_s : Nat → Int64) (p1 : Int32) (p2 : Int32) : Option (Int32) := ck ((3 : Int32) + p1) 613 <| if ¬ (((v_s ((3 : Int32) + p1).toNatClampNeg) >>> (p2.toInt64 &&& 63)) &&& (1 : Int64)) = (1 : Int64) then (some ((0 : Int32))) else (some ((1 : Int32)))
set_option maxHeartbeats 4000000 in
set_option maxRecDepth 100000 in
theorem c_X8_areJoined (l : Launch) (D : va_G) (cI cJ cQ : ClassId) (a_this : Nat) (a_s : Nat) (r_kept : Value) (r_known : Value) (r_whose : Value) (r_lesser : Value) (r_other : Value) (r_sums : Value) (r_weights : Value) (r_row : Value) (r_plan : Value) (v_undos : Int32) (v_open : Int32) (v_planned : Int32) (v_s : Nat → Int64) (p1 : Int32) (p2 : Int32) (R0 : Int32) (hf : f_X8_areJoined v_s p1 p2 = some R0) : Ci l yX8_areJoined wsX8_areJoined ({ frames := 1, cells := 0, slots := 0, locals := 60 } : Room) D [(cI, .int), (cJ, .long), (cQ, .object "WhisperCrowd$State")] [.ref a_this, .int p1, .int p2] [(a_this, .inr (8, [.ref a_s, r_kept, .int v_undos, r_known, r_whose, r_lesser, r_other, .int v_open, r_sums, r_weights, r_row, r_plan, .int v_planned])), (a_s, .inl (cJ, 613, .inr (.inl v_s)))] [(a_this, .inr (8, [.ref a_s, r_kept, .int v_undos, r_known, r_whose, r_lesser, r_other, .int v_open, r_sums, r_weights, r_row, r_plan, .int v_planned])), (a_s, .inl (cJ, 613, .inr (.inl v_s)))] R0 := by
  refine x_enti (cc := cX8_areJoined) (maxL := 3) (rt := (some .boolean)) (lv := [(0, .ref a_this), (1, .int p1), (2, .int p2)]) (by decide) rfl (Nat.le_of_ble_eq_true rfl) rfl ?_
  intro p e s m args below meth c A Q hQ hC
  unfold f_X8_areJoined at hf
  refine x_aload_n 1 0 hC dX8_areJoined_0 rfl rfl rfl ?_
  refine x_get 4 0 0 hC in_X8_areJoined_X8 rfl rfl (by decide) (List.mem_of_getElem? (i := 1) (by decide +kernel)) rfl rfl dX8_areJoined_1 rfl ?_
  refine x_iconst 5 hC (3 : Int32) dX8_areJoined_4 rfl (by decide) ?_
  refine x_iload_n 6 1 hC dX8_areJoined_5 rfl rfl rfl ?_
  refine x_iadd 7 hC dX8_areJoined_6 rfl ?_
  obtain ⟨h_1, hf⟩ := ck_e hf
  refine x_lald 8 1 1 hC rfl rfl h_1 dX8_areJoined_7 rfl ?_
  refine x_iload_n 9 2 hC dX8_areJoined_8 rfl rfl rfl ?_
  refine x_lshr 10 hC dX8_areJoined_9 rfl ?_
  refine x_lconst 11 hC (1 : Int64) dX8_areJoined_10 rfl (by decide) ?_
  refine x_land 12 hC dX8_areJoined_11 rfl ?_
  refine x_lconst 13 hC (1 : Int64) dX8_areJoined_12 rfl (by decide) ?_
  refine x_lcmp_ne 21 17 hC dX8_areJoined_13 dX8_areJoined_14 (by decide) rfl (fun c_2 => ?_) (fun c_2 => ?_)
  · have hf := if_t hf c_2
    refine x_iconst 22 hC (0 : Int32) dX8_areJoined_21 rfl (by decide) ?_
    cases hf
    exact x_zret hC rfl dX8_areJoined_22 hQ rfl rfl
  · have hf := if_f hf c_2
    refine x_iconst 18 hC (1 : Int32) dX8_areJoined_17 rfl (by decide) ?_
    refine x_goto 22 hC dX8_areJoined_18 (by decide) ?_
    cases hf
    exact x_zret hC rfl dX8_areJoined_22 hQ rfl rfl

theorem hd_X8_lines : yX8_lines.cls = RX8 ∧ yX8_lines.cls ≠ "java/lang/invoke/MethodHandle" ∧ yX8_lines.cls ≠ "java/lang/invoke/VarHandle" ∧ (parseMethodDescriptor yX8_lines.desc).map (fun d => d.parameters.length) = some 0 := by decide +kernel
noncomputable def f_X8_lines_c35 (k4 : Int32 → Int32 → Option (Int32)) (k14 : Int32 → Int32 → Int32 → Option (Int32)) (v_s : Nat → Int64) (k35_l2 : Int32) (k35_l3 : Int32) (k35_s0 : Int32) (k35_s1 : Int32) : Option (Int32) := nm (k35_s1 + k35_s0) fun x_1 => nm (k35_l3 + (1 : Int32)) fun x_2 => k14 x_1 k35_l2 x_2
noncomputable def f_X8_lines_c14 (k4 : Int32 → Int32 → Option (Int32)) (v_s : Nat → Int64) : Nat → Int32 → Int32 → Int32 → Option (Int32)
  | 0, _, _, _ => none
  | n + 1, k14_l1, k14_l2, k14_l3 => if (10 : Int32) ≤ k14_l3 then (nm (k14_l2 + (1 : Int32)) fun x_4 => k4 k14_l1 x_4) else (bd (f_X8_areJoined v_s k14_l2 k14_l3) fun R_5 => if R_5 = 0 then (f_X8_lines_c35 k4 (fun k14_l1 k14_l2 k14_l3 => f_X8_lines_c14 k4 v_s n k14_l1 k14_l2 k14_l3) v_s k14_l2 k14_l3 (0 : Int32) k14_l1) else (f_X8_lines_c35 k4 (fun k14_l1 k14_l2 k14_l3 => f_X8_lines_c14 k4 v_s n k14_l1 k14_l2 k14_l3) v_s k14_l2 k14_l3 (1 : Int32) k14_l1))
noncomputable def f_X8_lines_c4 (v_s : Nat → Int64) : Nat → Int32 → Int32 → Option (Int32)
  | 0, _, _ => none
  | n + 1, k4_l1, k4_l2 => if (10 : Int32) ≤ k4_l2 then (some (k4_l1)) else (nm (k4_l2 + (1 : Int32)) fun x_8 => f_X8_lines_c14 (fun k4_l1 k4_l2 => f_X8_lines_c4 v_s n k4_l1 k4_l2) v_s fu k4_l1 k4_l2 x_8)
noncomputable def f_X8_lines (v_s : Nat → Int64) : Option (Int32) := f_X8_lines_c4 v_s fu (0 : Int32) (0 : Int32)
set_option maxHeartbeats 4000000 in
set_option maxRecDepth 100000 in
theorem c_X8_lines (l : Launch) (D : va_G) (cI cJ cQ : ClassId) (a_this : Nat) (a_s : Nat) (r_kept : Value) (r_known : Value) (r_whose : Value) (r_lesser : Value) (r_other : Value) (r_sums : Value) (r_weights : Value) (r_row : Value) (r_plan : Value) (v_undos : Int32) (v_open : Int32) (v_planned : Int32) (v_s : Nat → Int64) (R0 : Int32) (hf : f_X8_lines v_s = some R0) : Ci l yX8_lines wsX8_lines ({ frames := 2, cells := 0, slots := 0, locals := 84 } : Room) D [(cI, .int), (cJ, .long), (cQ, .object "WhisperCrowd$State")] [.ref a_this] [(a_this, .inr (8, [.ref a_s, r_kept, .int v_undos, r_known, r_whose, r_lesser, r_other, .int v_open, r_sums, r_weights, r_row, r_plan, .int v_planned])), (a_s, .inl (cJ, 613, .inr (.inl v_s)))] [(a_this, .inr (8, [.ref a_s, r_kept, .int v_undos, r_known, r_whose, r_lesser, r_other, .int v_open, r_sums, r_weights, r_row, r_plan, .int v_planned])), (a_s, .inl (cJ, 613, .inr (.inl v_s)))] R0 := by
  refine x_enti (cc := cX8_lines) (maxL := 4) (rt := (some .int)) (lv := [(0, .ref a_this)]) (by decide) rfl (Nat.le_of_ble_eq_true rfl) rfl ?_
  intro p e s m args below meth c A Q hQ hC
  have J_4 : ∀ (n : Nat) (k4_l1 : Int32) (k4_l2 : Int32), f_X8_lines_c4 v_s n k4_l1 k4_l2 = some R0 → XW p l e ({ frames := 2, cells := 0, slots := 0, locals := 84 } : Room) s m args below meth c D A 4 0 0 Q [(a_this, .inr (8, [.ref a_s, r_kept, .int v_undos, r_known, r_whose, r_lesser, r_other, .int v_open, r_sums, r_weights, r_row, r_plan, .int v_planned])), (a_s, .inl (cJ, 613, .inr (.inl v_s)))] [] [(0, .ref a_this), (1, .int k4_l1), (2, .int k4_l2)] 4 [] := by
    intro n
    induction n with
    | zero => intro k4_l1 k4_l2 hf; exact nomatch (show (none : Option (Int32)) = some R0 from hf)
    | succ n_4 ih_4 =>
      have J_14 : ∀ (n : Nat) (k14_l1 : Int32) (k14_l2 : Int32) (k14_l3 : Int32), f_X8_lines_c14 (fun k4_l1 k4_l2 => f_X8_lines_c4 v_s n_4 k4_l1 k4_l2) v_s n k14_l1 k14_l2 k14_l3 = some R0 → XW p l e ({ frames := 2, cells := 0, slots := 0, locals := 84 } : Room) s m args below meth c D A 4 0 0 Q [(a_this, .inr (8, [.ref a_s, r_kept, .int v_undos, r_known, r_whose, r_lesser, r_other, .int v_open, r_sums, r_weights, r_row, r_plan, .int v_planned])), (a_s, .inl (cJ, 613, .inr (.inl v_s)))] [] [(0, .ref a_this), (1, .int k14_l1), (2, .int k14_l2), (3, .int k14_l3)] 14 [] := by
        intro n
        induction n with
        | zero => intro k14_l1 k14_l2 k14_l3 hf; exact nomatch (show (none : Option (Int32)) = some R0 from hf)
        | succ n_14 ih_14 =>
          have J_35 : ∀ (k35_l2 : Int32) (k35_l3 : Int32) (k35_s0 : Int32) (k35_s1 : Int32), f_X8_lines_c35 (fun k4_l1 k4_l2 => f_X8_lines_c4 v_s n_4 k4_l1 k4_l2) (fun k14_l1 k14_l2 k14_l3 => f_X8_lines_c14 (fun k4_l1 k4_l2 => f_X8_lines_c4 v_s n_4 k4_l1 k4_l2) v_s n_14 k14_l1 k14_l2 k14_l3) v_s k35_l2 k35_l3 k35_s0 k35_s1 = some R0 → XW p l e ({ frames := 2, cells := 0, slots := 0, locals := 84 } : Room) s m args below meth c D A 4 0 0 Q [(a_this, .inr (8, [.ref a_s, r_kept, .int v_undos, r_known, r_whose, r_lesser, r_other, .int v_open, r_sums, r_weights, r_row, r_plan, .int v_planned])), (a_s, .inl (cJ, 613, .inr (.inl v_s)))] [] [(0, .ref a_this), (2, .int k35_l2), (3, .int k35_l3)] 35 [.int k35_s0, .int k35_s1] := by
            intro k35_l2 k35_l3 k35_s0 k35_s1 hf
            unfold f_X8_lines_c35 at hf
            refine x_iadd 36 hC dX8_lines_35 rfl ?_
            obtain ⟨x_1, e_x_1, hf⟩ := nmx_e hf
            refine x_istore_n 37 [(1, .int x_1), (0, .ref a_this), (2, .int k35_l2), (3, .int k35_l3)] hC dX8_lines_36 rfl rfl e_x_1 (by decide) rfl ?_
            obtain ⟨x_2, e_x_2, hf⟩ := nmx_e hf
            refine x_iinc 40 3 [(3, .int x_2), (1, .int x_1), (0, .ref a_this), (2, .int k35_l2)] hC dX8_lines_37 rfl rfl e_x_2 (by decide) (by decide) rfl ?_
            refine x_goto 14 hC dX8_lines_40 (by decide) ?_
            refine x_lv [(0, .ref a_this), (1, .int x_1), (2, .int k35_l2), (3, .int x_2)] [2, 1, 3, 0] rfl ?_
            exact ih_14 x_1 k35_l2 x_2 hf
          intro k14_l1 k14_l2 k14_l3 hf
          unfold f_X8_lines_c14 at hf
          refine x_iload_n 15 3 hC dX8_lines_14 rfl rfl rfl ?_
          refine x_bipush 17 hC (10 : Int32) dX8_lines_15 rfl (by decide) ?_
          refine x_icmp_ge 43 20 hC dX8_lines_17 (by decide) rfl (fun c_3 => ?_) (fun c_3 => ?_)
          · have hf := if_t hf c_3
            obtain ⟨x_4, e_x_4, hf⟩ := nmx_e hf
            refine x_iinc 46 2 [(2, .int x_4), (0, .ref a_this), (1, .int k14_l1), (3, .int k14_l3)] hC dX8_lines_43 rfl rfl e_x_4 (by decide) (by decide) rfl ?_
            refine x_goto 4 hC dX8_lines_46 (by decide) ?_
            refine x_lv [(0, .ref a_this), (1, .int k14_l1), (2, .int x_4)] [1, 2, 0] rfl ?_
            exact ih_4 k14_l1 x_4 hf
          · have hf := if_f hf c_3
            refine x_iload_n 21 1 hC dX8_lines_20 rfl rfl rfl ?_
            refine x_aload_n 22 0 hC dX8_lines_21 rfl rfl rfl ?_
            refine x_iload_n 23 2 hC dX8_lines_22 rfl rfl rfl ?_
            refine x_iload_n 24 3 hC dX8_lines_23 rfl rfl rfl ?_
            obtain ⟨R_5, h_R_5, hf⟩ := bd_e hf
            refine x_callVi 27 0 2 [0, 1] [(a_this, .inr (8, [.ref a_s, r_kept, .int v_undos, r_known, r_whose, r_lesser, r_other, .int v_open, r_sums, r_weights, r_row, r_plan, .int v_planned])), (a_s, .inl (cJ, 613, .inr (.inl v_s)))] hC (As := [.int k14_l2, .int k14_l3]) (c_X8_areJoined l D cI cJ cQ a_this a_s r_kept r_known r_whose r_lesser r_other r_sums r_weights r_row r_plan v_undos v_open v_planned v_s k14_l2 k14_l3 R_5 h_R_5) rfl rfl gX8_lines_X8_areJoined rfl ⟨rfl, rfl⟩ hd_X8_areJoined ⟨Nat.le_of_ble_eq_true rfl, Nat.le_of_ble_eq_true rfl⟩ rfl rfl rfl rfl rfl rfl (Nat.le_of_ble_eq_true rfl) ⟨Nat.le_of_ble_eq_true rfl, Nat.le_of_ble_eq_true rfl⟩ dX8_lines_24 rfl ?_
            refine x_if_eq 34 30 hC dX8_lines_27 (by decide) rfl (fun c_6 => ?_) (fun c_6 => ?_)
            · have hf := if_t hf c_6
              refine x_iconst 35 hC (0 : Int32) dX8_lines_34 rfl (by decide) ?_
              refine x_lv [(0, .ref a_this), (2, .int k14_l2), (3, .int k14_l3)] [0, 2, 3] rfl ?_
              exact J_35 k14_l2 k14_l3 (0 : Int32) k14_l1 hf
            · have hf := if_f hf c_6
              refine x_iconst 31 hC (1 : Int32) dX8_lines_30 rfl (by decide) ?_
              refine x_goto 35 hC dX8_lines_31 (by decide) ?_
              refine x_lv [(0, .ref a_this), (2, .int k14_l2), (3, .int k14_l3)] [0, 2, 3] rfl ?_
              exact J_35 k14_l2 k14_l3 (1 : Int32) k14_l1 hf
      intro k4_l1 k4_l2 hf
      unfold f_X8_lines_c4 at hf
      refine x_iload_n 5 2 hC dX8_lines_4 rfl rfl rfl ?_
      refine x_bipush 7 hC (10 : Int32) dX8_lines_5 rfl (by decide) ?_
      refine x_icmp_ge 49 10 hC dX8_lines_7 (by decide) rfl (fun c_7 => ?_) (fun c_7 => ?_)
      · have hf := if_t hf c_7
        refine x_iload_n 50 1 hC dX8_lines_49 rfl rfl rfl ?_
        cases hf
        exact x_iret hC dX8_lines_50 hQ rfl rfl
      · have hf := if_f hf c_7
        refine x_iload_n 11 2 hC dX8_lines_10 rfl rfl rfl ?_
        refine x_iconst 12 hC (1 : Int32) dX8_lines_11 rfl (by decide) ?_
        refine x_iadd 13 hC dX8_lines_12 rfl ?_
        obtain ⟨x_8, e_x_8, hf⟩ := nmx_e hf
        refine x_istore_n 14 [(3, .int x_8), (0, .ref a_this), (1, .int k4_l1), (2, .int k4_l2)] hC dX8_lines_13 rfl rfl e_x_8 (by decide) rfl ?_
        refine x_lv [(0, .ref a_this), (1, .int k4_l1), (2, .int k4_l2), (3, .int x_8)] [1, 2, 3, 0] rfl ?_
        exact J_14 fu k4_l1 k4_l2 x_8 hf
  unfold f_X8_lines at hf
  refine x_iconst 1 hC (0 : Int32) dX8_lines_0 rfl (by decide) ?_
  refine x_istore_n 2 [(1, .int (0 : Int32)), (0, .ref a_this)] hC dX8_lines_1 rfl rfl rfl (by decide) rfl ?_
  refine x_iconst 3 hC (0 : Int32) dX8_lines_2 rfl (by decide) ?_
  refine x_istore_n 4 [(2, .int (0 : Int32)), (1, .int (0 : Int32)), (0, .ref a_this)] hC dX8_lines_3 rfl rfl rfl (by decide) rfl ?_
  refine x_lv [(0, .ref a_this), (1, .int (0 : Int32)), (2, .int (0 : Int32))] [2, 1, 0] rfl ?_
  exact J_4 fu (0 : Int32) (0 : Int32) hf

theorem hd_X8_line : yX8_line.cls = RX8 ∧ yX8_line.cls ≠ "java/lang/invoke/MethodHandle" ∧ yX8_line.cls ≠ "java/lang/invoke/VarHandle" ∧ (parseMethodDescriptor yX8_line.desc).map (fun d => d.parameters.length) = some 2 := by decide +kernel
theorem in_X8_line_X8 : ∀ w ∈ u_ws RX8 TX8 13, w ∈ wsX8_line := fun w h => List.mem_cons_of_mem _ (List.mem_append_right _ h)
noncomputable def f_X8_line (v_undos : Int32) (v_kept : Nat → Int64) (v_s : Nat → Int64) (p1 : Int32) (p2 : Int32) : Option (Int32 × (Nat → Int64) × (Nat → Int64) × Int32) := bd (f_X8_isMember v_s p1) fun R_1 => if R_1 = 0 then (some (v_undos, v_kept, v_s, (-1 : Int32))) else (bd (f_X8_isMember v_s p2) fun R_3 => if R_3 = 0 then (some (v_undos, v_kept, v_s, (-1 : Int32))) else (if ¬ p1 = p2 then (bd (f_X8_areJoined v_s p1 p2) fun R_6 => if R_6 = 0 then (bd (f_X8_keep v_s v_undos v_kept) fun R_8 => ck ((3 : Int32) + p1) 613 <| ck ((3 : Int32) + p1) 613 <| nm (vp_updL v_s ((3 : Int32) + p1).toNatClampNeg ((v_s ((3 : Int32) + p1).toNatClampNeg) ||| ((1 : Int64) <<< (p2.toInt64 &&& 63)))) fun g_11 => ck ((3 : Int32) + p2) 613 <| ck ((3 : Int32) + p2) 613 <| nm (vp_updL g_11 ((3 : Int32) + p2).toNatClampNeg ((g_11 ((3 : Int32) + p2).toNatClampNeg) ||| ((1 : Int64) <<< (p1.toInt64 &&& 63)))) fun g_14 => bd (f_X8_lines g_14) fun R_15 => some (R_8.1, R_8.2, g_14, R_15)) else (some (v_undos, v_kept, v_s, (-2 : Int32)))) else (some (v_undos, v_kept, v_s, (-1 : Int32)))))
set_option maxHeartbeats 4000000 in
set_option maxRecDepth 100000 in
theorem c_X8_line (l : Launch) (D : va_G) (cI cJ cQ : ClassId) (a_this : Nat) (a_kept : Nat) (a_s : Nat) (r_known : Value) (r_whose : Value) (r_lesser : Value) (r_other : Value) (r_sums : Value) (r_weights : Value) (r_row : Value) (r_plan : Value) (v_undos : Int32) (v_open : Int32) (v_planned : Int32) (v_kept : Nat → Int64) (v_s : Nat → Int64) (p1 : Int32) (p2 : Int32) (R0 : Int32 × (Nat → Int64) × (Nat → Int64) × Int32) (hf : f_X8_line v_undos v_kept v_s p1 p2 = some R0) : Ci l yX8_line wsX8_line ({ frames := 3, cells := 0, slots := 0, locals := 110 } : Room) D [(cI, .int), (cJ, .long), (cQ, .object "WhisperCrowd$State")] [.ref a_this, .int p1, .int p2] [(a_this, .inr (8, [.ref a_s, .ref a_kept, .int v_undos, r_known, r_whose, r_lesser, r_other, .int v_open, r_sums, r_weights, r_row, r_plan, .int v_planned])), (a_kept, .inl (cJ, 12260, .inr (.inl v_kept))), (a_s, .inl (cJ, 613, .inr (.inl v_s)))] [(a_this, .inr (8, [.ref a_s, .ref a_kept, .int R0.1, r_known, r_whose, r_lesser, r_other, .int v_open, r_sums, r_weights, r_row, r_plan, .int v_planned])), (a_kept, .inl (cJ, 12260, .inr (.inl R0.2.1))), (a_s, .inl (cJ, 613, .inr (.inl R0.2.2.1)))] R0.2.2.2 := by
  refine x_enti (cc := cX8_line) (maxL := 3) (rt := (some .int)) (lv := [(0, .ref a_this), (1, .int p1), (2, .int p2)]) (by decide) rfl (Nat.le_of_ble_eq_true rfl) rfl ?_
  intro p e s m args below meth c A Q hQ hC
  unfold f_X8_line at hf
  refine x_aload_n 1 0 hC dX8_line_0 rfl rfl rfl ?_
  refine x_iload_n 2 1 hC dX8_line_1 rfl rfl rfl ?_
  obtain ⟨R_1, h_R_1, hf⟩ := bd_e hf
  refine x_callVi 5 0 1 [0, 2] [(a_this, .inr (8, [.ref a_s, .ref a_kept, .int v_undos, r_known, r_whose, r_lesser, r_other, .int v_open, r_sums, r_weights, r_row, r_plan, .int v_planned])), (a_kept, .inl (cJ, 12260, .inr (.inl v_kept))), (a_s, .inl (cJ, 613, .inr (.inl v_s)))] hC (As := [.int p1]) (c_X8_isMember l D cI cJ cQ a_this a_s (.ref a_kept) r_known r_whose r_lesser r_other r_sums r_weights r_row r_plan v_undos v_open v_planned v_s p1 R_1 h_R_1) rfl rfl gX8_line_X8_isMember rfl ⟨rfl, rfl⟩ hd_X8_isMember ⟨Nat.le_of_ble_eq_true rfl, Nat.le_of_ble_eq_true rfl⟩ rfl rfl rfl rfl rfl rfl (Nat.le_of_ble_eq_true rfl) ⟨Nat.le_of_ble_eq_true rfl, Nat.le_of_ble_eq_true rfl⟩ dX8_line_2 rfl ?_
  refine x_if_eq 21 8 hC dX8_line_5 (by decide) rfl (fun c_2 => ?_) (fun c_2 => ?_)
  · have hf := if_t hf c_2
    refine x_iconst 22 hC (-1 : Int32) dX8_line_21 rfl (by decide) ?_
    cases hf
    exact x_iret hC dX8_line_22 hQ rfl rfl
  · have hf := if_f hf c_2
    refine x_aload_n 9 0 hC dX8_line_8 rfl rfl rfl ?_
    refine x_iload_n 10 2 hC dX8_line_9 rfl rfl rfl ?_
    obtain ⟨R_3, h_R_3, hf⟩ := bd_e hf
    refine x_callVi 13 0 1 [0, 2] [(a_this, .inr (8, [.ref a_s, .ref a_kept, .int v_undos, r_known, r_whose, r_lesser, r_other, .int v_open, r_sums, r_weights, r_row, r_plan, .int v_planned])), (a_kept, .inl (cJ, 12260, .inr (.inl v_kept))), (a_s, .inl (cJ, 613, .inr (.inl v_s)))] hC (As := [.int p2]) (c_X8_isMember l D cI cJ cQ a_this a_s (.ref a_kept) r_known r_whose r_lesser r_other r_sums r_weights r_row r_plan v_undos v_open v_planned v_s p2 R_3 h_R_3) rfl rfl gX8_line_X8_isMember rfl ⟨rfl, rfl⟩ hd_X8_isMember ⟨Nat.le_of_ble_eq_true rfl, Nat.le_of_ble_eq_true rfl⟩ rfl rfl rfl rfl rfl rfl (Nat.le_of_ble_eq_true rfl) ⟨Nat.le_of_ble_eq_true rfl, Nat.le_of_ble_eq_true rfl⟩ dX8_line_10 rfl ?_
    refine x_if_eq 21 16 hC dX8_line_13 (by decide) rfl (fun c_4 => ?_) (fun c_4 => ?_)
    · have hf := if_t hf c_4
      refine x_iconst 22 hC (-1 : Int32) dX8_line_21 rfl (by decide) ?_
      cases hf
      exact x_iret hC dX8_line_22 hQ rfl rfl
    · have hf := if_f hf c_4
      refine x_iload_n 17 1 hC dX8_line_16 rfl rfl rfl ?_
      refine x_iload_n 18 2 hC dX8_line_17 rfl rfl rfl ?_
      refine x_icmp_ne 23 21 hC dX8_line_18 (by decide) rfl (fun c_5 => ?_) (fun c_5 => ?_)
      · have hf := if_t hf c_5
        refine x_aload_n 24 0 hC dX8_line_23 rfl rfl rfl ?_
        refine x_iload_n 25 1 hC dX8_line_24 rfl rfl rfl ?_
        refine x_iload_n 26 2 hC dX8_line_25 rfl rfl rfl ?_
        obtain ⟨R_6, h_R_6, hf⟩ := bd_e hf
        refine x_callVi 29 0 2 [0, 2] [(a_this, .inr (8, [.ref a_s, .ref a_kept, .int v_undos, r_known, r_whose, r_lesser, r_other, .int v_open, r_sums, r_weights, r_row, r_plan, .int v_planned])), (a_kept, .inl (cJ, 12260, .inr (.inl v_kept))), (a_s, .inl (cJ, 613, .inr (.inl v_s)))] hC (As := [.int p1, .int p2]) (c_X8_areJoined l D cI cJ cQ a_this a_s (.ref a_kept) r_known r_whose r_lesser r_other r_sums r_weights r_row r_plan v_undos v_open v_planned v_s p1 p2 R_6 h_R_6) rfl rfl gX8_line_X8_areJoined rfl ⟨rfl, rfl⟩ hd_X8_areJoined ⟨Nat.le_of_ble_eq_true rfl, Nat.le_of_ble_eq_true rfl⟩ rfl rfl rfl rfl rfl rfl (Nat.le_of_ble_eq_true rfl) ⟨Nat.le_of_ble_eq_true rfl, Nat.le_of_ble_eq_true rfl⟩ dX8_line_26 rfl ?_
        refine x_if_eq 35 32 hC dX8_line_29 (by decide) rfl (fun c_7 => ?_) (fun c_7 => ?_)
        · have hf := if_t hf c_7
          refine x_aload_n 36 0 hC dX8_line_35 rfl rfl rfl ?_
          obtain ⟨R_8, h_R_8, hf⟩ := bd_e hf
          refine x_callVv 39 0 0 [0, 1, 2] [(a_this, .inr (8, [.ref a_s, .ref a_kept, .int R_8.1, r_known, r_whose, r_lesser, r_other, .int v_open, r_sums, r_weights, r_row, r_plan, .int v_planned])), (a_kept, .inl (cJ, 12260, .inr (.inl R_8.2))), (a_s, .inl (cJ, 613, .inr (.inl v_s)))] hC (As := []) (c_X8_keep l D cI cJ cQ a_this a_kept a_s r_known r_whose r_lesser r_other r_sums r_weights r_row r_plan v_undos v_open v_planned v_kept v_s R_8 h_R_8) rfl rfl gX8_line_X8_keep rfl ⟨rfl, rfl⟩ hd_X8_keep ⟨Nat.le_of_ble_eq_true rfl, Nat.le_of_ble_eq_true rfl⟩ rfl rfl rfl rfl rfl rfl (Nat.le_of_ble_eq_true rfl) ⟨Nat.le_of_ble_eq_true rfl, Nat.le_of_ble_eq_true rfl⟩ dX8_line_36 rfl ?_
          refine x_aload_n 40 0 hC dX8_line_39 rfl rfl rfl ?_
          refine x_get 43 0 0 hC in_X8_line_X8 rfl rfl (by decide) (List.mem_of_getElem? (i := 1) (by decide +kernel)) rfl rfl dX8_line_40 rfl ?_
          refine x_iconst 44 hC (3 : Int32) dX8_line_43 rfl (by decide) ?_
          refine x_iload_n 45 1 hC dX8_line_44 rfl rfl rfl ?_
          refine x_iadd 46 hC dX8_line_45 rfl ?_
          refine x_dup2_11 47 hC dX8_line_46 rfl rfl rfl ?_
          obtain ⟨h_9, hf⟩ := ck_e hf
          refine x_lald 48 2 1 hC rfl rfl h_9 dX8_line_47 rfl ?_
          refine x_lconst 49 hC (1 : Int64) dX8_line_48 rfl (by decide) ?_
          refine x_iload_n 50 2 hC dX8_line_49 rfl rfl rfl ?_
          refine x_lshl 51 hC dX8_line_50 rfl ?_
          refine x_lor 52 hC dX8_line_51 rfl ?_
          obtain ⟨h_10, hf⟩ := ck_e hf
          obtain ⟨g_11, e_g_11, hf⟩ := nmx_e hf
          refine x_last 53 2 1 [(a_this, .inr (8, [.ref a_s, .ref a_kept, .int R_8.1, r_known, r_whose, r_lesser, r_other, .int v_open, r_sums, r_weights, r_row, r_plan, .int v_planned])), (a_kept, .inl (cJ, 12260, .inr (.inl R_8.2))), (a_s, .inl (cJ, 613, .inr (.inl g_11)))] hC rfl rfl h_10 e_g_11 rfl dX8_line_52 rfl ?_
          refine x_aload_n 54 0 hC dX8_line_53 rfl rfl rfl ?_
          refine x_get 57 0 0 hC in_X8_line_X8 rfl rfl (by decide) (List.mem_of_getElem? (i := 1) (by decide +kernel)) rfl rfl dX8_line_54 rfl ?_
          refine x_iconst 58 hC (3 : Int32) dX8_line_57 rfl (by decide) ?_
          refine x_iload_n 59 2 hC dX8_line_58 rfl rfl rfl ?_
          refine x_iadd 60 hC dX8_line_59 rfl ?_
          refine x_dup2_11 61 hC dX8_line_60 rfl rfl rfl ?_
          obtain ⟨h_12, hf⟩ := ck_e hf
          refine x_lald 62 2 1 hC rfl rfl h_12 dX8_line_61 rfl ?_
          refine x_lconst 63 hC (1 : Int64) dX8_line_62 rfl (by decide) ?_
          refine x_iload_n 64 1 hC dX8_line_63 rfl rfl rfl ?_
          refine x_lshl 65 hC dX8_line_64 rfl ?_
          refine x_lor 66 hC dX8_line_65 rfl ?_
          obtain ⟨h_13, hf⟩ := ck_e hf
          obtain ⟨g_14, e_g_14, hf⟩ := nmx_e hf
          refine x_last 67 2 1 [(a_this, .inr (8, [.ref a_s, .ref a_kept, .int R_8.1, r_known, r_whose, r_lesser, r_other, .int v_open, r_sums, r_weights, r_row, r_plan, .int v_planned])), (a_kept, .inl (cJ, 12260, .inr (.inl R_8.2))), (a_s, .inl (cJ, 613, .inr (.inl g_14)))] hC rfl rfl h_13 e_g_14 rfl dX8_line_66 rfl ?_
          refine x_aload_n 68 0 hC dX8_line_67 rfl rfl rfl ?_
          obtain ⟨R_15, h_R_15, hf⟩ := bd_e hf
          refine x_callVi 71 0 0 [0, 2] [(a_this, .inr (8, [.ref a_s, .ref a_kept, .int R_8.1, r_known, r_whose, r_lesser, r_other, .int v_open, r_sums, r_weights, r_row, r_plan, .int v_planned])), (a_kept, .inl (cJ, 12260, .inr (.inl R_8.2))), (a_s, .inl (cJ, 613, .inr (.inl g_14)))] hC (As := []) (c_X8_lines l D cI cJ cQ a_this a_s (.ref a_kept) r_known r_whose r_lesser r_other r_sums r_weights r_row r_plan R_8.1 v_open v_planned g_14 R_15 h_R_15) rfl rfl gX8_line_X8_lines rfl ⟨rfl, rfl⟩ hd_X8_lines ⟨Nat.le_of_ble_eq_true rfl, Nat.le_of_ble_eq_true rfl⟩ rfl rfl rfl rfl rfl rfl (Nat.le_of_ble_eq_true rfl) ⟨Nat.le_of_ble_eq_true rfl, Nat.le_of_ble_eq_true rfl⟩ dX8_line_68 rfl ?_
          cases hf
          exact x_iret hC dX8_line_71 hQ rfl rfl
        · have hf := if_f hf c_7
          refine x_bipush 34 hC (-2 : Int32) dX8_line_32 rfl (by decide) ?_
          cases hf
          exact x_iret hC dX8_line_34 hQ rfl rfl
      · have hf := if_f hf c_5
        refine x_iconst 22 hC (-1 : Int32) dX8_line_21 rfl (by decide) ?_
        cases hf
        exact x_iret hC dX8_line_22 hQ rfl rfl

theorem hd_X8_isUnderWay : yX8_isUnderWay.cls = RX8 ∧ yX8_isUnderWay.cls ≠ "java/lang/invoke/MethodHandle" ∧ yX8_isUnderWay.cls ≠ "java/lang/invoke/VarHandle" ∧ (parseMethodDescriptor yX8_isUnderWay.desc).map (fun d => d.parameters.length) = some 1 := by decide +kernel
theorem in_X8_isUnderWay_X8 : ∀ w ∈ u_ws RX8 TX8 13, w ∈ wsX8_isUnderWay := fun w h => List.mem_cons_of_mem _ (List.mem_append_right _ h)
noncomputable def f_X8_isUnderWay (v_s : Nat → Int64) (p1 : Int32) : Option (Int32) := ck ((173 : Int32) + ((5 : Int32) * p1)) 613 <| if ¬ (v_s ((173 : Int32) + ((5 : Int32) * p1)).toNatClampNeg) = (1 : Int64) then (some ((0 : Int32))) else (some ((1 : Int32)))
set_option maxHeartbeats 4000000 in
set_option maxRecDepth 100000 in
theorem c_X8_isUnderWay (l : Launch) (D : va_G) (cI cJ cQ : ClassId) (a_this : Nat) (a_s : Nat) (r_kept : Value) (r_known : Value) (r_whose : Value) (r_lesser : Value) (r_other : Value) (r_sums : Value) (r_weights : Value) (r_row : Value) (r_plan : Value) (v_undos : Int32) (v_open : Int32) (v_planned : Int32) (v_s : Nat → Int64) (p1 : Int32) (R0 : Int32) (hf : f_X8_isUnderWay v_s p1 = some R0) : Ci l yX8_isUnderWay wsX8_isUnderWay ({ frames := 1, cells := 0, slots := 0, locals := 60 } : Room) D [(cI, .int), (cJ, .long), (cQ, .object "WhisperCrowd$State")] [.ref a_this, .int p1] [(a_this, .inr (8, [.ref a_s, r_kept, .int v_undos, r_known, r_whose, r_lesser, r_other, .int v_open, r_sums, r_weights, r_row, r_plan, .int v_planned])), (a_s, .inl (cJ, 613, .inr (.inl v_s)))] [(a_this, .inr (8, [.ref a_s, r_kept, .int v_undos, r_known, r_whose, r_lesser, r_other, .int v_open, r_sums, r_weights, r_row, r_plan, .int v_planned])), (a_s, .inl (cJ, 613, .inr (.inl v_s)))] R0 := by
  refine x_enti (cc := cX8_isUnderWay) (maxL := 2) (rt := (some .boolean)) (lv := [(0, .ref a_this), (1, .int p1)]) (by decide) rfl (Nat.le_of_ble_eq_true rfl) rfl ?_
  intro p e s m args below meth c A Q hQ hC
  unfold f_X8_isUnderWay at hf
  refine x_aload_n 1 0 hC dX8_isUnderWay_0 rfl rfl rfl ?_
  refine x_get 4 0 0 hC in_X8_isUnderWay_X8 rfl rfl (by decide) (List.mem_of_getElem? (i := 1) (by decide +kernel)) rfl rfl dX8_isUnderWay_1 rfl ?_
  refine x_sipush 7 hC (173 : Int32) dX8_isUnderWay_4 rfl (by decide) ?_
  refine x_iconst 8 hC (5 : Int32) dX8_isUnderWay_7 rfl (by decide) ?_
  refine x_iload_n 9 1 hC dX8_isUnderWay_8 rfl rfl rfl ?_
  refine x_imul 10 hC dX8_isUnderWay_9 rfl ?_
  refine x_iadd 11 hC dX8_isUnderWay_10 rfl ?_
  obtain ⟨h_1, hf⟩ := ck_e hf
  refine x_lald 12 1 1 hC rfl rfl h_1 dX8_isUnderWay_11 rfl ?_
  refine x_lconst 13 hC (1 : Int64) dX8_isUnderWay_12 rfl (by decide) ?_
  refine x_lcmp_ne 21 17 hC dX8_isUnderWay_13 dX8_isUnderWay_14 (by decide) rfl (fun c_2 => ?_) (fun c_2 => ?_)
  · have hf := if_t hf c_2
    refine x_iconst 22 hC (0 : Int32) dX8_isUnderWay_21 rfl (by decide) ?_
    cases hf
    exact x_zret hC rfl dX8_isUnderWay_22 hQ rfl rfl
  · have hf := if_f hf c_2
    refine x_iconst 18 hC (1 : Int32) dX8_isUnderWay_17 rfl (by decide) ?_
    refine x_goto 22 hC dX8_isUnderWay_18 (by decide) ?_
    cases hf
    exact x_zret hC rfl dX8_isUnderWay_22 hQ rfl rfl

theorem hd_X8_isOver : yX8_isOver.cls = RX8 ∧ yX8_isOver.cls ≠ "java/lang/invoke/MethodHandle" ∧ yX8_isOver.cls ≠ "java/lang/invoke/VarHandle" ∧ (parseMethodDescriptor yX8_isOver.desc).map (fun d => d.parameters.length) = some 3 := by decide +kernel
theorem in_X8_isOver_X8 : ∀ w ∈ u_ws RX8 TX8 13, w ∈ wsX8_isOver := fun w h => List.mem_cons_of_mem _ (List.mem_append_right _ h)
noncomputable def f_X8_isOver_c56 (v_s : Nat → Int64) (k56_l2 : Int32) (k56_l3 : Int32) (k56_l4 : Int64) (k56_l6 : Int64) : Option (Int32) := if ¬ k56_l4 = (k56_l3.toInt64) then (some ((0 : Int32))) else (if ¬ k56_l6 = (k56_l2.toInt64) then (some ((0 : Int32))) else (some ((1 : Int32))))
noncomputable def f_X8_isOver (v_s : Nat → Int64) (p1 : Int32) (p2 : Int32) (p3 : Int32) : Option (Int32) := ck (((173 : Int32) + ((5 : Int32) * p1)) + (1 : Int32)) 613 <| nm (v_s (((173 : Int32) + ((5 : Int32) * p1)) + (1 : Int32)).toNatClampNeg) fun x_4 => ck (((173 : Int32) + ((5 : Int32) * p1)) + (2 : Int32)) 613 <| nm (v_s (((173 : Int32) + ((5 : Int32) * p1)) + (2 : Int32)).toNatClampNeg) fun x_6 => bd (f_X8_isUnderWay v_s p1) fun R_7 => if R_7 = 0 then (some ((0 : Int32))) else (if ¬ x_4 = (p2.toInt64) then (f_X8_isOver_c56 v_s p2 p3 x_4 x_6) else (if x_6 = (p3.toInt64) then (some ((1 : Int32))) else (f_X8_isOver_c56 v_s p2 p3 x_4 x_6)))
set_option maxHeartbeats 4000000 in
set_option maxRecDepth 100000 in
theorem c_X8_isOver (l : Launch) (D : va_G) (cI cJ cQ : ClassId) (a_this : Nat) (a_s : Nat) (r_kept : Value) (r_known : Value) (r_whose : Value) (r_lesser : Value) (r_other : Value) (r_sums : Value) (r_weights : Value) (r_row : Value) (r_plan : Value) (v_undos : Int32) (v_open : Int32) (v_planned : Int32) (v_s : Nat → Int64) (p1 : Int32) (p2 : Int32) (p3 : Int32) (R0 : Int32) (hf : f_X8_isOver v_s p1 p2 p3 = some R0) : Ci l yX8_isOver wsX8_isOver ({ frames := 2, cells := 0, slots := 0, locals := 83 } : Room) D [(cI, .int), (cJ, .long), (cQ, .object "WhisperCrowd$State")] [.ref a_this, .int p1, .int p2, .int p3] [(a_this, .inr (8, [.ref a_s, r_kept, .int v_undos, r_known, r_whose, r_lesser, r_other, .int v_open, r_sums, r_weights, r_row, r_plan, .int v_planned])), (a_s, .inl (cJ, 613, .inr (.inl v_s)))] [(a_this, .inr (8, [.ref a_s, r_kept, .int v_undos, r_known, r_whose, r_lesser, r_other, .int v_open, r_sums, r_weights, r_row, r_plan, .int v_planned])), (a_s, .inl (cJ, 613, .inr (.inl v_s)))] R0 := by
  refine x_enti (cc := cX8_isOver) (maxL := 8) (rt := (some .boolean)) (lv := [(0, .ref a_this), (1, .int p1), (2, .int p2), (3, .int p3)]) (by decide) rfl (Nat.le_of_ble_eq_true rfl) rfl ?_
  intro p e s m args below meth c A Q hQ hC
  have J_56 : ∀ (k56_l2 : Int32) (k56_l3 : Int32) (k56_l4 : Int64) (k56_l6 : Int64), f_X8_isOver_c56 v_s k56_l2 k56_l3 k56_l4 k56_l6 = some R0 → XW p l e ({ frames := 2, cells := 0, slots := 0, locals := 83 } : Room) s m args below meth c D A 8 0 0 Q [(a_this, .inr (8, [.ref a_s, r_kept, .int v_undos, r_known, r_whose, r_lesser, r_other, .int v_open, r_sums, r_weights, r_row, r_plan, .int v_planned])), (a_s, .inl (cJ, 613, .inr (.inl v_s)))] [] [(2, .int k56_l2), (3, .int k56_l3), (4, .long k56_l4), (6, .long k56_l6)] 56 [] := by
    intro k56_l2 k56_l3 k56_l4 k56_l6 hf
    unfold f_X8_isOver_c56 at hf
    refine x_lload 58 2 hC dX8_isOver_56 rfl rfl ?_
    refine x_iload_n 59 1 hC dX8_isOver_58 rfl rfl rfl ?_
    refine x_i2l 60 hC dX8_isOver_59 rfl ?_
    refine x_lcmp_ne 76 64 hC dX8_isOver_60 dX8_isOver_61 (by decide) rfl (fun c_1 => ?_) (fun c_1 => ?_)
    · have hf := if_t hf c_1
      refine x_iconst 77 hC (0 : Int32) dX8_isOver_76 rfl (by decide) ?_
      cases hf
      exact x_zret hC rfl dX8_isOver_77 hQ rfl rfl
    · have hf := if_f hf c_1
      refine x_lload 66 3 hC dX8_isOver_64 rfl rfl ?_
      refine x_iload_n 67 0 hC dX8_isOver_66 rfl rfl rfl ?_
      refine x_i2l 68 hC dX8_isOver_67 rfl ?_
      refine x_lcmp_ne 76 72 hC dX8_isOver_68 dX8_isOver_69 (by decide) rfl (fun c_2 => ?_) (fun c_2 => ?_)
      · have hf := if_t hf c_2
        refine x_iconst 77 hC (0 : Int32) dX8_isOver_76 rfl (by decide) ?_
        cases hf
        exact x_zret hC rfl dX8_isOver_77 hQ rfl rfl
      · have hf := if_f hf c_2
        refine x_iconst 73 hC (1 : Int32) dX8_isOver_72 rfl (by decide) ?_
        refine x_goto 77 hC dX8_isOver_73 (by decide) ?_
        cases hf
        exact x_zret hC rfl dX8_isOver_77 hQ rfl rfl
  unfold f_X8_isOver at hf
  refine x_aload_n 1 0 hC dX8_isOver_0 rfl rfl rfl ?_
  refine x_get 4 0 0 hC in_X8_isOver_X8 rfl rfl (by decide) (List.mem_of_getElem? (i := 1) (by decide +kernel)) rfl rfl dX8_isOver_1 rfl ?_
  refine x_sipush 7 hC (173 : Int32) dX8_isOver_4 rfl (by decide) ?_
  refine x_iconst 8 hC (5 : Int32) dX8_isOver_7 rfl (by decide) ?_
  refine x_iload_n 9 1 hC dX8_isOver_8 rfl rfl rfl ?_
  refine x_imul 10 hC dX8_isOver_9 rfl ?_
  refine x_iadd 11 hC dX8_isOver_10 rfl ?_
  refine x_iconst 12 hC (1 : Int32) dX8_isOver_11 rfl (by decide) ?_
  refine x_iadd 13 hC dX8_isOver_12 rfl ?_
  obtain ⟨h_3, hf⟩ := ck_e hf
  refine x_lald 14 1 1 hC rfl rfl h_3 dX8_isOver_13 rfl ?_
  obtain ⟨x_4, e_x_4, hf⟩ := nmx_e hf
  refine x_lstore 16 [(4, .long x_4), (0, .ref a_this), (1, .int p1), (2, .int p2), (3, .int p3)] hC dX8_isOver_14 rfl e_x_4 (by decide) rfl ?_
  refine x_aload_n 17 1 hC dX8_isOver_16 rfl rfl rfl ?_
  refine x_get 20 0 0 hC in_X8_isOver_X8 rfl rfl (by decide) (List.mem_of_getElem? (i := 1) (by decide +kernel)) rfl rfl dX8_isOver_17 rfl ?_
  refine x_sipush 23 hC (173 : Int32) dX8_isOver_20 rfl (by decide) ?_
  refine x_iconst 24 hC (5 : Int32) dX8_isOver_23 rfl (by decide) ?_
  refine x_iload_n 25 2 hC dX8_isOver_24 rfl rfl rfl ?_
  refine x_imul 26 hC dX8_isOver_25 rfl ?_
  refine x_iadd 27 hC dX8_isOver_26 rfl ?_
  refine x_iconst 28 hC (2 : Int32) dX8_isOver_27 rfl (by decide) ?_
  refine x_iadd 29 hC dX8_isOver_28 rfl ?_
  obtain ⟨h_5, hf⟩ := ck_e hf
  refine x_lald 30 1 1 hC rfl rfl h_5 dX8_isOver_29 rfl ?_
  obtain ⟨x_6, e_x_6, hf⟩ := nmx_e hf
  refine x_lstore 32 [(6, .long x_6), (4, .long x_4), (0, .ref a_this), (1, .int p1), (2, .int p2), (3, .int p3)] hC dX8_isOver_30 rfl e_x_6 (by decide) rfl ?_
  refine x_aload_n 33 2 hC dX8_isOver_32 rfl rfl rfl ?_
  refine x_iload_n 34 3 hC dX8_isOver_33 rfl rfl rfl ?_
  obtain ⟨R_7, h_R_7, hf⟩ := bd_e hf
  refine x_callVi 37 0 1 [0, 1] [(a_this, .inr (8, [.ref a_s, r_kept, .int v_undos, r_known, r_whose, r_lesser, r_other, .int v_open, r_sums, r_weights, r_row, r_plan, .int v_planned])), (a_s, .inl (cJ, 613, .inr (.inl v_s)))] hC (As := [.int p1]) (c_X8_isUnderWay l D cI cJ cQ a_this a_s r_kept r_known r_whose r_lesser r_other r_sums r_weights r_row r_plan v_undos v_open v_planned v_s p1 R_7 h_R_7) rfl rfl gX8_isOver_X8_isUnderWay rfl ⟨rfl, rfl⟩ hd_X8_isUnderWay ⟨Nat.le_of_ble_eq_true rfl, Nat.le_of_ble_eq_true rfl⟩ rfl rfl rfl rfl rfl rfl (Nat.le_of_ble_eq_true rfl) ⟨Nat.le_of_ble_eq_true rfl, Nat.le_of_ble_eq_true rfl⟩ dX8_isOver_34 rfl ?_
  refine x_if_eq 76 40 hC dX8_isOver_37 (by decide) rfl (fun c_8 => ?_) (fun c_8 => ?_)
  · have hf := if_t hf c_8
    refine x_iconst 77 hC (0 : Int32) dX8_isOver_76 rfl (by decide) ?_
    cases hf
    exact x_zret hC rfl dX8_isOver_77 hQ rfl rfl
  · have hf := if_f hf c_8
    refine x_lload 42 1 hC dX8_isOver_40 rfl rfl ?_
    refine x_iload_n 43 4 hC dX8_isOver_42 rfl rfl rfl ?_
    refine x_i2l 44 hC dX8_isOver_43 rfl ?_
    refine x_lcmp_ne 56 48 hC dX8_isOver_44 dX8_isOver_45 (by decide) rfl (fun c_9 => ?_) (fun c_9 => ?_)
    · have hf := if_t hf c_9
      refine x_lv [(2, .int p2), (3, .int p3), (4, .long x_4), (6, .long x_6)] [4, 5, 1, 0] rfl ?_
      exact J_56 p2 p3 x_4 x_6 hf
    · have hf := if_f hf c_9
      refine x_lload 50 0 hC dX8_isOver_48 rfl rfl ?_
      refine x_iload_n 51 5 hC dX8_isOver_50 rfl rfl rfl ?_
      refine x_i2l 52 hC dX8_isOver_51 rfl ?_
      refine x_lcmp_eq 72 56 hC dX8_isOver_52 dX8_isOver_53 (by decide) rfl (fun c_10 => ?_) (fun c_10 => ?_)
      · have hf := if_t hf c_10
        refine x_iconst 73 hC (1 : Int32) dX8_isOver_72 rfl (by decide) ?_
        refine x_goto 77 hC dX8_isOver_73 (by decide) ?_
        cases hf
        exact x_zret hC rfl dX8_isOver_77 hQ rfl rfl
      · have hf := if_f hf c_10
        refine x_lv [(2, .int p2), (3, .int p3), (4, .long x_4), (6, .long x_6)] [4, 5, 1, 0] rfl ?_
        exact J_56 p2 p3 x_4 x_6 hf

theorem hd_X8_cut : yX8_cut.cls = RX8 ∧ yX8_cut.cls ≠ "java/lang/invoke/MethodHandle" ∧ yX8_cut.cls ≠ "java/lang/invoke/VarHandle" ∧ (parseMethodDescriptor yX8_cut.desc).map (fun d => d.parameters.length) = some 2 := by decide +kernel
theorem in_X8_cut_X8 : ∀ w ∈ u_ws RX8 TX8 13, w ∈ wsX8_cut := fun w h => List.mem_cons_of_mem _ (List.mem_append_right _ h)
noncomputable def f_X8_cut_c68 (k41 : Int32 → (Nat → Int64) → (Nat → Int64) → Int32 → Int32 → Int32 → Int32 → Option (Int32 × (Nat → Int64) × (Nat → Int64) × Int32)) (k68_undos : Int32) (k68_kept : Nat → Int64) (k68_s : Nat → Int64) (k68_l1 : Int32) (k68_l2 : Int32) (k68_l4 : Int32) (k68_s0 : Int32) : Option (Int32 × (Nat → Int64) × (Nat → Int64) × Int32) := nm (k68_l4 + (1 : Int32)) fun x_1 => k41 k68_undos k68_kept k68_s k68_l1 k68_l2 k68_s0 x_1
noncomputable def f_X8_cut_c63 (k41 : Int32 → (Nat → Int64) → (Nat → Int64) → Int32 → Int32 → Int32 → Int32 → Option (Int32 × (Nat → Int64) × (Nat → Int64) × Int32)) (k63_undos : Int32) (k63_kept : Nat → Int64) (k63_s : Nat → Int64) (k63_l1 : Int32) (k63_l2 : Int32) (k63_l4 : Int32) : Option (Int32 × (Nat → Int64) × (Nat → Int64) × Int32) := f_X8_cut_c68 k41 k63_undos k63_kept k63_s k63_l1 k63_l2 k63_l4 (1 : Int32)
noncomputable def f_X8_cut_c41 : Nat → Int32 → (Nat → Int64) → (Nat → Int64) → Int32 → Int32 → Int32 → Int32 → Option (Int32 × (Nat → Int64) × (Nat → Int64) × Int32)
  | 0, _, _, _, _, _, _, _ => none
  | n + 1, k41_undos, k41_kept, k41_s, k41_l1, k41_l2, k41_l3, k41_l4 => if (8 : Int32) ≤ k41_l4 then (if k41_l3 = 0 then (bd (f_X8_keep k41_s k41_undos k41_kept) fun R_4 => ck ((3 : Int32) + k41_l1) 613 <| ck ((3 : Int32) + k41_l1) 613 <| nm (vp_updL k41_s ((3 : Int32) + k41_l1).toNatClampNeg ((k41_s ((3 : Int32) + k41_l1).toNatClampNeg) &&& (((1 : Int64) <<< (k41_l2.toInt64 &&& 63)) ^^^ (-1 : Int64)))) fun g_7 => ck ((3 : Int32) + k41_l2) 613 <| ck ((3 : Int32) + k41_l2) 613 <| nm (vp_updL g_7 ((3 : Int32) + k41_l2).toNatClampNeg ((g_7 ((3 : Int32) + k41_l2).toNatClampNeg) &&& (((1 : Int64) <<< (k41_l1.toInt64 &&& 63)) ^^^ (-1 : Int64)))) fun g_10 => bd (f_X8_lines g_10) fun R_11 => some (R_4.1, R_4.2, g_10, R_11)) else (some (k41_undos, k41_kept, k41_s, (-2 : Int32)))) else (if ¬ k41_l3 = 0 then (f_X8_cut_c63 (fun k41_undos k41_kept k41_s k41_l1 k41_l2 k41_l3 k41_l4 => f_X8_cut_c41 n k41_undos k41_kept k41_s k41_l1 k41_l2 k41_l3 k41_l4) k41_undos k41_kept k41_s k41_l1 k41_l2 k41_l4) else (bd (f_X8_isOver k41_s k41_l4 k41_l1 k41_l2) fun R_13 => if R_13 = 0 then (f_X8_cut_c68 (fun k41_undos k41_kept k41_s k41_l1 k41_l2 k41_l3 k41_l4 => f_X8_cut_c41 n k41_undos k41_kept k41_s k41_l1 k41_l2 k41_l3 k41_l4) k41_undos k41_kept k41_s k41_l1 k41_l2 k41_l4 (0 : Int32)) else (f_X8_cut_c63 (fun k41_undos k41_kept k41_s k41_l1 k41_l2 k41_l3 k41_l4 => f_X8_cut_c41 n k41_undos k41_kept k41_s k41_l1 k41_l2 k41_l3 k41_l4) k41_undos k41_kept k41_s k41_l1 k41_l2 k41_l4)))
noncomputable def f_X8_cut_c37 (k37_undos : Int32) (k37_kept : Nat → Int64) (k37_s : Nat → Int64) (k37_l1 : Int32) (k37_l2 : Int32) (k37_s0 : Int32) : Option (Int32 × (Nat → Int64) × (Nat → Int64) × Int32) := f_X8_cut_c41 fu k37_undos k37_kept k37_s k37_l1 k37_l2 k37_s0 (0 : Int32)
noncomputable def f_X8_cut (v_undos : Int32) (v_kept : Nat → Int64) (v_s : Nat → Int64) (p1 : Int32) (p2 : Int32) : Option (Int32 × (Nat → Int64) × (Nat → Int64) × Int32) := bd (f_X8_isMember v_s p1) fun R_15 => if R_15 = 0 then (some (v_undos, v_kept, v_s, (-1 : Int32))) else (bd (f_X8_isMember v_s p2) fun R_17 => if R_17 = 0 then (some (v_undos, v_kept, v_s, (-1 : Int32))) else (if ¬ p1 = p2 then (bd (f_X8_areJoined v_s p1 p2) fun R_20 => if ¬ R_20 = 0 then (f_X8_cut_c37 v_undos v_kept v_s p1 p2 (0 : Int32)) else (f_X8_cut_c37 v_undos v_kept v_s p1 p2 (1 : Int32))) else (some (v_undos, v_kept, v_s, (-1 : Int32)))))
set_option maxHeartbeats 4000000 in
set_option maxRecDepth 100000 in
theorem c_X8_cut (l : Launch) (D : va_G) (cI cJ cQ : ClassId) (a_this : Nat) (a_kept : Nat) (a_s : Nat) (r_known : Value) (r_whose : Value) (r_lesser : Value) (r_other : Value) (r_sums : Value) (r_weights : Value) (r_row : Value) (r_plan : Value) (v_undos : Int32) (v_open : Int32) (v_planned : Int32) (v_kept : Nat → Int64) (v_s : Nat → Int64) (p1 : Int32) (p2 : Int32) (R0 : Int32 × (Nat → Int64) × (Nat → Int64) × Int32) (hf : f_X8_cut v_undos v_kept v_s p1 p2 = some R0) : Ci l yX8_cut wsX8_cut ({ frames := 3, cells := 0, slots := 0, locals := 112 } : Room) D [(cI, .int), (cJ, .long), (cQ, .object "WhisperCrowd$State")] [.ref a_this, .int p1, .int p2] [(a_this, .inr (8, [.ref a_s, .ref a_kept, .int v_undos, r_known, r_whose, r_lesser, r_other, .int v_open, r_sums, r_weights, r_row, r_plan, .int v_planned])), (a_kept, .inl (cJ, 12260, .inr (.inl v_kept))), (a_s, .inl (cJ, 613, .inr (.inl v_s)))] [(a_this, .inr (8, [.ref a_s, .ref a_kept, .int R0.1, r_known, r_whose, r_lesser, r_other, .int v_open, r_sums, r_weights, r_row, r_plan, .int v_planned])), (a_kept, .inl (cJ, 12260, .inr (.inl R0.2.1))), (a_s, .inl (cJ, 613, .inr (.inl R0.2.2.1)))] R0.2.2.2 := by
  refine x_enti (cc := cX8_cut) (maxL := 5) (rt := (some .int)) (lv := [(0, .ref a_this), (1, .int p1), (2, .int p2)]) (by decide) rfl (Nat.le_of_ble_eq_true rfl) rfl ?_
  intro p e s m args below meth c A Q hQ hC
  have J_41 : ∀ (n : Nat) (k41_undos : Int32) (k41_kept : Nat → Int64) (k41_s : Nat → Int64) (k41_l1 : Int32) (k41_l2 : Int32) (k41_l3 : Int32) (k41_l4 : Int32), f_X8_cut_c41 n k41_undos k41_kept k41_s k41_l1 k41_l2 k41_l3 k41_l4 = some R0 → XW p l e ({ frames := 3, cells := 0, slots := 0, locals := 112 } : Room) s m args below meth c D A 5 0 0 Q [(a_this, .inr (8, [.ref a_s, .ref a_kept, .int k41_undos, r_known, r_whose, r_lesser, r_other, .int v_open, r_sums, r_weights, r_row, r_plan, .int v_planned])), (a_kept, .inl (cJ, 12260, .inr (.inl k41_kept))), (a_s, .inl (cJ, 613, .inr (.inl k41_s)))] [] [(0, .ref a_this), (1, .int k41_l1), (2, .int k41_l2), (3, .int k41_l3), (4, .int k41_l4)] 41 [] := by
    intro n
    induction n with
    | zero => intro k41_undos k41_kept k41_s k41_l1 k41_l2 k41_l3 k41_l4 hf; exact nomatch (show (none : Option (Int32 × (Nat → Int64) × (Nat → Int64) × Int32)) = some R0 from hf)
    | succ n_41 ih_41 =>
      have J_68 : ∀ (k68_undos : Int32) (k68_kept : Nat → Int64) (k68_s : Nat → Int64) (k68_l1 : Int32) (k68_l2 : Int32) (k68_l4 : Int32) (k68_s0 : Int32), f_X8_cut_c68 (fun k41_undos k41_kept k41_s k41_l1 k41_l2 k41_l3 k41_l4 => f_X8_cut_c41 n_41 k41_undos k41_kept k41_s k41_l1 k41_l2 k41_l3 k41_l4) k68_undos k68_kept k68_s k68_l1 k68_l2 k68_l4 k68_s0 = some R0 → XW p l e ({ frames := 3, cells := 0, slots := 0, locals := 112 } : Room) s m args below meth c D A 5 0 0 Q [(a_this, .inr (8, [.ref a_s, .ref a_kept, .int k68_undos, r_known, r_whose, r_lesser, r_other, .int v_open, r_sums, r_weights, r_row, r_plan, .int v_planned])), (a_kept, .inl (cJ, 12260, .inr (.inl k68_kept))), (a_s, .inl (cJ, 613, .inr (.inl k68_s)))] [] [(0, .ref a_this), (1, .int k68_l1), (2, .int k68_l2), (4, .int k68_l4)] 68 [.int k68_s0] := by
        intro k68_undos k68_kept k68_s k68_l1 k68_l2 k68_l4 k68_s0 hf
        unfold f_X8_cut_c68 at hf
        refine x_istore_n 69 [(3, .int k68_s0), (0, .ref a_this), (1, .int k68_l1), (2, .int k68_l2), (4, .int k68_l4)] hC dX8_cut_68 rfl rfl rfl (by decide) rfl ?_
        obtain ⟨x_1, e_x_1, hf⟩ := nmx_e hf
        refine x_iinc 72 4 [(4, .int x_1), (3, .int k68_s0), (0, .ref a_this), (1, .int k68_l1), (2, .int k68_l2)] hC dX8_cut_69 rfl rfl e_x_1 (by decide) (by decide) rfl ?_
        refine x_goto 41 hC dX8_cut_72 (by decide) ?_
        refine x_lv [(0, .ref a_this), (1, .int k68_l1), (2, .int k68_l2), (3, .int k68_s0), (4, .int x_1)] [2, 3, 4, 1, 0] rfl ?_
        exact ih_41 k68_undos k68_kept k68_s k68_l1 k68_l2 k68_s0 x_1 hf
      have J_63 : ∀ (k63_undos : Int32) (k63_kept : Nat → Int64) (k63_s : Nat → Int64) (k63_l1 : Int32) (k63_l2 : Int32) (k63_l4 : Int32), f_X8_cut_c63 (fun k41_undos k41_kept k41_s k41_l1 k41_l2 k41_l3 k41_l4 => f_X8_cut_c41 n_41 k41_undos k41_kept k41_s k41_l1 k41_l2 k41_l3 k41_l4) k63_undos k63_kept k63_s k63_l1 k63_l2 k63_l4 = some R0 → XW p l e ({ frames := 3, cells := 0, slots := 0, locals := 112 } : Room) s m args below meth c D A 5 0 0 Q [(a_this, .inr (8, [.ref a_s, .ref a_kept, .int k63_undos, r_known, r_whose, r_lesser, r_other, .int v_open, r_sums, r_weights, r_row, r_plan, .int v_planned])), (a_kept, .inl (cJ, 12260, .inr (.inl k63_kept))), (a_s, .inl (cJ, 613, .inr (.inl k63_s)))] [] [(0, .ref a_this), (1, .int k63_l1), (2, .int k63_l2), (4, .int k63_l4)] 63 [] := by
        intro k63_undos k63_kept k63_s k63_l1 k63_l2 k63_l4 hf
        unfold f_X8_cut_c63 at hf
        refine x_iconst 64 hC (1 : Int32) dX8_cut_63 rfl (by decide) ?_
        refine x_goto 68 hC dX8_cut_64 (by decide) ?_
        refine x_lv [(0, .ref a_this), (1, .int k63_l1), (2, .int k63_l2), (4, .int k63_l4)] [0, 1, 2, 3] rfl ?_
        exact J_68 k63_undos k63_kept k63_s k63_l1 k63_l2 k63_l4 (1 : Int32) hf
      intro k41_undos k41_kept k41_s k41_l1 k41_l2 k41_l3 k41_l4 hf
      unfold f_X8_cut_c41 at hf
      refine x_iload 43 4 hC dX8_cut_41 rfl rfl ?_
      refine x_bipush 45 hC (8 : Int32) dX8_cut_43 rfl (by decide) ?_
      refine x_icmp_ge 75 48 hC dX8_cut_45 (by decide) rfl (fun c_2 => ?_) (fun c_2 => ?_)
      · have hf := if_t hf c_2
        refine x_iload_n 76 3 hC dX8_cut_75 rfl rfl rfl ?_
        refine x_if_eq 82 79 hC dX8_cut_76 (by decide) rfl (fun c_3 => ?_) (fun c_3 => ?_)
        · have hf := if_t hf c_3
          refine x_aload_n 83 0 hC dX8_cut_82 rfl rfl rfl ?_
          obtain ⟨R_4, h_R_4, hf⟩ := bd_e hf
          refine x_callVv 86 0 0 [0, 1, 2] [(a_this, .inr (8, [.ref a_s, .ref a_kept, .int R_4.1, r_known, r_whose, r_lesser, r_other, .int v_open, r_sums, r_weights, r_row, r_plan, .int v_planned])), (a_kept, .inl (cJ, 12260, .inr (.inl R_4.2))), (a_s, .inl (cJ, 613, .inr (.inl k41_s)))] hC (As := []) (c_X8_keep l D cI cJ cQ a_this a_kept a_s r_known r_whose r_lesser r_other r_sums r_weights r_row r_plan k41_undos v_open v_planned k41_kept k41_s R_4 h_R_4) rfl rfl gX8_cut_X8_keep rfl ⟨rfl, rfl⟩ hd_X8_keep ⟨Nat.le_of_ble_eq_true rfl, Nat.le_of_ble_eq_true rfl⟩ rfl rfl rfl rfl rfl rfl (Nat.le_of_ble_eq_true rfl) ⟨Nat.le_of_ble_eq_true rfl, Nat.le_of_ble_eq_true rfl⟩ dX8_cut_83 rfl ?_
          refine x_aload_n 87 0 hC dX8_cut_86 rfl rfl rfl ?_
          refine x_get 90 0 0 hC in_X8_cut_X8 rfl rfl (by decide) (List.mem_of_getElem? (i := 1) (by decide +kernel)) rfl rfl dX8_cut_87 rfl ?_
          refine x_iconst 91 hC (3 : Int32) dX8_cut_90 rfl (by decide) ?_
          refine x_iload_n 92 1 hC dX8_cut_91 rfl rfl rfl ?_
          refine x_iadd 93 hC dX8_cut_92 rfl ?_
          refine x_dup2_11 94 hC dX8_cut_93 rfl rfl rfl ?_
          obtain ⟨h_5, hf⟩ := ck_e hf
          refine x_lald 95 2 1 hC rfl rfl h_5 dX8_cut_94 rfl ?_
          refine x_lconst 96 hC (1 : Int64) dX8_cut_95 rfl (by decide) ?_
          refine x_iload_n 97 2 hC dX8_cut_96 rfl rfl rfl ?_
          refine x_lshl 98 hC dX8_cut_97 rfl ?_
          refine x_ldc2 101 hC (v := (-1 : Int64)) (List.mem_of_getElem? (i := 2) (by decide +kernel)) dX8_cut_98 rfl ?_
          refine x_lxor 102 hC dX8_cut_101 rfl ?_
          refine x_land 103 hC dX8_cut_102 rfl ?_
          obtain ⟨h_6, hf⟩ := ck_e hf
          obtain ⟨g_7, e_g_7, hf⟩ := nmx_e hf
          refine x_last 104 2 1 [(a_this, .inr (8, [.ref a_s, .ref a_kept, .int R_4.1, r_known, r_whose, r_lesser, r_other, .int v_open, r_sums, r_weights, r_row, r_plan, .int v_planned])), (a_kept, .inl (cJ, 12260, .inr (.inl R_4.2))), (a_s, .inl (cJ, 613, .inr (.inl g_7)))] hC rfl rfl h_6 e_g_7 rfl dX8_cut_103 rfl ?_
          refine x_aload_n 105 0 hC dX8_cut_104 rfl rfl rfl ?_
          refine x_get 108 0 0 hC in_X8_cut_X8 rfl rfl (by decide) (List.mem_of_getElem? (i := 1) (by decide +kernel)) rfl rfl dX8_cut_105 rfl ?_
          refine x_iconst 109 hC (3 : Int32) dX8_cut_108 rfl (by decide) ?_
          refine x_iload_n 110 2 hC dX8_cut_109 rfl rfl rfl ?_
          refine x_iadd 111 hC dX8_cut_110 rfl ?_
          refine x_dup2_11 112 hC dX8_cut_111 rfl rfl rfl ?_
          obtain ⟨h_8, hf⟩ := ck_e hf
          refine x_lald 113 2 1 hC rfl rfl h_8 dX8_cut_112 rfl ?_
          refine x_lconst 114 hC (1 : Int64) dX8_cut_113 rfl (by decide) ?_
          refine x_iload_n 115 1 hC dX8_cut_114 rfl rfl rfl ?_
          refine x_lshl 116 hC dX8_cut_115 rfl ?_
          refine x_ldc2 119 hC (v := (-1 : Int64)) (List.mem_of_getElem? (i := 2) (by decide +kernel)) dX8_cut_116 rfl ?_
          refine x_lxor 120 hC dX8_cut_119 rfl ?_
          refine x_land 121 hC dX8_cut_120 rfl ?_
          obtain ⟨h_9, hf⟩ := ck_e hf
          obtain ⟨g_10, e_g_10, hf⟩ := nmx_e hf
          refine x_last 122 2 1 [(a_this, .inr (8, [.ref a_s, .ref a_kept, .int R_4.1, r_known, r_whose, r_lesser, r_other, .int v_open, r_sums, r_weights, r_row, r_plan, .int v_planned])), (a_kept, .inl (cJ, 12260, .inr (.inl R_4.2))), (a_s, .inl (cJ, 613, .inr (.inl g_10)))] hC rfl rfl h_9 e_g_10 rfl dX8_cut_121 rfl ?_
          refine x_aload_n 123 0 hC dX8_cut_122 rfl rfl rfl ?_
          obtain ⟨R_11, h_R_11, hf⟩ := bd_e hf
          refine x_callVi 126 0 0 [0, 2] [(a_this, .inr (8, [.ref a_s, .ref a_kept, .int R_4.1, r_known, r_whose, r_lesser, r_other, .int v_open, r_sums, r_weights, r_row, r_plan, .int v_planned])), (a_kept, .inl (cJ, 12260, .inr (.inl R_4.2))), (a_s, .inl (cJ, 613, .inr (.inl g_10)))] hC (As := []) (c_X8_lines l D cI cJ cQ a_this a_s (.ref a_kept) r_known r_whose r_lesser r_other r_sums r_weights r_row r_plan R_4.1 v_open v_planned g_10 R_11 h_R_11) rfl rfl gX8_cut_X8_lines rfl ⟨rfl, rfl⟩ hd_X8_lines ⟨Nat.le_of_ble_eq_true rfl, Nat.le_of_ble_eq_true rfl⟩ rfl rfl rfl rfl rfl rfl (Nat.le_of_ble_eq_true rfl) ⟨Nat.le_of_ble_eq_true rfl, Nat.le_of_ble_eq_true rfl⟩ dX8_cut_123 rfl ?_
          cases hf
          exact x_iret hC dX8_cut_126 hQ rfl rfl
        · have hf := if_f hf c_3
          refine x_bipush 81 hC (-2 : Int32) dX8_cut_79 rfl (by decide) ?_
          cases hf
          exact x_iret hC dX8_cut_81 hQ rfl rfl
      · have hf := if_f hf c_2
        refine x_iload_n 49 3 hC dX8_cut_48 rfl rfl rfl ?_
        refine x_if_ne 63 52 hC dX8_cut_49 (by decide) rfl (fun c_12 => ?_) (fun c_12 => ?_)
        · have hf := if_t hf c_12
          refine x_lv [(0, .ref a_this), (1, .int k41_l1), (2, .int k41_l2), (4, .int k41_l4)] [0, 1, 2, 4] rfl ?_
          exact J_63 k41_undos k41_kept k41_s k41_l1 k41_l2 k41_l4 hf
        · have hf := if_f hf c_12
          refine x_aload_n 53 0 hC dX8_cut_52 rfl rfl rfl ?_
          refine x_iload 55 4 hC dX8_cut_53 rfl rfl ?_
          refine x_iload_n 56 1 hC dX8_cut_55 rfl rfl rfl ?_
          refine x_iload_n 57 2 hC dX8_cut_56 rfl rfl rfl ?_
          obtain ⟨R_13, h_R_13, hf⟩ := bd_e hf
          refine x_callVi 60 0 3 [0, 2] [(a_this, .inr (8, [.ref a_s, .ref a_kept, .int k41_undos, r_known, r_whose, r_lesser, r_other, .int v_open, r_sums, r_weights, r_row, r_plan, .int v_planned])), (a_kept, .inl (cJ, 12260, .inr (.inl k41_kept))), (a_s, .inl (cJ, 613, .inr (.inl k41_s)))] hC (As := [.int k41_l4, .int k41_l1, .int k41_l2]) (c_X8_isOver l D cI cJ cQ a_this a_s (.ref a_kept) r_known r_whose r_lesser r_other r_sums r_weights r_row r_plan k41_undos v_open v_planned k41_s k41_l4 k41_l1 k41_l2 R_13 h_R_13) rfl rfl gX8_cut_X8_isOver rfl ⟨rfl, rfl⟩ hd_X8_isOver ⟨Nat.le_of_ble_eq_true rfl, Nat.le_of_ble_eq_true rfl⟩ rfl rfl rfl rfl rfl rfl (Nat.le_of_ble_eq_true rfl) ⟨Nat.le_of_ble_eq_true rfl, Nat.le_of_ble_eq_true rfl⟩ dX8_cut_57 rfl ?_
          refine x_if_eq 67 63 hC dX8_cut_60 (by decide) rfl (fun c_14 => ?_) (fun c_14 => ?_)
          · have hf := if_t hf c_14
            refine x_iconst 68 hC (0 : Int32) dX8_cut_67 rfl (by decide) ?_
            refine x_lv [(0, .ref a_this), (1, .int k41_l1), (2, .int k41_l2), (4, .int k41_l4)] [0, 1, 2, 4] rfl ?_
            exact J_68 k41_undos k41_kept k41_s k41_l1 k41_l2 k41_l4 (0 : Int32) hf
          · have hf := if_f hf c_14
            refine x_lv [(0, .ref a_this), (1, .int k41_l1), (2, .int k41_l2), (4, .int k41_l4)] [0, 1, 2, 4] rfl ?_
            exact J_63 k41_undos k41_kept k41_s k41_l1 k41_l2 k41_l4 hf
  have J_37 : ∀ (k37_undos : Int32) (k37_kept : Nat → Int64) (k37_s : Nat → Int64) (k37_l1 : Int32) (k37_l2 : Int32) (k37_s0 : Int32), f_X8_cut_c37 k37_undos k37_kept k37_s k37_l1 k37_l2 k37_s0 = some R0 → XW p l e ({ frames := 3, cells := 0, slots := 0, locals := 112 } : Room) s m args below meth c D A 5 0 0 Q [(a_this, .inr (8, [.ref a_s, .ref a_kept, .int k37_undos, r_known, r_whose, r_lesser, r_other, .int v_open, r_sums, r_weights, r_row, r_plan, .int v_planned])), (a_kept, .inl (cJ, 12260, .inr (.inl k37_kept))), (a_s, .inl (cJ, 613, .inr (.inl k37_s)))] [] [(0, .ref a_this), (1, .int k37_l1), (2, .int k37_l2)] 37 [.int k37_s0] := by
    intro k37_undos k37_kept k37_s k37_l1 k37_l2 k37_s0 hf
    unfold f_X8_cut_c37 at hf
    refine x_istore_n 38 [(3, .int k37_s0), (0, .ref a_this), (1, .int k37_l1), (2, .int k37_l2)] hC dX8_cut_37 rfl rfl rfl (by decide) rfl ?_
    refine x_iconst 39 hC (0 : Int32) dX8_cut_38 rfl (by decide) ?_
    refine x_istore 41 [(4, .int (0 : Int32)), (3, .int k37_s0), (0, .ref a_this), (1, .int k37_l1), (2, .int k37_l2)] hC dX8_cut_39 rfl rfl (by decide) rfl ?_
    refine x_lv [(0, .ref a_this), (1, .int k37_l1), (2, .int k37_l2), (3, .int k37_s0), (4, .int (0 : Int32))] [2, 3, 4, 1, 0] rfl ?_
    exact J_41 fu k37_undos k37_kept k37_s k37_l1 k37_l2 k37_s0 (0 : Int32) hf
  unfold f_X8_cut at hf
  refine x_aload_n 1 0 hC dX8_cut_0 rfl rfl rfl ?_
  refine x_iload_n 2 1 hC dX8_cut_1 rfl rfl rfl ?_
  obtain ⟨R_15, h_R_15, hf⟩ := bd_e hf
  refine x_callVi 5 0 1 [0, 2] [(a_this, .inr (8, [.ref a_s, .ref a_kept, .int v_undos, r_known, r_whose, r_lesser, r_other, .int v_open, r_sums, r_weights, r_row, r_plan, .int v_planned])), (a_kept, .inl (cJ, 12260, .inr (.inl v_kept))), (a_s, .inl (cJ, 613, .inr (.inl v_s)))] hC (As := [.int p1]) (c_X8_isMember l D cI cJ cQ a_this a_s (.ref a_kept) r_known r_whose r_lesser r_other r_sums r_weights r_row r_plan v_undos v_open v_planned v_s p1 R_15 h_R_15) rfl rfl gX8_cut_X8_isMember rfl ⟨rfl, rfl⟩ hd_X8_isMember ⟨Nat.le_of_ble_eq_true rfl, Nat.le_of_ble_eq_true rfl⟩ rfl rfl rfl rfl rfl rfl (Nat.le_of_ble_eq_true rfl) ⟨Nat.le_of_ble_eq_true rfl, Nat.le_of_ble_eq_true rfl⟩ dX8_cut_2 rfl ?_
  refine x_if_eq 21 8 hC dX8_cut_5 (by decide) rfl (fun c_16 => ?_) (fun c_16 => ?_)
  · have hf := if_t hf c_16
    refine x_iconst 22 hC (-1 : Int32) dX8_cut_21 rfl (by decide) ?_
    cases hf
    exact x_iret hC dX8_cut_22 hQ rfl rfl
  · have hf := if_f hf c_16
    refine x_aload_n 9 0 hC dX8_cut_8 rfl rfl rfl ?_
    refine x_iload_n 10 2 hC dX8_cut_9 rfl rfl rfl ?_
    obtain ⟨R_17, h_R_17, hf⟩ := bd_e hf
    refine x_callVi 13 0 1 [0, 2] [(a_this, .inr (8, [.ref a_s, .ref a_kept, .int v_undos, r_known, r_whose, r_lesser, r_other, .int v_open, r_sums, r_weights, r_row, r_plan, .int v_planned])), (a_kept, .inl (cJ, 12260, .inr (.inl v_kept))), (a_s, .inl (cJ, 613, .inr (.inl v_s)))] hC (As := [.int p2]) (c_X8_isMember l D cI cJ cQ a_this a_s (.ref a_kept) r_known r_whose r_lesser r_other r_sums r_weights r_row r_plan v_undos v_open v_planned v_s p2 R_17 h_R_17) rfl rfl gX8_cut_X8_isMember rfl ⟨rfl, rfl⟩ hd_X8_isMember ⟨Nat.le_of_ble_eq_true rfl, Nat.le_of_ble_eq_true rfl⟩ rfl rfl rfl rfl rfl rfl (Nat.le_of_ble_eq_true rfl) ⟨Nat.le_of_ble_eq_true rfl, Nat.le_of_ble_eq_true rfl⟩ dX8_cut_10 rfl ?_
    refine x_if_eq 21 16 hC dX8_cut_13 (by decide) rfl (fun c_18 => ?_) (fun c_18 => ?_)
    · have hf := if_t hf c_18
      refine x_iconst 22 hC (-1 : Int32) dX8_cut_21 rfl (by decide) ?_
      cases hf
      exact x_iret hC dX8_cut_22 hQ rfl rfl
    · have hf := if_f hf c_18
      refine x_iload_n 17 1 hC dX8_cut_16 rfl rfl rfl ?_
      refine x_iload_n 18 2 hC dX8_cut_17 rfl rfl rfl ?_
      refine x_icmp_ne 23 21 hC dX8_cut_18 (by decide) rfl (fun c_19 => ?_) (fun c_19 => ?_)
      · have hf := if_t hf c_19
        refine x_aload_n 24 0 hC dX8_cut_23 rfl rfl rfl ?_
        refine x_iload_n 25 1 hC dX8_cut_24 rfl rfl rfl ?_
        refine x_iload_n 26 2 hC dX8_cut_25 rfl rfl rfl ?_
        obtain ⟨R_20, h_R_20, hf⟩ := bd_e hf
        refine x_callVi 29 0 2 [0, 2] [(a_this, .inr (8, [.ref a_s, .ref a_kept, .int v_undos, r_known, r_whose, r_lesser, r_other, .int v_open, r_sums, r_weights, r_row, r_plan, .int v_planned])), (a_kept, .inl (cJ, 12260, .inr (.inl v_kept))), (a_s, .inl (cJ, 613, .inr (.inl v_s)))] hC (As := [.int p1, .int p2]) (c_X8_areJoined l D cI cJ cQ a_this a_s (.ref a_kept) r_known r_whose r_lesser r_other r_sums r_weights r_row r_plan v_undos v_open v_planned v_s p1 p2 R_20 h_R_20) rfl rfl gX8_cut_X8_areJoined rfl ⟨rfl, rfl⟩ hd_X8_areJoined ⟨Nat.le_of_ble_eq_true rfl, Nat.le_of_ble_eq_true rfl⟩ rfl rfl rfl rfl rfl rfl (Nat.le_of_ble_eq_true rfl) ⟨Nat.le_of_ble_eq_true rfl, Nat.le_of_ble_eq_true rfl⟩ dX8_cut_26 rfl ?_
        refine x_if_ne 36 32 hC dX8_cut_29 (by decide) rfl (fun c_21 => ?_) (fun c_21 => ?_)
        · have hf := if_t hf c_21
          refine x_iconst 37 hC (0 : Int32) dX8_cut_36 rfl (by decide) ?_
          refine x_lv [(0, .ref a_this), (1, .int p1), (2, .int p2)] [0, 1, 2] rfl ?_
          exact J_37 v_undos v_kept v_s p1 p2 (0 : Int32) hf
        · have hf := if_f hf c_21
          refine x_iconst 33 hC (1 : Int32) dX8_cut_32 rfl (by decide) ?_
          refine x_goto 37 hC dX8_cut_33 (by decide) ?_
          refine x_lv [(0, .ref a_this), (1, .int p1), (2, .int p2)] [0, 1, 2] rfl ?_
          exact J_37 v_undos v_kept v_s p1 p2 (1 : Int32) hf
      · have hf := if_f hf c_19
        refine x_iconst 22 hC (-1 : Int32) dX8_cut_21 rfl (by decide) ?_
        cases hf
        exact x_iret hC dX8_cut_22 hQ rfl rfl

theorem hd_X8_isHere : yX8_isHere.cls = RX8 ∧ yX8_isHere.cls ≠ "java/lang/invoke/MethodHandle" ∧ yX8_isHere.cls ≠ "java/lang/invoke/VarHandle" ∧ (parseMethodDescriptor yX8_isHere.desc).map (fun d => d.parameters.length) = some 1 := by decide +kernel
theorem in_X8_isHere_X8 : ∀ w ∈ u_ws RX8 TX8 13, w ∈ wsX8_isHere := fun w h => List.mem_cons_of_mem _ (List.mem_append_right _ h)
noncomputable def f_X8_isHere (v_s : Nat → Int64) (p1 : Int32) : Option (Int32) := bd (f_X8_isMember v_s p1) fun R_1 => if R_1 = 0 then (some ((0 : Int32))) else (ck ((13 : Int32) + p1) 613 <| if ¬ (v_s ((13 : Int32) + p1).toNatClampNeg) = (1 : Int64) then (some ((0 : Int32))) else (some ((1 : Int32))))
set_option maxHeartbeats 4000000 in
set_option maxRecDepth 100000 in
theorem c_X8_isHere (l : Launch) (D : va_G) (cI cJ cQ : ClassId) (a_this : Nat) (a_s : Nat) (r_kept : Value) (r_known : Value) (r_whose : Value) (r_lesser : Value) (r_other : Value) (r_sums : Value) (r_weights : Value) (r_row : Value) (r_plan : Value) (v_undos : Int32) (v_open : Int32) (v_planned : Int32) (v_s : Nat → Int64) (p1 : Int32) (R0 : Int32) (hf : f_X8_isHere v_s p1 = some R0) : Ci l yX8_isHere wsX8_isHere ({ frames := 3, cells := 0, slots := 0, locals := 110 } : Room) D [(cI, .int), (cJ, .long), (cQ, .object "WhisperCrowd$State")] [.ref a_this, .int p1] [(a_this, .inr (8, [.ref a_s, r_kept, .int v_undos, r_known, r_whose, r_lesser, r_other, .int v_open, r_sums, r_weights, r_row, r_plan, .int v_planned])), (a_s, .inl (cJ, 613, .inr (.inl v_s)))] [(a_this, .inr (8, [.ref a_s, r_kept, .int v_undos, r_known, r_whose, r_lesser, r_other, .int v_open, r_sums, r_weights, r_row, r_plan, .int v_planned])), (a_s, .inl (cJ, 613, .inr (.inl v_s)))] R0 := by
  refine x_enti (cc := cX8_isHere) (maxL := 2) (rt := (some .boolean)) (lv := [(0, .ref a_this), (1, .int p1)]) (by decide) rfl (Nat.le_of_ble_eq_true rfl) rfl ?_
  intro p e s m args below meth c A Q hQ hC
  unfold f_X8_isHere at hf
  refine x_aload_n 1 0 hC dX8_isHere_0 rfl rfl rfl ?_
  refine x_iload_n 2 1 hC dX8_isHere_1 rfl rfl rfl ?_
  obtain ⟨R_1, h_R_1, hf⟩ := bd_e hf
  refine x_callVi 5 0 1 [0, 1] [(a_this, .inr (8, [.ref a_s, r_kept, .int v_undos, r_known, r_whose, r_lesser, r_other, .int v_open, r_sums, r_weights, r_row, r_plan, .int v_planned])), (a_s, .inl (cJ, 613, .inr (.inl v_s)))] hC (As := [.int p1]) (c_X8_isMember l D cI cJ cQ a_this a_s r_kept r_known r_whose r_lesser r_other r_sums r_weights r_row r_plan v_undos v_open v_planned v_s p1 R_1 h_R_1) rfl rfl gX8_isHere_X8_isMember rfl ⟨rfl, rfl⟩ hd_X8_isMember ⟨Nat.le_of_ble_eq_true rfl, Nat.le_of_ble_eq_true rfl⟩ rfl rfl rfl rfl rfl rfl (Nat.le_of_ble_eq_true rfl) ⟨Nat.le_of_ble_eq_true rfl, Nat.le_of_ble_eq_true rfl⟩ dX8_isHere_2 rfl ?_
  refine x_if_eq 26 8 hC dX8_isHere_5 (by decide) rfl (fun c_2 => ?_) (fun c_2 => ?_)
  · have hf := if_t hf c_2
    refine x_iconst 27 hC (0 : Int32) dX8_isHere_26 rfl (by decide) ?_
    cases hf
    exact x_zret hC rfl dX8_isHere_27 hQ rfl rfl
  · have hf := if_f hf c_2
    refine x_aload_n 9 0 hC dX8_isHere_8 rfl rfl rfl ?_
    refine x_get 12 0 0 hC in_X8_isHere_X8 rfl rfl (by decide) (List.mem_of_getElem? (i := 1) (by decide +kernel)) rfl rfl dX8_isHere_9 rfl ?_
    refine x_bipush 14 hC (13 : Int32) dX8_isHere_12 rfl (by decide) ?_
    refine x_iload_n 15 1 hC dX8_isHere_14 rfl rfl rfl ?_
    refine x_iadd 16 hC dX8_isHere_15 rfl ?_
    obtain ⟨h_3, hf⟩ := ck_e hf
    refine x_lald 17 1 1 hC rfl rfl h_3 dX8_isHere_16 rfl ?_
    refine x_lconst 18 hC (1 : Int64) dX8_isHere_17 rfl (by decide) ?_
    refine x_lcmp_ne 26 22 hC dX8_isHere_18 dX8_isHere_19 (by decide) rfl (fun c_4 => ?_) (fun c_4 => ?_)
    · have hf := if_t hf c_4
      refine x_iconst 27 hC (0 : Int32) dX8_isHere_26 rfl (by decide) ?_
      cases hf
      exact x_zret hC rfl dX8_isHere_27 hQ rfl rfl
    · have hf := if_f hf c_4
      refine x_iconst 23 hC (1 : Int32) dX8_isHere_22 rfl (by decide) ?_
      refine x_goto 27 hC dX8_isHere_23 (by decide) ?_
      cases hf
      exact x_zret hC rfl dX8_isHere_27 hQ rfl rfl

theorem hd_X8_set : yX8_set.cls = RX8 ∧ yX8_set.cls ≠ "java/lang/invoke/MethodHandle" ∧ yX8_set.cls ≠ "java/lang/invoke/VarHandle" ∧ (parseMethodDescriptor yX8_set.desc).map (fun d => d.parameters.length) = some 2 := by decide +kernel
theorem in_X8_set_X8 : ∀ w ∈ u_ws RX8 TX8 13, w ∈ wsX8_set := fun w h => List.mem_cons_of_mem _ (List.mem_append_right _ h)
noncomputable def f_X8_set (v_undos : Int32) (v_kept : Nat → Int64) (v_s : Nat → Int64) (p1 : Int32) (p2 : Int32) : Option (Int32 × (Nat → Int64) × (Nat → Int64) × Int32) := bd (f_X8_isHere v_s p1) fun R_1 => if R_1 = 0 then (some (v_undos, v_kept, v_s, (-1 : Int32))) else (bd (f_X8_in (p2.toInt64) (-1073741824 : Int64) (1073741824 : Int64)) fun R_3 => if ¬ R_3 = 0 then (bd (f_X8_keep v_s v_undos v_kept) fun R_5 => ck ((33 : Int32) + p1) 613 <| ck ((23 : Int32) + p1) 613 <| ck ((33 : Int32) + p1) 613 <| nm (vp_updL v_s ((33 : Int32) + p1).toNatClampNeg ((v_s ((33 : Int32) + p1).toNatClampNeg) + (((p2.toInt64) - (v_s ((23 : Int32) + p1).toNatClampNeg)) * (1048576 : Int64)))) fun g_9 => ck ((23 : Int32) + p1) 613 <| nm (vp_updL g_9 ((23 : Int32) + p1).toNatClampNeg (p2.toInt64)) fun g_11 => bd (f_X8_knowsItself g_11 p1) fun R_12 => some (R_5.1, R_5.2, R_12, (1 : Int32))) else (some (v_undos, v_kept, v_s, (-1 : Int32))))
set_option maxHeartbeats 4000000 in
set_option maxRecDepth 100000 in
theorem c_X8_set (l : Launch) (D : va_G) (cI cJ cQ : ClassId) (a_this : Nat) (a_kept : Nat) (a_s : Nat) (r_known : Value) (r_whose : Value) (r_lesser : Value) (r_other : Value) (r_sums : Value) (r_weights : Value) (r_row : Value) (r_plan : Value) (v_undos : Int32) (v_open : Int32) (v_planned : Int32) (v_kept : Nat → Int64) (v_s : Nat → Int64) (p1 : Int32) (p2 : Int32) (R0 : Int32 × (Nat → Int64) × (Nat → Int64) × Int32) (hf : f_X8_set v_undos v_kept v_s p1 p2 = some R0) : Ci l yX8_set wsX8_set ({ frames := 4, cells := 0, slots := 0, locals := 133 } : Room) D [(cI, .int), (cJ, .long), (cQ, .object "WhisperCrowd$State")] [.ref a_this, .int p1, .int p2] [(a_this, .inr (8, [.ref a_s, .ref a_kept, .int v_undos, r_known, r_whose, r_lesser, r_other, .int v_open, r_sums, r_weights, r_row, r_plan, .int v_planned])), (a_kept, .inl (cJ, 12260, .inr (.inl v_kept))), (a_s, .inl (cJ, 613, .inr (.inl v_s)))] [(a_this, .inr (8, [.ref a_s, .ref a_kept, .int R0.1, r_known, r_whose, r_lesser, r_other, .int v_open, r_sums, r_weights, r_row, r_plan, .int v_planned])), (a_kept, .inl (cJ, 12260, .inr (.inl R0.2.1))), (a_s, .inl (cJ, 613, .inr (.inl R0.2.2.1)))] R0.2.2.2 := by
  refine x_enti (cc := cX8_set) (maxL := 3) (rt := (some .int)) (lv := [(0, .ref a_this), (1, .int p1), (2, .int p2)]) (by decide) rfl (Nat.le_of_ble_eq_true rfl) rfl ?_
  intro p e s m args below meth c A Q hQ hC
  unfold f_X8_set at hf
  refine x_aload_n 1 0 hC dX8_set_0 rfl rfl rfl ?_
  refine x_iload_n 2 1 hC dX8_set_1 rfl rfl rfl ?_
  obtain ⟨R_1, h_R_1, hf⟩ := bd_e hf
  refine x_callVi 5 0 1 [0, 2] [(a_this, .inr (8, [.ref a_s, .ref a_kept, .int v_undos, r_known, r_whose, r_lesser, r_other, .int v_open, r_sums, r_weights, r_row, r_plan, .int v_planned])), (a_kept, .inl (cJ, 12260, .inr (.inl v_kept))), (a_s, .inl (cJ, 613, .inr (.inl v_s)))] hC (As := [.int p1]) (c_X8_isHere l D cI cJ cQ a_this a_s (.ref a_kept) r_known r_whose r_lesser r_other r_sums r_weights r_row r_plan v_undos v_open v_planned v_s p1 R_1 h_R_1) rfl rfl gX8_set_X8_isHere rfl ⟨rfl, rfl⟩ hd_X8_isHere ⟨Nat.le_of_ble_eq_true rfl, Nat.le_of_ble_eq_true rfl⟩ rfl rfl rfl rfl rfl rfl (Nat.le_of_ble_eq_true rfl) ⟨Nat.le_of_ble_eq_true rfl, Nat.le_of_ble_eq_true rfl⟩ dX8_set_2 rfl ?_
  refine x_if_eq 22 8 hC dX8_set_5 (by decide) rfl (fun c_2 => ?_) (fun c_2 => ?_)
  · have hf := if_t hf c_2
    refine x_iconst 23 hC (-1 : Int32) dX8_set_22 rfl (by decide) ?_
    cases hf
    exact x_iret hC dX8_set_23 hQ rfl rfl
  · have hf := if_f hf c_2
    refine x_iload_n 9 2 hC dX8_set_8 rfl rfl rfl ?_
    refine x_i2l 10 hC dX8_set_9 rfl ?_
    refine x_ldc2 13 hC (v := (-1073741824 : Int64)) (List.mem_of_getElem? (i := 1) (by decide +kernel)) dX8_set_10 rfl ?_
    refine x_ldc2 16 hC (v := (1073741824 : Int64)) (List.mem_of_getElem? (i := 2) (by decide +kernel)) dX8_set_13 rfl ?_
    obtain ⟨R_3, h_R_3, hf⟩ := bd_e hf
    refine x_callSi 19 3 [] [(a_this, .inr (8, [.ref a_s, .ref a_kept, .int v_undos, r_known, r_whose, r_lesser, r_other, .int v_open, r_sums, r_weights, r_row, r_plan, .int v_planned])), (a_kept, .inl (cJ, 12260, .inr (.inl v_kept))), (a_s, .inl (cJ, 613, .inr (.inl v_s)))] hC (As := [.long (p2.toInt64), .long (-1073741824 : Int64), .long (1073741824 : Int64)]) (c_X8_in l D cI cJ cQ (p2.toInt64) (-1073741824 : Int64) (1073741824 : Int64) R_3 h_R_3) gX8_set_X8_in rfl ⟨rfl, rfl⟩ hd_X8_in ⟨Nat.le_of_ble_eq_true rfl, Nat.le_of_ble_eq_true rfl⟩ rfl rfl rfl rfl rfl rfl (Nat.le_of_ble_eq_true rfl) ⟨Nat.le_of_ble_eq_true rfl, Nat.le_of_ble_eq_true rfl⟩ dX8_set_16 rfl ?_
    refine x_if_ne 24 22 hC dX8_set_19 (by decide) rfl (fun c_4 => ?_) (fun c_4 => ?_)
    · have hf := if_t hf c_4
      refine x_aload_n 25 0 hC dX8_set_24 rfl rfl rfl ?_
      obtain ⟨R_5, h_R_5, hf⟩ := bd_e hf
      refine x_callVv 28 0 0 [0, 1, 2] [(a_this, .inr (8, [.ref a_s, .ref a_kept, .int R_5.1, r_known, r_whose, r_lesser, r_other, .int v_open, r_sums, r_weights, r_row, r_plan, .int v_planned])), (a_kept, .inl (cJ, 12260, .inr (.inl R_5.2))), (a_s, .inl (cJ, 613, .inr (.inl v_s)))] hC (As := []) (c_X8_keep l D cI cJ cQ a_this a_kept a_s r_known r_whose r_lesser r_other r_sums r_weights r_row r_plan v_undos v_open v_planned v_kept v_s R_5 h_R_5) rfl rfl gX8_set_X8_keep rfl ⟨rfl, rfl⟩ hd_X8_keep ⟨Nat.le_of_ble_eq_true rfl, Nat.le_of_ble_eq_true rfl⟩ rfl rfl rfl rfl rfl rfl (Nat.le_of_ble_eq_true rfl) ⟨Nat.le_of_ble_eq_true rfl, Nat.le_of_ble_eq_true rfl⟩ dX8_set_25 rfl ?_
      refine x_aload_n 29 0 hC dX8_set_28 rfl rfl rfl ?_
      refine x_get 32 0 0 hC in_X8_set_X8 rfl rfl (by decide) (List.mem_of_getElem? (i := 3) (by decide +kernel)) rfl rfl dX8_set_29 rfl ?_
      refine x_bipush 34 hC (33 : Int32) dX8_set_32 rfl (by decide) ?_
      refine x_iload_n 35 1 hC dX8_set_34 rfl rfl rfl ?_
      refine x_iadd 36 hC dX8_set_35 rfl ?_
      refine x_dup2_11 37 hC dX8_set_36 rfl rfl rfl ?_
      obtain ⟨h_6, hf⟩ := ck_e hf
      refine x_lald 38 2 1 hC rfl rfl h_6 dX8_set_37 rfl ?_
      refine x_iload_n 39 2 hC dX8_set_38 rfl rfl rfl ?_
      refine x_i2l 40 hC dX8_set_39 rfl ?_
      refine x_aload_n 41 0 hC dX8_set_40 rfl rfl rfl ?_
      refine x_get 44 0 0 hC in_X8_set_X8 rfl rfl (by decide) (List.mem_of_getElem? (i := 3) (by decide +kernel)) rfl rfl dX8_set_41 rfl ?_
      refine x_bipush 46 hC (23 : Int32) dX8_set_44 rfl (by decide) ?_
      refine x_iload_n 47 1 hC dX8_set_46 rfl rfl rfl ?_
      refine x_iadd 48 hC dX8_set_47 rfl ?_
      obtain ⟨h_7, hf⟩ := ck_e hf
      refine x_lald 49 2 1 hC rfl rfl h_7 dX8_set_48 rfl ?_
      refine x_lsub 50 hC dX8_set_49 rfl ?_
      refine x_ldc2 53 hC (v := (1048576 : Int64)) (List.mem_of_getElem? (i := 4) (by decide +kernel)) dX8_set_50 rfl ?_
      refine x_lmul 54 hC dX8_set_53 rfl ?_
      refine x_ladd 55 hC dX8_set_54 rfl ?_
      obtain ⟨h_8, hf⟩ := ck_e hf
      obtain ⟨g_9, e_g_9, hf⟩ := nmx_e hf
      refine x_last 56 2 1 [(a_this, .inr (8, [.ref a_s, .ref a_kept, .int R_5.1, r_known, r_whose, r_lesser, r_other, .int v_open, r_sums, r_weights, r_row, r_plan, .int v_planned])), (a_kept, .inl (cJ, 12260, .inr (.inl R_5.2))), (a_s, .inl (cJ, 613, .inr (.inl g_9)))] hC rfl rfl h_8 e_g_9 rfl dX8_set_55 rfl ?_
      refine x_aload_n 57 0 hC dX8_set_56 rfl rfl rfl ?_
      refine x_get 60 0 0 hC in_X8_set_X8 rfl rfl (by decide) (List.mem_of_getElem? (i := 3) (by decide +kernel)) rfl rfl dX8_set_57 rfl ?_
      refine x_bipush 62 hC (23 : Int32) dX8_set_60 rfl (by decide) ?_
      refine x_iload_n 63 1 hC dX8_set_62 rfl rfl rfl ?_
      refine x_iadd 64 hC dX8_set_63 rfl ?_
      refine x_iload_n 65 2 hC dX8_set_64 rfl rfl rfl ?_
      refine x_i2l 66 hC dX8_set_65 rfl ?_
      obtain ⟨h_10, hf⟩ := ck_e hf
      obtain ⟨g_11, e_g_11, hf⟩ := nmx_e hf
      refine x_last 67 2 1 [(a_this, .inr (8, [.ref a_s, .ref a_kept, .int R_5.1, r_known, r_whose, r_lesser, r_other, .int v_open, r_sums, r_weights, r_row, r_plan, .int v_planned])), (a_kept, .inl (cJ, 12260, .inr (.inl R_5.2))), (a_s, .inl (cJ, 613, .inr (.inl g_11)))] hC rfl rfl h_10 e_g_11 rfl dX8_set_66 rfl ?_
      refine x_aload_n 68 0 hC dX8_set_67 rfl rfl rfl ?_
      refine x_iload_n 69 1 hC dX8_set_68 rfl rfl rfl ?_
      obtain ⟨R_12, h_R_12, hf⟩ := bd_e hf
      refine x_callVv 72 0 1 [0, 2] [(a_this, .inr (8, [.ref a_s, .ref a_kept, .int R_5.1, r_known, r_whose, r_lesser, r_other, .int v_open, r_sums, r_weights, r_row, r_plan, .int v_planned])), (a_kept, .inl (cJ, 12260, .inr (.inl R_5.2))), (a_s, .inl (cJ, 613, .inr (.inl R_12)))] hC (As := [.int p1]) (c_X8_knowsItself l D cI cJ cQ a_this a_s (.ref a_kept) r_known r_whose r_lesser r_other r_sums r_weights r_row r_plan R_5.1 v_open v_planned g_11 p1 R_12 h_R_12) rfl rfl gX8_set_X8_knowsItself rfl ⟨rfl, rfl⟩ hd_X8_knowsItself ⟨Nat.le_of_ble_eq_true rfl, Nat.le_of_ble_eq_true rfl⟩ rfl rfl rfl rfl rfl rfl (Nat.le_of_ble_eq_true rfl) ⟨Nat.le_of_ble_eq_true rfl, Nat.le_of_ble_eq_true rfl⟩ dX8_set_69 rfl ?_
      refine x_iconst 73 hC (1 : Int32) dX8_set_72 rfl (by decide) ?_
      cases hf
      exact x_iret hC dX8_set_73 hQ rfl rfl
    · have hf := if_f hf c_4
      refine x_iconst 23 hC (-1 : Int32) dX8_set_22 rfl (by decide) ?_
      cases hf
      exact x_iret hC dX8_set_23 hQ rfl rfl

theorem hd_X8_back : yX8_back.cls = RX8 ∧ yX8_back.cls ≠ "java/lang/invoke/MethodHandle" ∧ yX8_back.cls ≠ "java/lang/invoke/VarHandle" ∧ (parseMethodDescriptor yX8_back.desc).map (fun d => d.parameters.length) = some 2 := by decide +kernel
noncomputable def f_X8_back (v_undos : Int32) (v_kept : Nat → Int64) (v_s : Nat → Int64) (p1 : Int32) (p2 : Int32) : Option (Int32 × (Nat → Int64) × (Nat → Int64) × Int32) := bd (f_X8_isMember v_s p1) fun R_1 => if R_1 = 0 then (some (v_undos, v_kept, v_s, (-1 : Int32))) else (bd (f_X8_isHere v_s p1) fun R_3 => if ¬ R_3 = 0 then (some (v_undos, v_kept, v_s, (-1 : Int32))) else (bd (f_X8_in (p2.toInt64) (-1073741824 : Int64) (1073741824 : Int64)) fun R_5 => if ¬ R_5 = 0 then (bd (f_X8_keep v_s v_undos v_kept) fun R_7 => bd (f_X8_begins v_s p1 p2) fun R_8 => some (R_7.1, R_7.2, R_8, (1 : Int32))) else (some (v_undos, v_kept, v_s, (-1 : Int32)))))
set_option maxHeartbeats 4000000 in
set_option maxRecDepth 100000 in
theorem c_X8_back (l : Launch) (D : va_G) (cI cJ cQ : ClassId) (a_this : Nat) (a_kept : Nat) (a_s : Nat) (r_known : Value) (r_whose : Value) (r_lesser : Value) (r_other : Value) (r_sums : Value) (r_weights : Value) (r_row : Value) (r_plan : Value) (v_undos : Int32) (v_open : Int32) (v_planned : Int32) (v_kept : Nat → Int64) (v_s : Nat → Int64) (p1 : Int32) (p2 : Int32) (R0 : Int32 × (Nat → Int64) × (Nat → Int64) × Int32) (hf : f_X8_back v_undos v_kept v_s p1 p2 = some R0) : Ci l yX8_back wsX8_back ({ frames := 4, cells := 0, slots := 0, locals := 133 } : Room) D [(cI, .int), (cJ, .long), (cQ, .object "WhisperCrowd$State")] [.ref a_this, .int p1, .int p2] [(a_this, .inr (8, [.ref a_s, .ref a_kept, .int v_undos, r_known, r_whose, r_lesser, r_other, .int v_open, r_sums, r_weights, r_row, r_plan, .int v_planned])), (a_kept, .inl (cJ, 12260, .inr (.inl v_kept))), (a_s, .inl (cJ, 613, .inr (.inl v_s)))] [(a_this, .inr (8, [.ref a_s, .ref a_kept, .int R0.1, r_known, r_whose, r_lesser, r_other, .int v_open, r_sums, r_weights, r_row, r_plan, .int v_planned])), (a_kept, .inl (cJ, 12260, .inr (.inl R0.2.1))), (a_s, .inl (cJ, 613, .inr (.inl R0.2.2.1)))] R0.2.2.2 := by
  refine x_enti (cc := cX8_back) (maxL := 3) (rt := (some .int)) (lv := [(0, .ref a_this), (1, .int p1), (2, .int p2)]) (by decide) rfl (Nat.le_of_ble_eq_true rfl) rfl ?_
  intro p e s m args below meth c A Q hQ hC
  unfold f_X8_back at hf
  refine x_aload_n 1 0 hC dX8_back_0 rfl rfl rfl ?_
  refine x_iload_n 2 1 hC dX8_back_1 rfl rfl rfl ?_
  obtain ⟨R_1, h_R_1, hf⟩ := bd_e hf
  refine x_callVi 5 0 1 [0, 2] [(a_this, .inr (8, [.ref a_s, .ref a_kept, .int v_undos, r_known, r_whose, r_lesser, r_other, .int v_open, r_sums, r_weights, r_row, r_plan, .int v_planned])), (a_kept, .inl (cJ, 12260, .inr (.inl v_kept))), (a_s, .inl (cJ, 613, .inr (.inl v_s)))] hC (As := [.int p1]) (c_X8_isMember l D cI cJ cQ a_this a_s (.ref a_kept) r_known r_whose r_lesser r_other r_sums r_weights r_row r_plan v_undos v_open v_planned v_s p1 R_1 h_R_1) rfl rfl gX8_back_X8_isMember rfl ⟨rfl, rfl⟩ hd_X8_isMember ⟨Nat.le_of_ble_eq_true rfl, Nat.le_of_ble_eq_true rfl⟩ rfl rfl rfl rfl rfl rfl (Nat.le_of_ble_eq_true rfl) ⟨Nat.le_of_ble_eq_true rfl, Nat.le_of_ble_eq_true rfl⟩ dX8_back_2 rfl ?_
  refine x_if_eq 30 8 hC dX8_back_5 (by decide) rfl (fun c_2 => ?_) (fun c_2 => ?_)
  · have hf := if_t hf c_2
    refine x_iconst 31 hC (-1 : Int32) dX8_back_30 rfl (by decide) ?_
    cases hf
    exact x_iret hC dX8_back_31 hQ rfl rfl
  · have hf := if_f hf c_2
    refine x_aload_n 9 0 hC dX8_back_8 rfl rfl rfl ?_
    refine x_iload_n 10 1 hC dX8_back_9 rfl rfl rfl ?_
    obtain ⟨R_3, h_R_3, hf⟩ := bd_e hf
    refine x_callVi 13 0 1 [0, 2] [(a_this, .inr (8, [.ref a_s, .ref a_kept, .int v_undos, r_known, r_whose, r_lesser, r_other, .int v_open, r_sums, r_weights, r_row, r_plan, .int v_planned])), (a_kept, .inl (cJ, 12260, .inr (.inl v_kept))), (a_s, .inl (cJ, 613, .inr (.inl v_s)))] hC (As := [.int p1]) (c_X8_isHere l D cI cJ cQ a_this a_s (.ref a_kept) r_known r_whose r_lesser r_other r_sums r_weights r_row r_plan v_undos v_open v_planned v_s p1 R_3 h_R_3) rfl rfl gX8_back_X8_isHere rfl ⟨rfl, rfl⟩ hd_X8_isHere ⟨Nat.le_of_ble_eq_true rfl, Nat.le_of_ble_eq_true rfl⟩ rfl rfl rfl rfl rfl rfl (Nat.le_of_ble_eq_true rfl) ⟨Nat.le_of_ble_eq_true rfl, Nat.le_of_ble_eq_true rfl⟩ dX8_back_10 rfl ?_
    refine x_if_ne 30 16 hC dX8_back_13 (by decide) rfl (fun c_4 => ?_) (fun c_4 => ?_)
    · have hf := if_t hf c_4
      refine x_iconst 31 hC (-1 : Int32) dX8_back_30 rfl (by decide) ?_
      cases hf
      exact x_iret hC dX8_back_31 hQ rfl rfl
    · have hf := if_f hf c_4
      refine x_iload_n 17 2 hC dX8_back_16 rfl rfl rfl ?_
      refine x_i2l 18 hC dX8_back_17 rfl ?_
      refine x_ldc2 21 hC (v := (-1073741824 : Int64)) (List.mem_of_getElem? (i := 1) (by decide +kernel)) dX8_back_18 rfl ?_
      refine x_ldc2 24 hC (v := (1073741824 : Int64)) (List.mem_of_getElem? (i := 2) (by decide +kernel)) dX8_back_21 rfl ?_
      obtain ⟨R_5, h_R_5, hf⟩ := bd_e hf
      refine x_callSi 27 3 [] [(a_this, .inr (8, [.ref a_s, .ref a_kept, .int v_undos, r_known, r_whose, r_lesser, r_other, .int v_open, r_sums, r_weights, r_row, r_plan, .int v_planned])), (a_kept, .inl (cJ, 12260, .inr (.inl v_kept))), (a_s, .inl (cJ, 613, .inr (.inl v_s)))] hC (As := [.long (p2.toInt64), .long (-1073741824 : Int64), .long (1073741824 : Int64)]) (c_X8_in l D cI cJ cQ (p2.toInt64) (-1073741824 : Int64) (1073741824 : Int64) R_5 h_R_5) gX8_back_X8_in rfl ⟨rfl, rfl⟩ hd_X8_in ⟨Nat.le_of_ble_eq_true rfl, Nat.le_of_ble_eq_true rfl⟩ rfl rfl rfl rfl rfl rfl (Nat.le_of_ble_eq_true rfl) ⟨Nat.le_of_ble_eq_true rfl, Nat.le_of_ble_eq_true rfl⟩ dX8_back_24 rfl ?_
      refine x_if_ne 32 30 hC dX8_back_27 (by decide) rfl (fun c_6 => ?_) (fun c_6 => ?_)
      · have hf := if_t hf c_6
        refine x_aload_n 33 0 hC dX8_back_32 rfl rfl rfl ?_
        obtain ⟨R_7, h_R_7, hf⟩ := bd_e hf
        refine x_callVv 36 0 0 [0, 1, 2] [(a_this, .inr (8, [.ref a_s, .ref a_kept, .int R_7.1, r_known, r_whose, r_lesser, r_other, .int v_open, r_sums, r_weights, r_row, r_plan, .int v_planned])), (a_kept, .inl (cJ, 12260, .inr (.inl R_7.2))), (a_s, .inl (cJ, 613, .inr (.inl v_s)))] hC (As := []) (c_X8_keep l D cI cJ cQ a_this a_kept a_s r_known r_whose r_lesser r_other r_sums r_weights r_row r_plan v_undos v_open v_planned v_kept v_s R_7 h_R_7) rfl rfl gX8_back_X8_keep rfl ⟨rfl, rfl⟩ hd_X8_keep ⟨Nat.le_of_ble_eq_true rfl, Nat.le_of_ble_eq_true rfl⟩ rfl rfl rfl rfl rfl rfl (Nat.le_of_ble_eq_true rfl) ⟨Nat.le_of_ble_eq_true rfl, Nat.le_of_ble_eq_true rfl⟩ dX8_back_33 rfl ?_
        refine x_aload_n 37 0 hC dX8_back_36 rfl rfl rfl ?_
        refine x_iload_n 38 1 hC dX8_back_37 rfl rfl rfl ?_
        refine x_iload_n 39 2 hC dX8_back_38 rfl rfl rfl ?_
        obtain ⟨R_8, h_R_8, hf⟩ := bd_e hf
        refine x_callVv 42 0 2 [0, 2] [(a_this, .inr (8, [.ref a_s, .ref a_kept, .int R_7.1, r_known, r_whose, r_lesser, r_other, .int v_open, r_sums, r_weights, r_row, r_plan, .int v_planned])), (a_kept, .inl (cJ, 12260, .inr (.inl R_7.2))), (a_s, .inl (cJ, 613, .inr (.inl R_8)))] hC (As := [.int p1, .int p2]) (c_X8_begins l D cI cJ cQ a_this a_s (.ref a_kept) r_known r_whose r_lesser r_other r_sums r_weights r_row r_plan R_7.1 v_open v_planned v_s p1 p2 R_8 h_R_8) rfl rfl gX8_back_X8_begins rfl ⟨rfl, rfl⟩ hd_X8_begins ⟨Nat.le_of_ble_eq_true rfl, Nat.le_of_ble_eq_true rfl⟩ rfl rfl rfl rfl rfl rfl (Nat.le_of_ble_eq_true rfl) ⟨Nat.le_of_ble_eq_true rfl, Nat.le_of_ble_eq_true rfl⟩ dX8_back_39 rfl ?_
        refine x_iconst 43 hC (1 : Int32) dX8_back_42 rfl (by decide) ?_
        cases hf
        exact x_iret hC dX8_back_43 hQ rfl rfl
      · have hf := if_f hf c_6
        refine x_iconst 31 hC (-1 : Int32) dX8_back_30 rfl (by decide) ?_
        cases hf
        exact x_iret hC dX8_back_31 hQ rfl rfl

theorem hd_X8_undo : yX8_undo.cls = RX8 ∧ yX8_undo.cls ≠ "java/lang/invoke/MethodHandle" ∧ yX8_undo.cls ≠ "java/lang/invoke/VarHandle" ∧ (parseMethodDescriptor yX8_undo.desc).map (fun d => d.parameters.length) = some 0 := by decide +kernel
theorem in_X8_undo_X8 : ∀ w ∈ u_ws RX8 TX8 13, w ∈ wsX8_undo := fun w h => List.mem_cons_of_mem _ (List.mem_append_right _ h)
noncomputable def f_X8_undo_c22 (v_kept : Nat → Int64) : Nat → Int32 → (Nat → Int64) → Int32 → Option (Int32 × (Nat → Int64) × Int32)
  | 0, _, _, _ => none
  | n + 1, k22_undos, k22_s, k22_l1 => if (613 : Int32) ≤ k22_l1 then (some (k22_undos, k22_s, k22_undos)) else (ck (((613 : Int32) * k22_undos) + k22_l1) 12260 <| ck k22_l1 613 <| nm (vp_updL k22_s k22_l1.toNatClampNeg (v_kept (((613 : Int32) * k22_undos) + k22_l1).toNatClampNeg)) fun g_4 => nm (k22_l1 + (1 : Int32)) fun x_5 => (fun k22_undos k22_s k22_l1 => f_X8_undo_c22 v_kept n k22_undos k22_s k22_l1) k22_undos g_4 x_5)
noncomputable def f_X8_undo (v_kept : Nat → Int64) (v_undos : Int32) (v_s : Nat → Int64) : Option (Int32 × (Nat → Int64) × Int32) := if ¬ v_undos = 0 then (nm (v_undos - (1 : Int32)) fun x_7 => f_X8_undo_c22 v_kept fu x_7 v_s (0 : Int32)) else (some (v_undos, v_s, (-2 : Int32)))
set_option maxHeartbeats 4000000 in
set_option maxRecDepth 100000 in
theorem c_X8_undo (l : Launch) (D : va_G) (cI cJ cQ : ClassId) (a_this : Nat) (a_kept : Nat) (a_s : Nat) (r_known : Value) (r_whose : Value) (r_lesser : Value) (r_other : Value) (r_sums : Value) (r_weights : Value) (r_row : Value) (r_plan : Value) (v_undos : Int32) (v_open : Int32) (v_planned : Int32) (v_kept : Nat → Int64) (v_s : Nat → Int64) (R0 : Int32 × (Nat → Int64) × Int32) (hf : f_X8_undo v_kept v_undos v_s = some R0) : Ci l yX8_undo wsX8_undo ({ frames := 1, cells := 0, slots := 0, locals := 60 } : Room) D [(cI, .int), (cJ, .long), (cQ, .object "WhisperCrowd$State")] [.ref a_this] [(a_this, .inr (8, [.ref a_s, .ref a_kept, .int v_undos, r_known, r_whose, r_lesser, r_other, .int v_open, r_sums, r_weights, r_row, r_plan, .int v_planned])), (a_kept, .inl (cJ, 12260, .inr (.inl v_kept))), (a_s, .inl (cJ, 613, .inr (.inl v_s)))] [(a_this, .inr (8, [.ref a_s, .ref a_kept, .int R0.1, r_known, r_whose, r_lesser, r_other, .int v_open, r_sums, r_weights, r_row, r_plan, .int v_planned])), (a_kept, .inl (cJ, 12260, .inr (.inl v_kept))), (a_s, .inl (cJ, 613, .inr (.inl R0.2.1)))] R0.2.2 := by
  refine x_enti (cc := cX8_undo) (maxL := 2) (rt := (some .int)) (lv := [(0, .ref a_this)]) (by decide) rfl (Nat.le_of_ble_eq_true rfl) rfl ?_
  intro p e s m args below meth c A Q hQ hC
  have J_22 : ∀ (n : Nat) (k22_undos : Int32) (k22_s : Nat → Int64) (k22_l1 : Int32), f_X8_undo_c22 v_kept n k22_undos k22_s k22_l1 = some R0 → XW p l e ({ frames := 1, cells := 0, slots := 0, locals := 60 } : Room) s m args below meth c D A 2 0 0 Q [(a_this, .inr (8, [.ref a_s, .ref a_kept, .int k22_undos, r_known, r_whose, r_lesser, r_other, .int v_open, r_sums, r_weights, r_row, r_plan, .int v_planned])), (a_kept, .inl (cJ, 12260, .inr (.inl v_kept))), (a_s, .inl (cJ, 613, .inr (.inl k22_s)))] [] [(0, .ref a_this), (1, .int k22_l1)] 22 [] := by
    intro n
    induction n with
    | zero => intro k22_undos k22_s k22_l1 hf; exact nomatch (show (none : Option (Int32 × (Nat → Int64) × Int32)) = some R0 from hf)
    | succ n_22 ih_22 =>
      intro k22_undos k22_s k22_l1 hf
      unfold f_X8_undo_c22 at hf
      refine x_iload_n 23 1 hC dX8_undo_22 rfl rfl rfl ?_
      refine x_sipush 26 hC (613 : Int32) dX8_undo_23 rfl (by decide) ?_
      refine x_icmp_ge 56 29 hC dX8_undo_26 (by decide) rfl (fun c_1 => ?_) (fun c_1 => ?_)
      · have hf := if_t hf c_1
        refine x_aload_n 57 0 hC dX8_undo_56 rfl rfl rfl ?_
        refine x_get 60 0 2 hC in_X8_undo_X8 rfl rfl (by decide) (List.mem_of_getElem? (i := 1) (by decide +kernel)) rfl rfl dX8_undo_57 rfl ?_
        cases hf
        exact x_iret hC dX8_undo_60 hQ rfl rfl
      · have hf := if_f hf c_1
        refine x_aload_n 30 0 hC dX8_undo_29 rfl rfl rfl ?_
        refine x_get 33 0 0 hC in_X8_undo_X8 rfl rfl (by decide) (List.mem_of_getElem? (i := 2) (by decide +kernel)) rfl rfl dX8_undo_30 rfl ?_
        refine x_iload_n 34 1 hC dX8_undo_33 rfl rfl rfl ?_
        refine x_aload_n 35 0 hC dX8_undo_34 rfl rfl rfl ?_
        refine x_get 38 0 1 hC in_X8_undo_X8 rfl rfl (by decide) (List.mem_of_getElem? (i := 3) (by decide +kernel)) rfl rfl dX8_undo_35 rfl ?_
        refine x_sipush 41 hC (613 : Int32) dX8_undo_38 rfl (by decide) ?_
        refine x_aload_n 42 0 hC dX8_undo_41 rfl rfl rfl ?_
        refine x_get 45 0 2 hC in_X8_undo_X8 rfl rfl (by decide) (List.mem_of_getElem? (i := 1) (by decide +kernel)) rfl rfl dX8_undo_42 rfl ?_
        refine x_imul 46 hC dX8_undo_45 rfl ?_
        refine x_iload_n 47 1 hC dX8_undo_46 rfl rfl rfl ?_
        refine x_iadd 48 hC dX8_undo_47 rfl ?_
        obtain ⟨h_2, hf⟩ := ck_e hf
        refine x_lald 49 1 1 hC rfl rfl h_2 dX8_undo_48 rfl ?_
        obtain ⟨h_3, hf⟩ := ck_e hf
        obtain ⟨g_4, e_g_4, hf⟩ := nmx_e hf
        refine x_last 50 2 1 [(a_this, .inr (8, [.ref a_s, .ref a_kept, .int k22_undos, r_known, r_whose, r_lesser, r_other, .int v_open, r_sums, r_weights, r_row, r_plan, .int v_planned])), (a_kept, .inl (cJ, 12260, .inr (.inl v_kept))), (a_s, .inl (cJ, 613, .inr (.inl g_4)))] hC rfl rfl h_3 e_g_4 rfl dX8_undo_49 rfl ?_
        obtain ⟨x_5, e_x_5, hf⟩ := nmx_e hf
        refine x_iinc 53 1 [(1, .int x_5), (0, .ref a_this)] hC dX8_undo_50 rfl rfl e_x_5 (by decide) (by decide) rfl ?_
        refine x_goto 22 hC dX8_undo_53 (by decide) ?_
        refine x_lv [(0, .ref a_this), (1, .int x_5)] [1, 0] rfl ?_
        exact ih_22 k22_undos g_4 x_5 hf
  unfold f_X8_undo at hf
  refine x_aload_n 1 0 hC dX8_undo_0 rfl rfl rfl ?_
  refine x_get 4 0 2 hC in_X8_undo_X8 rfl rfl (by decide) (List.mem_of_getElem? (i := 1) (by decide +kernel)) rfl rfl dX8_undo_1 rfl ?_
  refine x_if_ne 10 7 hC dX8_undo_4 (by decide) rfl (fun c_6 => ?_) (fun c_6 => ?_)
  · have hf := if_t hf c_6
    refine x_aload_n 11 0 hC dX8_undo_10 rfl rfl rfl ?_
    refine x_dup 12 hC dX8_undo_11 rfl rfl ?_
    refine x_get 15 0 2 hC in_X8_undo_X8 rfl rfl (by decide) (List.mem_of_getElem? (i := 1) (by decide +kernel)) rfl rfl dX8_undo_12 rfl ?_
    refine x_iconst 16 hC (1 : Int32) dX8_undo_15 rfl (by decide) ?_
    refine x_isub 17 hC dX8_undo_16 rfl ?_
    obtain ⟨x_7, e_x_7, hf⟩ := nmx_e hf
    refine x_put 20 0 2 [(a_this, .inr (8, [.ref a_s, .ref a_kept, .int x_7, r_known, r_whose, r_lesser, r_other, .int v_open, r_sums, r_weights, r_row, r_plan, .int v_planned])), (a_kept, .inl (cJ, 12260, .inr (.inl v_kept))), (a_s, .inl (cJ, 613, .inr (.inl v_s)))] hC in_X8_undo_X8 tyX8_ok nmX8 rfl rfl (by decide) (List.mem_of_getElem? (i := 1) (by decide +kernel)) rfl rfl rfl (congrArg Value.int e_x_7) rfl rfl (Nat.le_of_ble_eq_true rfl) rfl dX8_undo_17 rfl ?_
    refine x_iconst 21 hC (0 : Int32) dX8_undo_20 rfl (by decide) ?_
    refine x_istore_n 22 [(1, .int (0 : Int32)), (0, .ref a_this)] hC dX8_undo_21 rfl rfl rfl (by decide) rfl ?_
    refine x_lv [(0, .ref a_this), (1, .int (0 : Int32))] [1, 0] rfl ?_
    exact J_22 fu x_7 v_s (0 : Int32) hf
  · have hf := if_f hf c_6
    refine x_bipush 9 hC (-2 : Int32) dX8_undo_7 rfl (by decide) ?_
    cases hf
    exact x_iret hC dX8_undo_9 hQ rfl rfl
