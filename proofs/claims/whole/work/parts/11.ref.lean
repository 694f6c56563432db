theorem hd_X8_isOf : yX8_isOf.cls = RX8 ∧ yX8_isOf.cls ≠ "java/lang/invoke/MethodHandle" ∧ yX8_isOf.cls ≠ "java/lang/invoke/VarHandle" ∧ (parseMethodDescriptor yX8_isOf.desc).map (fun d => d.parameters.length) = some 2 := by decide +kernel
theorem in_X8_isOf_X8 : ∀ w ∈ u_ws RX8 TX8 13, w ∈ wsX8_isOf := fun w h => List.mem_cons_of_mem _ (List.mem_append_right _ h)
noncomputable def f_X8_isOf (v_s : Nat → Int64) (p1 : Int32) (p2 : Int32) : Option (Int32) := bd (f_X8_isUnderWay v_s p1) fun R_1 => if R_1 = 0 then (some ((0 : Int32))) else (ck (((173 : Int32) + ((5 : Int32) * p1)) + (1 : Int32)) 613 <| if (v_s (((173 : Int32) + ((5 : Int32) * p1)) + (1 : Int32)).toNatClampNeg) = (p2.toInt64) then (some ((1 : Int32))) else (ck (((173 : Int32) + ((5 : Int32) * p1)) + (2 : Int32)) 613 <| if ¬ (v_s (((173 : Int32) + ((5 : Int32) * p1)) + (2 : Int32)).toNatClampNeg) = (p2.toInt64) then (some ((0 : Int32))) else (some ((1 : Int32)))))
set_option maxHeartbeats 4000000 in
set_option maxRecDepth 100000 in
theorem c_X8_isOf (l : Launch) (D : va_G) (cI cJ cQ : ClassId) (a_this : Nat) (a_s : Nat) (r_kept : Value) (r_known : Value) (r_whose : Value) (r_lesser : Value) (r_other : Value) (r_sums : Value) (r_weights : Value) (r_row : Value) (r_plan : Value) (v_undos : Int32) (v_open : Int32) (v_planned : Int32) (v_s : Nat → Int64) (p1 : Int32) (p2 : Int32) (R0 : Int32) (hf : f_X8_isOf v_s p1 p2 = some R0) : Ci l yX8_isOf wsX8_isOf ({ frames := 2, cells := 0, slots := 0, locals := 83 } : Room) D [(cI, .int), (cJ, .long), (cQ, .object "WhisperCrowd$State")] [.ref a_this, .int p1, .int p2] [(a_this, .inr (8, [.ref a_s, r_kept, .int v_undos, r_known, r_whose, r_lesser, r_other, .int v_open, r_sums, r_weights, r_row, r_plan, .int v_planned])), (a_s, .inl (cJ, 613, .inr (.inl v_s)))] [(a_this, .inr (8, [.ref a_s, r_kept, .int v_undos, r_known, r_whose, r_lesser, r_other, .int v_open, r_sums, r_weights, r_row, r_plan, .int v_planned])), (a_s, .inl (cJ, 613, .inr (.inl v_s)))] R0 := by
  refine x_enti (cc := cX8_isOf) (maxL := 3) (rt := (some .boolean)) (lv := [(0, .ref a_this), (1, .int p1), (2, .int p2)]) (by decide) rfl (Nat.le_of_ble_eq_true rfl) rfl ?_
  intro p e s m args below meth c A Q hQ hC
  unfold f_X8_isOf at hf
  refine x_aload_n 1 0 hC dX8_isOf_0 rfl rfl rfl ?_
  refine x_iload_n 2 1 hC dX8_isOf_1 rfl rfl rfl ?_
  obtain ⟨R_1, h_R_1, hf⟩ := bd_e hf
  refine x_callVi 5 0 1 [0, 1] [(a_this, .inr (8, [.ref a_s, r_kept, .int v_undos, r_known, r_whose, r_lesser, r_other, .int v_open, r_sums, r_weights, r_row, r_plan, .int v_planned])), (a_s, .inl (cJ, 613, .inr (.inl v_s)))] hC (As := [.int p1]) (c_X8_isUnderWay l D cI cJ cQ a_this a_s r_kept r_known r_whose r_lesser r_other r_sums r_weights r_row r_plan v_undos v_open v_planned v_s p1 R_1 h_R_1) rfl rfl gX8_isOf_X8_isUnderWay rfl ⟨rfl, rfl⟩ hd_X8_isUnderWay ⟨Nat.le_of_ble_eq_true rfl, Nat.le_of_ble_eq_true rfl⟩ rfl rfl rfl rfl rfl rfl (Nat.le_of_ble_eq_true rfl) ⟨Nat.le_of_ble_eq_true rfl, Nat.le_of_ble_eq_true rfl⟩ dX8_isOf_2 rfl ?_
  refine x_if_eq 52 8 hC dX8_isOf_5 (by decide) rfl (fun c_2 => ?_) (fun c_2 => ?_)
  · have hf := if_t hf c_2
    refine x_iconst 53 hC (0 : Int32) dX8_isOf_52 rfl (by decide) ?_
    cases hf
    exact x_zret hC rfl dX8_isOf_53 hQ rfl rfl
  · have hf := if_f hf c_2
    refine x_aload_n 9 0 hC dX8_isOf_8 rfl rfl rfl ?_
    refine x_get 12 0 0 hC in_X8_isOf_X8 rfl rfl (by decide) (List.mem_of_getElem? (i := 1) (by decide +kernel)) rfl rfl dX8_isOf_9 rfl ?_
    refine x_sipush 15 hC (173 : Int32) dX8_isOf_12 rfl (by decide) ?_
    refine x_iconst 16 hC (5 : Int32) dX8_isOf_15 rfl (by decide) ?_
    refine x_iload_n 17 1 hC dX8_isOf_16 rfl rfl rfl ?_
    refine x_imul 18 hC dX8_isOf_17 rfl ?_
    refine x_iadd 19 hC dX8_isOf_18 rfl ?_
    refine x_iconst 20 hC (1 : Int32) dX8_isOf_19 rfl (by decide) ?_
    refine x_iadd 21 hC dX8_isOf_20 rfl ?_
    obtain ⟨h_3, hf⟩ := ck_e hf
    refine x_lald 22 1 1 hC rfl rfl h_3 dX8_isOf_21 rfl ?_
    refine x_iload_n 23 2 hC dX8_isOf_22 rfl rfl rfl ?_
    refine x_i2l 24 hC dX8_isOf_23 rfl ?_
    refine x_lcmp_eq 48 28 hC dX8_isOf_24 dX8_isOf_25 (by decide) rfl (fun c_4 => ?_) (fun c_4 => ?_)
    · have hf := if_t hf c_4
      refine x_iconst 49 hC (1 : Int32) dX8_isOf_48 rfl (by decide) ?_
      refine x_goto 53 hC dX8_isOf_49 (by decide) ?_
      cases hf
      exact x_zret hC rfl dX8_isOf_53 hQ rfl rfl
    · have hf := if_f hf c_4
      refine x_aload_n 29 0 hC dX8_isOf_28 rfl rfl rfl ?_
      refine x_get 32 0 0 hC in_X8_isOf_X8 rfl rfl (by decide) (List.mem_of_getElem? (i := 1) (by decide +kernel)) rfl rfl dX8_isOf_29 rfl ?_
      refine x_sipush 35 hC (173 : Int32) dX8_isOf_32 rfl (by decide) ?_
      refine x_iconst 36 hC (5 : Int32) dX8_isOf_35 rfl (by decide) ?_
      refine x_iload_n 37 1 hC dX8_isOf_36 rfl rfl rfl ?_
      refine x_imul 38 hC dX8_isOf_37 rfl ?_
      refine x_iadd 39 hC dX8_isOf_38 rfl ?_
      refine x_iconst 40 hC (2 : Int32) dX8_isOf_39 rfl (by decide) ?_
      refine x_iadd 41 hC dX8_isOf_40 rfl ?_
      obtain ⟨h_5, hf⟩ := ck_e hf
      refine x_lald 42 1 1 hC rfl rfl h_5 dX8_isOf_41 rfl ?_
      refine x_iload_n 43 2 hC dX8_isOf_42 rfl rfl rfl ?_
      refine x_i2l 44 hC dX8_isOf_43 rfl ?_
      refine x_lcmp_ne 52 48 hC dX8_isOf_44 dX8_isOf_45 (by decide) rfl (fun c_6 => ?_) (fun c_6 => ?_)
      · have hf := if_t hf c_6
        refine x_iconst 53 hC (0 : Int32) dX8_isOf_52 rfl (by decide) ?_
        cases hf
        exact x_zret hC rfl dX8_isOf_53 hQ rfl rfl
      · have hf := if_f hf c_6
        refine x_iconst 49 hC (1 : Int32) dX8_isOf_48 rfl (by decide) ?_
        refine x_goto 53 hC dX8_isOf_49 (by decide) ?_
        cases hf
        exact x_zret hC rfl dX8_isOf_53 hQ rfl rfl

theorem hd_X8_goes : yX8_goes.cls = RX8 ∧ yX8_goes.cls ≠ "java/lang/invoke/MethodHandle" ∧ yX8_goes.cls ≠ "java/lang/invoke/VarHandle" ∧ (parseMethodDescriptor yX8_goes.desc).map (fun d => d.parameters.length) = some 1 := by decide +kernel
theorem in_X8_goes_X8 : ∀ w ∈ u_ws RX8 TX8 13, w ∈ wsX8_goes := fun w h => List.mem_cons_of_mem _ (List.mem_append_right _ h)
noncomputable def f_X8_goes_c2 : Nat → (Nat → Int64) → Int32 → Int32 → Option ((Nat → Int64))
  | 0, _, _, _ => none
  | n + 1, k2_s, k2_l1, k2_l2 => if (10 : Int32) ≤ k2_l2 then (ck ((13 : Int32) + k2_l1) 613 <| nm (vp_updL k2_s ((13 : Int32) + k2_l1).toNatClampNeg (0 : Int64)) fun g_3 => ck ((33 : Int32) + k2_l1) 613 <| nm (vp_updL g_3 ((33 : Int32) + k2_l1).toNatClampNeg (0 : Int64)) fun g_5 => ck ((43 : Int32) + k2_l1) 613 <| nm (vp_updL g_5 ((43 : Int32) + k2_l1).toNatClampNeg (0 : Int64)) fun g_7 => some (g_7)) else (ck (((213 : Int32) + ((10 : Int32) * k2_l2)) + k2_l1) 613 <| nm (vp_updL k2_s (((213 : Int32) + ((10 : Int32) * k2_l2)) + k2_l1).toNatClampNeg (0 : Int64)) fun g_9 => ck (((213 : Int32) + ((10 : Int32) * k2_l1)) + k2_l2) 613 <| nm (vp_updL g_9 (((213 : Int32) + ((10 : Int32) * k2_l1)) + k2_l2).toNatClampNeg (0 : Int64)) fun g_11 => ck (((313 : Int32) + ((10 : Int32) * k2_l2)) + k2_l1) 613 <| nm (vp_updL g_11 (((313 : Int32) + ((10 : Int32) * k2_l2)) + k2_l1).toNatClampNeg (0 : Int64)) fun g_13 => ck (((313 : Int32) + ((10 : Int32) * k2_l1)) + k2_l2) 613 <| nm (vp_updL g_13 (((313 : Int32) + ((10 : Int32) * k2_l1)) + k2_l2).toNatClampNeg (0 : Int64)) fun g_15 => nm (k2_l2 + (1 : Int32)) fun x_16 => (fun k2_s k2_l1 k2_l2 => f_X8_goes_c2 n k2_s k2_l1 k2_l2) g_15 k2_l1 x_16)
noncomputable def f_X8_goes (v_s : Nat → Int64) (p1 : Int32) : Option ((Nat → Int64)) := f_X8_goes_c2 fu v_s p1 (0 : Int32)
set_option maxHeartbeats 4000000 in
set_option maxRecDepth 100000 in
theorem c_X8_goes (l : Launch) (D : va_G) (cI cJ cQ : ClassId) (a_this : Nat) (a_s : Nat) (r_kept : Value) (r_known : Value) (r_whose : Value) (r_lesser : Value) (r_other : Value) (r_sums : Value) (r_weights : Value) (r_row : Value) (r_plan : Value) (v_undos : Int32) (v_open : Int32) (v_planned : Int32) (v_s : Nat → Int64) (p1 : Int32) (R0 : (Nat → Int64)) (hf : f_X8_goes v_s p1 = some R0) : Cv l yX8_goes wsX8_goes ({ frames := 1, cells := 0, slots := 0, locals := 60 } : Room) D [(cI, .int), (cJ, .long), (cQ, .object "WhisperCrowd$State")] [.ref a_this, .int p1] [(a_this, .inr (8, [.ref a_s, r_kept, .int v_undos, r_known, r_whose, r_lesser, r_other, .int v_open, r_sums, r_weights, r_row, r_plan, .int v_planned])), (a_s, .inl (cJ, 613, .inr (.inl v_s)))] [(a_this, .inr (8, [.ref a_s, r_kept, .int v_undos, r_known, r_whose, r_lesser, r_other, .int v_open, r_sums, r_weights, r_row, r_plan, .int v_planned])), (a_s, .inl (cJ, 613, .inr (.inl R0)))] := by
  refine x_entv (cc := cX8_goes) (maxL := 3) (rt := none) (lv := [(0, .ref a_this), (1, .int p1)]) (by decide) rfl (Nat.le_of_ble_eq_true rfl) rfl ?_
  intro p e s m args below meth c A Q hQ hC
  have J_2 : ∀ (n : Nat) (k2_s : Nat → Int64) (k2_l1 : Int32) (k2_l2 : Int32), f_X8_goes_c2 n k2_s k2_l1 k2_l2 = some R0 → XW p l e ({ frames := 1, cells := 0, slots := 0, locals := 60 } : Room) s m args below meth c D A 3 0 0 Q [(a_this, .inr (8, [.ref a_s, r_kept, .int v_undos, r_known, r_whose, r_lesser, r_other, .int v_open, r_sums, r_weights, r_row, r_plan, .int v_planned])), (a_s, .inl (cJ, 613, .inr (.inl k2_s)))] [] [(0, .ref a_this), (1, .int k2_l1), (2, .int k2_l2)] 2 [] := by
    intro n
    induction n with
    | zero => intro k2_s k2_l1 k2_l2 hf; exact nomatch (show (none : Option ((Nat → Int64))) = some R0 from hf)
    | succ n_2 ih_2 =>
      intro k2_s k2_l1 k2_l2 hf
      unfold f_X8_goes_c2 at hf
      refine x_iload_n 3 2 hC dX8_goes_2 rfl rfl rfl ?_
      refine x_bipush 5 hC (10 : Int32) dX8_goes_3 rfl (by decide) ?_
      refine x_icmp_ge 78 8 hC dX8_goes_5 (by decide) rfl (fun c_1 => ?_) (fun c_1 => ?_)
      · have hf := if_t hf c_1
        refine x_aload_n 79 0 hC dX8_goes_78 rfl rfl rfl ?_
        refine x_get 82 0 0 hC in_X8_goes_X8 rfl rfl (by decide) (List.mem_of_getElem? (i := 1) (by decide +kernel)) rfl rfl dX8_goes_79 rfl ?_
        refine x_bipush 84 hC (13 : Int32) dX8_goes_82 rfl (by decide) ?_
        refine x_iload_n 85 1 hC dX8_goes_84 rfl rfl rfl ?_
        refine x_iadd 86 hC dX8_goes_85 rfl ?_
        refine x_lconst 87 hC (0 : Int64) dX8_goes_86 rfl (by decide) ?_
        obtain ⟨h_2, hf⟩ := ck_e hf
        obtain ⟨g_3, e_g_3, hf⟩ := nmx_e hf
        refine x_last 88 1 1 [(a_this, .inr (8, [.ref a_s, r_kept, .int v_undos, r_known, r_whose, r_lesser, r_other, .int v_open, r_sums, r_weights, r_row, r_plan, .int v_planned])), (a_s, .inl (cJ, 613, .inr (.inl g_3)))] hC rfl rfl h_2 e_g_3 rfl dX8_goes_87 rfl ?_
        refine x_aload_n 89 0 hC dX8_goes_88 rfl rfl rfl ?_
        refine x_get 92 0 0 hC in_X8_goes_X8 rfl rfl (by decide) (List.mem_of_getElem? (i := 1) (by decide +kernel)) rfl rfl dX8_goes_89 rfl ?_
        refine x_bipush 94 hC (33 : Int32) dX8_goes_92 rfl (by decide) ?_
        refine x_iload_n 95 1 hC dX8_goes_94 rfl rfl rfl ?_
        refine x_iadd 96 hC dX8_goes_95 rfl ?_
        refine x_lconst 97 hC (0 : Int64) dX8_goes_96 rfl (by decide) ?_
        obtain ⟨h_4, hf⟩ := ck_e hf
        obtain ⟨g_5, e_g_5, hf⟩ := nmx_e hf
        refine x_last 98 1 1 [(a_this, .inr (8, [.ref a_s, r_kept, .int v_undos, r_known, r_whose, r_lesser, r_other, .int v_open, r_sums, r_weights, r_row, r_plan, .int v_planned])), (a_s, .inl (cJ, 613, .inr (.inl g_5)))] hC rfl rfl h_4 e_g_5 rfl dX8_goes_97 rfl ?_
        refine x_aload_n 99 0 hC dX8_goes_98 rfl rfl rfl ?_
        refine x_get 102 0 0 hC in_X8_goes_X8 rfl rfl (by decide) (List.mem_of_getElem? (i := 1) (by decide +kernel)) rfl rfl dX8_goes_99 rfl ?_
        refine x_bipush 104 hC (43 : Int32) dX8_goes_102 rfl (by decide) ?_
        refine x_iload_n 105 1 hC dX8_goes_104 rfl rfl rfl ?_
        refine x_iadd 106 hC dX8_goes_105 rfl ?_
        refine x_lconst 107 hC (0 : Int64) dX8_goes_106 rfl (by decide) ?_
        obtain ⟨h_6, hf⟩ := ck_e hf
        obtain ⟨g_7, e_g_7, hf⟩ := nmx_e hf
        refine x_last 108 1 1 [(a_this, .inr (8, [.ref a_s, r_kept, .int v_undos, r_known, r_whose, r_lesser, r_other, .int v_open, r_sums, r_weights, r_row, r_plan, .int v_planned])), (a_s, .inl (cJ, 613, .inr (.inl g_7)))] hC rfl rfl h_6 e_g_7 rfl dX8_goes_107 rfl ?_
        cases hf
        exact x_vret hC dX8_goes_108 hQ rfl
      · have hf := if_f hf c_1
        refine x_aload_n 9 0 hC dX8_goes_8 rfl rfl rfl ?_
        refine x_get 12 0 0 hC in_X8_goes_X8 rfl rfl (by decide) (List.mem_of_getElem? (i := 1) (by decide +kernel)) rfl rfl dX8_goes_9 rfl ?_
        refine x_sipush 15 hC (213 : Int32) dX8_goes_12 rfl (by decide) ?_
        refine x_bipush 17 hC (10 : Int32) dX8_goes_15 rfl (by decide) ?_
        refine x_iload_n 18 2 hC dX8_goes_17 rfl rfl rfl ?_
        refine x_imul 19 hC dX8_goes_18 rfl ?_
        refine x_iadd 20 hC dX8_goes_19 rfl ?_
        refine x_iload_n 21 1 hC dX8_goes_20 rfl rfl rfl ?_
        refine x_iadd 22 hC dX8_goes_21 rfl ?_
        refine x_lconst 23 hC (0 : Int64) dX8_goes_22 rfl (by decide) ?_
        obtain ⟨h_8, hf⟩ := ck_e hf
        obtain ⟨g_9, e_g_9, hf⟩ := nmx_e hf
        refine x_last 24 1 1 [(a_this, .inr (8, [.ref a_s, r_kept, .int v_undos, r_known, r_whose, r_lesser, r_other, .int v_open, r_sums, r_weights, r_row, r_plan, .int v_planned])), (a_s, .inl (cJ, 613, .inr (.inl g_9)))] hC rfl rfl h_8 e_g_9 rfl dX8_goes_23 rfl ?_
        refine x_aload_n 25 0 hC dX8_goes_24 rfl rfl rfl ?_
        refine x_get 28 0 0 hC in_X8_goes_X8 rfl rfl (by decide) (List.mem_of_getElem? (i := 1) (by decide +kernel)) rfl rfl dX8_goes_25 rfl ?_
        refine x_sipush 31 hC (213 : Int32) dX8_goes_28 rfl (by decide) ?_
        refine x_bipush 33 hC (10 : Int32) dX8_goes_31 rfl (by decide) ?_
        refine x_iload_n 34 1 hC dX8_goes_33 rfl rfl rfl ?_
        refine x_imul 35 hC dX8_goes_34 rfl ?_
        refine x_iadd 36 hC dX8_goes_35 rfl ?_
        refine x_iload_n 37 2 hC dX8_goes_36 rfl rfl rfl ?_
        refine x_iadd 38 hC dX8_goes_37 rfl ?_
        refine x_lconst 39 hC (0 : Int64) dX8_goes_38 rfl (by decide) ?_
        obtain ⟨h_10, hf⟩ := ck_e hf
        obtain ⟨g_11, e_g_11, hf⟩ := nmx_e hf
        refine x_last 40 1 1 [(a_this, .inr (8, [.ref a_s, r_kept, .int v_undos, r_known, r_whose, r_lesser, r_other, .int v_open, r_sums, r_weights, r_row, r_plan, .int v_planned])), (a_s, .inl (cJ, 613, .inr (.inl g_11)))] hC rfl rfl h_10 e_g_11 rfl dX8_goes_39 rfl ?_
        refine x_aload_n 41 0 hC dX8_goes_40 rfl rfl rfl ?_
        refine x_get 44 0 0 hC in_X8_goes_X8 rfl rfl (by decide) (List.mem_of_getElem? (i := 1) (by decide +kernel)) rfl rfl dX8_goes_41 rfl ?_
        refine x_sipush 47 hC (313 : Int32) dX8_goes_44 rfl (by decide) ?_
        refine x_bipush 49 hC (10 : Int32) dX8_goes_47 rfl (by decide) ?_
        refine x_iload_n 50 2 hC dX8_goes_49 rfl rfl rfl ?_
        refine x_imul 51 hC dX8_goes_50 rfl ?_
        refine x_iadd 52 hC dX8_goes_51 rfl ?_
        refine x_iload_n 53 1 hC dX8_goes_52 rfl rfl rfl ?_
        refine x_iadd 54 hC dX8_goes_53 rfl ?_
        refine x_lconst 55 hC (0 : Int64) dX8_goes_54 rfl (by decide) ?_
        obtain ⟨h_12, hf⟩ := ck_e hf
        obtain ⟨g_13, e_g_13, hf⟩ := nmx_e hf
        refine x_last 56 1 1 [(a_this, .inr (8, [.ref a_s, r_kept, .int v_undos, r_known, r_whose, r_lesser, r_other, .int v_open, r_sums, r_weights, r_row, r_plan, .int v_planned])), (a_s, .inl (cJ, 613, .inr (.inl g_13)))] hC rfl rfl h_12 e_g_13 rfl dX8_goes_55 rfl ?_
        refine x_aload_n 57 0 hC dX8_goes_56 rfl rfl rfl ?_
        refine x_get 60 0 0 hC in_X8_goes_X8 rfl rfl (by decide) (List.mem_of_getElem? (i := 1) (by decide +kernel)) rfl rfl dX8_goes_57 rfl ?_
        refine x_sipush 63 hC (313 : Int32) dX8_goes_60 rfl (by decide) ?_
        refine x_bipush 65 hC (10 : Int32) dX8_goes_63 rfl (by decide) ?_
        refine x_iload_n 66 1 hC dX8_goes_65 rfl rfl rfl ?_
        refine x_imul 67 hC dX8_goes_66 rfl ?_
        refine x_iadd 68 hC dX8_goes_67 rfl ?_
        refine x_iload_n 69 2 hC dX8_goes_68 rfl rfl rfl ?_
        refine x_iadd 70 hC dX8_goes_69 rfl ?_
        refine x_lconst 71 hC (0 : Int64) dX8_goes_70 rfl (by decide) ?_
        obtain ⟨h_14, hf⟩ := ck_e hf
        obtain ⟨g_15, e_g_15, hf⟩ := nmx_e hf
        refine x_last 72 1 1 [(a_this, .inr (8, [.ref a_s, r_kept, .int v_undos, r_known, r_whose, r_lesser, r_other, .int v_open, r_sums, r_weights, r_row, r_plan, .int v_planned])), (a_s, .inl (cJ, 613, .inr (.inl g_15)))] hC rfl rfl h_14 e_g_15 rfl dX8_goes_71 rfl ?_
        obtain ⟨x_16, e_x_16, hf⟩ := nmx_e hf
        refine x_iinc 75 2 [(2, .int x_16), (0, .ref a_this), (1, .int k2_l1)] hC dX8_goes_72 rfl rfl e_x_16 (by decide) (by decide) rfl ?_
        refine x_goto 2 hC dX8_goes_75 (by decide) ?_
        refine x_lv [(0, .ref a_this), (1, .int k2_l1), (2, .int x_16)] [1, 2, 0] rfl ?_
        exact ih_2 g_15 k2_l1 x_16 hf
  unfold f_X8_goes at hf
  refine x_iconst 1 hC (0 : Int32) dX8_goes_0 rfl (by decide) ?_
  refine x_istore_n 2 [(2, .int (0 : Int32)), (0, .ref a_this), (1, .int p1)] hC dX8_goes_1 rfl rfl rfl (by decide) rfl ?_
  refine x_lv [(0, .ref a_this), (1, .int p1), (2, .int (0 : Int32))] [1, 2, 0] rfl ?_
  exact J_2 fu v_s p1 (0 : Int32) hf

theorem hd_X8_fall : yX8_fall.cls = RX8 ∧ yX8_fall.cls ≠ "java/lang/invoke/MethodHandle" ∧ yX8_fall.cls ≠ "java/lang/invoke/VarHandle" ∧ (parseMethodDescriptor yX8_fall.desc).map (fun d => d.parameters.length) = some 1 := by decide +kernel
theorem in_X8_fall_X8 : ∀ w ∈ u_ws RX8 TX8 13, w ∈ wsX8_fall := fun w h => List.mem_cons_of_mem _ (List.mem_append_right _ h)
noncomputable def f_X8_fall_c130 (k57 : Int32 → (Nat → Int64) → (Nat → Int64) → Int32 → Int32 → Int32 → Option (Int32 × (Nat → Int64) × (Nat → Int64) × Int32)) (k130_undos : Int32) (k130_kept : Nat → Int64) (k130_s : Nat → Int64) (k130_l1 : Int32) (k130_l2 : Int32) (k130_l3 : Int32) : Option (Int32 × (Nat → Int64) × (Nat → Int64) × Int32) := ck (((413 : Int32) + ((10 : Int32) * k130_l3)) + k130_l1) 613 <| nm (vp_updL k130_s (((413 : Int32) + ((10 : Int32) * k130_l3)) + k130_l1).toNatClampNeg (0 : Int64)) fun g_2 => ck (((413 : Int32) + ((10 : Int32) * k130_l1)) + k130_l3) 613 <| nm (vp_updL g_2 (((413 : Int32) + ((10 : Int32) * k130_l1)) + k130_l3).toNatClampNeg (0 : Int64)) fun g_4 => ck (((513 : Int32) + ((10 : Int32) * k130_l3)) + k130_l1) 613 <| nm (vp_updL g_4 (((513 : Int32) + ((10 : Int32) * k130_l3)) + k130_l1).toNatClampNeg (0 : Int64)) fun g_6 => ck (((513 : Int32) + ((10 : Int32) * k130_l1)) + k130_l3) 613 <| nm (vp_updL g_6 (((513 : Int32) + ((10 : Int32) * k130_l1)) + k130_l3).toNatClampNeg (0 : Int64)) fun g_8 => nm (k130_l3 + (1 : Int32)) fun x_9 => k57 k130_undos k130_kept g_8 k130_l1 k130_l2 x_9
noncomputable def f_X8_fall_c57 : Nat → Int32 → (Nat → Int64) → (Nat → Int64) → Int32 → Int32 → Int32 → Option (Int32 × (Nat → Int64) × (Nat → Int64) × Int32)
  | 0, _, _, _, _, _, _ => none
  | n + 1, k57_undos, k57_kept, k57_s, k57_l1, k57_l2, k57_l3 => if (10 : Int32) ≤ k57_l3 then (bd (f_X8_goes k57_s k57_l1) fun R_11 => some (k57_undos, k57_kept, R_11, k57_l2)) else (if k57_l3 = k57_l1 then (f_X8_fall_c130 (fun k57_undos k57_kept k57_s k57_l1 k57_l2 k57_l3 => f_X8_fall_c57 n k57_undos k57_kept k57_s k57_l1 k57_l2 k57_l3) k57_undos k57_kept k57_s k57_l1 k57_l2 k57_l3) else (bd (f_X8_isHere k57_s k57_l3) fun R_13 => if R_13 = 0 then (f_X8_fall_c130 (fun k57_undos k57_kept k57_s k57_l1 k57_l2 k57_l3 => f_X8_fall_c57 n k57_undos k57_kept k57_s k57_l1 k57_l2 k57_l3) k57_undos k57_kept k57_s k57_l1 k57_l2 k57_l3) else (ck ((33 : Int32) + k57_l3) 613 <| ck (((213 : Int32) + ((10 : Int32) * k57_l3)) + k57_l1) 613 <| ck ((33 : Int32) + k57_l3) 613 <| nm (vp_updL k57_s ((33 : Int32) + k57_l3).toNatClampNeg ((k57_s ((33 : Int32) + k57_l3).toNatClampNeg) + (k57_s (((213 : Int32) + ((10 : Int32) * k57_l3)) + k57_l1).toNatClampNeg))) fun g_18 => ck ((43 : Int32) + k57_l3) 613 <| ck (((313 : Int32) + ((10 : Int32) * k57_l3)) + k57_l1) 613 <| ck ((43 : Int32) + k57_l3) 613 <| nm (vp_updL g_18 ((43 : Int32) + k57_l3).toNatClampNeg ((g_18 ((43 : Int32) + k57_l3).toNatClampNeg) + (g_18 (((313 : Int32) + ((10 : Int32) * k57_l3)) + k57_l1).toNatClampNeg))) fun g_22 => f_X8_fall_c130 (fun k57_undos k57_kept k57_s k57_l1 k57_l2 k57_l3 => f_X8_fall_c57 n k57_undos k57_kept k57_s k57_l1 k57_l2 k57_l3) k57_undos k57_kept g_22 k57_l1 k57_l2 k57_l3)))
noncomputable def f_X8_fall_c49 (k18 : Int32 → (Nat → Int64) → (Nat → Int64) → Int32 → Int32 → Int32 → Option (Int32 × (Nat → Int64) × (Nat → Int64) × Int32)) (k49_undos : Int32) (k49_kept : Nat → Int64) (k49_s : Nat → Int64) (k49_l1 : Int32) (k49_l2 : Int32) (k49_l3 : Int32) : Option (Int32 × (Nat → Int64) × (Nat → Int64) × Int32) := nm (k49_l3 + (1 : Int32)) fun x_23 => k18 k49_undos k49_kept k49_s k49_l1 k49_l2 x_23
noncomputable def f_X8_fall_c18 : Nat → Int32 → (Nat → Int64) → (Nat → Int64) → Int32 → Int32 → Int32 → Option (Int32 × (Nat → Int64) × (Nat → Int64) × Int32)
  | 0, _, _, _, _, _, _ => none
  | n + 1, k18_undos, k18_kept, k18_s, k18_l1, k18_l2, k18_l3 => if (8 : Int32) ≤ k18_l3 then (f_X8_fall_c57 fu k18_undos k18_kept k18_s k18_l1 k18_l2 (0 : Int32)) else (bd (f_X8_isOf k18_s k18_l3 k18_l1) fun R_25 => if R_25 = 0 then (f_X8_fall_c49 (fun k18_undos k18_kept k18_s k18_l1 k18_l2 k18_l3 => f_X8_fall_c18 n k18_undos k18_kept k18_s k18_l1 k18_l2 k18_l3) k18_undos k18_kept k18_s k18_l1 k18_l2 k18_l3) else (ck ((173 : Int32) + ((5 : Int32) * k18_l3)) 613 <| nm (vp_updL k18_s ((173 : Int32) + ((5 : Int32) * k18_l3)).toNatClampNeg (0 : Int64)) fun g_28 => nm (k18_l2 + (1 : Int32)) fun x_29 => f_X8_fall_c49 (fun k18_undos k18_kept k18_s k18_l1 k18_l2 k18_l3 => f_X8_fall_c18 n k18_undos k18_kept k18_s k18_l1 k18_l2 k18_l3) k18_undos k18_kept g_28 k18_l1 x_29 k18_l3))
noncomputable def f_X8_fall (v_undos : Int32) (v_kept : Nat → Int64) (v_s : Nat → Int64) (p1 : Int32) : Option (Int32 × (Nat → Int64) × (Nat → Int64) × Int32) := bd (f_X8_isHere v_s p1) fun R_30 => if ¬ R_30 = 0 then (bd (f_X8_keep v_s v_undos v_kept) fun R_32 => f_X8_fall_c18 fu R_32.1 R_32.2 v_s p1 (0 : Int32) (0 : Int32)) else (some (v_undos, v_kept, v_s, (-1 : Int32)))
set_option maxHeartbeats 4000000 in
set_option maxRecDepth 100000 in
theorem c_X8_fall (l : Launch) (D : va_G) (cI cJ cQ : ClassId) (a_this : Nat) (a_kept : Nat) (a_s : Nat) (r_known : Value) (r_whose : Value) (r_lesser : Value) (r_other : Value) (r_sums : Value) (r_weights : Value) (r_row : Value) (r_plan : Value) (v_undos : Int32) (v_open : Int32) (v_planned : Int32) (v_kept : Nat → Int64) (v_s : Nat → Int64) (p1 : Int32) (R0 : Int32 × (Nat → Int64) × (Nat → Int64) × Int32) (hf : f_X8_fall v_undos v_kept v_s p1 = some R0) : Ci l yX8_fall wsX8_fall ({ frames := 4, cells := 0, slots := 0, locals := 133 } : Room) D [(cI, .int), (cJ, .long), (cQ, .object "WhisperCrowd$State")] [.ref a_this, .int p1] [(a_this, .inr (8, [.ref a_s, .ref a_kept, .int v_undos, r_known, r_whose, r_lesser, r_other, .int v_open, r_sums, r_weights, r_row, r_plan, .int v_planned])), (a_kept, .inl (cJ, 12260, .inr (.inl v_kept))), (a_s, .inl (cJ, 613, .inr (.inl v_s)))] [(a_this, .inr (8, [.ref a_s, .ref a_kept, .int R0.1, r_known, r_whose, r_lesser, r_other, .int v_open, r_sums, r_weights, r_row, r_plan, .int v_planned])), (a_kept, .inl (cJ, 12260, .inr (.inl R0.2.1))), (a_s, .inl (cJ, 613, .inr (.inl R0.2.2.1)))] R0.2.2.2 := by
  refine x_enti (cc := cX8_fall) (maxL := 4) (rt := (some .int)) (lv := [(0, .ref a_this), (1, .int p1)]) (by decide) rfl (Nat.le_of_ble_eq_true rfl) rfl ?_
  intro p e s m args below meth c A Q hQ hC
  have J_57 : ∀ (n : Nat) (k57_undos : Int32) (k57_kept : Nat → Int64) (k57_s : Nat → Int64) (k57_l1 : Int32) (k57_l2 : Int32) (k57_l3 : Int32), f_X8_fall_c57 n k57_undos k57_kept k57_s k57_l1 k57_l2 k57_l3 = some R0 → XW p l e ({ frames := 4, cells := 0, slots := 0, locals := 133 } : Room) s m args below meth c D A 4 0 0 Q [(a_this, .inr (8, [.ref a_s, .ref a_kept, .int k57_undos, r_known, r_whose, r_lesser, r_other, .int v_open, r_sums, r_weights, r_row, r_plan, .int v_planned])), (a_kept, .inl (cJ, 12260, .inr (.inl k57_kept))), (a_s, .inl (cJ, 613, .inr (.inl k57_s)))] [] [(0, .ref a_this), (1, .int k57_l1), (2, .int k57_l2), (3, .int k57_l3)] 57 [] := by
    intro n
    induction n with
    | zero => intro k57_undos k57_kept k57_s k57_l1 k57_l2 k57_l3 hf; exact nomatch (show (none : Option (Int32 × (Nat → Int64) × (Nat → Int64) × Int32)) = some R0 from hf)
    | succ n_57 ih_57 =>
      have J_130 : ∀ (k130_undos : Int32) (k130_kept : Nat → Int64) (k130_s : Nat → Int64) (k130_l1 : Int32) (k130_l2 : Int32) (k130_l3 : Int32), f_X8_fall_c130 (fun k57_undos k57_kept k57_s k57_l1 k57_l2 k57_l3 => f_X8_fall_c57 n_57 k57_undos k57_kept k57_s k57_l1 k57_l2 k57_l3) k130_undos k130_kept k130_s k130_l1 k130_l2 k130_l3 = some R0 → XW p l e ({ frames := 4, cells := 0, slots := 0, locals := 133 } : Room) s m args below meth c D A 4 0 0 Q [(a_this, .inr (8, [.ref a_s, .ref a_kept, .int k130_undos, r_known, r_whose, r_lesser, r_other, .int v_open, r_sums, r_weights, r_row, r_plan, .int v_planned])), (a_kept, .inl (cJ, 12260, .inr (.inl k130_kept))), (a_s, .inl (cJ, 613, .inr (.inl k130_s)))] [] [(0, .ref a_this), (1, .int k130_l1), (2, .int k130_l2), (3, .int k130_l3)] 130 [] := by
        intro k130_undos k130_kept k130_s k130_l1 k130_l2 k130_l3 hf
        unfold f_X8_fall_c130 at hf
        refine x_aload_n 131 0 hC dX8_fall_130 rfl rfl rfl ?_
        refine x_get 134 0 0 hC in_X8_fall_X8 rfl rfl (by decide) (List.mem_of_getElem? (i := 1) (by decide +kernel)) rfl rfl dX8_fall_131 rfl ?_
        refine x_sipush 137 hC (413 : Int32) dX8_fall_134 rfl (by decide) ?_
        refine x_bipush 139 hC (10 : Int32) dX8_fall_137 rfl (by decide) ?_
        refine x_iload_n 140 3 hC dX8_fall_139 rfl rfl rfl ?_
        refine x_imul 141 hC dX8_fall_140 rfl ?_
        refine x_iadd 142 hC dX8_fall_141 rfl ?_
        refine x_iload_n 143 1 hC dX8_fall_142 rfl rfl rfl ?_
        refine x_iadd 144 hC dX8_fall_143 rfl ?_
        refine x_lconst 145 hC (0 : Int64) dX8_fall_144 rfl (by decide) ?_
        obtain ⟨h_1, hf⟩ := ck_e hf
        obtain ⟨g_2, e_g_2, hf⟩ := nmx_e hf
        refine x_last 146 2 1 [(a_this, .inr (8, [.ref a_s, .ref a_kept, .int k130_undos, r_known, r_whose, r_lesser, r_other, .int v_open, r_sums, r_weights, r_row, r_plan, .int v_planned])), (a_kept, .inl (cJ, 12260, .inr (.inl k130_kept))), (a_s, .inl (cJ, 613, .inr (.inl g_2)))] hC rfl rfl h_1 e_g_2 rfl dX8_fall_145 rfl ?_
        refine x_aload_n 147 0 hC dX8_fall_146 rfl rfl rfl ?_
        refine x_get 150 0 0 hC in_X8_fall_X8 rfl rfl (by decide) (List.mem_of_getElem? (i := 1) (by decide +kernel)) rfl rfl dX8_fall_147 rfl ?_
        refine x_sipush 153 hC (413 : Int32) dX8_fall_150 rfl (by decide) ?_
        refine x_bipush 155 hC (10 : Int32) dX8_fall_153 rfl (by decide) ?_
        refine x_iload_n 156 1 hC dX8_fall_155 rfl rfl rfl ?_
        refine x_imul 157 hC dX8_fall_156 rfl ?_
        refine x_iadd 158 hC dX8_fall_157 rfl ?_
        refine x_iload_n 159 3 hC dX8_fall_158 rfl rfl rfl ?_
        refine x_iadd 160 hC dX8_fall_159 rfl ?_
        refine x_lconst 161 hC (0 : Int64) dX8_fall_160 rfl (by decide) ?_
        obtain ⟨h_3, hf⟩ := ck_e hf
        obtain ⟨g_4, e_g_4, hf⟩ := nmx_e hf
        refine x_last 162 2 1 [(a_this, .inr (8, [.ref a_s, .ref a_kept, .int k130_undos, r_known, r_whose, r_lesser, r_other, .int v_open, r_sums, r_weights, r_row, r_plan, .int v_planned])), (a_kept, .inl (cJ, 12260, .inr (.inl k130_kept))), (a_s, .inl (cJ, 613, .inr (.inl g_4)))] hC rfl rfl h_3 e_g_4 rfl dX8_fall_161 rfl ?_
        refine x_aload_n 163 0 hC dX8_fall_162 rfl rfl rfl ?_
        refine x_get 166 0 0 hC in_X8_fall_X8 rfl rfl (by decide) (List.mem_of_getElem? (i := 1) (by decide +kernel)) rfl rfl dX8_fall_163 rfl ?_
        refine x_sipush 169 hC (513 : Int32) dX8_fall_166 rfl (by decide) ?_
        refine x_bipush 171 hC (10 : Int32) dX8_fall_169 rfl (by decide) ?_
        refine x_iload_n 172 3 hC dX8_fall_171 rfl rfl rfl ?_
        refine x_imul 173 hC dX8_fall_172 rfl ?_
        refine x_iadd 174 hC dX8_fall_173 rfl ?_
        refine x_iload_n 175 1 hC dX8_fall_174 rfl rfl rfl ?_
        refine x_iadd 176 hC dX8_fall_175 rfl ?_
        refine x_lconst 177 hC (0 : Int64) dX8_fall_176 rfl (by decide) ?_
        obtain ⟨h_5, hf⟩ := ck_e hf
        obtain ⟨g_6, e_g_6, hf⟩ := nmx_e hf
        refine x_last 178 2 1 [(a_this, .inr (8, [.ref a_s, .ref a_kept, .int k130_undos, r_known, r_whose, r_lesser, r_other, .int v_open, r_sums, r_weights, r_row, r_plan, .int v_planned])), (a_kept, .inl (cJ, 12260, .inr (.inl k130_kept))), (a_s, .inl (cJ, 613, .inr (.inl g_6)))] hC rfl rfl h_5 e_g_6 rfl dX8_fall_177 rfl ?_
        refine x_aload_n 179 0 hC dX8_fall_178 rfl rfl rfl ?_
        refine x_get 182 0 0 hC in_X8_fall_X8 rfl rfl (by decide) (List.mem_of_getElem? (i := 1) (by decide +kernel)) rfl rfl dX8_fall_179 rfl ?_
        refine x_sipush 185 hC (513 : Int32) dX8_fall_182 rfl (by decide) ?_
        refine x_bipush 187 hC (10 : Int32) dX8_fall_185 rfl (by decide) ?_
        refine x_iload_n 188 1 hC dX8_fall_187 rfl rfl rfl ?_
        refine x_imul 189 hC dX8_fall_188 rfl ?_
        refine x_iadd 190 hC dX8_fall_189 rfl ?_
        refine x_iload_n 191 3 hC dX8_fall_190 rfl rfl rfl ?_
        refine x_iadd 192 hC dX8_fall_191 rfl ?_
        refine x_lconst 193 hC (0 : Int64) dX8_fall_192 rfl (by decide) ?_
        obtain ⟨h_7, hf⟩ := ck_e hf
        obtain ⟨g_8, e_g_8, hf⟩ := nmx_e hf
        refine x_last 194 2 1 [(a_this, .inr (8, [.ref a_s, .ref a_kept, .int k130_undos, r_known, r_whose, r_lesser, r_other, .int v_open, r_sums, r_weights, r_row, r_plan, .int v_planned])), (a_kept, .inl (cJ, 12260, .inr (.inl k130_kept))), (a_s, .inl (cJ, 613, .inr (.inl g_8)))] hC rfl rfl h_7 e_g_8 rfl dX8_fall_193 rfl ?_
        obtain ⟨x_9, e_x_9, hf⟩ := nmx_e hf
        refine x_iinc 197 3 [(3, .int x_9), (0, .ref a_this), (1, .int k130_l1), (2, .int k130_l2)] hC dX8_fall_194 rfl rfl e_x_9 (by decide) (by decide) rfl ?_
        refine x_goto 57 hC dX8_fall_197 (by decide) ?_
        refine x_lv [(0, .ref a_this), (1, .int k130_l1), (2, .int k130_l2), (3, .int x_9)] [1, 2, 3, 0] rfl ?_
        exact ih_57 k130_undos k130_kept g_8 k130_l1 k130_l2 x_9 hf
      intro k57_undos k57_kept k57_s k57_l1 k57_l2 k57_l3 hf
      unfold f_X8_fall_c57 at hf
      refine x_iload_n 58 3 hC dX8_fall_57 rfl rfl rfl ?_
      refine x_bipush 60 hC (10 : Int32) dX8_fall_58 rfl (by decide) ?_
      refine x_icmp_ge 200 63 hC dX8_fall_60 (by decide) rfl (fun c_10 => ?_) (fun c_10 => ?_)
      · have hf := if_t hf c_10
        refine x_aload_n 201 0 hC dX8_fall_200 rfl rfl rfl ?_
        refine x_iload_n 202 1 hC dX8_fall_201 rfl rfl rfl ?_
        obtain ⟨R_11, h_R_11, hf⟩ := bd_e hf
        refine x_callVv 205 0 1 [0, 2] [(a_this, .inr (8, [.ref a_s, .ref a_kept, .int k57_undos, r_known, r_whose, r_lesser, r_other, .int v_open, r_sums, r_weights, r_row, r_plan, .int v_planned])), (a_kept, .inl (cJ, 12260, .inr (.inl k57_kept))), (a_s, .inl (cJ, 613, .inr (.inl R_11)))] hC (As := [.int k57_l1]) (c_X8_goes l D cI cJ cQ a_this a_s (.ref a_kept) r_known r_whose r_lesser r_other r_sums r_weights r_row r_plan k57_undos v_open v_planned k57_s k57_l1 R_11 h_R_11) rfl rfl gX8_fall_X8_goes rfl ⟨rfl, rfl⟩ hd_X8_goes ⟨Nat.le_of_ble_eq_true rfl, Nat.le_of_ble_eq_true rfl⟩ rfl rfl rfl rfl rfl rfl (Nat.le_of_ble_eq_true rfl) ⟨Nat.le_of_ble_eq_true rfl, Nat.le_of_ble_eq_true rfl⟩ dX8_fall_202 rfl ?_
        refine x_iload_n 206 2 hC dX8_fall_205 rfl rfl rfl ?_
        cases hf
        exact x_iret hC dX8_fall_206 hQ rfl rfl
      · have hf := if_f hf c_10
        refine x_iload_n 64 3 hC dX8_fall_63 rfl rfl rfl ?_
        refine x_iload_n 65 1 hC dX8_fall_64 rfl rfl rfl ?_
        refine x_icmp_eq 130 68 hC dX8_fall_65 (by decide) rfl (fun c_12 => ?_) (fun c_12 => ?_)
        · have hf := if_t hf c_12
          refine x_lv [(0, .ref a_this), (1, .int k57_l1), (2, .int k57_l2), (3, .int k57_l3)] [0, 1, 2, 3] rfl ?_
          exact J_130 k57_undos k57_kept k57_s k57_l1 k57_l2 k57_l3 hf
        · have hf := if_f hf c_12
          refine x_aload_n 69 0 hC dX8_fall_68 rfl rfl rfl ?_
          refine x_iload_n 70 3 hC dX8_fall_69 rfl rfl rfl ?_
          obtain ⟨R_13, h_R_13, hf⟩ := bd_e hf
          refine x_callVi 73 0 1 [0, 2] [(a_this, .inr (8, [.ref a_s, .ref a_kept, .int k57_undos, r_known, r_whose, r_lesser, r_other, .int v_open, r_sums, r_weights, r_row, r_plan, .int v_planned])), (a_kept, .inl (cJ, 12260, .inr (.inl k57_kept))), (a_s, .inl (cJ, 613, .inr (.inl k57_s)))] hC (As := [.int k57_l3]) (c_X8_isHere l D cI cJ cQ a_this a_s (.ref a_kept) r_known r_whose r_lesser r_other r_sums r_weights r_row r_plan k57_undos v_open v_planned k57_s k57_l3 R_13 h_R_13) rfl rfl gX8_fall_X8_isHere rfl ⟨rfl, rfl⟩ hd_X8_isHere ⟨Nat.le_of_ble_eq_true rfl, Nat.le_of_ble_eq_true rfl⟩ rfl rfl rfl rfl rfl rfl (Nat.le_of_ble_eq_true rfl) ⟨Nat.le_of_ble_eq_true rfl, Nat.le_of_ble_eq_true rfl⟩ dX8_fall_70 rfl ?_
          refine x_if_eq 130 76 hC dX8_fall_73 (by decide) rfl (fun c_14 => ?_) (fun c_14 => ?_)
          · have hf := if_t hf c_14
            refine x_lv [(0, .ref a_this), (1, .int k57_l1), (2, .int k57_l2), (3, .int k57_l3)] [0, 1, 2, 3] rfl ?_
            exact J_130 k57_undos k57_kept k57_s k57_l1 k57_l2 k57_l3 hf
          · have hf := if_f hf c_14
            refine x_aload_n 77 0 hC dX8_fall_76 rfl rfl rfl ?_
            refine x_get 80 0 0 hC in_X8_fall_X8 rfl rfl (by decide) (List.mem_of_getElem? (i := 1) (by decide +kernel)) rfl rfl dX8_fall_77 rfl ?_
            refine x_bipush 82 hC (33 : Int32) dX8_fall_80 rfl (by decide) ?_
            refine x_iload_n 83 3 hC dX8_fall_82 rfl rfl rfl ?_
            refine x_iadd 84 hC dX8_fall_83 rfl ?_
            refine x_dup2_11 85 hC dX8_fall_84 rfl rfl rfl ?_
            obtain ⟨h_15, hf⟩ := ck_e hf
            refine x_lald 86 2 1 hC rfl rfl h_15 dX8_fall_85 rfl ?_
            refine x_aload_n 87 0 hC dX8_fall_86 rfl rfl rfl ?_
            refine x_get 90 0 0 hC in_X8_fall_X8 rfl rfl (by decide) (List.mem_of_getElem? (i := 1) (by decide +kernel)) rfl rfl dX8_fall_87 rfl ?_
            refine x_sipush 93 hC (213 : Int32) dX8_fall_90 rfl (by decide) ?_
            refine x_bipush 95 hC (10 : Int32) dX8_fall_93 rfl (by decide) ?_
            refine x_iload_n 96 3 hC dX8_fall_95 rfl rfl rfl ?_
            refine x_imul 97 hC dX8_fall_96 rfl ?_
            refine x_iadd 98 hC dX8_fall_97 rfl ?_
            refine x_iload_n 99 1 hC dX8_fall_98 rfl rfl rfl ?_
            refine x_iadd 100 hC dX8_fall_99 rfl ?_
            obtain ⟨h_16, hf⟩ := ck_e hf
            refine x_lald 101 2 1 hC rfl rfl h_16 dX8_fall_100 rfl ?_
            refine x_ladd 102 hC dX8_fall_101 rfl ?_
            obtain ⟨h_17, hf⟩ := ck_e hf
            obtain ⟨g_18, e_g_18, hf⟩ := nmx_e hf
            refine x_last 103 2 1 [(a_this, .inr (8, [.ref a_s, .ref a_kept, .int k57_undos, r_known, r_whose, r_lesser, r_other, .int v_open, r_sums, r_weights, r_row, r_plan, .int v_planned])), (a_kept, .inl (cJ, 12260, .inr (.inl k57_kept))), (a_s, .inl (cJ, 613, .inr (.inl g_18)))] hC rfl rfl h_17 e_g_18 rfl dX8_fall_102 rfl ?_
            refine x_aload_n 104 0 hC dX8_fall_103 rfl rfl rfl ?_
            refine x_get 107 0 0 hC in_X8_fall_X8 rfl rfl (by decide) (List.mem_of_getElem? (i := 1) (by decide +kernel)) rfl rfl dX8_fall_104 rfl ?_
            refine x_bipush 109 hC (43 : Int32) dX8_fall_107 rfl (by decide) ?_
            refine x_iload_n 110 3 hC dX8_fall_109 rfl rfl rfl ?_
            refine x_iadd 111 hC dX8_fall_110 rfl ?_
            refine x_dup2_11 112 hC dX8_fall_111 rfl rfl rfl ?_
            obtain ⟨h_19, hf⟩ := ck_e hf
            refine x_lald 113 2 1 hC rfl rfl h_19 dX8_fall_112 rfl ?_
            refine x_aload_n 114 0 hC dX8_fall_113 rfl rfl rfl ?_
            refine x_get 117 0 0 hC in_X8_fall_X8 rfl rfl (by decide) (List.mem_of_getElem? (i := 1) (by decide +kernel)) rfl rfl dX8_fall_114 rfl ?_
            refine x_sipush 120 hC (313 : Int32) dX8_fall_117 rfl (by decide) ?_
            refine x_bipush 122 hC (10 : Int32) dX8_fall_120 rfl (by decide) ?_
            refine x_iload_n 123 3 hC dX8_fall_122 rfl rfl rfl ?_
            refine x_imul 124 hC dX8_fall_123 rfl ?_
            refine x_iadd 125 hC dX8_fall_124 rfl ?_
            refine x_iload_n 126 1 hC dX8_fall_125 rfl rfl rfl ?_
            refine x_iadd 127 hC dX8_fall_126 rfl ?_
            obtain ⟨h_20, hf⟩ := ck_e hf
            refine x_lald 128 2 1 hC rfl rfl h_20 dX8_fall_127 rfl ?_
            refine x_ladd 129 hC dX8_fall_128 rfl ?_
            obtain ⟨h_21, hf⟩ := ck_e hf
            obtain ⟨g_22, e_g_22, hf⟩ := nmx_e hf
            refine x_last 130 2 1 [(a_this, .inr (8, [.ref a_s, .ref a_kept, .int k57_undos, r_known, r_whose, r_lesser, r_other, .int v_open, r_sums, r_weights, r_row, r_plan, .int v_planned])), (a_kept, .inl (cJ, 12260, .inr (.inl k57_kept))), (a_s, .inl (cJ, 613, .inr (.inl g_22)))] hC rfl rfl h_21 e_g_22 rfl dX8_fall_129 rfl ?_
            refine x_lv [(0, .ref a_this), (1, .int k57_l1), (2, .int k57_l2), (3, .int k57_l3)] [0, 1, 2, 3] rfl ?_
            exact J_130 k57_undos k57_kept g_22 k57_l1 k57_l2 k57_l3 hf
  have J_18 : ∀ (n : Nat) (k18_undos : Int32) (k18_kept : Nat → Int64) (k18_s : Nat → Int64) (k18_l1 : Int32) (k18_l2 : Int32) (k18_l3 : Int32), f_X8_fall_c18 n k18_undos k18_kept k18_s k18_l1 k18_l2 k18_l3 = some R0 → XW p l e ({ frames := 4, cells := 0, slots := 0, locals := 133 } : Room) s m args below meth c D A 4 0 0 Q [(a_this, .inr (8, [.ref a_s, .ref a_kept, .int k18_undos, r_known, r_whose, r_lesser, r_other, .int v_open, r_sums, r_weights, r_row, r_plan, .int v_planned])), (a_kept, .inl (cJ, 12260, .inr (.inl k18_kept))), (a_s, .inl (cJ, 613, .inr (.inl k18_s)))] [] [(0, .ref a_this), (1, .int k18_l1), (2, .int k18_l2), (3, .int k18_l3)] 18 [] := by
    intro n
    induction n with
    | zero => intro k18_undos k18_kept k18_s k18_l1 k18_l2 k18_l3 hf; exact nomatch (show (none : Option (Int32 × (Nat → Int64) × (Nat → Int64) × Int32)) = some R0 from hf)
    | succ n_18 ih_18 =>
      have J_49 : ∀ (k49_undos : Int32) (k49_kept : Nat → Int64) (k49_s : Nat → Int64) (k49_l1 : Int32) (k49_l2 : Int32) (k49_l3 : Int32), f_X8_fall_c49 (fun k18_undos k18_kept k18_s k18_l1 k18_l2 k18_l3 => f_X8_fall_c18 n_18 k18_undos k18_kept k18_s k18_l1 k18_l2 k18_l3) k49_undos k49_kept k49_s k49_l1 k49_l2 k49_l3 = some R0 → XW p l e ({ frames := 4, cells := 0, slots := 0, locals := 133 } : Room) s m args below meth c D A 4 0 0 Q [(a_this, .inr (8, [.ref a_s, .ref a_kept, .int k49_undos, r_known, r_whose, r_lesser, r_other, .int v_open, r_sums, r_weights, r_row, r_plan, .int v_planned])), (a_kept, .inl (cJ, 12260, .inr (.inl k49_kept))), (a_s, .inl (cJ, 613, .inr (.inl k49_s)))] [] [(0, .ref a_this), (1, .int k49_l1), (2, .int k49_l2), (3, .int k49_l3)] 49 [] := by
        intro k49_undos k49_kept k49_s k49_l1 k49_l2 k49_l3 hf
        unfold f_X8_fall_c49 at hf
        obtain ⟨x_23, e_x_23, hf⟩ := nmx_e hf
        refine x_iinc 52 3 [(3, .int x_23), (0, .ref a_this), (1, .int k49_l1), (2, .int k49_l2)] hC dX8_fall_49 rfl rfl e_x_23 (by decide) (by decide) rfl ?_
        refine x_goto 18 hC dX8_fall_52 (by decide) ?_
        refine x_lv [(0, .ref a_this), (1, .int k49_l1), (2, .int k49_l2), (3, .int x_23)] [1, 2, 3, 0] rfl ?_
        exact ih_18 k49_undos k49_kept k49_s k49_l1 k49_l2 x_23 hf
      intro k18_undos k18_kept k18_s k18_l1 k18_l2 k18_l3 hf
      unfold f_X8_fall_c18 at hf
      refine x_iload_n 19 3 hC dX8_fall_18 rfl rfl rfl ?_
      refine x_bipush 21 hC (8 : Int32) dX8_fall_19 rfl (by decide) ?_
      refine x_icmp_ge 55 24 hC dX8_fall_21 (by decide) rfl (fun c_24 => ?_) (fun c_24 => ?_)
      · have hf := if_t hf c_24
        refine x_iconst 56 hC (0 : Int32) dX8_fall_55 rfl (by decide) ?_
        refine x_istore_n 57 [(3, .int (0 : Int32)), (0, .ref a_this), (1, .int k18_l1), (2, .int k18_l2)] hC dX8_fall_56 rfl rfl rfl (by decide) rfl ?_
        refine x_lv [(0, .ref a_this), (1, .int k18_l1), (2, .int k18_l2), (3, .int (0 : Int32))] [1, 2, 3, 0] rfl ?_
        exact J_57 fu k18_undos k18_kept k18_s k18_l1 k18_l2 (0 : Int32) hf
      · have hf := if_f hf c_24
        refine x_aload_n 25 0 hC dX8_fall_24 rfl rfl rfl ?_
        refine x_iload_n 26 3 hC dX8_fall_25 rfl rfl rfl ?_
        refine x_iload_n 27 1 hC dX8_fall_26 rfl rfl rfl ?_
        obtain ⟨R_25, h_R_25, hf⟩ := bd_e hf
        refine x_callVi 30 0 2 [0, 2] [(a_this, .inr (8, [.ref a_s, .ref a_kept, .int k18_undos, r_known, r_whose, r_lesser, r_other, .int v_open, r_sums, r_weights, r_row, r_plan, .int v_planned])), (a_kept, .inl (cJ, 12260, .inr (.inl k18_kept))), (a_s, .inl (cJ, 613, .inr (.inl k18_s)))] hC (As := [.int k18_l3, .int k18_l1]) (c_X8_isOf l D cI cJ cQ a_this a_s (.ref a_kept) r_known r_whose r_lesser r_other r_sums r_weights r_row r_plan k18_undos v_open v_planned k18_s k18_l3 k18_l1 R_25 h_R_25) rfl rfl gX8_fall_X8_isOf rfl ⟨rfl, rfl⟩ hd_X8_isOf ⟨Nat.le_of_ble_eq_true rfl, Nat.le_of_ble_eq_true rfl⟩ rfl rfl rfl rfl rfl rfl (Nat.le_of_ble_eq_true rfl) ⟨Nat.le_of_ble_eq_true rfl, Nat.le_of_ble_eq_true rfl⟩ dX8_fall_27 rfl ?_
        refine x_if_eq 49 33 hC dX8_fall_30 (by decide) rfl (fun c_26 => ?_) (fun c_26 => ?_)
        · have hf := if_t hf c_26
          refine x_lv [(0, .ref a_this), (1, .int k18_l1), (2, .int k18_l2), (3, .int k18_l3)] [0, 1, 2, 3] rfl ?_
          exact J_49 k18_undos k18_kept k18_s k18_l1 k18_l2 k18_l3 hf
        · have hf := if_f hf c_26
          refine x_aload_n 34 0 hC dX8_fall_33 rfl rfl rfl ?_
          refine x_get 37 0 0 hC in_X8_fall_X8 rfl rfl (by decide) (List.mem_of_getElem? (i := 1) (by decide +kernel)) rfl rfl dX8_fall_34 rfl ?_
          refine x_sipush 40 hC (173 : Int32) dX8_fall_37 rfl (by decide) ?_
          refine x_iconst 41 hC (5 : Int32) dX8_fall_40 rfl (by decide) ?_
          refine x_iload_n 42 3 hC dX8_fall_41 rfl rfl rfl ?_
          refine x_imul 43 hC dX8_fall_42 rfl ?_
          refine x_iadd 44 hC dX8_fall_43 rfl ?_
          refine x_lconst 45 hC (0 : Int64) dX8_fall_44 rfl (by decide) ?_
          obtain ⟨h_27, hf⟩ := ck_e hf
          obtain ⟨g_28, e_g_28, hf⟩ := nmx_e hf
          refine x_last 46 2 1 [(a_this, .inr (8, [.ref a_s, .ref a_kept, .int k18_undos, r_known, r_whose, r_lesser, r_other, .int v_open, r_sums, r_weights, r_row, r_plan, .int v_planned])), (a_kept, .inl (cJ, 12260, .inr (.inl k18_kept))), (a_s, .inl (cJ, 613, .inr (.inl g_28)))] hC rfl rfl h_27 e_g_28 rfl dX8_fall_45 rfl ?_
          obtain ⟨x_29, e_x_29, hf⟩ := nmx_e hf
          refine x_iinc 49 2 [(2, .int x_29), (0, .ref a_this), (1, .int k18_l1), (3, .int k18_l3)] hC dX8_fall_46 rfl rfl e_x_29 (by decide) (by decide) rfl ?_
          refine x_lv [(0, .ref a_this), (1, .int k18_l1), (2, .int x_29), (3, .int k18_l3)] [1, 2, 0, 3] rfl ?_
          exact J_49 k18_undos k18_kept g_28 k18_l1 x_29 k18_l3 hf
  unfold f_X8_fall at hf
  refine x_aload_n 1 0 hC dX8_fall_0 rfl rfl rfl ?_
  refine x_iload_n 2 1 hC dX8_fall_1 rfl rfl rfl ?_
  obtain ⟨R_30, h_R_30, hf⟩ := bd_e hf
  refine x_callVi 5 0 1 [0, 2] [(a_this, .inr (8, [.ref a_s, .ref a_kept, .int v_undos, r_known, r_whose, r_lesser, r_other, .int v_open, r_sums, r_weights, r_row, r_plan, .int v_planned])), (a_kept, .inl (cJ, 12260, .inr (.inl v_kept))), (a_s, .inl (cJ, 613, .inr (.inl v_s)))] hC (As := [.int p1]) (c_X8_isHere l D cI cJ cQ a_this a_s (.ref a_kept) r_known r_whose r_lesser r_other r_sums r_weights r_row r_plan v_undos v_open v_planned v_s p1 R_30 h_R_30) rfl rfl gX8_fall_X8_isHere rfl ⟨rfl, rfl⟩ hd_X8_isHere ⟨Nat.le_of_ble_eq_true rfl, Nat.le_of_ble_eq_true rfl⟩ rfl rfl rfl rfl rfl rfl (Nat.le_of_ble_eq_true rfl) ⟨Nat.le_of_ble_eq_true rfl, Nat.le_of_ble_eq_true rfl⟩ dX8_fall_2 rfl ?_
  refine x_if_ne 10 8 hC dX8_fall_5 (by decide) rfl (fun c_31 => ?_) (fun c_31 => ?_)
  · have hf := if_t hf c_31
    refine x_aload_n 11 0 hC dX8_fall_10 rfl rfl rfl ?_
    obtain ⟨R_32, h_R_32, hf⟩ := bd_e hf
    refine x_callVv 14 0 0 [0, 1, 2] [(a_this, .inr (8, [.ref a_s, .ref a_kept, .int R_32.1, r_known, r_whose, r_lesser, r_other, .int v_open, r_sums, r_weights, r_row, r_plan, .int v_planned])), (a_kept, .inl (cJ, 12260, .inr (.inl R_32.2))), (a_s, .inl (cJ, 613, .inr (.inl v_s)))] hC (As := []) (c_X8_keep l D cI cJ cQ a_this a_kept a_s r_known r_whose r_lesser r_other r_sums r_weights r_row r_plan v_undos v_open v_planned v_kept v_s R_32 h_R_32) rfl rfl gX8_fall_X8_keep rfl ⟨rfl, rfl⟩ hd_X8_keep ⟨Nat.le_of_ble_eq_true rfl, Nat.le_of_ble_eq_true rfl⟩ rfl rfl rfl rfl rfl rfl (Nat.le_of_ble_eq_true rfl) ⟨Nat.le_of_ble_eq_true rfl, Nat.le_of_ble_eq_true rfl⟩ dX8_fall_11 rfl ?_
    refine x_iconst 15 hC (0 : Int32) dX8_fall_14 rfl (by decide) ?_
    refine x_istore_n 16 [(2, .int (0 : Int32)), (0, .ref a_this), (1, .int p1)] hC dX8_fall_15 rfl rfl rfl (by decide) rfl ?_
    refine x_iconst 17 hC (0 : Int32) dX8_fall_16 rfl (by decide) ?_
    refine x_istore_n 18 [(3, .int (0 : Int32)), (2, .int (0 : Int32)), (0, .ref a_this), (1, .int p1)] hC dX8_fall_17 rfl rfl rfl (by decide) rfl ?_
    refine x_lv [(0, .ref a_this), (1, .int p1), (2, .int (0 : Int32)), (3, .int (0 : Int32))] [2, 3, 1, 0] rfl ?_
    exact J_18 fu R_32.1 R_32.2 v_s p1 (0 : Int32) (0 : Int32) hf
  · have hf := if_f hf c_31
    refine x_iconst 9 hC (-1 : Int32) dX8_fall_8 rfl (by decide) ?_
    cases hf
    exact x_iret hC dX8_fall_9 hQ rfl rfl

theorem hd_X8_hands : yX8_hands.cls = RX8 ∧ yX8_hands.cls ≠ "java/lang/invoke/MethodHandle" ∧ yX8_hands.cls ≠ "java/lang/invoke/VarHandle" ∧ (parseMethodDescriptor yX8_hands.desc).map (fun d => d.parameters.length) = some 3 := by decide +kernel
theorem in_X8_hands_X8 : ∀ w ∈ u_ws RX8 TX8 13, w ∈ wsX8_hands := fun w h => List.mem_cons_of_mem _ (List.mem_append_right _ h)
noncomputable def f_X8_hands_c114 : Nat → (Nat → Int64) → Int32 → Int32 → Int32 → Int32 → Option ((Nat → Int64))
  | 0, _, _, _, _, _ => none
  | n + 1, k114_s, k114_l1, k114_l2, k114_l3, k114_l4 => if (10 : Int32) ≤ k114_l4 then (some (k114_s)) else (ck ((k114_l1 + ((10 : Int32) * k114_l3)) + k114_l4) 613 <| ck ((k114_l1 + ((10 : Int32) * k114_l2)) + k114_l4) 613 <| ck ((k114_l1 + ((10 : Int32) * k114_l3)) + k114_l4) 613 <| nm (vp_updL k114_s ((k114_l1 + ((10 : Int32) * k114_l3)) + k114_l4).toNatClampNeg ((k114_s ((k114_l1 + ((10 : Int32) * k114_l3)) + k114_l4).toNatClampNeg) + (k114_s ((k114_l1 + ((10 : Int32) * k114_l2)) + k114_l4).toNatClampNeg))) fun g_5 => ck ((k114_l1 + ((10 : Int32) * k114_l2)) + k114_l4) 613 <| nm (vp_updL g_5 ((k114_l1 + ((10 : Int32) * k114_l2)) + k114_l4).toNatClampNeg (0 : Int64)) fun g_7 => nm (k114_l4 + (1 : Int32)) fun x_8 => (fun k114_s k114_l1 k114_l2 k114_l3 k114_l4 => f_X8_hands_c114 n k114_s k114_l1 k114_l2 k114_l3 k114_l4) g_7 k114_l1 k114_l2 k114_l3 x_8)
noncomputable def f_X8_hands_c105 (k46 : (Nat → Int64) → Int32 → Int32 → Int32 → Int32 → Option ((Nat → Int64))) (k105_s : Nat → Int64) (k105_l1 : Int32) (k105_l2 : Int32) (k105_l3 : Int32) (k105_l4 : Int32) : Option ((Nat → Int64)) := nm (k105_l4 + (1 : Int32)) fun x_9 => k46 k105_s k105_l1 k105_l2 k105_l3 x_9
noncomputable def f_X8_hands_c46 : Nat → (Nat → Int64) → Int32 → Int32 → Int32 → Int32 → Option ((Nat → Int64))
  | 0, _, _, _, _, _ => none
  | n + 1, k46_s, k46_l1, k46_l2, k46_l3, k46_l4 => if (10 : Int32) ≤ k46_l4 then (f_X8_hands_c114 fu k46_s k46_l1 k46_l2 k46_l3 (0 : Int32)) else (if k46_l4 = k46_l2 then (f_X8_hands_c105 (fun k46_s k46_l1 k46_l2 k46_l3 k46_l4 => f_X8_hands_c46 n k46_s k46_l1 k46_l2 k46_l3 k46_l4) k46_s k46_l1 k46_l2 k46_l3 k46_l4) else (ck ((k46_l1 + ((10 : Int32) * k46_l4)) + k46_l3) 613 <| ck ((k46_l1 + ((10 : Int32) * k46_l4)) + k46_l2) 613 <| ck ((k46_l1 + ((10 : Int32) * k46_l4)) + k46_l3) 613 <| nm (vp_updL k46_s ((k46_l1 + ((10 : Int32) * k46_l4)) + k46_l3).toNatClampNeg ((k46_s ((k46_l1 + ((10 : Int32) * k46_l4)) + k46_l3).toNatClampNeg) + (k46_s ((k46_l1 + ((10 : Int32) * k46_l4)) + k46_l2).toNatClampNeg))) fun g_15 => ck ((k46_l1 + ((10 : Int32) * k46_l4)) + k46_l2) 613 <| nm (vp_updL g_15 ((k46_l1 + ((10 : Int32) * k46_l4)) + k46_l2).toNatClampNeg (0 : Int64)) fun g_17 => f_X8_hands_c105 (fun k46_s k46_l1 k46_l2 k46_l3 k46_l4 => f_X8_hands_c46 n k46_s k46_l1 k46_l2 k46_l3 k46_l4) g_17 k46_l1 k46_l2 k46_l3 k46_l4))
noncomputable def f_X8_hands (v_s : Nat → Int64) (p1 : Int32) (p2 : Int32) (p3 : Int32) : Option ((Nat → Int64)) := ck ((p1 + ((10 : Int32) * p3)) + p3) 613 <| ck ((p1 + ((10 : Int32) * p2)) + p2) 613 <| ck ((p1 + ((10 : Int32) * p3)) + p3) 613 <| nm (vp_updL v_s ((p1 + ((10 : Int32) * p3)) + p3).toNatClampNeg ((v_s ((p1 + ((10 : Int32) * p3)) + p3).toNatClampNeg) + (v_s ((p1 + ((10 : Int32) * p2)) + p2).toNatClampNeg))) fun g_21 => ck ((p1 + ((10 : Int32) * p2)) + p2) 613 <| nm (vp_updL g_21 ((p1 + ((10 : Int32) * p2)) + p2).toNatClampNeg (0 : Int64)) fun g_23 => f_X8_hands_c46 fu g_23 p1 p2 p3 (0 : Int32)
set_option maxHeartbeats 4000000 in
set_option maxRecDepth 100000 in
theorem c_X8_hands (l : Launch) (D : va_G) (cI cJ cQ : ClassId) (a_this : Nat) (a_s : Nat) (r_kept : Value) (r_known : Value) (r_whose : Value) (r_lesser : Value) (r_other : Value) (r_sums : Value) (r_weights : Value) (r_row : Value) (r_plan : Value) (v_undos : Int32) (v_open : Int32) (v_planned : Int32) (v_s : Nat → Int64) (p1 : Int32) (p2 : Int32) (p3 : Int32) (R0 : (Nat → Int64)) (hf : f_X8_hands v_s p1 p2 p3 = some R0) : Cv l yX8_hands wsX8_hands ({ frames := 1, cells := 0, slots := 0, locals := 60 } : Room) D [(cI, .int), (cJ, .long), (cQ, .object "WhisperCrowd$State")] [.ref a_this, .int p1, .int p2, .int p3] [(a_this, .inr (8, [.ref a_s, r_kept, .int v_undos, r_known, r_whose, r_lesser, r_other, .int v_open, r_sums, r_weights, r_row, r_plan, .int v_planned])), (a_s, .inl (cJ, 613, .inr (.inl v_s)))] [(a_this, .inr (8, [.ref a_s, r_kept, .int v_undos, r_known, r_whose, r_lesser, r_other, .int v_open, r_sums, r_weights, r_row, r_plan, .int v_planned])), (a_s, .inl (cJ, 613, .inr (.inl R0)))] := by
  refine x_entv (cc := cX8_hands) (maxL := 5) (rt := none) (lv := [(0, .ref a_this), (1, .int p1), (2, .int p2), (3, .int p3)]) (by decide) rfl (Nat.le_of_ble_eq_true rfl) rfl ?_
  intro p e s m args below meth c A Q hQ hC
  have J_114 : ∀ (n : Nat) (k114_s : Nat → Int64) (k114_l1 : Int32) (k114_l2 : Int32) (k114_l3 : Int32) (k114_l4 : Int32), f_X8_hands_c114 n k114_s k114_l1 k114_l2 k114_l3 k114_l4 = some R0 → XW p l e ({ frames := 1, cells := 0, slots := 0, locals := 60 } : Room) s m args below meth c D A 5 0 0 Q [(a_this, .inr (8, [.ref a_s, r_kept, .int v_undos, r_known, r_whose, r_lesser, r_other, .int v_open, r_sums, r_weights, r_row, r_plan, .int v_planned])), (a_s, .inl (cJ, 613, .inr (.inl k114_s)))] [] [(0, .ref a_this), (1, .int k114_l1), (2, .int k114_l2), (3, .int k114_l3), (4, .int k114_l4)] 114 [] := by
    intro n
    induction n with
    | zero => intro k114_s k114_l1 k114_l2 k114_l3 k114_l4 hf; exact nomatch (show (none : Option ((Nat → Int64))) = some R0 from hf)
    | succ n_114 ih_114 =>
      intro k114_s k114_l1 k114_l2 k114_l3 k114_l4 hf
      unfold f_X8_hands_c114 at hf
      refine x_iload 116 4 hC dX8_hands_114 rfl rfl ?_
      refine x_bipush 118 hC (10 : Int32) dX8_hands_116 rfl (by decide) ?_
      refine x_icmp_ge 173 121 hC dX8_hands_118 (by decide) rfl (fun c_1 => ?_) (fun c_1 => ?_)
      · have hf := if_t hf c_1
        cases hf
        exact x_vret hC dX8_hands_173 hQ rfl
      · have hf := if_f hf c_1
        refine x_aload_n 122 0 hC dX8_hands_121 rfl rfl rfl ?_
        refine x_get 125 0 0 hC in_X8_hands_X8 rfl rfl (by decide) (List.mem_of_getElem? (i := 1) (by decide +kernel)) rfl rfl dX8_hands_122 rfl ?_
        refine x_iload_n 126 1 hC dX8_hands_125 rfl rfl rfl ?_
        refine x_bipush 128 hC (10 : Int32) dX8_hands_126 rfl (by decide) ?_
        refine x_iload_n 129 3 hC dX8_hands_128 rfl rfl rfl ?_
        refine x_imul 130 hC dX8_hands_129 rfl ?_
        refine x_iadd 131 hC dX8_hands_130 rfl ?_
        refine x_iload 133 4 hC dX8_hands_131 rfl rfl ?_
        refine x_iadd 134 hC dX8_hands_133 rfl ?_
        refine x_dup2_11 135 hC dX8_hands_134 rfl rfl rfl ?_
        obtain ⟨h_2, hf⟩ := ck_e hf
        refine x_lald 136 1 1 hC rfl rfl h_2 dX8_hands_135 rfl ?_
        refine x_aload_n 137 0 hC dX8_hands_136 rfl rfl rfl ?_
        refine x_get 140 0 0 hC in_X8_hands_X8 rfl rfl (by decide) (List.mem_of_getElem? (i := 1) (by decide +kernel)) rfl rfl dX8_hands_137 rfl ?_
        refine x_iload_n 141 1 hC dX8_hands_140 rfl rfl rfl ?_
        refine x_bipush 143 hC (10 : Int32) dX8_hands_141 rfl (by decide) ?_
        refine x_iload_n 144 2 hC dX8_hands_143 rfl rfl rfl ?_
        refine x_imul 145 hC dX8_hands_144 rfl ?_
        refine x_iadd 146 hC dX8_hands_145 rfl ?_
        refine x_iload 148 4 hC dX8_hands_146 rfl rfl ?_
        refine x_iadd 149 hC dX8_hands_148 rfl ?_
        obtain ⟨h_3, hf⟩ := ck_e hf
        refine x_lald 150 1 1 hC rfl rfl h_3 dX8_hands_149 rfl ?_
        refine x_ladd 151 hC dX8_hands_150 rfl ?_
        obtain ⟨h_4, hf⟩ := ck_e hf
        obtain ⟨g_5, e_g_5, hf⟩ := nmx_e hf
        refine x_last 152 1 1 [(a_this, .inr (8, [.ref a_s, r_kept, .int v_undos, r_known, r_whose, r_lesser, r_other, .int v_open, r_sums, r_weights, r_row, r_plan, .int v_planned])), (a_s, .inl (cJ, 613, .inr (.inl g_5)))] hC rfl rfl h_4 e_g_5 rfl dX8_hands_151 rfl ?_
        refine x_aload_n 153 0 hC dX8_hands_152 rfl rfl rfl ?_
        refine x_get 156 0 0 hC in_X8_hands_X8 rfl rfl (by decide) (List.mem_of_getElem? (i := 1) (by decide +kernel)) rfl rfl dX8_hands_153 rfl ?_
        refine x_iload_n 157 1 hC dX8_hands_156 rfl rfl rfl ?_
        refine x_bipush 159 hC (10 : Int32) dX8_hands_157 rfl (by decide) ?_
        refine x_iload_n 160 2 hC dX8_hands_159 rfl rfl rfl ?_
        refine x_imul 161 hC dX8_hands_160 rfl ?_
        refine x_iadd 162 hC dX8_hands_161 rfl ?_
        refine x_iload 164 4 hC dX8_hands_162 rfl rfl ?_
        refine x_iadd 165 hC dX8_hands_164 rfl ?_
        refine x_lconst 166 hC (0 : Int64) dX8_hands_165 rfl (by decide) ?_
        obtain ⟨h_6, hf⟩ := ck_e hf
        obtain ⟨g_7, e_g_7, hf⟩ := nmx_e hf
        refine x_last 167 1 1 [(a_this, .inr (8, [.ref a_s, r_kept, .int v_undos, r_known, r_whose, r_lesser, r_other, .int v_open, r_sums, r_weights, r_row, r_plan, .int v_planned])), (a_s, .inl (cJ, 613, .inr (.inl g_7)))] hC rfl rfl h_6 e_g_7 rfl dX8_hands_166 rfl ?_
        obtain ⟨x_8, e_x_8, hf⟩ := nmx_e hf
        refine x_iinc 170 4 [(4, .int x_8), (0, .ref a_this), (1, .int k114_l1), (2, .int k114_l2), (3, .int k114_l3)] hC dX8_hands_167 rfl rfl e_x_8 (by decide) (by decide) rfl ?_
        refine x_goto 114 hC dX8_hands_170 (by decide) ?_
        refine x_lv [(0, .ref a_this), (1, .int k114_l1), (2, .int k114_l2), (3, .int k114_l3), (4, .int x_8)] [1, 2, 3, 4, 0] rfl ?_
        exact ih_114 g_7 k114_l1 k114_l2 k114_l3 x_8 hf
  have J_46 : ∀ (n : Nat) (k46_s : Nat → Int64) (k46_l1 : Int32) (k46_l2 : Int32) (k46_l3 : Int32) (k46_l4 : Int32), f_X8_hands_c46 n k46_s k46_l1 k46_l2 k46_l3 k46_l4 = some R0 → XW p l e ({ frames := 1, cells := 0, slots := 0, locals := 60 } : Room) s m args below meth c D A 5 0 0 Q [(a_this, .inr (8, [.ref a_s, r_kept, .int v_undos, r_known, r_whose, r_lesser, r_other, .int v_open, r_sums, r_weights, r_row, r_plan, .int v_planned])), (a_s, .inl (cJ, 613, .inr (.inl k46_s)))] [] [(0, .ref a_this), (1, .int k46_l1), (2, .int k46_l2), (3, .int k46_l3), (4, .int k46_l4)] 46 [] := by
    intro n
    induction n with
    | zero => intro k46_s k46_l1 k46_l2 k46_l3 k46_l4 hf; exact nomatch (show (none : Option ((Nat → Int64))) = some R0 from hf)
    | succ n_46 ih_46 =>
      have J_105 : ∀ (k105_s : Nat → Int64) (k105_l1 : Int32) (k105_l2 : Int32) (k105_l3 : Int32) (k105_l4 : Int32), f_X8_hands_c105 (fun k46_s k46_l1 k46_l2 k46_l3 k46_l4 => f_X8_hands_c46 n_46 k46_s k46_l1 k46_l2 k46_l3 k46_l4) k105_s k105_l1 k105_l2 k105_l3 k105_l4 = some R0 → XW p l e ({ frames := 1, cells := 0, slots := 0, locals := 60 } : Room) s m args below meth c D A 5 0 0 Q [(a_this, .inr (8, [.ref a_s, r_kept, .int v_undos, r_known, r_whose, r_lesser, r_other, .int v_open, r_sums, r_weights, r_row, r_plan, .int v_planned])), (a_s, .inl (cJ, 613, .inr (.inl k105_s)))] [] [(0, .ref a_this), (1, .int k105_l1), (2, .int k105_l2), (3, .int k105_l3), (4, .int k105_l4)] 105 [] := by
        intro k105_s k105_l1 k105_l2 k105_l3 k105_l4 hf
        unfold f_X8_hands_c105 at hf
        obtain ⟨x_9, e_x_9, hf⟩ := nmx_e hf
        refine x_iinc 108 4 [(4, .int x_9), (0, .ref a_this), (1, .int k105_l1), (2, .int k105_l2), (3, .int k105_l3)] hC dX8_hands_105 rfl rfl e_x_9 (by decide) (by decide) rfl ?_
        refine x_goto 46 hC dX8_hands_108 (by decide) ?_
        refine x_lv [(0, .ref a_this), (1, .int k105_l1), (2, .int k105_l2), (3, .int k105_l3), (4, .int x_9)] [1, 2, 3, 4, 0] rfl ?_
        exact ih_46 k105_s k105_l1 k105_l2 k105_l3 x_9 hf
      intro k46_s k46_l1 k46_l2 k46_l3 k46_l4 hf
      unfold f_X8_hands_c46 at hf
      refine x_iload 48 4 hC dX8_hands_46 rfl rfl ?_
      refine x_bipush 50 hC (10 : Int32) dX8_hands_48 rfl (by decide) ?_
      refine x_icmp_ge 111 53 hC dX8_hands_50 (by decide) rfl (fun c_10 => ?_) (fun c_10 => ?_)
      · have hf := if_t hf c_10
        refine x_iconst 112 hC (0 : Int32) dX8_hands_111 rfl (by decide) ?_
        refine x_istore 114 [(4, .int (0 : Int32)), (0, .ref a_this), (1, .int k46_l1), (2, .int k46_l2), (3, .int k46_l3)] hC dX8_hands_112 rfl rfl (by decide) rfl ?_
        refine x_lv [(0, .ref a_this), (1, .int k46_l1), (2, .int k46_l2), (3, .int k46_l3), (4, .int (0 : Int32))] [1, 2, 3, 4, 0] rfl ?_
        exact J_114 fu k46_s k46_l1 k46_l2 k46_l3 (0 : Int32) hf
      · have hf := if_f hf c_10
        refine x_iload 55 4 hC dX8_hands_53 rfl rfl ?_
        refine x_iload_n 56 2 hC dX8_hands_55 rfl rfl rfl ?_
        refine x_icmp_eq 105 59 hC dX8_hands_56 (by decide) rfl (fun c_11 => ?_) (fun c_11 => ?_)
        · have hf := if_t hf c_11
          refine x_lv [(0, .ref a_this), (1, .int k46_l1), (2, .int k46_l2), (3, .int k46_l3), (4, .int k46_l4)] [0, 1, 2, 3, 4] rfl ?_
          exact J_105 k46_s k46_l1 k46_l2 k46_l3 k46_l4 hf
        · have hf := if_f hf c_11
          refine x_aload_n 60 0 hC dX8_hands_59 rfl rfl rfl ?_
          refine x_get 63 0 0 hC in_X8_hands_X8 rfl rfl (by decide) (List.mem_of_getElem? (i := 1) (by decide +kernel)) rfl rfl dX8_hands_60 rfl ?_
          refine x_iload_n 64 1 hC dX8_hands_63 rfl rfl rfl ?_
          refine x_bipush 66 hC (10 : Int32) dX8_hands_64 rfl (by decide) ?_
          refine x_iload 68 4 hC dX8_hands_66 rfl rfl ?_
          refine x_imul 69 hC dX8_hands_68 rfl ?_
          refine x_iadd 70 hC dX8_hands_69 rfl ?_
          refine x_iload_n 71 3 hC dX8_hands_70 rfl rfl rfl ?_
          refine x_iadd 72 hC dX8_hands_71 rfl ?_
          refine x_dup2_11 73 hC dX8_hands_72 rfl rfl rfl ?_
          obtain ⟨h_12, hf⟩ := ck_e hf
          refine x_lald 74 1 1 hC rfl rfl h_12 dX8_hands_73 rfl ?_
          refine x_aload_n 75 0 hC dX8_hands_74 rfl rfl rfl ?_
          refine x_get 78 0 0 hC in_X8_hands_X8 rfl rfl (by decide) (List.mem_of_getElem? (i := 1) (by decide +kernel)) rfl rfl dX8_hands_75 rfl ?_
          refine x_iload_n 79 1 hC dX8_hands_78 rfl rfl rfl ?_
          refine x_bipush 81 hC (10 : Int32) dX8_hands_79 rfl (by decide) ?_
          refine x_iload 83 4 hC dX8_hands_81 rfl rfl ?_
          refine x_imul 84 hC dX8_hands_83 rfl ?_
          refine x_iadd 85 hC dX8_hands_84 rfl ?_
          refine x_iload_n 86 2 hC dX8_hands_85 rfl rfl rfl ?_
          refine x_iadd 87 hC dX8_hands_86 rfl ?_
          obtain ⟨h_13, hf⟩ := ck_e hf
          refine x_lald 88 1 1 hC rfl rfl h_13 dX8_hands_87 rfl ?_
          refine x_ladd 89 hC dX8_hands_88 rfl ?_
          obtain ⟨h_14, hf⟩ := ck_e hf
          obtain ⟨g_15, e_g_15, hf⟩ := nmx_e hf
          refine x_last 90 1 1 [(a_this, .inr (8, [.ref a_s, r_kept, .int v_undos, r_known, r_whose, r_lesser, r_other, .int v_open, r_sums, r_weights, r_row, r_plan, .int v_planned])), (a_s, .inl (cJ, 613, .inr (.inl g_15)))] hC rfl rfl h_14 e_g_15 rfl dX8_hands_89 rfl ?_
          refine x_aload_n 91 0 hC dX8_hands_90 rfl rfl rfl ?_
          refine x_get 94 0 0 hC in_X8_hands_X8 rfl rfl (by decide) (List.mem_of_getElem? (i := 1) (by decide +kernel)) rfl rfl dX8_hands_91 rfl ?_
          refine x_iload_n 95 1 hC dX8_hands_94 rfl rfl rfl ?_
          refine x_bipush 97 hC (10 : Int32) dX8_hands_95 rfl (by decide) ?_
          refine x_iload 99 4 hC dX8_hands_97 rfl rfl ?_
          refine x_imul 100 hC dX8_hands_99 rfl ?_
          refine x_iadd 101 hC dX8_hands_100 rfl ?_
          refine x_iload_n 102 2 hC dX8_hands_101 rfl rfl rfl ?_
          refine x_iadd 103 hC dX8_hands_102 rfl ?_
          refine x_lconst 104 hC (0 : Int64) dX8_hands_103 rfl (by decide) ?_
          obtain ⟨h_16, hf⟩ := ck_e hf
          obtain ⟨g_17, e_g_17, hf⟩ := nmx_e hf
          refine x_last 105 1 1 [(a_this, .inr (8, [.ref a_s, r_kept, .int v_undos, r_known, r_whose, r_lesser, r_other, .int v_open, r_sums, r_weights, r_row, r_plan, .int v_planned])), (a_s, .inl (cJ, 613, .inr (.inl g_17)))] hC rfl rfl h_16 e_g_17 rfl dX8_hands_104 rfl ?_
          refine x_lv [(0, .ref a_this), (1, .int k46_l1), (2, .int k46_l2), (3, .int k46_l3), (4, .int k46_l4)] [0, 1, 2, 3, 4] rfl ?_
          exact J_105 g_17 k46_l1 k46_l2 k46_l3 k46_l4 hf
  unfold f_X8_hands at hf
  refine x_aload_n 1 0 hC dX8_hands_0 rfl rfl rfl ?_
  refine x_get 4 0 0 hC in_X8_hands_X8 rfl rfl (by decide) (List.mem_of_getElem? (i := 1) (by decide +kernel)) rfl rfl dX8_hands_1 rfl ?_
  refine x_iload_n 5 1 hC dX8_hands_4 rfl rfl rfl ?_
  refine x_bipush 7 hC (10 : Int32) dX8_hands_5 rfl (by decide) ?_
  refine x_iload_n 8 3 hC dX8_hands_7 rfl rfl rfl ?_
  refine x_imul 9 hC dX8_hands_8 rfl ?_
  refine x_iadd 10 hC dX8_hands_9 rfl ?_
  refine x_iload_n 11 3 hC dX8_hands_10 rfl rfl rfl ?_
  refine x_iadd 12 hC dX8_hands_11 rfl ?_
  refine x_dup2_11 13 hC dX8_hands_12 rfl rfl rfl ?_
  obtain ⟨h_18, hf⟩ := ck_e hf
  refine x_lald 14 1 1 hC rfl rfl h_18 dX8_hands_13 rfl ?_
  refine x_aload_n 15 0 hC dX8_hands_14 rfl rfl rfl ?_
  refine x_get 18 0 0 hC in_X8_hands_X8 rfl rfl (by decide) (List.mem_of_getElem? (i := 1) (by decide +kernel)) rfl rfl dX8_hands_15 rfl ?_
  refine x_iload_n 19 1 hC dX8_hands_18 rfl rfl rfl ?_
  refine x_bipush 21 hC (10 : Int32) dX8_hands_19 rfl (by decide) ?_
  refine x_iload_n 22 2 hC dX8_hands_21 rfl rfl rfl ?_
  refine x_imul 23 hC dX8_hands_22 rfl ?_
  refine x_iadd 24 hC dX8_hands_23 rfl ?_
  refine x_iload_n 25 2 hC dX8_hands_24 rfl rfl rfl ?_
  refine x_iadd 26 hC dX8_hands_25 rfl ?_
  obtain ⟨h_19, hf⟩ := ck_e hf
  refine x_lald 27 1 1 hC rfl rfl h_19 dX8_hands_26 rfl ?_
  refine x_ladd 28 hC dX8_hands_27 rfl ?_
  obtain ⟨h_20, hf⟩ := ck_e hf
  obtain ⟨g_21, e_g_21, hf⟩ := nmx_e hf
  refine x_last 29 1 1 [(a_this, .inr (8, [.ref a_s, r_kept, .int v_undos, r_known, r_whose, r_lesser, r_other, .int v_open, r_sums, r_weights, r_row, r_plan, .int v_planned])), (a_s, .inl (cJ, 613, .inr (.inl g_21)))] hC rfl rfl h_20 e_g_21 rfl dX8_hands_28 rfl ?_
  refine x_aload_n 30 0 hC dX8_hands_29 rfl rfl rfl ?_
  refine x_get 33 0 0 hC in_X8_hands_X8 rfl rfl (by decide) (List.mem_of_getElem? (i := 1) (by decide +kernel)) rfl rfl dX8_hands_30 rfl ?_
  refine x_iload_n 34 1 hC dX8_hands_33 rfl rfl rfl ?_
  refine x_bipush 36 hC (10 : Int32) dX8_hands_34 rfl (by decide) ?_
  refine x_iload_n 37 2 hC dX8_hands_36 rfl rfl rfl ?_
  refine x_imul 38 hC dX8_hands_37 rfl ?_
  refine x_iadd 39 hC dX8_hands_38 rfl ?_
  refine x_iload_n 40 2 hC dX8_hands_39 rfl rfl rfl ?_
  refine x_iadd 41 hC dX8_hands_40 rfl ?_
  refine x_lconst 42 hC (0 : Int64) dX8_hands_41 rfl (by decide) ?_
  obtain ⟨h_22, hf⟩ := ck_e hf
  obtain ⟨g_23, e_g_23, hf⟩ := nmx_e hf
  refine x_last 43 1 1 [(a_this, .inr (8, [.ref a_s, r_kept, .int v_undos, r_known, r_whose, r_lesser, r_other, .int v_open, r_sums, r_weights, r_row, r_plan, .int v_planned])), (a_s, .inl (cJ, 613, .inr (.inl g_23)))] hC rfl rfl h_22 e_g_23 rfl dX8_hands_42 rfl ?_
  refine x_iconst 44 hC (0 : Int32) dX8_hands_43 rfl (by decide) ?_
  refine x_istore 46 [(4, .int (0 : Int32)), (0, .ref a_this), (1, .int p1), (2, .int p2), (3, .int p3)] hC dX8_hands_44 rfl rfl (by decide) rfl ?_
  refine x_lv [(0, .ref a_this), (1, .int p1), (2, .int p2), (3, .int p3), (4, .int (0 : Int32))] [1, 2, 3, 4, 0] rfl ?_
  exact J_46 fu g_23 p1 p2 p3 (0 : Int32) hf

theorem hd_X8_leave : yX8_leave.cls = RX8 ∧ yX8_leave.cls ≠ "java/lang/invoke/MethodHandle" ∧ yX8_leave.cls ≠ "java/lang/invoke/VarHandle" ∧ (parseMethodDescriptor yX8_leave.desc).map (fun d => d.parameters.length) = some 2 := by decide +kernel
theorem in_X8_leave_X8 : ∀ w ∈ u_ws RX8 TX8 13, w ∈ wsX8_leave := fun w h => List.mem_cons_of_mem _ (List.mem_append_right _ h)
noncomputable def f_X8_leave_c307 (k148 : Int32 → (Nat → Int64) → (Nat → Int64) → Int32 → Int32 → Int32 → Option (Int32 × (Nat → Int64) × (Nat → Int64) × Int32)) (k307_undos : Int32) (k307_kept : Nat → Int64) (k307_s : Nat → Int64) (k307_l1 : Int32) (k307_l2 : Int32) (k307_l4 : Int32) : Option (Int32 × (Nat → Int64) × (Nat → Int64) × Int32) := nm (k307_l4 + (1 : Int32)) fun x_1 => k148 k307_undos k307_kept k307_s k307_l1 k307_l2 x_1
noncomputable def f_X8_leave_c148 : Nat → Int32 → (Nat → Int64) → (Nat → Int64) → Int32 → Int32 → Int32 → Option (Int32 × (Nat → Int64) × (Nat → Int64) × Int32)
  | 0, _, _, _, _, _, _ => none
  | n + 1, k148_undos, k148_kept, k148_s, k148_l1, k148_l2, k148_l4 => if (10 : Int32) ≤ k148_l4 then (bd (f_X8_hands k148_s (413 : Int32) k148_l1 k148_l2) fun R_3 => bd (f_X8_hands R_3 (513 : Int32) k148_l1 k148_l2) fun R_4 => bd (f_X8_goes R_4 k148_l1) fun R_5 => some (k148_undos, k148_kept, R_5, (1 : Int32))) else (if k148_l4 = k148_l1 then (f_X8_leave_c307 (fun k148_undos k148_kept k148_s k148_l1 k148_l2 k148_l4 => f_X8_leave_c148 n k148_undos k148_kept k148_s k148_l1 k148_l2 k148_l4) k148_undos k148_kept k148_s k148_l1 k148_l2 k148_l4) else (if k148_l4 = k148_l2 then (f_X8_leave_c307 (fun k148_undos k148_kept k148_s k148_l1 k148_l2 k148_l4 => f_X8_leave_c148 n k148_undos k148_kept k148_s k148_l1 k148_l2 k148_l4) k148_undos k148_kept k148_s k148_l1 k148_l2 k148_l4) else (ck (((213 : Int32) + ((10 : Int32) * k148_l4)) + k148_l2) 613 <| ck (((213 : Int32) + ((10 : Int32) * k148_l4)) + k148_l1) 613 <| ck (((213 : Int32) + ((10 : Int32) * k148_l4)) + k148_l2) 613 <| nm (vp_updL k148_s (((213 : Int32) + ((10 : Int32) * k148_l4)) + k148_l2).toNatClampNeg ((k148_s (((213 : Int32) + ((10 : Int32) * k148_l4)) + k148_l2).toNatClampNeg) + (k148_s (((213 : Int32) + ((10 : Int32) * k148_l4)) + k148_l1).toNatClampNeg))) fun g_11 => ck (((313 : Int32) + ((10 : Int32) * k148_l4)) + k148_l2) 613 <| ck (((313 : Int32) + ((10 : Int32) * k148_l4)) + k148_l1) 613 <| ck (((313 : Int32) + ((10 : Int32) * k148_l4)) + k148_l2) 613 <| nm (vp_updL g_11 (((313 : Int32) + ((10 : Int32) * k148_l4)) + k148_l2).toNatClampNeg ((g_11 (((313 : Int32) + ((10 : Int32) * k148_l4)) + k148_l2).toNatClampNeg) + (g_11 (((313 : Int32) + ((10 : Int32) * k148_l4)) + k148_l1).toNatClampNeg))) fun g_15 => ck (((213 : Int32) + ((10 : Int32) * k148_l2)) + k148_l4) 613 <| ck (((213 : Int32) + ((10 : Int32) * k148_l1)) + k148_l4) 613 <| ck (((213 : Int32) + ((10 : Int32) * k148_l2)) + k148_l4) 613 <| nm (vp_updL g_15 (((213 : Int32) + ((10 : Int32) * k148_l2)) + k148_l4).toNatClampNeg ((g_15 (((213 : Int32) + ((10 : Int32) * k148_l2)) + k148_l4).toNatClampNeg) + (g_15 (((213 : Int32) + ((10 : Int32) * k148_l1)) + k148_l4).toNatClampNeg))) fun g_19 => ck (((313 : Int32) + ((10 : Int32) * k148_l2)) + k148_l4) 613 <| ck (((313 : Int32) + ((10 : Int32) * k148_l1)) + k148_l4) 613 <| ck (((313 : Int32) + ((10 : Int32) * k148_l2)) + k148_l4) 613 <| nm (vp_updL g_19 (((313 : Int32) + ((10 : Int32) * k148_l2)) + k148_l4).toNatClampNeg ((g_19 (((313 : Int32) + ((10 : Int32) * k148_l2)) + k148_l4).toNatClampNeg) + (g_19 (((313 : Int32) + ((10 : Int32) * k148_l1)) + k148_l4).toNatClampNeg))) fun g_23 => f_X8_leave_c307 (fun k148_undos k148_kept k148_s k148_l1 k148_l2 k148_l4 => f_X8_leave_c148 n k148_undos k148_kept k148_s k148_l1 k148_l2 k148_l4) k148_undos k148_kept g_23 k148_l1 k148_l2 k148_l4)))
noncomputable def f_X8_leave_c67 (k41 : Int32 → (Nat → Int64) → (Nat → Int64) → Int32 → Int32 → Int32 → Int32 → Option (Int32 × (Nat → Int64) × (Nat → Int64) × Int32)) (k67_undos : Int32) (k67_kept : Nat → Int64) (k67_s : Nat → Int64) (k67_l1 : Int32) (k67_l2 : Int32) (k67_l4 : Int32) (k67_s0 : Int32) : Option (Int32 × (Nat → Int64) × (Nat → Int64) × Int32) := nm (k67_l4 + (1 : Int32)) fun x_24 => k41 k67_undos k67_kept k67_s k67_l1 k67_l2 k67_s0 x_24
noncomputable def f_X8_leave_c62 (k41 : Int32 → (Nat → Int64) → (Nat → Int64) → Int32 → Int32 → Int32 → Int32 → Option (Int32 × (Nat → Int64) × (Nat → Int64) × Int32)) (k62_undos : Int32) (k62_kept : Nat → Int64) (k62_s : Nat → Int64) (k62_l1 : Int32) (k62_l2 : Int32) (k62_l4 : Int32) : Option (Int32 × (Nat → Int64) × (Nat → Int64) × Int32) := f_X8_leave_c67 k41 k62_undos k62_kept k62_s k62_l1 k62_l2 k62_l4 (1 : Int32)
noncomputable def f_X8_leave_c41 : Nat → Int32 → (Nat → Int64) → (Nat → Int64) → Int32 → Int32 → Int32 → Int32 → Option (Int32 × (Nat → Int64) × (Nat → Int64) × Int32)
  | 0, _, _, _, _, _, _, _ => none
  | n + 1, k41_undos, k41_kept, k41_s, k41_l1, k41_l2, k41_l3, k41_l4 => if (8 : Int32) ≤ k41_l4 then (if k41_l3 = 0 then (bd (f_X8_keep k41_s k41_undos k41_kept) fun R_27 => ck ((33 : Int32) + k41_l2) 613 <| ck ((33 : Int32) + k41_l1) 613 <| ck ((23 : Int32) + k41_l1) 613 <| ck ((33 : Int32) + k41_l2) 613 <| nm (vp_updL k41_s ((33 : Int32) + k41_l2).toNatClampNeg ((k41_s ((33 : Int32) + k41_l2).toNatClampNeg) + ((k41_s ((33 : Int32) + k41_l1).toNatClampNeg) - ((k41_s ((23 : Int32) + k41_l1).toNatClampNeg) * (1048576 : Int64))))) fun g_32 => ck ((43 : Int32) + k41_l2) 613 <| ck ((43 : Int32) + k41_l1) 613 <| ck ((43 : Int32) + k41_l2) 613 <| nm (vp_updL g_32 ((43 : Int32) + k41_l2).toNatClampNeg ((g_32 ((43 : Int32) + k41_l2).toNatClampNeg) + ((g_32 ((43 : Int32) + k41_l1).toNatClampNeg) - (1048576 : Int64)))) fun g_36 => f_X8_leave_c148 fu R_27.1 R_27.2 g_36 k41_l1 k41_l2 (0 : Int32)) else (some (k41_undos, k41_kept, k41_s, (-2 : Int32)))) else (if ¬ k41_l3 = 0 then (f_X8_leave_c62 (fun k41_undos k41_kept k41_s k41_l1 k41_l2 k41_l3 k41_l4 => f_X8_leave_c41 n k41_undos k41_kept k41_s k41_l1 k41_l2 k41_l3 k41_l4) k41_undos k41_kept k41_s k41_l1 k41_l2 k41_l4) else (bd (f_X8_isOf k41_s k41_l4 k41_l1) fun R_38 => if R_38 = 0 then (f_X8_leave_c67 (fun k41_undos k41_kept k41_s k41_l1 k41_l2 k41_l3 k41_l4 => f_X8_leave_c41 n k41_undos k41_kept k41_s k41_l1 k41_l2 k41_l3 k41_l4) k41_undos k41_kept k41_s k41_l1 k41_l2 k41_l4 (0 : Int32)) else (f_X8_leave_c62 (fun k41_undos k41_kept k41_s k41_l1 k41_l2 k41_l3 k41_l4 => f_X8_leave_c41 n k41_undos k41_kept k41_s k41_l1 k41_l2 k41_l3 k41_l4) k41_undos k41_kept k41_s k41_l1 k41_l2 k41_l4)))
noncomputable def f_X8_leave_c37 (k37_undos : Int32) (k37_kept : Nat → Int64) (k37_s : Nat → Int64) (k37_l1 : Int32) (k37_l2 : Int32) (k37_s0 : Int32) : Option (Int32 × (Nat → Int64) × (Nat → Int64) × Int32) := f_X8_leave_c41 fu k37_undos k37_kept k37_s k37_l1 k37_l2 k37_s0 (0 : Int32)
noncomputable def f_X8_leave (v_undos : Int32) (v_kept : Nat → Int64) (v_s : Nat → Int64) (p1 : Int32) (p2 : Int32) : Option (Int32 × (Nat → Int64) × (Nat → Int64) × Int32) := bd (f_X8_isHere v_s p1) fun R_40 => if R_40 = 0 then (some (v_undos, v_kept, v_s, (-1 : Int32))) else (bd (f_X8_isHere v_s p2) fun R_42 => if R_42 = 0 then (some (v_undos, v_kept, v_s, (-1 : Int32))) else (if ¬ p1 = p2 then (bd (f_X8_areJoined v_s p1 p2) fun R_45 => if ¬ R_45 = 0 then (f_X8_leave_c37 v_undos v_kept v_s p1 p2 (0 : Int32)) else (f_X8_leave_c37 v_undos v_kept v_s p1 p2 (1 : Int32))) else (some (v_undos, v_kept, v_s, (-1 : Int32)))))
set_option maxHeartbeats 4000000 in
set_option maxRecDepth 100000 in
theorem c_X8_leave (l : Launch) (D : va_G) (cI cJ cQ : ClassId) (a_this : Nat) (a_kept : Nat) (a_s : Nat) (r_known : Value) (r_whose : Value) (r_lesser : Value) (r_other : Value) (r_sums : Value) (r_weights : Value) (r_row : Value) (r_plan : Value) (v_undos : Int32) (v_open : Int32) (v_planned : Int32) (v_kept : Nat → Int64) (v_s : Nat → Int64) (p1 : Int32) (p2 : Int32) (R0 : Int32 × (Nat → Int64) × (Nat → Int64) × Int32) (hf : f_X8_leave v_undos v_kept v_s p1 p2 = some R0) : Ci l yX8_leave wsX8_leave ({ frames := 4, cells := 0, slots := 0, locals := 133 } : Room) D [(cI, .int), (cJ, .long), (cQ, .object "WhisperCrowd$State")] [.ref a_this, .int p1, .int p2] [(a_this, .inr (8, [.ref a_s, .ref a_kept, .int v_undos, r_known, r_whose, r_lesser, r_other, .int v_open, r_sums, r_weights, r_row, r_plan, .int v_planned])), (a_kept, .inl (cJ, 12260, .inr (.inl v_kept))), (a_s, .inl (cJ, 613, .inr (.inl v_s)))] [(a_this, .inr (8, [.ref a_s, .ref a_kept, .int R0.1, r_known, r_whose, r_lesser, r_other, .int v_open, r_sums, r_weights, r_row, r_plan, .int v_planned])), (a_kept, .inl (cJ, 12260, .inr (.inl R0.2.1))), (a_s, .inl (cJ, 613, .inr (.inl R0.2.2.1)))] R0.2.2.2 := by
  refine x_enti (cc := cX8_leave) (maxL := 5) (rt := (some .int)) (lv := [(0, .ref a_this), (1, .int p1), (2, .int p2)]) (by decide) rfl (Nat.le_of_ble_eq_true rfl) rfl ?_
  intro p e s m args below meth c A Q hQ hC
  have J_148 : ∀ (n : Nat) (k148_undos : Int32) (k148_kept : Nat → Int64) (k148_s : Nat → Int64) (k148_l1 : Int32) (k148_l2 : Int32) (k148_l4 : Int32), f_X8_leave_c148 n k148_undos k148_kept k148_s k148_l1 k148_l2 k148_l4 = some R0 → XW p l e ({ frames := 4, cells := 0, slots := 0, locals := 133 } : Room) s m args below meth c D A 5 0 0 Q [(a_this, .inr (8, [.ref a_s, .ref a_kept, .int k148_undos, r_known, r_whose, r_lesser, r_other, .int v_open, r_sums, r_weights, r_row, r_plan, .int v_planned])), (a_kept, .inl (cJ, 12260, .inr (.inl k148_kept))), (a_s, .inl (cJ, 613, .inr (.inl k148_s)))] [] [(0, .ref a_this), (1, .int k148_l1), (2, .int k148_l2), (4, .int k148_l4)] 148 [] := by
    intro n
    induction n with
    | zero => intro k148_undos k148_kept k148_s k148_l1 k148_l2 k148_l4 hf; exact nomatch (show (none : Option (Int32 × (Nat → Int64) × (Nat → Int64) × Int32)) = some R0 from hf)
    | succ n_148 ih_148 =>
      have J_307 : ∀ (k307_undos : Int32) (k307_kept : Nat → Int64) (k307_s : Nat → Int64) (k307_l1 : Int32) (k307_l2 : Int32) (k307_l4 : Int32), f_X8_leave_c307 (fun k148_undos k148_kept k148_s k148_l1 k148_l2 k148_l4 => f_X8_leave_c148 n_148 k148_undos k148_kept k148_s k148_l1 k148_l2 k148_l4) k307_undos k307_kept k307_s k307_l1 k307_l2 k307_l4 = some R0 → XW p l e ({ frames := 4, cells := 0, slots := 0, locals := 133 } : Room) s m args below meth c D A 5 0 0 Q [(a_this, .inr (8, [.ref a_s, .ref a_kept, .int k307_undos, r_known, r_whose, r_lesser, r_other, .int v_open, r_sums, r_weights, r_row, r_plan, .int v_planned])), (a_kept, .inl (cJ, 12260, .inr (.inl k307_kept))), (a_s, .inl (cJ, 613, .inr (.inl k307_s)))] [] [(0, .ref a_this), (1, .int k307_l1), (2, .int k307_l2), (4, .int k307_l4)] 307 [] := by
        intro k307_undos k307_kept k307_s k307_l1 k307_l2 k307_l4 hf
        unfold f_X8_leave_c307 at hf
        obtain ⟨x_1, e_x_1, hf⟩ := nmx_e hf
        refine x_iinc 310 3 [(4, .int x_1), (0, .ref a_this), (1, .int k307_l1), (2, .int k307_l2)] hC dX8_leave_307 rfl rfl e_x_1 (by decide) (by decide) rfl ?_
        refine x_goto 148 hC dX8_leave_310 (by decide) ?_
        refine x_lv [(0, .ref a_this), (1, .int k307_l1), (2, .int k307_l2), (4, .int x_1)] [1, 2, 3, 0] rfl ?_
        exact ih_148 k307_undos k307_kept k307_s k307_l1 k307_l2 x_1 hf
      intro k148_undos k148_kept k148_s k148_l1 k148_l2 k148_l4 hf
      unfold f_X8_leave_c148 at hf
      refine x_iload 150 3 hC dX8_leave_148 rfl rfl ?_
      refine x_bipush 152 hC (10 : Int32) dX8_leave_150 rfl (by decide) ?_
      refine x_icmp_ge 313 155 hC dX8_leave_152 (by decide) rfl (fun c_2 => ?_) (fun c_2 => ?_)
      · have hf := if_t hf c_2
        refine x_aload_n 314 0 hC dX8_leave_313 rfl rfl rfl ?_
        refine x_sipush 317 hC (413 : Int32) dX8_leave_314 rfl (by decide) ?_
        refine x_iload_n 318 1 hC dX8_leave_317 rfl rfl rfl ?_
        refine x_iload_n 319 2 hC dX8_leave_318 rfl rfl rfl ?_
        obtain ⟨R_3, h_R_3, hf⟩ := bd_e hf
        refine x_callVv 322 0 3 [0, 2] [(a_this, .inr (8, [.ref a_s, .ref a_kept, .int k148_undos, r_known, r_whose, r_lesser, r_other, .int v_open, r_sums, r_weights, r_row, r_plan, .int v_planned])), (a_kept, .inl (cJ, 12260, .inr (.inl k148_kept))), (a_s, .inl (cJ, 613, .inr (.inl R_3)))] hC (As := [.int (413 : Int32), .int k148_l1, .int k148_l2]) (c_X8_hands l D cI cJ cQ a_this a_s (.ref a_kept) r_known r_whose r_lesser r_other r_sums r_weights r_row r_plan k148_undos v_open v_planned k148_s (413 : Int32) k148_l1 k148_l2 R_3 h_R_3) rfl rfl gX8_leave_X8_hands rfl ⟨rfl, rfl⟩ hd_X8_hands ⟨Nat.le_of_ble_eq_true rfl, Nat.le_of_ble_eq_true rfl⟩ rfl rfl rfl rfl rfl rfl (Nat.le_of_ble_eq_true rfl) ⟨Nat.le_of_ble_eq_true rfl, Nat.le_of_ble_eq_true rfl⟩ dX8_leave_319 rfl ?_
        refine x_aload_n 323 0 hC dX8_leave_322 rfl rfl rfl ?_
        refine x_sipush 326 hC (513 : Int32) dX8_leave_323 rfl (by decide) ?_
        refine x_iload_n 327 1 hC dX8_leave_326 rfl rfl rfl ?_
        refine x_iload_n 328 2 hC dX8_leave_327 rfl rfl rfl ?_
        obtain ⟨R_4, h_R_4, hf⟩ := bd_e hf
        refine x_callVv 331 0 3 [0, 2] [(a_this, .inr (8, [.ref a_s, .ref a_kept, .int k148_undos, r_known, r_whose, r_lesser, r_other, .int v_open, r_sums, r_weights, r_row, r_plan, .int v_planned])), (a_kept, .inl (cJ, 12260, .inr (.inl k148_kept))), (a_s, .inl (cJ, 613, .inr (.inl R_4)))] hC (As := [.int (513 : Int32), .int k148_l1, .int k148_l2]) (c_X8_hands l D cI cJ cQ a_this a_s (.ref a_kept) r_known r_whose r_lesser r_other r_sums r_weights r_row r_plan k148_undos v_open v_planned R_3 (513 : Int32) k148_l1 k148_l2 R_4 h_R_4) rfl rfl gX8_leave_X8_hands rfl ⟨rfl, rfl⟩ hd_X8_hands ⟨Nat.le_of_ble_eq_true rfl, Nat.le_of_ble_eq_true rfl⟩ rfl rfl rfl rfl rfl rfl (Nat.le_of_ble_eq_true rfl) ⟨Nat.le_of_ble_eq_true rfl, Nat.le_of_ble_eq_true rfl⟩ dX8_leave_328 rfl ?_
        refine x_aload_n 332 0 hC dX8_leave_331 rfl rfl rfl ?_
        refine x_iload_n 333 1 hC dX8_leave_332 rfl rfl rfl ?_
        obtain ⟨R_5, h_R_5, hf⟩ := bd_e hf
        refine x_callVv 336 0 1 [0, 2] [(a_this, .inr (8, [.ref a_s, .ref a_kept, .int k148_undos, r_known, r_whose, r_lesser, r_other, .int v_open, r_sums, r_weights, r_row, r_plan, .int v_planned])), (a_kept, .inl (cJ, 12260, .inr (.inl k148_kept))), (a_s, .inl (cJ, 613, .inr (.inl R_5)))] hC (As := [.int k148_l1]) (c_X8_goes l D cI cJ cQ a_this a_s (.ref a_kept) r_known r_whose r_lesser r_other r_sums r_weights r_row r_plan k148_undos v_open v_planned R_4 k148_l1 R_5 h_R_5) rfl rfl gX8_leave_X8_goes rfl ⟨rfl, rfl⟩ hd_X8_goes ⟨Nat.le_of_ble_eq_true rfl, Nat.le_of_ble_eq_true rfl⟩ rfl rfl rfl rfl rfl rfl (Nat.le_of_ble_eq_true rfl) ⟨Nat.le_of_ble_eq_true rfl, Nat.le_of_ble_eq_true rfl⟩ dX8_leave_333 rfl ?_
        refine x_iconst 337 hC (1 : Int32) dX8_leave_336 rfl (by decide) ?_
        cases hf
        exact x_iret hC dX8_leave_337 hQ rfl rfl
      · have hf := if_f hf c_2
        refine x_iload 157 3 hC dX8_leave_155 rfl rfl ?_
        refine x_iload_n 158 1 hC dX8_leave_157 rfl rfl rfl ?_
        refine x_icmp_eq 307 161 hC dX8_leave_158 (by decide) rfl (fun c_6 => ?_) (fun c_6 => ?_)
        · have hf := if_t hf c_6
          refine x_lv [(0, .ref a_this), (1, .int k148_l1), (2, .int k148_l2), (4, .int k148_l4)] [0, 1, 2, 3] rfl ?_
          exact J_307 k148_undos k148_kept k148_s k148_l1 k148_l2 k148_l4 hf
        · have hf := if_f hf c_6
          refine x_iload 163 3 hC dX8_leave_161 rfl rfl ?_
          refine x_iload_n 164 2 hC dX8_leave_163 rfl rfl rfl ?_
          refine x_icmp_eq 307 167 hC dX8_leave_164 (by decide) rfl (fun c_7 => ?_) (fun c_7 => ?_)
          · have hf := if_t hf c_7
            refine x_lv [(0, .ref a_this), (1, .int k148_l1), (2, .int k148_l2), (4, .int k148_l4)] [0, 1, 2, 3] rfl ?_
            exact J_307 k148_undos k148_kept k148_s k148_l1 k148_l2 k148_l4 hf
          · have hf := if_f hf c_7
            refine x_aload_n 168 0 hC dX8_leave_167 rfl rfl rfl ?_
            refine x_get 171 0 0 hC in_X8_leave_X8 rfl rfl (by decide) (List.mem_of_getElem? (i := 1) (by decide +kernel)) rfl rfl dX8_leave_168 rfl ?_
            refine x_sipush 174 hC (213 : Int32) dX8_leave_171 rfl (by decide) ?_
            refine x_bipush 176 hC (10 : Int32) dX8_leave_174 rfl (by decide) ?_
            refine x_iload 178 3 hC dX8_leave_176 rfl rfl ?_
            refine x_imul 179 hC dX8_leave_178 rfl ?_
            refine x_iadd 180 hC dX8_leave_179 rfl ?_
            refine x_iload_n 181 2 hC dX8_leave_180 rfl rfl rfl ?_
            refine x_iadd 182 hC dX8_leave_181 rfl ?_
            refine x_dup2_11 183 hC dX8_leave_182 rfl rfl rfl ?_
            obtain ⟨h_8, hf⟩ := ck_e hf
            refine x_lald 184 2 1 hC rfl rfl h_8 dX8_leave_183 rfl ?_
            refine x_aload_n 185 0 hC dX8_leave_184 rfl rfl rfl ?_
            refine x_get 188 0 0 hC in_X8_leave_X8 rfl rfl (by decide) (List.mem_of_getElem? (i := 1) (by decide +kernel)) rfl rfl dX8_leave_185 rfl ?_
            refine x_sipush 191 hC (213 : Int32) dX8_leave_188 rfl (by decide) ?_
            refine x_bipush 193 hC (10 : Int32) dX8_leave_191 rfl (by decide) ?_
            refine x_iload 195 3 hC dX8_leave_193 rfl rfl ?_
            refine x_imul 196 hC dX8_leave_195 rfl ?_
            refine x_iadd 197 hC dX8_leave_196 rfl ?_
            refine x_iload_n 198 1 hC dX8_leave_197 rfl rfl rfl ?_
            refine x_iadd 199 hC dX8_leave_198 rfl ?_
            obtain ⟨h_9, hf⟩ := ck_e hf
            refine x_lald 200 2 1 hC rfl rfl h_9 dX8_leave_199 rfl ?_
            refine x_ladd 201 hC dX8_leave_200 rfl ?_
            obtain ⟨h_10, hf⟩ := ck_e hf
            obtain ⟨g_11, e_g_11, hf⟩ := nmx_e hf
            refine x_last 202 2 1 [(a_this, .inr (8, [.ref a_s, .ref a_kept, .int k148_undos, r_known, r_whose, r_lesser, r_other, .int v_open, r_sums, r_weights, r_row, r_plan, .int v_planned])), (a_kept, .inl (cJ, 12260, .inr (.inl k148_kept))), (a_s, .inl (cJ, 613, .inr (.inl g_11)))] hC rfl rfl h_10 e_g_11 rfl dX8_leave_201 rfl ?_
            refine x_aload_n 203 0 hC dX8_leave_202 rfl rfl rfl ?_
            refine x_get 206 0 0 hC in_X8_leave_X8 rfl rfl (by decide) (List.mem_of_getElem? (i := 1) (by decide +kernel)) rfl rfl dX8_leave_203 rfl ?_
            refine x_sipush 209 hC (313 : Int32) dX8_leave_206 rfl (by decide) ?_
            refine x_bipush 211 hC (10 : Int32) dX8_leave_209 rfl (by decide) ?_
            refine x_iload 213 3 hC dX8_leave_211 rfl rfl ?_
            refine x_imul 214 hC dX8_leave_213 rfl ?_
            refine x_iadd 215 hC dX8_leave_214 rfl ?_
            refine x_iload_n 216 2 hC dX8_leave_215 rfl rfl rfl ?_
            refine x_iadd 217 hC dX8_leave_216 rfl ?_
            refine x_dup2_11 218 hC dX8_leave_217 rfl rfl rfl ?_
            obtain ⟨h_12, hf⟩ := ck_e hf
            refine x_lald 219 2 1 hC rfl rfl h_12 dX8_leave_218 rfl ?_
            refine x_aload_n 220 0 hC dX8_leave_219 rfl rfl rfl ?_
            refine x_get 223 0 0 hC in_X8_leave_X8 rfl rfl (by decide) (List.mem_of_getElem? (i := 1) (by decide +kernel)) rfl rfl dX8_leave_220 rfl ?_
            refine x_sipush 226 hC (313 : Int32) dX8_leave_223 rfl (by decide) ?_
            refine x_bipush 228 hC (10 : Int32) dX8_leave_226 rfl (by decide) ?_
            refine x_iload 230 3 hC dX8_leave_228 rfl rfl ?_
            refine x_imul 231 hC dX8_leave_230 rfl ?_
            refine x_iadd 232 hC dX8_leave_231 rfl ?_
            refine x_iload_n 233 1 hC dX8_leave_232 rfl rfl rfl ?_
            refine x_iadd 234 hC dX8_leave_233 rfl ?_
            obtain ⟨h_13, hf⟩ := ck_e hf
            refine x_lald 235 2 1 hC rfl rfl h_13 dX8_leave_234 rfl ?_
            refine x_ladd 236 hC dX8_leave_235 rfl ?_
            obtain ⟨h_14, hf⟩ := ck_e hf
            obtain ⟨g_15, e_g_15, hf⟩ := nmx_e hf
            refine x_last 237 2 1 [(a_this, .inr (8, [.ref a_s, .ref a_kept, .int k148_undos, r_known, r_whose, r_lesser, r_other, .int v_open, r_sums, r_weights, r_row, r_plan, .int v_planned])), (a_kept, .inl (cJ, 12260, .inr (.inl k148_kept))), (a_s, .inl (cJ, 613, .inr (.inl g_15)))] hC rfl rfl h_14 e_g_15 rfl dX8_leave_236 rfl ?_
            refine x_aload_n 238 0 hC dX8_leave_237 rfl rfl rfl ?_
            refine x_get 241 0 0 hC in_X8_leave_X8 rfl rfl (by decide) (List.mem_of_getElem? (i := 1) (by decide +kernel)) rfl rfl dX8_leave_238 rfl ?_
            refine x_sipush 244 hC (213 : Int32) dX8_leave_241 rfl (by decide) ?_
            refine x_bipush 246 hC (10 : Int32) dX8_leave_244 rfl (by decide) ?_
            refine x_iload_n 247 2 hC dX8_leave_246 rfl rfl rfl ?_
            refine x_imul 248 hC dX8_leave_247 rfl ?_
            refine x_iadd 249 hC dX8_leave_248 rfl ?_
            refine x_iload 251 3 hC dX8_leave_249 rfl rfl ?_
            refine x_iadd 252 hC dX8_leave_251 rfl ?_
            refine x_dup2_11 253 hC dX8_leave_252 rfl rfl rfl ?_
            obtain ⟨h_16, hf⟩ := ck_e hf
            refine x_lald 254 2 1 hC rfl rfl h_16 dX8_leave_253 rfl ?_
            refine x_aload_n 255 0 hC dX8_leave_254 rfl rfl rfl ?_
            refine x_get 258 0 0 hC in_X8_leave_X8 rfl rfl (by decide) (List.mem_of_getElem? (i := 1) (by decide +kernel)) rfl rfl dX8_leave_255 rfl ?_
            refine x_sipush 261 hC (213 : Int32) dX8_leave_258 rfl (by decide) ?_
            refine x_bipush 263 hC (10 : Int32) dX8_leave_261 rfl (by decide) ?_
            refine x_iload_n 264 1 hC dX8_leave_263 rfl rfl rfl ?_
            refine x_imul 265 hC dX8_leave_264 rfl ?_
            refine x_iadd 266 hC dX8_leave_265 rfl ?_
            refine x_iload 268 3 hC dX8_leave_266 rfl rfl ?_
            refine x_iadd 269 hC dX8_leave_268 rfl ?_
            obtain ⟨h_17, hf⟩ := ck_e hf
            refine x_lald 270 2 1 hC rfl rfl h_17 dX8_leave_269 rfl ?_
            refine x_ladd 271 hC dX8_leave_270 rfl ?_
            obtain ⟨h_18, hf⟩ := ck_e hf
            obtain ⟨g_19, e_g_19, hf⟩ := nmx_e hf
            refine x_last 272 2 1 [(a_this, .inr (8, [.ref a_s, .ref a_kept, .int k148_undos, r_known, r_whose, r_lesser, r_other, .int v_open, r_sums, r_weights, r_row, r_plan, .int v_planned])), (a_kept, .inl (cJ, 12260, .inr (.inl k148_kept))), (a_s, .inl (cJ, 613, .inr (.inl g_19)))] hC rfl rfl h_18 e_g_19 rfl dX8_leave_271 rfl ?_
            refine x_aload_n 273 0 hC dX8_leave_272 rfl rfl rfl ?_
            refine x_get 276 0 0 hC in_X8_leave_X8 rfl rfl (by decide) (List.mem_of_getElem? (i := 1) (by decide +kernel)) rfl rfl dX8_leave_273 rfl ?_
            refine x_sipush 279 hC (313 : Int32) dX8_leave_276 rfl (by decide) ?_
            refine x_bipush 281 hC (10 : Int32) dX8_leave_279 rfl (by decide) ?_
            refine x_iload_n 282 2 hC dX8_leave_281 rfl rfl rfl ?_
            refine x_imul 283 hC dX8_leave_282 rfl ?_
            refine x_iadd 284 hC dX8_leave_283 rfl ?_
            refine x_iload 286 3 hC dX8_leave_284 rfl rfl ?_
            refine x_iadd 287 hC dX8_leave_286 rfl ?_
            refine x_dup2_11 288 hC dX8_leave_287 rfl rfl rfl ?_
            obtain ⟨h_20, hf⟩ := ck_e hf
            refine x_lald 289 2 1 hC rfl rfl h_20 dX8_leave_288 rfl ?_
            refine x_aload_n 290 0 hC dX8_leave_289 rfl rfl rfl ?_
            refine x_get 293 0 0 hC in_X8_leave_X8 rfl rfl (by decide) (List.mem_of_getElem? (i := 1) (by decide +kernel)) rfl rfl dX8_leave_290 rfl ?_
            refine x_sipush 296 hC (313 : Int32) dX8_leave_293 rfl (by decide) ?_
            refine x_bipush 298 hC (10 : Int32) dX8_leave_296 rfl (by decide) ?_
            refine x_iload_n 299 1 hC dX8_leave_298 rfl rfl rfl ?_
            refine x_imul 300 hC dX8_leave_299 rfl ?_
            refine x_iadd 301 hC dX8_leave_300 rfl ?_
            refine x_iload 303 3 hC dX8_leave_301 rfl rfl ?_
            refine x_iadd 304 hC dX8_leave_303 rfl ?_
            obtain ⟨h_21, hf⟩ := ck_e hf
            refine x_lald 305 2 1 hC rfl rfl h_21 dX8_leave_304 rfl ?_
            refine x_ladd 306 hC dX8_leave_305 rfl ?_
            obtain ⟨h_22, hf⟩ := ck_e hf
            obtain ⟨g_23, e_g_23, hf⟩ := nmx_e hf
            refine x_last 307 2 1 [(a_this, .inr (8, [.ref a_s, .ref a_kept, .int k148_undos, r_known, r_whose, r_lesser, r_other, .int v_open, r_sums, r_weights, r_row, r_plan, .int v_planned])), (a_kept, .inl (cJ, 12260, .inr (.inl k148_kept))), (a_s, .inl (cJ, 613, .inr (.inl g_23)))] hC rfl rfl h_22 e_g_23 rfl dX8_leave_306 rfl ?_
            refine x_lv [(0, .ref a_this), (1, .int k148_l1), (2, .int k148_l2), (4, .int k148_l4)] [0, 1, 2, 3] rfl ?_
            exact J_307 k148_undos k148_kept g_23 k148_l1 k148_l2 k148_l4 hf
  have J_41 : ∀ (n : Nat) (k41_undos : Int32) (k41_kept : Nat → Int64) (k41_s : Nat → Int64) (k41_l1 : Int32) (k41_l2 : Int32) (k41_l3 : Int32) (k41_l4 : Int32), f_X8_leave_c41 n k41_undos k41_kept k41_s k41_l1 k41_l2 k41_l3 k41_l4 = some R0 → XW p l e ({ frames := 4, cells := 0, slots := 0, locals := 133 } : Room) s m args below meth c D A 5 0 0 Q [(a_this, .inr (8, [.ref a_s, .ref a_kept, .int k41_undos, r_known, r_whose, r_lesser, r_other, .int v_open, r_sums, r_weights, r_row, r_plan, .int v_planned])), (a_kept, .inl (cJ, 12260, .inr (.inl k41_kept))), (a_s, .inl (cJ, 613, .inr (.inl k41_s)))] [] [(0, .ref a_this), (1, .int k41_l1), (2, .int k41_l2), (3, .int k41_l3), (4, .int k41_l4)] 41 [] := by
    intro n
    induction n with
    | zero => intro k41_undos k41_kept k41_s k41_l1 k41_l2 k41_l3 k41_l4 hf; exact nomatch (show (none : Option (Int32 × (Nat → Int64) × (Nat → Int64) × Int32)) = some R0 from hf)
    | succ n_41 ih_41 =>
      have J_67 : ∀ (k67_undos : Int32) (k67_kept : Nat → Int64) (k67_s : Nat → Int64) (k67_l1 : Int32) (k67_l2 : Int32) (k67_l4 : Int32) (k67_s0 : Int32), f_X8_leave_c67 (fun k41_undos k41_kept k41_s k41_l1 k41_l2 k41_l3 k41_l4 => f_X8_leave_c41 n_41 k41_undos k41_kept k41_s k41_l1 k41_l2 k41_l3 k41_l4) k67_undos k67_kept k67_s k67_l1 k67_l2 k67_l4 k67_s0 = some R0 → XW p l e ({ frames := 4, cells := 0, slots := 0, locals := 133 } : Room) s m args below meth c D A 5 0 0 Q [(a_this, .inr (8, [.ref a_s, .ref a_kept, .int k67_undos, r_known, r_whose, r_lesser, r_other, .int v_open, r_sums, r_weights, r_row, r_plan, .int v_planned])), (a_kept, .inl (cJ, 12260, .inr (.inl k67_kept))), (a_s, .inl (cJ, 613, .inr (.inl k67_s)))] [] [(0, .ref a_this), (1, .int k67_l1), (2, .int k67_l2), (4, .int k67_l4)] 67 [.int k67_s0] := by
        intro k67_undos k67_kept k67_s k67_l1 k67_l2 k67_l4 k67_s0 hf
        unfold f_X8_leave_c67 at hf
        refine x_istore_n 68 [(3, .int k67_s0), (0, .ref a_this), (1, .int k67_l1), (2, .int k67_l2), (4, .int k67_l4)] hC dX8_leave_67 rfl rfl rfl (by decide) rfl ?_
        obtain ⟨x_24, e_x_24, hf⟩ := nmx_e hf
        refine x_iinc 71 4 [(4, .int x_24), (3, .int k67_s0), (0, .ref a_this), (1, .int k67_l1), (2, .int k67_l2)] hC dX8_leave_68 rfl rfl e_x_24 (by decide) (by decide) rfl ?_
        refine x_goto 41 hC dX8_leave_71 (by decide) ?_
        refine x_lv [(0, .ref a_this), (1, .int k67_l1), (2, .int k67_l2), (3, .int k67_s0), (4, .int x_24)] [2, 3, 4, 1, 0] rfl ?_
        exact ih_41 k67_undos k67_kept k67_s k67_l1 k67_l2 k67_s0 x_24 hf
      have J_62 : ∀ (k62_undos : Int32) (k62_kept : Nat → Int64) (k62_s : Nat → Int64) (k62_l1 : Int32) (k62_l2 : Int32) (k62_l4 : Int32), f_X8_leave_c62 (fun k41_undos k41_kept k41_s k41_l1 k41_l2 k41_l3 k41_l4 => f_X8_leave_c41 n_41 k41_undos k41_kept k41_s k41_l1 k41_l2 k41_l3 k41_l4) k62_undos k62_kept k62_s k62_l1 k62_l2 k62_l4 = some R0 → XW p l e ({ frames := 4, cells := 0, slots := 0, locals := 133 } : Room) s m args below meth c D A 5 0 0 Q [(a_this, .inr (8, [.ref a_s, .ref a_kept, .int k62_undos, r_known, r_whose, r_lesser, r_other, .int v_open, r_sums, r_weights, r_row, r_plan, .int v_planned])), (a_kept, .inl (cJ, 12260, .inr (.inl k62_kept))), (a_s, .inl (cJ, 613, .inr (.inl k62_s)))] [] [(0, .ref a_this), (1, .int k62_l1), (2, .int k62_l2), (4, .int k62_l4)] 62 [] := by
        intro k62_undos k62_kept k62_s k62_l1 k62_l2 k62_l4 hf
        unfold f_X8_leave_c62 at hf
        refine x_iconst 63 hC (1 : Int32) dX8_leave_62 rfl (by decide) ?_
        refine x_goto 67 hC dX8_leave_63 (by decide) ?_
        refine x_lv [(0, .ref a_this), (1, .int k62_l1), (2, .int k62_l2), (4, .int k62_l4)] [0, 1, 2, 3] rfl ?_
        exact J_67 k62_undos k62_kept k62_s k62_l1 k62_l2 k62_l4 (1 : Int32) hf
      intro k41_undos k41_kept k41_s k41_l1 k41_l2 k41_l3 k41_l4 hf
      unfold f_X8_leave_c41 at hf
      refine x_iload 43 4 hC dX8_leave_41 rfl rfl ?_
      refine x_bipush 45 hC (8 : Int32) dX8_leave_43 rfl (by decide) ?_
      refine x_icmp_ge 74 48 hC dX8_leave_45 (by decide) rfl (fun c_25 => ?_) (fun c_25 => ?_)
      · have hf := if_t hf c_25
        refine x_iload_n 75 3 hC dX8_leave_74 rfl rfl rfl ?_
        refine x_if_eq 81 78 hC dX8_leave_75 (by decide) rfl (fun c_26 => ?_) (fun c_26 => ?_)
        · have hf := if_t hf c_26
          refine x_aload_n 82 0 hC dX8_leave_81 rfl rfl rfl ?_
          obtain ⟨R_27, h_R_27, hf⟩ := bd_e hf
          refine x_callVv 85 0 0 [0, 1, 2] [(a_this, .inr (8, [.ref a_s, .ref a_kept, .int R_27.1, r_known, r_whose, r_lesser, r_other, .int v_open, r_sums, r_weights, r_row, r_plan, .int v_planned])), (a_kept, .inl (cJ, 12260, .inr (.inl R_27.2))), (a_s, .inl (cJ, 613, .inr (.inl k41_s)))] hC (As := []) (c_X8_keep l D cI cJ cQ a_this a_kept a_s r_known r_whose r_lesser r_other r_sums r_weights r_row r_plan k41_undos v_open v_planned k41_kept k41_s R_27 h_R_27) rfl rfl gX8_leave_X8_keep rfl ⟨rfl, rfl⟩ hd_X8_keep ⟨Nat.le_of_ble_eq_true rfl, Nat.le_of_ble_eq_true rfl⟩ rfl rfl rfl rfl rfl rfl (Nat.le_of_ble_eq_true rfl) ⟨Nat.le_of_ble_eq_true rfl, Nat.le_of_ble_eq_true rfl⟩ dX8_leave_82 rfl ?_
          refine x_aload_n 86 0 hC dX8_leave_85 rfl rfl rfl ?_
          refine x_get 89 0 0 hC in_X8_leave_X8 rfl rfl (by decide) (List.mem_of_getElem? (i := 1) (by decide +kernel)) rfl rfl dX8_leave_86 rfl ?_
          refine x_bipush 91 hC (33 : Int32) dX8_leave_89 rfl (by decide) ?_
          refine x_iload_n 92 2 hC dX8_leave_91 rfl rfl rfl ?_
          refine x_iadd 93 hC dX8_leave_92 rfl ?_
          refine x_dup2_11 94 hC dX8_leave_93 rfl rfl rfl ?_
          obtain ⟨h_28, hf⟩ := ck_e hf
          refine x_lald 95 2 1 hC rfl rfl h_28 dX8_leave_94 rfl ?_
          refine x_aload_n 96 0 hC dX8_leave_95 rfl rfl rfl ?_
          refine x_get 99 0 0 hC in_X8_leave_X8 rfl rfl (by decide) (List.mem_of_getElem? (i := 1) (by decide +kernel)) rfl rfl dX8_leave_96 rfl ?_
          refine x_bipush 101 hC (33 : Int32) dX8_leave_99 rfl (by decide) ?_
          refine x_iload_n 102 1 hC dX8_leave_101 rfl rfl rfl ?_
          refine x_iadd 103 hC dX8_leave_102 rfl ?_
          obtain ⟨h_29, hf⟩ := ck_e hf
          refine x_lald 104 2 1 hC rfl rfl h_29 dX8_leave_103 rfl ?_
          refine x_aload_n 105 0 hC dX8_leave_104 rfl rfl rfl ?_
          refine x_get 108 0 0 hC in_X8_leave_X8 rfl rfl (by decide) (List.mem_of_getElem? (i := 1) (by decide +kernel)) rfl rfl dX8_leave_105 rfl ?_
          refine x_bipush 110 hC (23 : Int32) dX8_leave_108 rfl (by decide) ?_
          refine x_iload_n 111 1 hC dX8_leave_110 rfl rfl rfl ?_
          refine x_iadd 112 hC dX8_leave_111 rfl ?_
          obtain ⟨h_30, hf⟩ := ck_e hf
          refine x_lald 113 2 1 hC rfl rfl h_30 dX8_leave_112 rfl ?_
          refine x_ldc2 116 hC (v := (1048576 : Int64)) (List.mem_of_getElem? (i := 2) (by decide +kernel)) dX8_leave_113 rfl ?_
          refine x_lmul 117 hC dX8_leave_116 rfl ?_
          refine x_lsub 118 hC dX8_leave_117 rfl ?_
          refine x_ladd 119 hC dX8_leave_118 rfl ?_
          obtain ⟨h_31, hf⟩ := ck_e hf
          obtain ⟨g_32, e_g_32, hf⟩ := nmx_e hf
          refine x_last 120 2 1 [(a_this, .inr (8, [.ref a_s, .ref a_kept, .int R_27.1, r_known, r_whose, r_lesser, r_other, .int v_open, r_sums, r_weights, r_row, r_plan, .int v_planned])), (a_kept, .inl (cJ, 12260, .inr (.inl R_27.2))), (a_s, .inl (cJ, 613, .inr (.inl g_32)))] hC rfl rfl h_31 e_g_32 rfl dX8_leave_119 rfl ?_
          refine x_aload_n 121 0 hC dX8_leave_120 rfl rfl rfl ?_
          refine x_get 124 0 0 hC in_X8_leave_X8 rfl rfl (by decide) (List.mem_of_getElem? (i := 1) (by decide +kernel)) rfl rfl dX8_leave_121 rfl ?_
          refine x_bipush 126 hC (43 : Int32) dX8_leave_124 rfl (by decide) ?_
          refine x_iload_n 127 2 hC dX8_leave_126 rfl rfl rfl ?_
          refine x_iadd 128 hC dX8_leave_127 rfl ?_
          refine x_dup2_11 129 hC dX8_leave_128 rfl rfl rfl ?_
          obtain ⟨h_33, hf⟩ := ck_e hf
          refine x_lald 130 2 1 hC rfl rfl h_33 dX8_leave_129 rfl ?_
          refine x_aload_n 131 0 hC dX8_leave_130 rfl rfl rfl ?_
          refine x_get 134 0 0 hC in_X8_leave_X8 rfl rfl (by decide) (List.mem_of_getElem? (i := 1) (by decide +kernel)) rfl rfl dX8_leave_131 rfl ?_
          refine x_bipush 136 hC (43 : Int32) dX8_leave_134 rfl (by decide) ?_
          refine x_iload_n 137 1 hC dX8_leave_136 rfl rfl rfl ?_
          refine x_iadd 138 hC dX8_leave_137 rfl ?_
          obtain ⟨h_34, hf⟩ := ck_e hf
          refine x_lald 139 2 1 hC rfl rfl h_34 dX8_leave_138 rfl ?_
          refine x_ldc2 142 hC (v := (1048576 : Int64)) (List.mem_of_getElem? (i := 2) (by decide +kernel)) dX8_leave_139 rfl ?_
          refine x_lsub 143 hC dX8_leave_142 rfl ?_
          refine x_ladd 144 hC dX8_leave_143 rfl ?_
          obtain ⟨h_35, hf⟩ := ck_e hf
          obtain ⟨g_36, e_g_36, hf⟩ := nmx_e hf
          refine x_last 145 2 1 [(a_this, .inr (8, [.ref a_s, .ref a_kept, .int R_27.1, r_known, r_whose, r_lesser, r_other, .int v_open, r_sums, r_weights, r_row, r_plan, .int v_planned])), (a_kept, .inl (cJ, 12260, .inr (.inl R_27.2))), (a_s, .inl (cJ, 613, .inr (.inl g_36)))] hC rfl rfl h_35 e_g_36 rfl dX8_leave_144 rfl ?_
          refine x_iconst 146 hC (0 : Int32) dX8_leave_145 rfl (by decide) ?_
          refine x_istore 148 [(4, .int (0 : Int32)), (0, .ref a_this), (1, .int k41_l1), (2, .int k41_l2), (3, .int k41_l3)] hC dX8_leave_146 rfl rfl (by decide) rfl ?_
          refine x_lv [(0, .ref a_this), (1, .int k41_l1), (2, .int k41_l2), (4, .int (0 : Int32))] [1, 2, 3, 0] rfl ?_
          exact J_148 fu R_27.1 R_27.2 g_36 k41_l1 k41_l2 (0 : Int32) hf
        · have hf := if_f hf c_26
          refine x_bipush 80 hC (-2 : Int32) dX8_leave_78 rfl (by decide) ?_
          cases hf
          exact x_iret hC dX8_leave_80 hQ rfl rfl
      · have hf := if_f hf c_25
        refine x_iload_n 49 3 hC dX8_leave_48 rfl rfl rfl ?_
        refine x_if_ne 62 52 hC dX8_leave_49 (by decide) rfl (fun c_37 => ?_) (fun c_37 => ?_)
        · have hf := if_t hf c_37
          refine x_lv [(0, .ref a_this), (1, .int k41_l1), (2, .int k41_l2), (4, .int k41_l4)] [0, 1, 2, 4] rfl ?_
          exact J_62 k41_undos k41_kept k41_s k41_l1 k41_l2 k41_l4 hf
        · have hf := if_f hf c_37
          refine x_aload_n 53 0 hC dX8_leave_52 rfl rfl rfl ?_
          refine x_iload 55 4 hC dX8_leave_53 rfl rfl ?_
          refine x_iload_n 56 1 hC dX8_leave_55 rfl rfl rfl ?_
          obtain ⟨R_38, h_R_38, hf⟩ := bd_e hf
          refine x_callVi 59 0 2 [0, 2] [(a_this, .inr (8, [.ref a_s, .ref a_kept, .int k41_undos, r_known, r_whose, r_lesser, r_other, .int v_open, r_sums, r_weights, r_row, r_plan, .int v_planned])), (a_kept, .inl (cJ, 12260, .inr (.inl k41_kept))), (a_s, .inl (cJ, 613, .inr (.inl k41_s)))] hC (As := [.int k41_l4, .int k41_l1]) (c_X8_isOf l D cI cJ cQ a_this a_s (.ref a_kept) r_known r_whose r_lesser r_other r_sums r_weights r_row r_plan k41_undos v_open v_planned k41_s k41_l4 k41_l1 R_38 h_R_38) rfl rfl gX8_leave_X8_isOf rfl ⟨rfl, rfl⟩ hd_X8_isOf ⟨Nat.le_of_ble_eq_true rfl, Nat.le_of_ble_eq_true rfl⟩ rfl rfl rfl rfl rfl rfl (Nat.le_of_ble_eq_true rfl) ⟨Nat.le_of_ble_eq_true rfl, Nat.le_of_ble_eq_true rfl⟩ dX8_leave_56 rfl ?_
          refine x_if_eq 66 62 hC dX8_leave_59 (by decide) rfl (fun c_39 => ?_) (fun c_39 => ?_)
          · have hf := if_t hf c_39
            refine x_iconst 67 hC (0 : Int32) dX8_leave_66 rfl (by decide) ?_
            refine x_lv [(0, .ref a_this), (1, .int k41_l1), (2, .int k41_l2), (4, .int k41_l4)] [0, 1, 2, 4] rfl ?_
            exact J_67 k41_undos k41_kept k41_s k41_l1 k41_l2 k41_l4 (0 : Int32) hf
          · have hf := if_f hf c_39
            refine x_lv [(0, .ref a_this), (1, .int k41_l1), (2, .int k41_l2), (4, .int k41_l4)] [0, 1, 2, 4] rfl ?_
            exact J_62 k41_undos k41_kept k41_s k41_l1 k41_l2 k41_l4 hf
  have J_37 : ∀ (k37_undos : Int32) (k37_kept : Nat → Int64) (k37_s : Nat → Int64) (k37_l1 : Int32) (k37_l2 : Int32) (k37_s0 : Int32), f_X8_leave_c37 k37_undos k37_kept k37_s k37_l1 k37_l2 k37_s0 = some R0 → XW p l e ({ frames := 4, cells := 0, slots := 0, locals := 133 } : Room) s m args below meth c D A 5 0 0 Q [(a_this, .inr (8, [.ref a_s, .ref a_kept, .int k37_undos, r_known, r_whose, r_lesser, r_other, .int v_open, r_sums, r_weights, r_row, r_plan, .int v_planned])), (a_kept, .inl (cJ, 12260, .inr (.inl k37_kept))), (a_s, .inl (cJ, 613, .inr (.inl k37_s)))] [] [(0, .ref a_this), (1, .int k37_l1), (2, .int k37_l2)] 37 [.int k37_s0] := by
    intro k37_undos k37_kept k37_s k37_l1 k37_l2 k37_s0 hf
    unfold f_X8_leave_c37 at hf
    refine x_istore_n 38 [(3, .int k37_s0), (0, .ref a_this), (1, .int k37_l1), (2, .int k37_l2)] hC dX8_leave_37 rfl rfl rfl (by decide) rfl ?_
    refine x_iconst 39 hC (0 : Int32) dX8_leave_38 rfl (by decide) ?_
    refine x_istore 41 [(4, .int (0 : Int32)), (3, .int k37_s0), (0, .ref a_this), (1, .int k37_l1), (2, .int k37_l2)] hC dX8_leave_39 rfl rfl (by decide) rfl ?_
    refine x_lv [(0, .ref a_this), (1, .int k37_l1), (2, .int k37_l2), (3, .int k37_s0), (4, .int (0 : Int32))] [2, 3, 4, 1, 0] rfl ?_
    exact J_41 fu k37_undos k37_kept k37_s k37_l1 k37_l2 k37_s0 (0 : Int32) hf
  unfold f_X8_leave at hf
  refine x_aload_n 1 0 hC dX8_leave_0 rfl rfl rfl ?_
  refine x_iload_n 2 1 hC dX8_leave_1 rfl rfl rfl ?_
  obtain ⟨R_40, h_R_40, hf⟩ := bd_e hf
  refine x_callVi 5 0 1 [0, 2] [(a_this, .inr (8, [.ref a_s, .ref a_kept, .int v_undos, r_known, r_whose, r_lesser, r_other, .int v_open, r_sums, r_weights, r_row, r_plan, .int v_planned])), (a_kept, .inl (cJ, 12260, .inr (.inl v_kept))), (a_s, .inl (cJ, 613, .inr (.inl v_s)))] hC (As := [.int p1]) (c_X8_isHere l D cI cJ cQ a_this a_s (.ref a_kept) r_known r_whose r_lesser r_other r_sums r_weights r_row r_plan v_undos v_open v_planned v_s p1 R_40 h_R_40) rfl rfl gX8_leave_X8_isHere rfl ⟨rfl, rfl⟩ hd_X8_isHere ⟨Nat.le_of_ble_eq_true rfl, Nat.le_of_ble_eq_true rfl⟩ rfl rfl rfl rfl rfl rfl (Nat.le_of_ble_eq_true rfl) ⟨Nat.le_of_ble_eq_true rfl, Nat.le_of_ble_eq_true rfl⟩ dX8_leave_2 rfl ?_
  refine x_if_eq 21 8 hC dX8_leave_5 (by decide) rfl (fun c_41 => ?_) (fun c_41 => ?_)
  · have hf := if_t hf c_41
    refine x_iconst 22 hC (-1 : Int32) dX8_leave_21 rfl (by decide) ?_
    cases hf
    exact x_iret hC dX8_leave_22 hQ rfl rfl
  · have hf := if_f hf c_41
    refine x_aload_n 9 0 hC dX8_leave_8 rfl rfl rfl ?_
    refine x_iload_n 10 2 hC dX8_leave_9 rfl rfl rfl ?_
    obtain ⟨R_42, h_R_42, hf⟩ := bd_e hf
    refine x_callVi 13 0 1 [0, 2] [(a_this, .inr (8, [.ref a_s, .ref a_kept, .int v_undos, r_known, r_whose, r_lesser, r_other, .int v_open, r_sums, r_weights, r_row, r_plan, .int v_planned])), (a_kept, .inl (cJ, 12260, .inr (.inl v_kept))), (a_s, .inl (cJ, 613, .inr (.inl v_s)))] hC (As := [.int p2]) (c_X8_isHere l D cI cJ cQ a_this a_s (.ref a_kept) r_known r_whose r_lesser r_other r_sums r_weights r_row r_plan v_undos v_open v_planned v_s p2 R_42 h_R_42) rfl rfl gX8_leave_X8_isHere rfl ⟨rfl, rfl⟩ hd_X8_isHere ⟨Nat.le_of_ble_eq_true rfl, Nat.le_of_ble_eq_true rfl⟩ rfl rfl rfl rfl rfl rfl (Nat.le_of_ble_eq_true rfl) ⟨Nat.le_of_ble_eq_true rfl, Nat.le_of_ble_eq_true rfl⟩ dX8_leave_10 rfl ?_
    refine x_if_eq 21 16 hC dX8_leave_13 (by decide) rfl (fun c_43 => ?_) (fun c_43 => ?_)
    · have hf := if_t hf c_43
      refine x_iconst 22 hC (-1 : Int32) dX8_leave_21 rfl (by decide) ?_
      cases hf
      exact x_iret hC dX8_leave_22 hQ rfl rfl
    · have hf := if_f hf c_43
      refine x_iload_n 17 1 hC dX8_leave_16 rfl rfl rfl ?_
      refine x_iload_n 18 2 hC dX8_leave_17 rfl rfl rfl ?_
      refine x_icmp_ne 23 21 hC dX8_leave_18 (by decide) rfl (fun c_44 => ?_) (fun c_44 => ?_)
      · have hf := if_t hf c_44
        refine x_aload_n 24 0 hC dX8_leave_23 rfl rfl rfl ?_
        refine x_iload_n 25 1 hC dX8_leave_24 rfl rfl rfl ?_
        refine x_iload_n 26 2 hC dX8_leave_25 rfl rfl rfl ?_
        obtain ⟨R_45, h_R_45, hf⟩ := bd_e hf
        refine x_callVi 29 0 2 [0, 2] [(a_this, .inr (8, [.ref a_s, .ref a_kept, .int v_undos, r_known, r_whose, r_lesser, r_other, .int v_open, r_sums, r_weights, r_row, r_plan, .int v_planned])), (a_kept, .inl (cJ, 12260, .inr (.inl v_kept))), (a_s, .inl (cJ, 613, .inr (.inl v_s)))] hC (As := [.int p1, .int p2]) (c_X8_areJoined l D cI cJ cQ a_this a_s (.ref a_kept) r_known r_whose r_lesser r_other r_sums r_weights r_row r_plan v_undos v_open v_planned v_s p1 p2 R_45 h_R_45) rfl rfl gX8_leave_X8_areJoined rfl ⟨rfl, rfl⟩ hd_X8_areJoined ⟨Nat.le_of_ble_eq_true rfl, Nat.le_of_ble_eq_true rfl⟩ rfl rfl rfl rfl rfl rfl (Nat.le_of_ble_eq_true rfl) ⟨Nat.le_of_ble_eq_true rfl, Nat.le_of_ble_eq_true rfl⟩ dX8_leave_26 rfl ?_
        refine x_if_ne 36 32 hC dX8_leave_29 (by decide) rfl (fun c_46 => ?_) (fun c_46 => ?_)
        · have hf := if_t hf c_46
          refine x_iconst 37 hC (0 : Int32) dX8_leave_36 rfl (by decide) ?_
          refine x_lv [(0, .ref a_this), (1, .int p1), (2, .int p2)] [0, 1, 2] rfl ?_
          exact J_37 v_undos v_kept v_s p1 p2 (0 : Int32) hf
        · have hf := if_f hf c_46
          refine x_iconst 33 hC (1 : Int32) dX8_leave_32 rfl (by decide) ?_
          refine x_goto 37 hC dX8_leave_33 (by decide) ?_
          refine x_lv [(0, .ref a_this), (1, .int p1), (2, .int p2)] [0, 1, 2] rfl ?_
          exact J_37 v_undos v_kept v_s p1 p2 (1 : Int32) hf
      · have hf := if_f hf c_44
        refine x_iconst 22 hC (-1 : Int32) dX8_leave_21 rfl (by decide) ?_
        cases hf
        exact x_iret hC dX8_leave_22 hQ rfl rfl
