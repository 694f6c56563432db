theorem hd_X3_at : yX3_at.cls = RX3 ∧ yX3_at.cls ≠ "java/lang/invoke/MethodHandle" ∧ yX3_at.cls ≠ "java/lang/invoke/VarHandle" ∧ (parseMethodDescriptor yX3_at.desc).map (fun d => d.parameters.length) = some 2 := by decide +kernel
theorem in_X3_at_X3 : ∀ w ∈ u_ws RX3 TX3 2, w ∈ wsX3_at := fun w h => List.mem_cons_of_mem _ (List.mem_append_right _ h)
noncomputable def f_X3_at (N_this : Nat) (v_sums : Nat → Int64) (v_weights : Nat → Int64) (p1 : Int32) (p2 : Int32) : Option (Int64) := if p2 = 0 then (ck p1 N_this <| some ((v_sums p1.toNatClampNeg))) else (ck p1 N_this <| some ((v_weights p1.toNatClampNeg)))
set_option maxHeartbeats 4000000 in
set_option maxRecDepth 100000 in
theorem c_X3_at (l : Launch) (D : va_G) (cI cJ cQ : ClassId) (a_this : Nat) (a_sums : Nat) (a_weights : Nat) (N_this : Nat) (v_sums : Nat → Int64) (v_weights : Nat → Int64) (p1 : Int32) (p2 : Int32) (R0 : Int64) (hf : f_X3_at N_this v_sums v_weights p1 p2 = some R0) : Cl l yX3_at wsX3_at ({ frames := 1, cells := 0, slots := 0, locals := 60 } : Room) D [(cI, .int), (cJ, .long), (cQ, .object "WhisperCrowd$State")] [.ref a_this, .int p1, .int p2] [(a_this, .inr (3, [.ref a_sums, .ref a_weights])), (a_sums, .inl (cJ, N_this, .inr (.inl v_sums))), (a_weights, .inl (cJ, N_this, .inr (.inl v_weights)))] [(a_this, .inr (3, [.ref a_sums, .ref a_weights])), (a_sums, .inl (cJ, N_this, .inr (.inl v_sums))), (a_weights, .inl (cJ, N_this, .inr (.inl v_weights)))] R0 := by
  refine x_entl (cc := cX3_at) (maxL := 3) (rt := (some .long)) (lv := [(0, .ref a_this), (1, .int p1), (2, .int p2)]) (by decide) rfl (Nat.le_of_ble_eq_true rfl) rfl ?_
  intro p e s m args below meth c A Q hQ hC
  unfold f_X3_at at hf
  refine x_iload_n 1 2 hC dX3_at_0 rfl rfl rfl ?_
  refine x_if_eq 13 4 hC dX3_at_1 (by decide) rfl (fun c_1 => ?_) (fun c_1 => ?_)
  · have hf := if_t hf c_1
    refine x_aload_n 14 0 hC dX3_at_13 rfl rfl rfl ?_
    refine x_get 17 0 0 hC in_X3_at_X3 rfl rfl (by decide) (List.mem_of_getElem? (i := 2) (by decide +kernel)) rfl rfl dX3_at_14 rfl ?_
    refine x_iload_n 18 1 hC dX3_at_17 rfl rfl rfl ?_
    obtain ⟨h_2, hf⟩ := ck_e hf
    refine x_lald 19 1 1 hC rfl rfl h_2 dX3_at_18 rfl ?_
    cases hf
    exact x_lret hC dX3_at_19 hQ rfl rfl
  · have hf := if_f hf c_1
    refine x_aload_n 5 0 hC dX3_at_4 rfl rfl rfl ?_
    refine x_get 8 0 1 hC in_X3_at_X3 rfl rfl (by decide) (List.mem_of_getElem? (i := 1) (by decide +kernel)) rfl rfl dX3_at_5 rfl ?_
    refine x_iload_n 9 1 hC dX3_at_8 rfl rfl rfl ?_
    obtain ⟨h_3, hf⟩ := ck_e hf
    refine x_lald 10 2 1 hC rfl rfl h_3 dX3_at_9 rfl ?_
    refine x_goto 19 hC dX3_at_10 (by decide) ?_
    cases hf
    exact x_lret hC dX3_at_19 hQ rfl rfl

theorem hd_X3_put : yX3_put.cls = RX3 ∧ yX3_put.cls ≠ "java/lang/invoke/MethodHandle" ∧ yX3_put.cls ≠ "java/lang/invoke/VarHandle" ∧ (parseMethodDescriptor yX3_put.desc).map (fun d => d.parameters.length) = some 3 := by decide +kernel
theorem in_X3_put_X3 : ∀ w ∈ u_ws RX3 TX3 2, w ∈ wsX3_put := fun w h => List.mem_cons_of_mem _ (List.mem_append_right _ h)
noncomputable def f_X3_put (N_this : Nat) (v_sums : Nat → Int64) (v_weights : Nat → Int64) (p1 : Int32) (p2 : Int64) (p3 : Int64) : Option ((Nat → Int64) × (Nat → Int64)) := ck p1 N_this <| nm (vp_updL v_sums p1.toNatClampNeg p2) fun g_2 => ck p1 N_this <| nm (vp_updL v_weights p1.toNatClampNeg p3) fun g_4 => some (g_2, g_4)
set_option maxHeartbeats 4000000 in
set_option maxRecDepth 100000 in
theorem c_X3_put (l : Launch) (D : va_G) (cI cJ cQ : ClassId) (a_this : Nat) (a_sums : Nat) (a_weights : Nat) (N_this : Nat) (v_sums : Nat → Int64) (v_weights : Nat → Int64) (p1 : Int32) (p2 : Int64) (p3 : Int64) (R0 : (Nat → Int64) × (Nat → Int64)) (hf : f_X3_put N_this v_sums v_weights p1 p2 p3 = some R0) : Cv l yX3_put wsX3_put ({ frames := 1, cells := 0, slots := 0, locals := 60 } : Room) D [(cI, .int), (cJ, .long), (cQ, .object "WhisperCrowd$State")] [.ref a_this, .int p1, .long p2, .long p3] [(a_this, .inr (3, [.ref a_sums, .ref a_weights])), (a_sums, .inl (cJ, N_this, .inr (.inl v_sums))), (a_weights, .inl (cJ, N_this, .inr (.inl v_weights)))] [(a_this, .inr (3, [.ref a_sums, .ref a_weights])), (a_sums, .inl (cJ, N_this, .inr (.inl R0.1))), (a_weights, .inl (cJ, N_this, .inr (.inl R0.2)))] := by
  refine x_entv (cc := cX3_put) (maxL := 6) (rt := none) (lv := [(0, .ref a_this), (1, .int p1), (2, .long p2), (4, .long p3)]) (by decide) rfl (Nat.le_of_ble_eq_true rfl) rfl ?_
  intro p e s m args below meth c A Q hQ hC
  unfold f_X3_put at hf
  refine x_aload_n 1 0 hC dX3_put_0 rfl rfl rfl ?_
  refine x_get 4 0 0 hC in_X3_put_X3 rfl rfl (by decide) (List.mem_of_getElem? (i := 1) (by decide +kernel)) rfl rfl dX3_put_1 rfl ?_
  refine x_iload_n 5 1 hC dX3_put_4 rfl rfl rfl ?_
  refine x_lload_n 6 2 hC dX3_put_5 rfl rfl rfl ?_
  obtain ⟨h_1, hf⟩ := ck_e hf
  obtain ⟨g_2, e_g_2, hf⟩ := nmx_e hf
  refine x_last 7 1 1 [(a_this, .inr (3, [.ref a_sums, .ref a_weights])), (a_sums, .inl (cJ, N_this, .inr (.inl g_2))), (a_weights, .inl (cJ, N_this, .inr (.inl v_weights)))] hC rfl rfl h_1 e_g_2 rfl dX3_put_6 rfl ?_
  refine x_aload_n 8 0 hC dX3_put_7 rfl rfl rfl ?_
  refine x_get 11 0 1 hC in_X3_put_X3 rfl rfl (by decide) (List.mem_of_getElem? (i := 2) (by decide +kernel)) rfl rfl dX3_put_8 rfl ?_
  refine x_iload_n 12 1 hC dX3_put_11 rfl rfl rfl ?_
  refine x_lload 14 3 hC dX3_put_12 rfl rfl ?_
  obtain ⟨h_3, hf⟩ := ck_e hf
  obtain ⟨g_4, e_g_4, hf⟩ := nmx_e hf
  refine x_last 15 2 1 [(a_this, .inr (3, [.ref a_sums, .ref a_weights])), (a_sums, .inl (cJ, N_this, .inr (.inl g_2))), (a_weights, .inl (cJ, N_this, .inr (.inl g_4)))] hC rfl rfl h_3 e_g_4 rfl dX3_put_14 rfl ?_
  cases hf
  exact x_vret hC dX3_put_15 hQ rfl

theorem hd_X3_add : yX3_add.cls = RX3 ∧ yX3_add.cls ≠ "java/lang/invoke/MethodHandle" ∧ yX3_add.cls ≠ "java/lang/invoke/VarHandle" ∧ (parseMethodDescriptor yX3_add.desc).map (fun d => d.parameters.length) = some 3 := by decide +kernel
theorem in_X3_add_X3 : ∀ w ∈ u_ws RX3 TX3 2, w ∈ wsX3_add := fun w h => List.mem_cons_of_mem _ (List.mem_append_right _ h)
noncomputable def f_X3_add (N_this : Nat) (v_sums : Nat → Int64) (v_weights : Nat → Int64) (p1 : Int32) (p2 : Int64) (p3 : Int64) : Option ((Nat → Int64) × (Nat → Int64)) := ck p1 N_this <| ck p1 N_this <| nm (vp_updL v_sums p1.toNatClampNeg ((v_sums p1.toNatClampNeg) + p2)) fun g_3 => ck p1 N_this <| ck p1 N_this <| nm (vp_updL v_weights p1.toNatClampNeg ((v_weights p1.toNatClampNeg) + p3)) fun g_6 => some (g_3, g_6)
set_option maxHeartbeats 4000000 in
set_option maxRecDepth 100000 in
theorem c_X3_add (l : Launch) (D : va_G) (cI cJ cQ : ClassId) (a_this : Nat) (a_sums : Nat) (a_weights : Nat) (N_this : Nat) (v_sums : Nat → Int64) (v_weights : Nat → Int64) (p1 : Int32) (p2 : Int64) (p3 : Int64) (R0 : (Nat → Int64) × (Nat → Int64)) (hf : f_X3_add N_this v_sums v_weights p1 p2 p3 = some R0) : Cv l yX3_add wsX3_add ({ frames := 1, cells := 0, slots := 0, locals := 60 } : Room) D [(cI, .int), (cJ, .long), (cQ, .object "WhisperCrowd$State")] [.ref a_this, .int p1, .long p2, .long p3] [(a_this, .inr (3, [.ref a_sums, .ref a_weights])), (a_sums, .inl (cJ, N_this, .inr (.inl v_sums))), (a_weights, .inl (cJ, N_this, .inr (.inl v_weights)))] [(a_this, .inr (3, [.ref a_sums, .ref a_weights])), (a_sums, .inl (cJ, N_this, .inr (.inl R0.1))), (a_weights, .inl (cJ, N_this, .inr (.inl R0.2)))] := by
  refine x_entv (cc := cX3_add) (maxL := 6) (rt := none) (lv := [(0, .ref a_this), (1, .int p1), (2, .long p2), (4, .long p3)]) (by decide) rfl (Nat.le_of_ble_eq_true rfl) rfl ?_
  intro p e s m args below meth c A Q hQ hC
  unfold f_X3_add at hf
  refine x_aload_n 1 0 hC dX3_add_0 rfl rfl rfl ?_
  refine x_get 4 0 0 hC in_X3_add_X3 rfl rfl (by decide) (List.mem_of_getElem? (i := 1) (by decide +kernel)) rfl rfl dX3_add_1 rfl ?_
  refine x_iload_n 5 1 hC dX3_add_4 rfl rfl rfl ?_
  refine x_dup2_11 6 hC dX3_add_5 rfl rfl rfl ?_
  obtain ⟨h_1, hf⟩ := ck_e hf
  refine x_lald 7 1 1 hC rfl rfl h_1 dX3_add_6 rfl ?_
  refine x_lload_n 8 2 hC dX3_add_7 rfl rfl rfl ?_
  refine x_ladd 9 hC dX3_add_8 rfl ?_
  obtain ⟨h_2, hf⟩ := ck_e hf
  obtain ⟨g_3, e_g_3, hf⟩ := nmx_e hf
  refine x_last 10 1 1 [(a_this, .inr (3, [.ref a_sums, .ref a_weights])), (a_sums, .inl (cJ, N_this, .inr (.inl g_3))), (a_weights, .inl (cJ, N_this, .inr (.inl v_weights)))] hC rfl rfl h_2 e_g_3 rfl dX3_add_9 rfl ?_
  refine x_aload_n 11 0 hC dX3_add_10 rfl rfl rfl ?_
  refine x_get 14 0 1 hC in_X3_add_X3 rfl rfl (by decide) (List.mem_of_getElem? (i := 2) (by decide +kernel)) rfl rfl dX3_add_11 rfl ?_
  refine x_iload_n 15 1 hC dX3_add_14 rfl rfl rfl ?_
  refine x_dup2_11 16 hC dX3_add_15 rfl rfl rfl ?_
  obtain ⟨h_4, hf⟩ := ck_e hf
  refine x_lald 17 2 1 hC rfl rfl h_4 dX3_add_16 rfl ?_
  refine x_lload 19 3 hC dX3_add_17 rfl rfl ?_
  refine x_ladd 20 hC dX3_add_19 rfl ?_
  obtain ⟨h_5, hf⟩ := ck_e hf
  obtain ⟨g_6, e_g_6, hf⟩ := nmx_e hf
  refine x_last 21 2 1 [(a_this, .inr (3, [.ref a_sums, .ref a_weights])), (a_sums, .inl (cJ, N_this, .inr (.inl g_3))), (a_weights, .inl (cJ, N_this, .inr (.inl g_6)))] hC rfl rfl h_5 e_g_6 rfl dX3_add_20 rfl ?_
  cases hf
  exact x_vret hC dX3_add_21 hQ rfl

theorem hd_X3_addFrom : yX3_addFrom.cls = RX3 ∧ yX3_addFrom.cls ≠ "java/lang/invoke/MethodHandle" ∧ yX3_addFrom.cls ≠ "java/lang/invoke/VarHandle" ∧ (parseMethodDescriptor yX3_addFrom.desc).map (fun d => d.parameters.length) = some 3 := by decide +kernel
theorem in_X3_addFrom_X3 : ∀ w ∈ u_ws RX3 TX3 2, w ∈ wsX3_addFrom := fun w h => List.mem_cons_of_mem _ (List.mem_append_right _ h)
noncomputable def f_X3_addFrom (N_p2 : Nat) (N_this : Nat) (v_p2_sums : Nat → Int64) (v_p2_weights : Nat → Int64) (v_sums : Nat → Int64) (v_weights : Nat → Int64) (p1 : Int32) (p3 : Int32) : Option ((Nat → Int64) × (Nat → Int64)) := ck p3 N_p2 <| ck p3 N_p2 <| bd (f_X3_add N_this v_sums v_weights p1 (v_p2_sums p3.toNatClampNeg) (v_p2_weights p3.toNatClampNeg)) fun R_3 => some (R_3.1, R_3.2)
set_option maxHeartbeats 4000000 in
set_option maxRecDepth 100000 in
theorem c_X3_addFrom (l : Launch) (D : va_G) (cI cJ cQ : ClassId) (a_p2 : Nat) (a_p2_sums : Nat) (a_p2_weights : Nat) (a_this : Nat) (a_sums : Nat) (a_weights : Nat) (N_p2 : Nat) (N_this : Nat) (v_p2_sums : Nat → Int64) (v_p2_weights : Nat → Int64) (v_sums : Nat → Int64) (v_weights : Nat → Int64) (p1 : Int32) (p3 : Int32) (R0 : (Nat → Int64) × (Nat → Int64)) (hf : f_X3_addFrom N_p2 N_this v_p2_sums v_p2_weights v_sums v_weights p1 p3 = some R0) : Cv l yX3_addFrom wsX3_addFrom ({ frames := 2, cells := 0, slots := 0, locals := 87 } : Room) D [(cI, .int), (cJ, .long), (cQ, .object "WhisperCrowd$State")] [.ref a_this, .int p1, .ref a_p2, .int p3] [(a_p2, .inr (3, [.ref a_p2_sums, .ref a_p2_weights])), (a_p2_sums, .inl (cJ, N_p2, .inr (.inl v_p2_sums))), (a_p2_weights, .inl (cJ, N_p2, .inr (.inl v_p2_weights))), (a_this, .inr (3, [.ref a_sums, .ref a_weights])), (a_sums, .inl (cJ, N_this, .inr (.inl v_sums))), (a_weights, .inl (cJ, N_this, .inr (.inl v_weights)))] [(a_p2, .inr (3, [.ref a_p2_sums, .ref a_p2_weights])), (a_p2_sums, .inl (cJ, N_p2, .inr (.inl v_p2_sums))), (a_p2_weights, .inl (cJ, N_p2, .inr (.inl v_p2_weights))), (a_this, .inr (3, [.ref a_sums, .ref a_weights])), (a_sums, .inl (cJ, N_this, .inr (.inl R0.1))), (a_weights, .inl (cJ, N_this, .inr (.inl R0.2)))] := by
  refine x_entv (cc := cX3_addFrom) (maxL := 4) (rt := none) (lv := [(0, .ref a_this), (1, .int p1), (2, .ref a_p2), (3, .int p3)]) (by decide) rfl (Nat.le_of_ble_eq_true rfl) rfl ?_
  intro p e s m args below meth c A Q hQ hC
  unfold f_X3_addFrom at hf
  refine x_aload_n 1 0 hC dX3_addFrom_0 rfl rfl rfl ?_
  refine x_iload_n 2 1 hC dX3_addFrom_1 rfl rfl rfl ?_
  refine x_aload_n 3 2 hC dX3_addFrom_2 rfl rfl rfl ?_
  refine x_get 6 0 0 hC in_X3_addFrom_X3 rfl rfl (by decide) (List.mem_of_getElem? (i := 1) (by decide +kernel)) rfl rfl dX3_addFrom_3 rfl ?_
  refine x_iload_n 7 3 hC dX3_addFrom_6 rfl rfl rfl ?_
  obtain ⟨h_1, hf⟩ := ck_e hf
  refine x_lald 8 1 1 hC rfl rfl h_1 dX3_addFrom_7 rfl ?_
  refine x_aload_n 9 2 hC dX3_addFrom_8 rfl rfl rfl ?_
  refine x_get 12 0 1 hC in_X3_addFrom_X3 rfl rfl (by decide) (List.mem_of_getElem? (i := 2) (by decide +kernel)) rfl rfl dX3_addFrom_9 rfl ?_
  refine x_iload_n 13 3 hC dX3_addFrom_12 rfl rfl rfl ?_
  obtain ⟨h_2, hf⟩ := ck_e hf
  refine x_lald 14 2 1 hC rfl rfl h_2 dX3_addFrom_13 rfl ?_
  obtain ⟨R_3, h_R_3, hf⟩ := bd_e hf
  refine x_callVv 17 0 3 [3, 4, 5] [(a_p2, .inr (3, [.ref a_p2_sums, .ref a_p2_weights])), (a_p2_sums, .inl (cJ, N_p2, .inr (.inl v_p2_sums))), (a_p2_weights, .inl (cJ, N_p2, .inr (.inl v_p2_weights))), (a_this, .inr (3, [.ref a_sums, .ref a_weights])), (a_sums, .inl (cJ, N_this, .inr (.inl R_3.1))), (a_weights, .inl (cJ, N_this, .inr (.inl R_3.2)))] hC (As := [.int p1, .long (v_p2_sums p3.toNatClampNeg), .long (v_p2_weights p3.toNatClampNeg)]) (c_X3_add l D cI cJ cQ a_this a_sums a_weights N_this v_sums v_weights p1 (v_p2_sums p3.toNatClampNeg) (v_p2_weights p3.toNatClampNeg) R_3 h_R_3) rfl rfl gX3_addFrom_X3_add rfl ⟨rfl, rfl⟩ hd_X3_add ⟨Nat.le_of_ble_eq_true rfl, Nat.le_of_ble_eq_true rfl⟩ rfl rfl rfl rfl rfl rfl (Nat.le_of_ble_eq_true rfl) ⟨Nat.le_of_ble_eq_true rfl, Nat.le_of_ble_eq_true rfl⟩ dX3_addFrom_14 rfl ?_
  cases hf
  exact x_vret hC dX3_addFrom_17 hQ rfl

theorem hd_X3_even : yX3_even.cls = RX3 ∧ yX3_even.cls ≠ "java/lang/invoke/MethodHandle" ∧ yX3_even.cls ≠ "java/lang/invoke/VarHandle" ∧ (parseMethodDescriptor yX3_even.desc).map (fun d => d.parameters.length) = some 2 := by decide +kernel
theorem in_X3_even_X3 : ∀ w ∈ u_ws RX3 TX3 2, w ∈ wsX3_even := fun w h => List.mem_cons_of_mem _ (List.mem_append_right _ h)
noncomputable def f_X3_even (N_this : Nat) (v_sums : Nat → Int64) (v_weights : Nat → Int64) (p1 : Int32) (p2 : Int32) : Option ((Nat → Int64) × (Nat → Int64)) := ck p1 N_this <| ck p2 N_this <| nm ((v_sums p1.toNatClampNeg) + (v_sums p2.toNatClampNeg)) fun x_3 => ck p1 N_this <| ck p2 N_this <| nm ((v_weights p1.toNatClampNeg) + (v_weights p2.toNatClampNeg)) fun x_6 => bd (f_X3_put N_this v_sums v_weights p2 (x_3 >>> ((1 : Int32).toInt64 &&& 63)) (x_6 >>> ((1 : Int32).toInt64 &&& 63))) fun R_7 => ck p2 N_this <| ck p2 N_this <| bd (f_X3_put N_this R_7.1 R_7.2 p1 (x_3 - (R_7.1 p2.toNatClampNeg)) (x_6 - (R_7.2 p2.toNatClampNeg))) fun R_10 => some (R_10.1, R_10.2)
set_option maxHeartbeats 4000000 in
set_option maxRecDepth 100000 in
theorem c_X3_even (l : Launch) (D : va_G) (cI cJ cQ : ClassId) (a_this : Nat) (a_sums : Nat) (a_weights : Nat) (N_this : Nat) (v_sums : Nat → Int64) (v_weights : Nat → Int64) (p1 : Int32) (p2 : Int32) (R0 : (Nat → Int64) × (Nat → Int64)) (hf : f_X3_even N_this v_sums v_weights p1 p2 = some R0) : Cv l yX3_even wsX3_even ({ frames := 2, cells := 0, slots := 0, locals := 87 } : Room) D [(cI, .int), (cJ, .long), (cQ, .object "WhisperCrowd$State")] [.ref a_this, .int p1, .int p2] [(a_this, .inr (3, [.ref a_sums, .ref a_weights])), (a_sums, .inl (cJ, N_this, .inr (.inl v_sums))), (a_weights, .inl (cJ, N_this, .inr (.inl v_weights)))] [(a_this, .inr (3, [.ref a_sums, .ref a_weights])), (a_sums, .inl (cJ, N_this, .inr (.inl R0.1))), (a_weights, .inl (cJ, N_this, .inr (.inl R0.2)))] := by
  refine x_entv (cc := cX3_even) (maxL := 7) (rt := none) (lv := [(0, .ref a_this), (1, .int p1), (2, .int p2)]) (by decide) rfl (Nat.le_of_ble_eq_true rfl) rfl ?_
  intro p e s m args below meth c A Q hQ hC
  unfold f_X3_even at hf
  refine x_aload_n 1 0 hC dX3_even_0 rfl rfl rfl ?_
  refine x_get 4 0 0 hC in_X3_even_X3 rfl rfl (by decide) (List.mem_of_getElem? (i := 1) (by decide +kernel)) rfl rfl dX3_even_1 rfl ?_
  refine x_iload_n 5 1 hC dX3_even_4 rfl rfl rfl ?_
  obtain ⟨h_1, hf⟩ := ck_e hf
  refine x_lald 6 1 1 hC rfl rfl h_1 dX3_even_5 rfl ?_
  refine x_aload_n 7 0 hC dX3_even_6 rfl rfl rfl ?_
  refine x_get 10 0 0 hC in_X3_even_X3 rfl rfl (by decide) (List.mem_of_getElem? (i := 1) (by decide +kernel)) rfl rfl dX3_even_7 rfl ?_
  refine x_iload_n 11 2 hC dX3_even_10 rfl rfl rfl ?_
  obtain ⟨h_2, hf⟩ := ck_e hf
  refine x_lald 12 1 1 hC rfl rfl h_2 dX3_even_11 rfl ?_
  refine x_ladd 13 hC dX3_even_12 rfl ?_
  obtain ⟨x_3, e_x_3, hf⟩ := nmx_e hf
  refine x_lstore_n 14 [(3, .long x_3), (0, .ref a_this), (1, .int p1), (2, .int p2)] hC dX3_even_13 rfl rfl e_x_3 (by decide) rfl ?_
  refine x_aload_n 15 1 hC dX3_even_14 rfl rfl rfl ?_
  refine x_get 18 0 1 hC in_X3_even_X3 rfl rfl (by decide) (List.mem_of_getElem? (i := 2) (by decide +kernel)) rfl rfl dX3_even_15 rfl ?_
  refine x_iload_n 19 2 hC dX3_even_18 rfl rfl rfl ?_
  obtain ⟨h_4, hf⟩ := ck_e hf
  refine x_lald 20 2 1 hC rfl rfl h_4 dX3_even_19 rfl ?_
  refine x_aload_n 21 1 hC dX3_even_20 rfl rfl rfl ?_
  refine x_get 24 0 1 hC in_X3_even_X3 rfl rfl (by decide) (List.mem_of_getElem? (i := 2) (by decide +kernel)) rfl rfl dX3_even_21 rfl ?_
  refine x_iload_n 25 3 hC dX3_even_24 rfl rfl rfl ?_
  obtain ⟨h_5, hf⟩ := ck_e hf
  refine x_lald 26 2 1 hC rfl rfl h_5 dX3_even_25 rfl ?_
  refine x_ladd 27 hC dX3_even_26 rfl ?_
  obtain ⟨x_6, e_x_6, hf⟩ := nmx_e hf
  refine x_lstore 29 [(5, .long x_6), (3, .long x_3), (0, .ref a_this), (1, .int p1), (2, .int p2)] hC dX3_even_27 rfl e_x_6 (by decide) rfl ?_
  refine x_aload_n 30 2 hC dX3_even_29 rfl rfl rfl ?_
  refine x_iload_n 31 4 hC dX3_even_30 rfl rfl rfl ?_
  refine x_lload_n 32 1 hC dX3_even_31 rfl rfl rfl ?_
  refine x_iconst 33 hC (1 : Int32) dX3_even_32 rfl (by decide) ?_
  refine x_lshr 34 hC dX3_even_33 rfl ?_
  refine x_lload 36 0 hC dX3_even_34 rfl rfl ?_
  refine x_iconst 37 hC (1 : Int32) dX3_even_36 rfl (by decide) ?_
  refine x_lshr 38 hC dX3_even_37 rfl ?_
  obtain ⟨R_7, h_R_7, hf⟩ := bd_e hf
  refine x_callVv 41 0 3 [0, 1, 2] [(a_this, .inr (3, [.ref a_sums, .ref a_weights])), (a_sums, .inl (cJ, N_this, .inr (.inl R_7.1))), (a_weights, .inl (cJ, N_this, .inr (.inl R_7.2)))] hC (As := [.int p2, .long (x_3 >>> ((1 : Int32).toInt64 &&& 63)), .long (x_6 >>> ((1 : Int32).toInt64 &&& 63))]) (c_X3_put l D cI cJ cQ a_this a_sums a_weights N_this v_sums v_weights p2 (x_3 >>> ((1 : Int32).toInt64 &&& 63)) (x_6 >>> ((1 : Int32).toInt64 &&& 63)) R_7 h_R_7) rfl rfl gX3_even_X3_put rfl ⟨rfl, rfl⟩ hd_X3_put ⟨Nat.le_of_ble_eq_true rfl, Nat.le_of_ble_eq_true rfl⟩ rfl rfl rfl rfl rfl rfl (Nat.le_of_ble_eq_true rfl) ⟨Nat.le_of_ble_eq_true rfl, Nat.le_of_ble_eq_true rfl⟩ dX3_even_38 rfl ?_
  refine x_aload_n 42 2 hC dX3_even_41 rfl rfl rfl ?_
  refine x_iload_n 43 3 hC dX3_even_42 rfl rfl rfl ?_
  refine x_lload_n 44 1 hC dX3_even_43 rfl rfl rfl ?_
  refine x_aload_n 45 2 hC dX3_even_44 rfl rfl rfl ?_
  refine x_get 48 0 0 hC in_X3_even_X3 rfl rfl (by decide) (List.mem_of_getElem? (i := 1) (by decide +kernel)) rfl rfl dX3_even_45 rfl ?_
  refine x_iload_n 49 4 hC dX3_even_48 rfl rfl rfl ?_
  obtain ⟨h_8, hf⟩ := ck_e hf
  refine x_lald 50 1 1 hC rfl rfl h_8 dX3_even_49 rfl ?_
  refine x_lsub 51 hC dX3_even_50 rfl ?_
  refine x_lload 53 0 hC dX3_even_51 rfl rfl ?_
  refine x_aload_n 54 2 hC dX3_even_53 rfl rfl rfl ?_
  refine x_get 57 0 1 hC in_X3_even_X3 rfl rfl (by decide) (List.mem_of_getElem? (i := 2) (by decide +kernel)) rfl rfl dX3_even_54 rfl ?_
  refine x_iload_n 58 4 hC dX3_even_57 rfl rfl rfl ?_
  obtain ⟨h_9, hf⟩ := ck_e hf
  refine x_lald 59 2 1 hC rfl rfl h_9 dX3_even_58 rfl ?_
  refine x_lsub 60 hC dX3_even_59 rfl ?_
  obtain ⟨R_10, h_R_10, hf⟩ := bd_e hf
  refine x_callVv 63 0 3 [0, 1, 2] [(a_this, .inr (3, [.ref a_sums, .ref a_weights])), (a_sums, .inl (cJ, N_this, .inr (.inl R_10.1))), (a_weights, .inl (cJ, N_this, .inr (.inl R_10.2)))] hC (As := [.int p1, .long (x_3 - (R_7.1 p2.toNatClampNeg)), .long (x_6 - (R_7.2 p2.toNatClampNeg))]) (c_X3_put l D cI cJ cQ a_this a_sums a_weights N_this R_7.1 R_7.2 p1 (x_3 - (R_7.1 p2.toNatClampNeg)) (x_6 - (R_7.2 p2.toNatClampNeg)) R_10 h_R_10) rfl rfl gX3_even_X3_put rfl ⟨rfl, rfl⟩ hd_X3_put ⟨Nat.le_of_ble_eq_true rfl, Nat.le_of_ble_eq_true rfl⟩ rfl rfl rfl rfl rfl rfl (Nat.le_of_ble_eq_true rfl) ⟨Nat.le_of_ble_eq_true rfl, Nat.le_of_ble_eq_true rfl⟩ dX3_even_60 rfl ?_
  cases hf
  exact x_vret hC dX3_even_63 hQ rfl

noncomputable def f_X3_addFrom_p2_is_this (N_this : Nat) (v_sums : Nat → Int64) (v_weights : Nat → Int64) (p1 : Int32) (p3 : Int32) : Option ((Nat → Int64) × (Nat → Int64)) := ck p3 N_this <| ck p3 N_this <| bd (f_X3_add N_this v_sums v_weights p1 (v_sums p3.toNatClampNeg) (v_weights p3.toNatClampNeg)) fun R_3 => some (R_3.1, R_3.2)
set_option maxHeartbeats 4000000 in
set_option maxRecDepth 100000 in
theorem c_X3_addFrom_p2_is_this (l : Launch) (D : va_G) (cI cJ cQ : ClassId) (a_this : Nat) (a_sums : Nat) (a_weights : Nat) (N_this : Nat) (v_sums : Nat → Int64) (v_weights : Nat → Int64) (p1 : Int32) (p3 : Int32) (R0 : (Nat → Int64) × (Nat → Int64)) (hf : f_X3_addFrom_p2_is_this N_this v_sums v_weights p1 p3 = some R0) : Cv l yX3_addFrom wsX3_addFrom ({ frames := 2, cells := 0, slots := 0, locals := 87 } : Room) D [(cI, .int), (cJ, .long), (cQ, .object "WhisperCrowd$State")] [.ref a_this, .int p1, .ref a_this, .int p3] [(a_this, .inr (3, [.ref a_sums, .ref a_weights])), (a_sums, .inl (cJ, N_this, .inr (.inl v_sums))), (a_weights, .inl (cJ, N_this, .inr (.inl v_weights)))] [(a_this, .inr (3, [.ref a_sums, .ref a_weights])), (a_sums, .inl (cJ, N_this, .inr (.inl R0.1))), (a_weights, .inl (cJ, N_this, .inr (.inl R0.2)))] := by
  refine x_entv (cc := cX3_addFrom) (maxL := 4) (rt := none) (lv := [(0, .ref a_this), (1, .int p1), (2, .ref a_this), (3, .int p3)]) (by decide) rfl (Nat.le_of_ble_eq_true rfl) rfl ?_
  intro p e s m args below meth c A Q hQ hC
  unfold f_X3_addFrom_p2_is_this at hf
  refine x_aload_n 1 0 hC dX3_addFrom_0 rfl rfl rfl ?_
  refine x_iload_n 2 1 hC dX3_addFrom_1 rfl rfl rfl ?_
  refine x_aload_n 3 2 hC dX3_addFrom_2 rfl rfl rfl ?_
  refine x_get 6 0 0 hC in_X3_addFrom_X3 rfl rfl (by decide) (List.mem_of_getElem? (i := 1) (by decide +kernel)) rfl rfl dX3_addFrom_3 rfl ?_
  refine x_iload_n 7 3 hC dX3_addFrom_6 rfl rfl rfl ?_
  obtain ⟨h_1, hf⟩ := ck_e hf
  refine x_lald 8 1 1 hC rfl rfl h_1 dX3_addFrom_7 rfl ?_
  refine x_aload_n 9 2 hC dX3_addFrom_8 rfl rfl rfl ?_
  refine x_get 12 0 1 hC in_X3_addFrom_X3 rfl rfl (by decide) (List.mem_of_getElem? (i := 2) (by decide +kernel)) rfl rfl dX3_addFrom_9 rfl ?_
  refine x_iload_n 13 3 hC dX3_addFrom_12 rfl rfl rfl ?_
  obtain ⟨h_2, hf⟩ := ck_e hf
  refine x_lald 14 2 1 hC rfl rfl h_2 dX3_addFrom_13 rfl ?_
  obtain ⟨R_3, h_R_3, hf⟩ := bd_e hf
  refine x_callVv 17 0 3 [0, 1, 2] [(a_this, .inr (3, [.ref a_sums, .ref a_weights])), (a_sums, .inl (cJ, N_this, .inr (.inl R_3.1))), (a_weights, .inl (cJ, N_this, .inr (.inl R_3.2)))] hC (As := [.int p1, .long (v_sums p3.toNatClampNeg), .long (v_weights p3.toNatClampNeg)]) (c_X3_add l D cI cJ cQ a_this a_sums a_weights N_this v_sums v_weights p1 (v_sums p3.toNatClampNeg) (v_weights p3.toNatClampNeg) R_3 h_R_3) rfl rfl gX3_addFrom_X3_add rfl ⟨rfl, rfl⟩ hd_X3_add ⟨Nat.le_of_ble_eq_true rfl, Nat.le_of_ble_eq_true rfl⟩ rfl rfl rfl rfl rfl rfl (Nat.le_of_ble_eq_true rfl) ⟨Nat.le_of_ble_eq_true rfl, Nat.le_of_ble_eq_true rfl⟩ dX3_addFrom_14 rfl ?_
  cases hf
  exact x_vret hC dX3_addFrom_17 hQ rfl

theorem hd_X3_move : yX3_move.cls = RX3 ∧ yX3_move.cls ≠ "java/lang/invoke/MethodHandle" ∧ yX3_move.cls ≠ "java/lang/invoke/VarHandle" ∧ (parseMethodDescriptor yX3_move.desc).map (fun d => d.parameters.length) = some 2 := by decide +kernel
noncomputable def f_X3_move (N_this : Nat) (v_sums : Nat → Int64) (v_weights : Nat → Int64) (p1 : Int32) (p2 : Int32) : Option ((Nat → Int64) × (Nat → Int64)) := bd (f_X3_addFrom_p2_is_this N_this v_sums v_weights p2 p1) fun R_1 => bd (f_X3_put N_this R_1.1 R_1.2 p1 (0 : Int64) (0 : Int64)) fun R_2 => some (R_2.1, R_2.2)
set_option maxHeartbeats 4000000 in
set_option maxRecDepth 100000 in
theorem c_X3_move (l : Launch) (D : va_G) (cI cJ cQ : ClassId) (a_this : Nat) (a_sums : Nat) (a_weights : Nat) (N_this : Nat) (v_sums : Nat → Int64) (v_weights : Nat → Int64) (p1 : Int32) (p2 : Int32) (R0 : (Nat → Int64) × (Nat → Int64)) (hf : f_X3_move N_this v_sums v_weights p1 p2 = some R0) : Cv l yX3_move wsX3_move ({ frames := 3, cells := 0, slots := 0, locals := 112 } : Room) D [(cI, .int), (cJ, .long), (cQ, .object "WhisperCrowd$State")] [.ref a_this, .int p1, .int p2] [(a_this, .inr (3, [.ref a_sums, .ref a_weights])), (a_sums, .inl (cJ, N_this, .inr (.inl v_sums))), (a_weights, .inl (cJ, N_this, .inr (.inl v_weights)))] [(a_this, .inr (3, [.ref a_sums, .ref a_weights])), (a_sums, .inl (cJ, N_this, .inr (.inl R0.1))), (a_weights, .inl (cJ, N_this, .inr (.inl R0.2)))] := by
  refine x_entv (cc := cX3_move) (maxL := 3) (rt := none) (lv := [(0, .ref a_this), (1, .int p1), (2, .int p2)]) (by decide) rfl (Nat.le_of_ble_eq_true rfl) rfl ?_
  intro p e s m args below meth c A Q hQ hC
  unfold f_X3_move at hf
  refine x_aload_n 1 0 hC dX3_move_0 rfl rfl rfl ?_
  refine x_iload_n 2 2 hC dX3_move_1 rfl rfl rfl ?_
  refine x_aload_n 3 0 hC dX3_move_2 rfl rfl rfl ?_
  refine x_iload_n 4 1 hC dX3_move_3 rfl rfl rfl ?_
  obtain ⟨R_1, h_R_1, hf⟩ := bd_e hf
  refine x_callVv 7 0 3 [0, 1, 2] [(a_this, .inr (3, [.ref a_sums, .ref a_weights])), (a_sums, .inl (cJ, N_this, .inr (.inl R_1.1))), (a_weights, .inl (cJ, N_this, .inr (.inl R_1.2)))] hC (As := [.int p2, .ref a_this, .int p1]) (c_X3_addFrom_p2_is_this l D cI cJ cQ a_this a_sums a_weights N_this v_sums v_weights p2 p1 R_1 h_R_1) rfl rfl gX3_move_X3_addFrom rfl ⟨rfl, rfl⟩ hd_X3_addFrom ⟨Nat.le_of_ble_eq_true rfl, Nat.le_of_ble_eq_true rfl⟩ rfl rfl rfl rfl rfl rfl (Nat.le_of_ble_eq_true rfl) ⟨Nat.le_of_ble_eq_true rfl, Nat.le_of_ble_eq_true rfl⟩ dX3_move_4 rfl ?_
  refine x_aload_n 8 0 hC dX3_move_7 rfl rfl rfl ?_
  refine x_iload_n 9 1 hC dX3_move_8 rfl rfl rfl ?_
  refine x_lconst 10 hC (0 : Int64) dX3_move_9 rfl (by decide) ?_
  refine x_lconst 11 hC (0 : Int64) dX3_move_10 rfl (by decide) ?_
  obtain ⟨R_2, h_R_2, hf⟩ := bd_e hf
  refine x_callVv 14 0 3 [0, 1, 2] [(a_this, .inr (3, [.ref a_sums, .ref a_weights])), (a_sums, .inl (cJ, N_this, .inr (.inl R_2.1))), (a_weights, .inl (cJ, N_this, .inr (.inl R_2.2)))] hC (As := [.int p1, .long (0 : Int64), .long (0 : Int64)]) (c_X3_put l D cI cJ cQ a_this a_sums a_weights N_this R_1.1 R_1.2 p1 (0 : Int64) (0 : Int64) R_2 h_R_2) rfl rfl gX3_move_X3_put rfl ⟨rfl, rfl⟩ hd_X3_put ⟨Nat.le_of_ble_eq_true rfl, Nat.le_of_ble_eq_true rfl⟩ rfl rfl rfl rfl rfl rfl (Nat.le_of_ble_eq_true rfl) ⟨Nat.le_of_ble_eq_true rfl, Nat.le_of_ble_eq_true rfl⟩ dX3_move_11 rfl ?_
  cases hf
  exact x_vret hC dX3_move_14 hQ rfl

theorem hd_X3_total : yX3_total.cls = RX3 ∧ yX3_total.cls ≠ "java/lang/invoke/MethodHandle" ∧ yX3_total.cls ≠ "java/lang/invoke/VarHandle" ∧ (parseMethodDescriptor yX3_total.desc).map (fun d => d.parameters.length) = some 1 := by decide +kernel
theorem in_X3_total_X3 : ∀ w ∈ u_ws RX3 TX3 2, w ∈ wsX3_total := fun w h => List.mem_cons_of_mem _ (List.mem_append_right _ h)
noncomputable def f_X3_total_c100021 (N_this : Nat) (v_sums : Nat → Int64) (v_weights : Nat → Int64) : Nat → Int64 → Int32 → Option (Int64)
  | 0, _, _ => none
  | n + 1, k100021_l3, k100021_l5 => if (Int32.ofNat N_this) ≤ k100021_l5 then (some (k100021_l3)) else (ck k100021_l5 N_this <| nm (k100021_l3 + (v_sums k100021_l5.toNatClampNeg)) fun x_3 => nm (k100021_l5 + (1 : Int32)) fun x_4 => (fun k100021_l3 k100021_l5 => f_X3_total_c100021 N_this v_sums v_weights n k100021_l3 k100021_l5) x_3 x_4)
noncomputable def f_X3_total_c21 (N_this : Nat) (v_sums : Nat → Int64) (v_weights : Nat → Int64) : Nat → Int64 → Int32 → Option (Int64)
  | 0, _, _ => none
  | n + 1, k21_l3, k21_l5 => if (Int32.ofNat N_this) ≤ k21_l5 then (some (k21_l3)) else (ck k21_l5 N_this <| nm (k21_l3 + (v_weights k21_l5.toNatClampNeg)) fun x_7 => nm (k21_l5 + (1 : Int32)) fun x_8 => (fun k21_l3 k21_l5 => f_X3_total_c21 N_this v_sums v_weights n k21_l3 k21_l5) x_7 x_8)
noncomputable def f_X3_total (N_this : Nat) (v_sums : Nat → Int64) (v_weights : Nat → Int64) (p1 : Int32) : Option (Int64) := if p1 = 0 then (f_X3_total_c100021 N_this v_sums v_weights fu (0 : Int64) (0 : Int32)) else (f_X3_total_c21 N_this v_sums v_weights fu (0 : Int64) (0 : Int32))
set_option maxHeartbeats 4000000 in
set_option maxRecDepth 100000 in
theorem c_X3_total (l : Launch) (D : va_G) (cI cJ cQ : ClassId) (a_this : Nat) (a_sums : Nat) (a_weights : Nat) (N_this : Nat) (v_sums : Nat → Int64) (v_weights : Nat → Int64) (p1 : Int32) (R0 : Int64) (hf : f_X3_total N_this v_sums v_weights p1 = some R0) : Cl l yX3_total wsX3_total ({ frames := 1, cells := 0, slots := 0, locals := 60 } : Room) D [(cI, .int), (cJ, .long), (cQ, .object "WhisperCrowd$State")] [.ref a_this, .int p1] [(a_this, .inr (3, [.ref a_sums, .ref a_weights])), (a_sums, .inl (cJ, N_this, .inr (.inl v_sums))), (a_weights, .inl (cJ, N_this, .inr (.inl v_weights)))] [(a_this, .inr (3, [.ref a_sums, .ref a_weights])), (a_sums, .inl (cJ, N_this, .inr (.inl v_sums))), (a_weights, .inl (cJ, N_this, .inr (.inl v_weights)))] R0 := by
  refine x_entl (cc := cX3_total) (maxL := 6) (rt := (some .long)) (lv := [(0, .ref a_this), (1, .int p1)]) (by decide) rfl (Nat.le_of_ble_eq_true rfl) rfl ?_
  intro p e s m args below meth c A Q hQ hC
  have J_100021 : ∀ (n : Nat) (k100021_l3 : Int64) (k100021_l5 : Int32), f_X3_total_c100021 N_this v_sums v_weights n k100021_l3 k100021_l5 = some R0 → XW p l e ({ frames := 1, cells := 0, slots := 0, locals := 60 } : Room) s m args below meth c D A 6 0 0 Q [(a_this, .inr (3, [.ref a_sums, .ref a_weights])), (a_sums, .inl (cJ, N_this, .inr (.inl v_sums))), (a_weights, .inl (cJ, N_this, .inr (.inl v_weights)))] [] [(2, .ref a_sums), (3, .long k100021_l3), (5, .int k100021_l5)] 21 [] := by
    intro n
    induction n with
    | zero => intro k100021_l3 k100021_l5 hf; exact nomatch (show (none : Option (Int64)) = some R0 from hf)
    | succ n_100021 ih_100021 =>
      intro k100021_l3 k100021_l5 hf
      unfold f_X3_total_c100021 at hf
      refine x_iload 23 2 hC dX3_total_21 rfl rfl ?_
      refine x_aload_n 24 0 hC dX3_total_23 rfl rfl rfl ?_
      refine x_alen 25 1 1 hC rfl rfl (v := (Int32.ofNat N_this)) rfl dX3_total_24 rfl ?_
      refine x_icmp_ge 41 28 hC dX3_total_25 (by decide) rfl (fun c_1 => ?_) (fun c_1 => ?_)
      · have hf := if_t hf c_1
        refine x_lload_n 42 1 hC dX3_total_41 rfl rfl rfl ?_
        cases hf
        exact x_lret hC dX3_total_42 hQ rfl rfl
      · have hf := if_f hf c_1
        refine x_lload_n 29 1 hC dX3_total_28 rfl rfl rfl ?_
        refine x_aload_n 30 0 hC dX3_total_29 rfl rfl rfl ?_
        refine x_iload 32 2 hC dX3_total_30 rfl rfl ?_
        obtain ⟨h_2, hf⟩ := ck_e hf
        refine x_lald 33 1 1 hC rfl rfl h_2 dX3_total_32 rfl ?_
        refine x_ladd 34 hC dX3_total_33 rfl ?_
        obtain ⟨x_3, e_x_3, hf⟩ := nmx_e hf
        refine x_lstore_n 35 [(3, .long x_3), (2, .ref a_sums), (5, .int k100021_l5)] hC dX3_total_34 rfl rfl e_x_3 (by decide) rfl ?_
        obtain ⟨x_4, e_x_4, hf⟩ := nmx_e hf
        refine x_iinc 38 2 [(5, .int x_4), (3, .long x_3), (2, .ref a_sums)] hC dX3_total_35 rfl rfl e_x_4 (by decide) (by decide) rfl ?_
        refine x_goto 21 hC dX3_total_38 (by decide) ?_
        refine x_lv [(2, .ref a_sums), (3, .long x_3), (5, .int x_4)] [2, 1, 0] rfl ?_
        exact ih_100021 x_3 x_4 hf
  have J_21 : ∀ (n : Nat) (k21_l3 : Int64) (k21_l5 : Int32), f_X3_total_c21 N_this v_sums v_weights n k21_l3 k21_l5 = some R0 → XW p l e ({ frames := 1, cells := 0, slots := 0, locals := 60 } : Room) s m args below meth c D A 6 0 0 Q [(a_this, .inr (3, [.ref a_sums, .ref a_weights])), (a_sums, .inl (cJ, N_this, .inr (.inl v_sums))), (a_weights, .inl (cJ, N_this, .inr (.inl v_weights)))] [] [(2, .ref a_weights), (3, .long k21_l3), (5, .int k21_l5)] 21 [] := by
    intro n
    induction n with
    | zero => intro k21_l3 k21_l5 hf; exact nomatch (show (none : Option (Int64)) = some R0 from hf)
    | succ n_21 ih_21 =>
      intro k21_l3 k21_l5 hf
      unfold f_X3_total_c21 at hf
      refine x_iload 23 2 hC dX3_total_21 rfl rfl ?_
      refine x_aload_n 24 0 hC dX3_total_23 rfl rfl rfl ?_
      refine x_alen 25 2 1 hC rfl rfl (v := (Int32.ofNat N_this)) rfl dX3_total_24 rfl ?_
      refine x_icmp_ge 41 28 hC dX3_total_25 (by decide) rfl (fun c_5 => ?_) (fun c_5 => ?_)
      · have hf := if_t hf c_5
        refine x_lload_n 42 1 hC dX3_total_41 rfl rfl rfl ?_
        cases hf
        exact x_lret hC dX3_total_42 hQ rfl rfl
      · have hf := if_f hf c_5
        refine x_lload_n 29 1 hC dX3_total_28 rfl rfl rfl ?_
        refine x_aload_n 30 0 hC dX3_total_29 rfl rfl rfl ?_
        refine x_iload 32 2 hC dX3_total_30 rfl rfl ?_
        obtain ⟨h_6, hf⟩ := ck_e hf
        refine x_lald 33 2 1 hC rfl rfl h_6 dX3_total_32 rfl ?_
        refine x_ladd 34 hC dX3_total_33 rfl ?_
        obtain ⟨x_7, e_x_7, hf⟩ := nmx_e hf
        refine x_lstore_n 35 [(3, .long x_7), (2, .ref a_weights), (5, .int k21_l5)] hC dX3_total_34 rfl rfl e_x_7 (by decide) rfl ?_
        obtain ⟨x_8, e_x_8, hf⟩ := nmx_e hf
        refine x_iinc 38 2 [(5, .int x_8), (3, .long x_7), (2, .ref a_weights)] hC dX3_total_35 rfl rfl e_x_8 (by decide) (by decide) rfl ?_
        refine x_goto 21 hC dX3_total_38 (by decide) ?_
        refine x_lv [(2, .ref a_weights), (3, .long x_7), (5, .int x_8)] [2, 1, 0] rfl ?_
        exact ih_21 x_7 x_8 hf
  unfold f_X3_total at hf
  refine x_iload_n 1 1 hC dX3_total_0 rfl rfl rfl ?_
  refine x_if_eq 11 4 hC dX3_total_1 (by decide) rfl (fun c_9 => ?_) (fun c_9 => ?_)
  · have hf := if_t hf c_9
    refine x_aload_n 12 0 hC dX3_total_11 rfl rfl rfl ?_
    refine x_get 15 0 0 hC in_X3_total_X3 rfl rfl (by decide) (List.mem_of_getElem? (i := 2) (by decide +kernel)) rfl rfl dX3_total_12 rfl ?_
    refine x_astore_n 16 [(2, .ref a_sums), (0, .ref a_this), (1, .int p1)] hC dX3_total_15 rfl rfl rfl (by decide) rfl ?_
    refine x_lconst 17 hC (0 : Int64) dX3_total_16 rfl (by decide) ?_
    refine x_lstore_n 18 [(3, .long (0 : Int64)), (2, .ref a_sums), (0, .ref a_this), (1, .int p1)] hC dX3_total_17 rfl rfl rfl (by decide) rfl ?_
    refine x_iconst 19 hC (0 : Int32) dX3_total_18 rfl (by decide) ?_
    refine x_istore 21 [(5, .int (0 : Int32)), (3, .long (0 : Int64)), (2, .ref a_sums), (0, .ref a_this), (1, .int p1)] hC dX3_total_19 rfl rfl (by decide) rfl ?_
    refine x_lv [(2, .ref a_sums), (3, .long (0 : Int64)), (5, .int (0 : Int32))] [2, 1, 0] rfl ?_
    exact J_100021 fu (0 : Int64) (0 : Int32) hf
  · have hf := if_f hf c_9
    refine x_aload_n 5 0 hC dX3_total_4 rfl rfl rfl ?_
    refine x_get 8 0 1 hC in_X3_total_X3 rfl rfl (by decide) (List.mem_of_getElem? (i := 1) (by decide +kernel)) rfl rfl dX3_total_5 rfl ?_
    refine x_goto 15 hC dX3_total_8 (by decide) ?_
    refine x_astore_n 16 [(2, .ref a_weights), (0, .ref a_this), (1, .int p1)] hC dX3_total_15 rfl rfl rfl (by decide) rfl ?_
    refine x_lconst 17 hC (0 : Int64) dX3_total_16 rfl (by decide) ?_
    refine x_lstore_n 18 [(3, .long (0 : Int64)), (2, .ref a_weights), (0, .ref a_this), (1, .int p1)] hC dX3_total_17 rfl rfl rfl (by decide) rfl ?_
    refine x_iconst 19 hC (0 : Int32) dX3_total_18 rfl (by decide) ?_
    refine x_istore 21 [(5, .int (0 : Int32)), (3, .long (0 : Int64)), (2, .ref a_weights), (0, .ref a_this), (1, .int p1)] hC dX3_total_19 rfl rfl (by decide) rfl ?_
    refine x_lv [(2, .ref a_weights), (3, .long (0 : Int64)), (5, .int (0 : Int32))] [2, 1, 0] rfl ?_
    exact J_21 fu (0 : Int64) (0 : Int32) hf

theorem hd_X3_copyFrom : yX3_copyFrom.cls = RX3 ∧ yX3_copyFrom.cls ≠ "java/lang/invoke/MethodHandle" ∧ yX3_copyFrom.cls ≠ "java/lang/invoke/VarHandle" ∧ (parseMethodDescriptor yX3_copyFrom.desc).map (fun d => d.parameters.length) = some 1 := by decide +kernel
theorem in_X3_copyFrom_X3 : ∀ w ∈ u_ws RX3 TX3 2, w ∈ wsX3_copyFrom := fun w h => List.mem_cons_of_mem _ (List.mem_append_right _ h)
noncomputable def f_X3_copyFrom (N_p1 : Nat) (N_this : Nat) (v_p1_sums : Nat → Int64) (v_p1_weights : Nat → Int64) (v_sums : Nat → Int64) (v_weights : Nat → Int64) : Option ((Nat → Int64) × (Nat → Int64)) := ckp (¬ (0 : Int32) < 0 ∧ ¬ (0 : Int32) < 0 ∧ ¬ (Int32.ofNat N_this) < 0 ∧ (0 : Int32).toNatClampNeg + (Int32.ofNat N_this).toNatClampNeg ≤ N_p1 ∧ (0 : Int32).toNatClampNeg + (Int32.ofNat N_this).toNatClampNeg ≤ N_this) (Classical.propDecidable _) <| nm (va_cpy v_p1_sums v_sums (0 : Int32).toNatClampNeg (0 : Int32).toNatClampNeg (Int32.ofNat N_this).toNatClampNeg) fun g_2 => ckp (¬ (0 : Int32) < 0 ∧ ¬ (0 : Int32) < 0 ∧ ¬ (Int32.ofNat N_this) < 0 ∧ (0 : Int32).toNatClampNeg + (Int32.ofNat N_this).toNatClampNeg ≤ N_p1 ∧ (0 : Int32).toNatClampNeg + (Int32.ofNat N_this).toNatClampNeg ≤ N_this) (Classical.propDecidable _) <| nm (va_cpy v_p1_weights v_weights (0 : Int32).toNatClampNeg (0 : Int32).toNatClampNeg (Int32.ofNat N_this).toNatClampNeg) fun g_4 => some (g_2, g_4)
set_option maxHeartbeats 4000000 in
set_option maxRecDepth 100000 in
theorem c_X3_copyFrom (l : Launch) (D : va_G) (cI cJ cQ : ClassId) (a_p1 : Nat) (a_p1_sums : Nat) (a_p1_weights : Nat) (a_this : Nat) (a_sums : Nat) (a_weights : Nat) (N_p1 : Nat) (N_this : Nat) (v_p1_sums : Nat → Int64) (v_p1_weights : Nat → Int64) (v_sums : Nat → Int64) (v_weights : Nat → Int64) (R0 : (Nat → Int64) × (Nat → Int64)) (hf : f_X3_copyFrom N_p1 N_this v_p1_sums v_p1_weights v_sums v_weights = some R0) : Cv l yX3_copyFrom wsX3_copyFrom ({ frames := 1, cells := 0, slots := 0, locals := 60 } : Room) D [(cI, .int), (cJ, .long), (cQ, .object "WhisperCrowd$State")] [.ref a_this, .ref a_p1] [(a_p1, .inr (3, [.ref a_p1_sums, .ref a_p1_weights])), (a_p1_sums, .inl (cJ, N_p1, .inr (.inl v_p1_sums))), (a_p1_weights, .inl (cJ, N_p1, .inr (.inl v_p1_weights))), (a_this, .inr (3, [.ref a_sums, .ref a_weights])), (a_sums, .inl (cJ, N_this, .inr (.inl v_sums))), (a_weights, .inl (cJ, N_this, .inr (.inl v_weights)))] [(a_p1, .inr (3, [.ref a_p1_sums, .ref a_p1_weights])), (a_p1_sums, .inl (cJ, N_p1, .inr (.inl v_p1_sums))), (a_p1_weights, .inl (cJ, N_p1, .inr (.inl v_p1_weights))), (a_this, .inr (3, [.ref a_sums, .ref a_weights])), (a_sums, .inl (cJ, N_this, .inr (.inl R0.1))), (a_weights, .inl (cJ, N_this, .inr (.inl R0.2)))] := by
  refine x_entv (cc := cX3_copyFrom) (maxL := 2) (rt := none) (lv := [(0, .ref a_this), (1, .ref a_p1)]) (by decide) rfl (Nat.le_of_ble_eq_true rfl) rfl ?_
  intro p e s m args below meth c A Q hQ hC
  unfold f_X3_copyFrom at hf
  refine x_aload_n 1 1 hC dX3_copyFrom_0 rfl rfl rfl ?_
  refine x_get 4 0 0 hC in_X3_copyFrom_X3 rfl rfl (by decide) (List.mem_of_getElem? (i := 1) (by decide +kernel)) rfl rfl dX3_copyFrom_1 rfl ?_
  refine x_iconst 5 hC (0 : Int32) dX3_copyFrom_4 rfl (by decide) ?_
  refine x_aload_n 6 0 hC dX3_copyFrom_5 rfl rfl rfl ?_
  refine x_get 9 3 0 hC in_X3_copyFrom_X3 rfl rfl (by decide) (List.mem_of_getElem? (i := 1) (by decide +kernel)) rfl rfl dX3_copyFrom_6 rfl ?_
  refine x_iconst 10 hC (0 : Int32) dX3_copyFrom_9 rfl (by decide) ?_
  refine x_aload_n 11 0 hC dX3_copyFrom_10 rfl rfl rfl ?_
  refine x_get 14 3 0 hC in_X3_copyFrom_X3 rfl rfl (by decide) (List.mem_of_getElem? (i := 1) (by decide +kernel)) rfl rfl dX3_copyFrom_11 rfl ?_
  refine x_alen 15 4 1 hC rfl rfl (v := (Int32.ofNat N_this)) rfl dX3_copyFrom_14 rfl ?_
  obtain ⟨h_1, hf⟩ := ckp_e hf
  obtain ⟨g_2, e_g_2, hf⟩ := nmx_e hf
  refine x_copyl 18 1 4 1 [(a_p1, .inr (3, [.ref a_p1_sums, .ref a_p1_weights])), (a_p1_sums, .inl (cJ, N_p1, .inr (.inl v_p1_sums))), (a_p1_weights, .inl (cJ, N_p1, .inr (.inl v_p1_weights))), (a_this, .inr (3, [.ref a_sums, .ref a_weights])), (a_sums, .inl (cJ, N_this, .inr (.inl g_2))), (a_weights, .inl (cJ, N_this, .inr (.inl v_weights)))] hC (List.mem_of_getElem? (i := 2) (by decide +kernel)) (List.mem_of_getElem? (i := 3) (by decide +kernel)) (List.mem_of_getElem? (i := 4) (by decide +kernel)) (List.mem_of_getElem? (i := 5) (by decide +kernel)) rfl rfl rfl h_1 e_g_2 rfl (Nat.le_of_ble_eq_true rfl) (by decide) dX3_copyFrom_15 rfl ?_
  refine x_aload_n 19 1 hC dX3_copyFrom_18 rfl rfl rfl ?_
  refine x_get 22 0 1 hC in_X3_copyFrom_X3 rfl rfl (by decide) (List.mem_of_getElem? (i := 6) (by decide +kernel)) rfl rfl dX3_copyFrom_19 rfl ?_
  refine x_iconst 23 hC (0 : Int32) dX3_copyFrom_22 rfl (by decide) ?_
  refine x_aload_n 24 0 hC dX3_copyFrom_23 rfl rfl rfl ?_
  refine x_get 27 3 1 hC in_X3_copyFrom_X3 rfl rfl (by decide) (List.mem_of_getElem? (i := 6) (by decide +kernel)) rfl rfl dX3_copyFrom_24 rfl ?_
  refine x_iconst 28 hC (0 : Int32) dX3_copyFrom_27 rfl (by decide) ?_
  refine x_aload_n 29 0 hC dX3_copyFrom_28 rfl rfl rfl ?_
  refine x_get 32 3 1 hC in_X3_copyFrom_X3 rfl rfl (by decide) (List.mem_of_getElem? (i := 6) (by decide +kernel)) rfl rfl dX3_copyFrom_29 rfl ?_
  refine x_alen 33 5 1 hC rfl rfl (v := (Int32.ofNat N_this)) rfl dX3_copyFrom_32 rfl ?_
  obtain ⟨h_3, hf⟩ := ckp_e hf
  obtain ⟨g_4, e_g_4, hf⟩ := nmx_e hf
  refine x_copyl 36 2 5 1 [(a_p1, .inr (3, [.ref a_p1_sums, .ref a_p1_weights])), (a_p1_sums, .inl (cJ, N_p1, .inr (.inl v_p1_sums))), (a_p1_weights, .inl (cJ, N_p1, .inr (.inl v_p1_weights))), (a_this, .inr (3, [.ref a_sums, .ref a_weights])), (a_sums, .inl (cJ, N_this, .inr (.inl g_2))), (a_weights, .inl (cJ, N_this, .inr (.inl g_4)))] hC (List.mem_of_getElem? (i := 2) (by decide +kernel)) (List.mem_of_getElem? (i := 3) (by decide +kernel)) (List.mem_of_getElem? (i := 4) (by decide +kernel)) (List.mem_of_getElem? (i := 5) (by decide +kernel)) rfl rfl rfl h_3 e_g_4 rfl (Nat.le_of_ble_eq_true rfl) (by decide) dX3_copyFrom_33 rfl ?_
  cases hf
  exact x_vret hC dX3_copyFrom_36 hQ rfl
