theorem hd_X4_start : yX4_start.cls = RX4 ∧ yX4_start.cls ≠ "java/lang/invoke/MethodHandle" ∧ yX4_start.cls ≠ "java/lang/invoke/VarHandle" ∧ (parseMethodDescriptor yX4_start.desc).map (fun d => d.parameters.length) = some 2 := by decide +kernel
theorem in_X4_start_X5 : ∀ w ∈ u_ws RX5 TX5 14, w ∈ wsX4_start := fun w h => List.mem_cons_of_mem _ (List.mem_append_left _ (List.mem_append_right _ h))
theorem in_X4_start_X4 : ∀ w ∈ u_ws RX4 TX4 5, w ∈ wsX4_start := fun w h => List.mem_cons_of_mem _ (List.mem_append_left _ (List.mem_append_left _ (List.mem_append_right _ h)))
noncomputable def f_X4_start_c59 (k23 : Int32 → (Nat → Int32) → (Nat → Int64) → (Nat → Int64) → Int32 → Option (Int32 × (Nat → Int32) × (Nat → Int64) × (Nat → Int64))) (v_p1_members : Int32) (v_p1_here : Int32) (v_p1_masses_sums : Nat → Int64) (v_p1_masses_weights : Nat → Int64) (k59_crowdSize : Int32) (k59_crowd : Nat → Int32) (k59_masses_sums : Nat → Int64) (k59_masses_weights : Nat → Int64) (k59_l3 : Int32) : Option (Int32 × (Nat → Int32) × (Nat → Int64) × (Nat → Int64)) := nm (k59_l3 + (1 : Int32)) fun x_1 => k23 k59_crowdSize k59_crowd k59_masses_sums k59_masses_weights x_1
noncomputable def f_X4_start_c23 (v_p1_members : Int32) (v_p1_here : Int32) (v_p1_masses_sums : Nat → Int64) (v_p1_masses_weights : Nat → Int64) : Nat → Int32 → (Nat → Int32) → (Nat → Int64) → (Nat → Int64) → Int32 → Option (Int32 × (Nat → Int32) × (Nat → Int64) × (Nat → Int64))
  | 0, _, _, _, _, _ => none
  | n + 1, k23_crowdSize, k23_crowd, k23_masses_sums, k23_masses_weights, k23_l3 => if v_p1_members ≤ k23_l3 then (some (k23_crowdSize, k23_crowd, k23_masses_sums, k23_masses_weights)) else (bd (f_X5_isHere v_p1_here k23_l3) fun R_3 => if R_3 = 0 then (f_X4_start_c59 (fun k23_crowdSize k23_crowd k23_masses_sums k23_masses_weights k23_l3 => f_X4_start_c23 v_p1_members v_p1_here v_p1_masses_sums v_p1_masses_weights n k23_crowdSize k23_crowd k23_masses_sums k23_masses_weights k23_l3) v_p1_members v_p1_here v_p1_masses_sums v_p1_masses_weights k23_crowdSize k23_crowd k23_masses_sums k23_masses_weights k23_l3) else (ck k23_crowdSize 10 <| nm (upd k23_crowd k23_crowdSize.toNatClampNeg k23_l3) fun g_6 => nm (k23_crowdSize + (1 : Int32)) fun x_7 => f_X4_start_c59 (fun k23_crowdSize k23_crowd k23_masses_sums k23_masses_weights k23_l3 => f_X4_start_c23 v_p1_members v_p1_here v_p1_masses_sums v_p1_masses_weights n k23_crowdSize k23_crowd k23_masses_sums k23_masses_weights k23_l3) v_p1_members v_p1_here v_p1_masses_sums v_p1_masses_weights x_7 g_6 k23_masses_sums k23_masses_weights k23_l3))
noncomputable def f_X4_start (v_p1_members : Int32) (v_p1_here : Int32) (v_p1_masses_sums : Nat → Int64) (v_p1_masses_weights : Nat → Int64) (v_crowdSize : Int32) (v_crowd : Nat → Int32) (v_masses_sums : Nat → Int64) (v_masses_weights : Nat → Int64) : Option (Int32 × (Nat → Int32) × (Nat → Int64) × (Nat → Int64)) := bd (f_X3_copyFrom 10 10 v_p1_masses_sums v_p1_masses_weights v_masses_sums v_masses_weights) fun R_8 => f_X4_start_c23 v_p1_members v_p1_here v_p1_masses_sums v_p1_masses_weights fu (0 : Int32) v_crowd R_8.1 R_8.2 (0 : Int32)
set_option maxHeartbeats 4000000 in
set_option maxRecDepth 100000 in
theorem c_X4_start (l : Launch) (D : va_G) (cI cJ cQ : ClassId) (a_p1 : Nat) (a_p1_masses : Nat) (a_p1_masses_sums : Nat) (a_p1_masses_weights : Nat) (a_p2 : Nat) (a_this : Nat) (a_crowd : Nat) (a_masses : Nat) (a_masses_sums : Nat) (a_masses_weights : Nat) (r_p1_values : Value) (r_p1_greatest : Value) (r_p1_least : Value) (r_p1_heard : Value) (r_p1_joined : Value) (r_p1_tickets : Value) (r_p1_books : Value) (r_p1_owed : Value) (r_p1_letters : Value) (r_p2_lesser : Value) (r_p2_other : Value) (r_row : Value) (r_lines : Value) (v_p1_members : Int32) (v_p1_here : Int32) (v_p1_seed : Int32) (v_p1_talks : Int32) (v_p1_masses_sums : Nat → Int64) (v_p1_masses_weights : Nat → Int64) (v_p2_size : Int32) (v_crowdSize : Int32) (v_crowd : Nat → Int32) (v_masses_sums : Nat → Int64) (v_masses_weights : Nat → Int64) (R0 : Int32 × (Nat → Int32) × (Nat → Int64) × (Nat → Int64)) (hf : f_X4_start v_p1_members v_p1_here v_p1_masses_sums v_p1_masses_weights v_crowdSize v_crowd v_masses_sums v_masses_weights = some R0) : Cv l yX4_start wsX4_start ({ frames := 2, cells := 0, slots := 0, locals := 83 } : Room) D [(cI, .int), (cJ, .long), (cQ, .object "WhisperCrowd$State")] [.ref a_this, .ref a_p1, .ref a_p2] [(a_p1, .inr (5, [.int v_p1_members, .int v_p1_here, .int v_p1_seed, .int v_p1_talks, r_p1_values, r_p1_greatest, r_p1_least, r_p1_heard, r_p1_joined, r_p1_tickets, .ref a_p1_masses, r_p1_books, r_p1_owed, r_p1_letters])), (a_p1_masses, .inr (3, [.ref a_p1_masses_sums, .ref a_p1_masses_weights])), (a_p1_masses_sums, .inl (cJ, 10, .inr (.inl v_p1_masses_sums))), (a_p1_masses_weights, .inl (cJ, 10, .inr (.inl v_p1_masses_weights))), (a_p2, .inr (2, [r_p2_lesser, r_p2_other, .int v_p2_size])), (a_this, .inr (4, [.ref a_masses, .ref a_crowd, r_row, .int v_crowdSize, r_lines])), (a_crowd, .inl (cI, 10, .inl v_crowd)), (a_masses, .inr (3, [.ref a_masses_sums, .ref a_masses_weights])), (a_masses_sums, .inl (cJ, 10, .inr (.inl v_masses_sums))), (a_masses_weights, .inl (cJ, 10, .inr (.inl v_masses_weights)))] [(a_p1, .inr (5, [.int v_p1_members, .int v_p1_here, .int v_p1_seed, .int v_p1_talks, r_p1_values, r_p1_greatest, r_p1_least, r_p1_heard, r_p1_joined, r_p1_tickets, .ref a_p1_masses, r_p1_books, r_p1_owed, r_p1_letters])), (a_p1_masses, .inr (3, [.ref a_p1_masses_sums, .ref a_p1_masses_weights])), (a_p1_masses_sums, .inl (cJ, 10, .inr (.inl v_p1_masses_sums))), (a_p1_masses_weights, .inl (cJ, 10, .inr (.inl v_p1_masses_weights))), (a_p2, .inr (2, [r_p2_lesser, r_p2_other, .int v_p2_size])), (a_this, .inr (4, [.ref a_masses, .ref a_crowd, r_row, .int R0.1, .ref a_p2])), (a_crowd, .inl (cI, 10, .inl R0.2.1)), (a_masses, .inr (3, [.ref a_masses_sums, .ref a_masses_weights])), (a_masses_sums, .inl (cJ, 10, .inr (.inl R0.2.2.1))), (a_masses_weights, .inl (cJ, 10, .inr (.inl R0.2.2.2)))] := by
  refine x_entv (cc := cX4_start) (maxL := 4) (rt := none) (lv := [(0, .ref a_this), (1, .ref a_p1), (2, .ref a_p2)]) (by decide) rfl (Nat.le_of_ble_eq_true rfl) rfl ?_
  intro p e s m args below meth c A Q hQ hC
  have J_23 : ∀ (n : Nat) (k23_crowdSize : Int32) (k23_crowd : Nat → Int32) (k23_masses_sums : Nat → Int64) (k23_masses_weights : Nat → Int64) (k23_l3 : Int32), f_X4_start_c23 v_p1_members v_p1_here v_p1_masses_sums v_p1_masses_weights n k23_crowdSize k23_crowd k23_masses_sums k23_masses_weights k23_l3 = some R0 → XW p l e ({ frames := 2, cells := 0, slots := 0, locals := 83 } : Room) s m args below meth c D A 4 0 0 Q [(a_p1, .inr (5, [.int v_p1_members, .int v_p1_here, .int v_p1_seed, .int v_p1_talks, r_p1_values, r_p1_greatest, r_p1_least, r_p1_heard, r_p1_joined, r_p1_tickets, .ref a_p1_masses, r_p1_books, r_p1_owed, r_p1_letters])), (a_p1_masses, .inr (3, [.ref a_p1_masses_sums, .ref a_p1_masses_weights])), (a_p1_masses_sums, .inl (cJ, 10, .inr (.inl v_p1_masses_sums))), (a_p1_masses_weights, .inl (cJ, 10, .inr (.inl v_p1_masses_weights))), (a_p2, .inr (2, [r_p2_lesser, r_p2_other, .int v_p2_size])), (a_this, .inr (4, [.ref a_masses, .ref a_crowd, r_row, .int k23_crowdSize, (.ref a_p2)])), (a_crowd, .inl (cI, 10, .inl k23_crowd)), (a_masses, .inr (3, [.ref a_masses_sums, .ref a_masses_weights])), (a_masses_sums, .inl (cJ, 10, .inr (.inl k23_masses_sums))), (a_masses_weights, .inl (cJ, 10, .inr (.inl k23_masses_weights)))] [] [(0, .ref a_this), (1, .ref a_p1), (3, .int k23_l3)] 23 [] := by
    intro n
    induction n with
    | zero => intro k23_crowdSize k23_crowd k23_masses_sums k23_masses_weights k23_l3 hf; exact nomatch (show (none : Option (Int32 × (Nat → Int32) × (Nat → Int64) × (Nat → Int64))) = some R0 from hf)
    | succ n_23 ih_23 =>
      have J_59 : ∀ (k59_crowdSize : Int32) (k59_crowd : Nat → Int32) (k59_masses_sums : Nat → Int64) (k59_masses_weights : Nat → Int64) (k59_l3 : Int32), f_X4_start_c59 (fun k23_crowdSize k23_crowd k23_masses_sums k23_masses_weights k23_l3 => f_X4_start_c23 v_p1_members v_p1_here v_p1_masses_sums v_p1_masses_weights n_23 k23_crowdSize k23_crowd k23_masses_sums k23_masses_weights k23_l3) v_p1_members v_p1_here v_p1_masses_sums v_p1_masses_weights k59_crowdSize k59_crowd k59_masses_sums k59_masses_weights k59_l3 = some R0 → XW p l e ({ frames := 2, cells := 0, slots := 0, locals := 83 } : Room) s m args below meth c D A 4 0 0 Q [(a_p1, .inr (5, [.int v_p1_members, .int v_p1_here, .int v_p1_seed, .int v_p1_talks, r_p1_values, r_p1_greatest, r_p1_least, r_p1_heard, r_p1_joined, r_p1_tickets, .ref a_p1_masses, r_p1_books, r_p1_owed, r_p1_letters])), (a_p1_masses, .inr (3, [.ref a_p1_masses_sums, .ref a_p1_masses_weights])), (a_p1_masses_sums, .inl (cJ, 10, .inr (.inl v_p1_masses_sums))), (a_p1_masses_weights, .inl (cJ, 10, .inr (.inl v_p1_masses_weights))), (a_p2, .inr (2, [r_p2_lesser, r_p2_other, .int v_p2_size])), (a_this, .inr (4, [.ref a_masses, .ref a_crowd, r_row, .int k59_crowdSize, (.ref a_p2)])), (a_crowd, .inl (cI, 10, .inl k59_crowd)), (a_masses, .inr (3, [.ref a_masses_sums, .ref a_masses_weights])), (a_masses_sums, .inl (cJ, 10, .inr (.inl k59_masses_sums))), (a_masses_weights, .inl (cJ, 10, .inr (.inl k59_masses_weights)))] [] [(0, .ref a_this), (1, .ref a_p1), (3, .int k59_l3)] 59 [] := by
        intro k59_crowdSize k59_crowd k59_masses_sums k59_masses_weights k59_l3 hf
        unfold f_X4_start_c59 at hf
        obtain ⟨x_1, e_x_1, hf⟩ := nmx_e hf
        refine x_iinc 62 2 [(3, .int x_1), (0, .ref a_this), (1, .ref a_p1)] hC dX4_start_59 rfl rfl e_x_1 (by decide) (by decide) rfl ?_
        refine x_goto 23 hC dX4_start_62 (by decide) ?_
        refine x_lv [(0, .ref a_this), (1, .ref a_p1), (3, .int x_1)] [1, 2, 0] rfl ?_
        exact ih_23 k59_crowdSize k59_crowd k59_masses_sums k59_masses_weights x_1 hf
      intro k23_crowdSize k23_crowd k23_masses_sums k23_masses_weights k23_l3 hf
      unfold f_X4_start_c23 at hf
      refine x_iload_n 24 2 hC dX4_start_23 rfl rfl rfl ?_
      refine x_aload_n 25 1 hC dX4_start_24 rfl rfl rfl ?_
      refine x_get 28 0 0 hC in_X4_start_X5 rfl rfl (by decide) (List.mem_of_getElem? (i := 5) (by decide +kernel)) rfl rfl dX4_start_25 rfl ?_
      refine x_icmp_ge 65 31 hC dX4_start_28 (by decide) rfl (fun c_2 => ?_) (fun c_2 => ?_)
      · have hf := if_t hf c_2
        cases hf
        exact x_vret hC dX4_start_65 hQ rfl
      · have hf := if_f hf c_2
        refine x_aload_n 32 1 hC dX4_start_31 rfl rfl rfl ?_
        refine x_iload_n 33 2 hC dX4_start_32 rfl rfl rfl ?_
        obtain ⟨R_3, h_R_3, hf⟩ := bd_e hf
        refine x_callVi 36 0 1 [0] [(a_p1, .inr (5, [.int v_p1_members, .int v_p1_here, .int v_p1_seed, .int v_p1_talks, r_p1_values, r_p1_greatest, r_p1_least, r_p1_heard, r_p1_joined, r_p1_tickets, .ref a_p1_masses, r_p1_books, r_p1_owed, r_p1_letters])), (a_p1_masses, .inr (3, [.ref a_p1_masses_sums, .ref a_p1_masses_weights])), (a_p1_masses_sums, .inl (cJ, 10, .inr (.inl v_p1_masses_sums))), (a_p1_masses_weights, .inl (cJ, 10, .inr (.inl v_p1_masses_weights))), (a_p2, .inr (2, [r_p2_lesser, r_p2_other, .int v_p2_size])), (a_this, .inr (4, [.ref a_masses, .ref a_crowd, r_row, .int k23_crowdSize, (.ref a_p2)])), (a_crowd, .inl (cI, 10, .inl k23_crowd)), (a_masses, .inr (3, [.ref a_masses_sums, .ref a_masses_weights])), (a_masses_sums, .inl (cJ, 10, .inr (.inl k23_masses_sums))), (a_masses_weights, .inl (cJ, 10, .inr (.inl k23_masses_weights)))] hC (As := [.int k23_l3]) (c_X5_isHere l D cI cJ cQ a_p1 r_p1_values r_p1_greatest r_p1_least r_p1_heard r_p1_joined r_p1_tickets (.ref a_p1_masses) r_p1_books r_p1_owed r_p1_letters v_p1_members v_p1_here v_p1_seed v_p1_talks k23_l3 R_3 h_R_3) rfl rfl gX4_start_X5_isHere rfl ⟨rfl, rfl⟩ hd_X5_isHere ⟨Nat.le_of_ble_eq_true rfl, Nat.le_of_ble_eq_true rfl⟩ rfl rfl rfl rfl rfl rfl (Nat.le_of_ble_eq_true rfl) ⟨Nat.le_of_ble_eq_true rfl, Nat.le_of_ble_eq_true rfl⟩ dX4_start_33 rfl ?_
        refine x_if_eq 59 39 hC dX4_start_36 (by decide) rfl (fun c_4 => ?_) (fun c_4 => ?_)
        · have hf := if_t hf c_4
          refine x_lv [(0, .ref a_this), (1, .ref a_p1), (3, .int k23_l3)] [0, 1, 2] rfl ?_
          exact J_59 k23_crowdSize k23_crowd k23_masses_sums k23_masses_weights k23_l3 hf
        · have hf := if_f hf c_4
          refine x_aload_n 40 0 hC dX4_start_39 rfl rfl rfl ?_
          refine x_get 43 5 1 hC in_X4_start_X4 rfl rfl (by decide) (List.mem_of_getElem? (i := 6) (by decide +kernel)) rfl rfl dX4_start_40 rfl ?_
          refine x_aload_n 44 0 hC dX4_start_43 rfl rfl rfl ?_
          refine x_get 47 5 3 hC in_X4_start_X4 rfl rfl (by decide) (List.mem_of_getElem? (i := 4) (by decide +kernel)) rfl rfl dX4_start_44 rfl ?_
          refine x_iload_n 48 2 hC dX4_start_47 rfl rfl rfl ?_
          obtain ⟨h_5, hf⟩ := ck_e hf
          obtain ⟨g_6, e_g_6, hf⟩ := nmx_e hf
          refine x_iast 49 6 0 [(a_p1, .inr (5, [.int v_p1_members, .int v_p1_here, .int v_p1_seed, .int v_p1_talks, r_p1_values, r_p1_greatest, r_p1_least, r_p1_heard, r_p1_joined, r_p1_tickets, .ref a_p1_masses, r_p1_books, r_p1_owed, r_p1_letters])), (a_p1_masses, .inr (3, [.ref a_p1_masses_sums, .ref a_p1_masses_weights])), (a_p1_masses_sums, .inl (cJ, 10, .inr (.inl v_p1_masses_sums))), (a_p1_masses_weights, .inl (cJ, 10, .inr (.inl v_p1_masses_weights))), (a_p2, .inr (2, [r_p2_lesser, r_p2_other, .int v_p2_size])), (a_this, .inr (4, [.ref a_masses, .ref a_crowd, r_row, .int k23_crowdSize, (.ref a_p2)])), (a_crowd, .inl (cI, 10, .inl g_6)), (a_masses, .inr (3, [.ref a_masses_sums, .ref a_masses_weights])), (a_masses_sums, .inl (cJ, 10, .inr (.inl k23_masses_sums))), (a_masses_weights, .inl (cJ, 10, .inr (.inl k23_masses_weights)))] hC rfl rfl h_5 e_g_6 rfl dX4_start_48 rfl ?_
          refine x_aload_n 50 0 hC dX4_start_49 rfl rfl rfl ?_
          refine x_dup 51 hC dX4_start_50 rfl rfl ?_
          refine x_get 54 5 3 hC in_X4_start_X4 rfl rfl (by decide) (List.mem_of_getElem? (i := 4) (by decide +kernel)) rfl rfl dX4_start_51 rfl ?_
          refine x_iconst 55 hC (1 : Int32) dX4_start_54 rfl (by decide) ?_
          refine x_iadd 56 hC dX4_start_55 rfl ?_
          obtain ⟨x_7, e_x_7, hf⟩ := nmx_e hf
          refine x_put 59 5 3 [(a_p1, .inr (5, [.int v_p1_members, .int v_p1_here, .int v_p1_seed, .int v_p1_talks, r_p1_values, r_p1_greatest, r_p1_least, r_p1_heard, r_p1_joined, r_p1_tickets, .ref a_p1_masses, r_p1_books, r_p1_owed, r_p1_letters])), (a_p1_masses, .inr (3, [.ref a_p1_masses_sums, .ref a_p1_masses_weights])), (a_p1_masses_sums, .inl (cJ, 10, .inr (.inl v_p1_masses_sums))), (a_p1_masses_weights, .inl (cJ, 10, .inr (.inl v_p1_masses_weights))), (a_p2, .inr (2, [r_p2_lesser, r_p2_other, .int v_p2_size])), (a_this, .inr (4, [.ref a_masses, .ref a_crowd, r_row, .int x_7, (.ref a_p2)])), (a_crowd, .inl (cI, 10, .inl g_6)), (a_masses, .inr (3, [.ref a_masses_sums, .ref a_masses_weights])), (a_masses_sums, .inl (cJ, 10, .inr (.inl k23_masses_sums))), (a_masses_weights, .inl (cJ, 10, .inr (.inl k23_masses_weights)))] hC in_X4_start_X4 tyX4_ok nmX4 rfl rfl (by decide) (List.mem_of_getElem? (i := 4) (by decide +kernel)) rfl rfl rfl (congrArg Value.int e_x_7) rfl rfl (Nat.le_of_ble_eq_true rfl) rfl dX4_start_56 rfl ?_
          refine x_lv [(0, .ref a_this), (1, .ref a_p1), (3, .int k23_l3)] [0, 1, 2] rfl ?_
          exact J_59 x_7 g_6 k23_masses_sums k23_masses_weights k23_l3 hf
  unfold f_X4_start at hf
  refine x_aload_n 1 0 hC dX4_start_0 rfl rfl rfl ?_
  refine x_aload_n 2 2 hC dX4_start_1 rfl rfl rfl ?_
  refine x_put 5 5 4 [(a_p1, .inr (5, [.int v_p1_members, .int v_p1_here, .int v_p1_seed, .int v_p1_talks, r_p1_values, r_p1_greatest, r_p1_least, r_p1_heard, r_p1_joined, r_p1_tickets, .ref a_p1_masses, r_p1_books, r_p1_owed, r_p1_letters])), (a_p1_masses, .inr (3, [.ref a_p1_masses_sums, .ref a_p1_masses_weights])), (a_p1_masses_sums, .inl (cJ, 10, .inr (.inl v_p1_masses_sums))), (a_p1_masses_weights, .inl (cJ, 10, .inr (.inl v_p1_masses_weights))), (a_p2, .inr (2, [r_p2_lesser, r_p2_other, .int v_p2_size])), (a_this, .inr (4, [.ref a_masses, .ref a_crowd, r_row, .int v_crowdSize, .ref a_p2])), (a_crowd, .inl (cI, 10, .inl v_crowd)), (a_masses, .inr (3, [.ref a_masses_sums, .ref a_masses_weights])), (a_masses_sums, .inl (cJ, 10, .inr (.inl v_masses_sums))), (a_masses_weights, .inl (cJ, 10, .inr (.inl v_masses_weights)))] hC in_X4_start_X4 tyX4_ok nmX4 rfl rfl (by decide) (List.mem_of_getElem? (i := 1) (by decide +kernel)) rfl rfl rfl rfl rfl rfl (Nat.le_of_ble_eq_true rfl) rfl dX4_start_2 rfl ?_
  refine x_aload_n 6 0 hC dX4_start_5 rfl rfl rfl ?_
  refine x_get 9 5 0 hC in_X4_start_X4 rfl rfl (by decide) (List.mem_of_getElem? (i := 2) (by decide +kernel)) rfl rfl dX4_start_6 rfl ?_
  refine x_aload_n 10 1 hC dX4_start_9 rfl rfl rfl ?_
  refine x_get 13 0 10 hC in_X4_start_X5 rfl rfl (by decide) (List.mem_of_getElem? (i := 3) (by decide +kernel)) rfl rfl dX4_start_10 rfl ?_
  obtain ⟨R_8, h_R_8, hf⟩ := bd_e hf
  refine x_callVv 16 3 1 [1, 2, 3, 7, 8, 9] [(a_p1, .inr (5, [.int v_p1_members, .int v_p1_here, .int v_p1_seed, .int v_p1_talks, r_p1_values, r_p1_greatest, r_p1_least, r_p1_heard, r_p1_joined, r_p1_tickets, .ref a_p1_masses, r_p1_books, r_p1_owed, r_p1_letters])), (a_p1_masses, .inr (3, [.ref a_p1_masses_sums, .ref a_p1_masses_weights])), (a_p1_masses_sums, .inl (cJ, 10, .inr (.inl v_p1_masses_sums))), (a_p1_masses_weights, .inl (cJ, 10, .inr (.inl v_p1_masses_weights))), (a_p2, .inr (2, [r_p2_lesser, r_p2_other, .int v_p2_size])), (a_this, .inr (4, [.ref a_masses, .ref a_crowd, r_row, .int v_crowdSize, .ref a_p2])), (a_crowd, .inl (cI, 10, .inl v_crowd)), (a_masses, .inr (3, [.ref a_masses_sums, .ref a_masses_weights])), (a_masses_sums, .inl (cJ, 10, .inr (.inl R_8.1))), (a_masses_weights, .inl (cJ, 10, .inr (.inl R_8.2)))] hC (As := [.ref a_p1_masses]) (c_X3_copyFrom l D cI cJ cQ a_p1_masses a_p1_masses_sums a_p1_masses_weights a_masses a_masses_sums a_masses_weights 10 10 v_p1_masses_sums v_p1_masses_weights v_masses_sums v_masses_weights R_8 h_R_8) rfl rfl gX4_start_X3_copyFrom rfl ⟨rfl, rfl⟩ hd_X3_copyFrom ⟨Nat.le_of_ble_eq_true rfl, Nat.le_of_ble_eq_true rfl⟩ rfl rfl rfl rfl rfl rfl (Nat.le_of_ble_eq_true rfl) ⟨Nat.le_of_ble_eq_true rfl, Nat.le_of_ble_eq_true rfl⟩ dX4_start_13 rfl ?_
  refine x_aload_n 17 0 hC dX4_start_16 rfl rfl rfl ?_
  refine x_iconst 18 hC (0 : Int32) dX4_start_17 rfl (by decide) ?_
  refine x_put 21 5 3 [(a_p1, .inr (5, [.int v_p1_members, .int v_p1_here, .int v_p1_seed, .int v_p1_talks, r_p1_values, r_p1_greatest, r_p1_least, r_p1_heard, r_p1_joined, r_p1_tickets, .ref a_p1_masses, r_p1_books, r_p1_owed, r_p1_letters])), (a_p1_masses, .inr (3, [.ref a_p1_masses_sums, .ref a_p1_masses_weights])), (a_p1_masses_sums, .inl (cJ, 10, .inr (.inl v_p1_masses_sums))), (a_p1_masses_weights, .inl (cJ, 10, .inr (.inl v_p1_masses_weights))), (a_p2, .inr (2, [r_p2_lesser, r_p2_other, .int v_p2_size])), (a_this, .inr (4, [.ref a_masses, .ref a_crowd, r_row, .int (0 : Int32), .ref a_p2])), (a_crowd, .inl (cI, 10, .inl v_crowd)), (a_masses, .inr (3, [.ref a_masses_sums, .ref a_masses_weights])), (a_masses_sums, .inl (cJ, 10, .inr (.inl R_8.1))), (a_masses_weights, .inl (cJ, 10, .inr (.inl R_8.2)))] hC in_X4_start_X4 tyX4_ok nmX4 rfl rfl (by decide) (List.mem_of_getElem? (i := 4) (by decide +kernel)) rfl rfl rfl rfl rfl rfl (Nat.le_of_ble_eq_true rfl) rfl dX4_start_18 rfl ?_
  refine x_iconst 22 hC (0 : Int32) dX4_start_21 rfl (by decide) ?_
  refine x_istore_n 23 [(3, .int (0 : Int32)), (0, .ref a_this), (1, .ref a_p1), (2, .ref a_p2)] hC dX4_start_22 rfl rfl rfl (by decide) rfl ?_
  refine x_lv [(0, .ref a_this), (1, .ref a_p1), (3, .int (0 : Int32))] [1, 2, 0] rfl ?_
  exact J_23 fu (0 : Int32) v_crowd R_8.1 R_8.2 (0 : Int32) hf

theorem hd_X4_isLike : yX4_isLike.cls = RX4 ∧ yX4_isLike.cls ≠ "java/lang/invoke/MethodHandle" ∧ yX4_isLike.cls ≠ "java/lang/invoke/VarHandle" ∧ (parseMethodDescriptor yX4_isLike.desc).map (fun d => d.parameters.length) = some 2 := by decide +kernel
theorem in_X4_isLike_X4 : ∀ w ∈ u_ws RX4 TX4 5, w ∈ wsX4_isLike := fun w h => List.mem_cons_of_mem _ (List.mem_append_left _ (List.mem_append_right _ h))
theorem in_X4_isLike_X3 : ∀ w ∈ u_ws RX3 TX3 2, w ∈ wsX4_isLike := fun w h => List.mem_cons_of_mem _ (List.mem_append_right _ h)
noncomputable def f_X4_isLike (v_masses_sums : Nat → Int64) (v_masses_weights : Nat → Int64) (p1 : Int32) (p2 : Int32) : Option (Int32) := ck p1 10 <| ck p2 10 <| if ¬ (v_masses_sums p1.toNatClampNeg) = (v_masses_sums p2.toNatClampNeg) then (some ((0 : Int32))) else (ck p1 10 <| ck p2 10 <| if ¬ (v_masses_weights p1.toNatClampNeg) = (v_masses_weights p2.toNatClampNeg) then (some ((0 : Int32))) else (some ((1 : Int32))))
set_option maxHeartbeats 4000000 in
set_option maxRecDepth 100000 in
theorem c_X4_isLike (l : Launch) (D : va_G) (cI cJ cQ : ClassId) (a_this : Nat) (a_masses : Nat) (a_masses_sums : Nat) (a_masses_weights : Nat) (r_crowd : Value) (r_row : Value) (r_lines : Value) (v_crowdSize : Int32) (v_masses_sums : Nat → Int64) (v_masses_weights : Nat → Int64) (p1 : Int32) (p2 : Int32) (R0 : Int32) (hf : f_X4_isLike v_masses_sums v_masses_weights p1 p2 = some R0) : Ci l yX4_isLike wsX4_isLike ({ frames := 1, cells := 0, slots := 0, locals := 60 } : Room) D [(cI, .int), (cJ, .long), (cQ, .object "WhisperCrowd$State")] [.ref a_this, .int p1, .int p2] [(a_this, .inr (4, [.ref a_masses, r_crowd, r_row, .int v_crowdSize, r_lines])), (a_masses, .inr (3, [.ref a_masses_sums, .ref a_masses_weights])), (a_masses_sums, .inl (cJ, 10, .inr (.inl v_masses_sums))), (a_masses_weights, .inl (cJ, 10, .inr (.inl v_masses_weights)))] [(a_this, .inr (4, [.ref a_masses, r_crowd, r_row, .int v_crowdSize, r_lines])), (a_masses, .inr (3, [.ref a_masses_sums, .ref a_masses_weights])), (a_masses_sums, .inl (cJ, 10, .inr (.inl v_masses_sums))), (a_masses_weights, .inl (cJ, 10, .inr (.inl v_masses_weights)))] R0 := by
  refine x_enti (cc := cX4_isLike) (maxL := 3) (rt := (some .boolean)) (lv := [(0, .ref a_this), (1, .int p1), (2, .int p2)]) (by decide) rfl (Nat.le_of_ble_eq_true rfl) rfl ?_
  intro p e s m args below meth c A Q hQ hC
  unfold f_X4_isLike at hf
  refine x_aload_n 1 0 hC dX4_isLike_0 rfl rfl rfl ?_
  refine x_get 4 0 0 hC in_X4_isLike_X4 rfl rfl (by decide) (List.mem_of_getElem? (i := 1) (by decide +kernel)) rfl rfl dX4_isLike_1 rfl ?_
  refine x_get 7 1 0 hC in_X4_isLike_X3 rfl rfl (by decide) (List.mem_of_getElem? (i := 2) (by decide +kernel)) rfl rfl dX4_isLike_4 rfl ?_
  refine x_iload_n 8 1 hC dX4_isLike_7 rfl rfl rfl ?_
  obtain ⟨h_1, hf⟩ := ck_e hf
  refine x_lald 9 2 1 hC rfl rfl h_1 dX4_isLike_8 rfl ?_
  refine x_aload_n 10 0 hC dX4_isLike_9 rfl rfl rfl ?_
  refine x_get 13 0 0 hC in_X4_isLike_X4 rfl rfl (by decide) (List.mem_of_getElem? (i := 1) (by decide +kernel)) rfl rfl dX4_isLike_10 rfl ?_
  refine x_get 16 1 0 hC in_X4_isLike_X3 rfl rfl (by decide) (List.mem_of_getElem? (i := 2) (by decide +kernel)) rfl rfl dX4_isLike_13 rfl ?_
  refine x_iload_n 17 2 hC dX4_isLike_16 rfl rfl rfl ?_
  obtain ⟨h_2, hf⟩ := ck_e hf
  refine x_lald 18 2 1 hC rfl rfl h_2 dX4_isLike_17 rfl ?_
  refine x_lcmp_ne 48 22 hC dX4_isLike_18 dX4_isLike_19 (by decide) rfl (fun c_3 => ?_) (fun c_3 => ?_)
  · have hf := if_t hf c_3
    refine x_iconst 49 hC (0 : Int32) dX4_isLike_48 rfl (by decide) ?_
    cases hf
    exact x_zret hC rfl dX4_isLike_49 hQ rfl rfl
  · have hf := if_f hf c_3
    refine x_aload_n 23 0 hC dX4_isLike_22 rfl rfl rfl ?_
    refine x_get 26 0 0 hC in_X4_isLike_X4 rfl rfl (by decide) (List.mem_of_getElem? (i := 1) (by decide +kernel)) rfl rfl dX4_isLike_23 rfl ?_
    refine x_get 29 1 1 hC in_X4_isLike_X3 rfl rfl (by decide) (List.mem_of_getElem? (i := 3) (by decide +kernel)) rfl rfl dX4_isLike_26 rfl ?_
    refine x_iload_n 30 1 hC dX4_isLike_29 rfl rfl rfl ?_
    obtain ⟨h_4, hf⟩ := ck_e hf
    refine x_lald 31 3 1 hC rfl rfl h_4 dX4_isLike_30 rfl ?_
    refine x_aload_n 32 0 hC dX4_isLike_31 rfl rfl rfl ?_
    refine x_get 35 0 0 hC in_X4_isLike_X4 rfl rfl (by decide) (List.mem_of_getElem? (i := 1) (by decide +kernel)) rfl rfl dX4_isLike_32 rfl ?_
    refine x_get 38 1 1 hC in_X4_isLike_X3 rfl rfl (by decide) (List.mem_of_getElem? (i := 3) (by decide +kernel)) rfl rfl dX4_isLike_35 rfl ?_
    refine x_iload_n 39 2 hC dX4_isLike_38 rfl rfl rfl ?_
    obtain ⟨h_5, hf⟩ := ck_e hf
    refine x_lald 40 3 1 hC rfl rfl h_5 dX4_isLike_39 rfl ?_
    refine x_lcmp_ne 48 44 hC dX4_isLike_40 dX4_isLike_41 (by decide) rfl (fun c_6 => ?_) (fun c_6 => ?_)
    · have hf := if_t hf c_6
      refine x_iconst 49 hC (0 : Int32) dX4_isLike_48 rfl (by decide) ?_
      cases hf
      exact x_zret hC rfl dX4_isLike_49 hQ rfl rfl
    · have hf := if_f hf c_6
      refine x_iconst 45 hC (1 : Int32) dX4_isLike_44 rfl (by decide) ?_
      refine x_goto 49 hC dX4_isLike_45 (by decide) ?_
      cases hf
      exact x_zret hC rfl dX4_isLike_49 hQ rfl rfl

theorem hd_X4_hasUnlikeAtMost : yX4_hasUnlikeAtMost.cls = RX4 ∧ yX4_hasUnlikeAtMost.cls ≠ "java/lang/invoke/MethodHandle" ∧ yX4_hasUnlikeAtMost.cls ≠ "java/lang/invoke/VarHandle" ∧ (parseMethodDescriptor yX4_hasUnlikeAtMost.desc).map (fun d => d.parameters.length) = some 2 := by decide +kernel
theorem in_X4_hasUnlikeAtMost_X4 : ∀ w ∈ u_ws RX4 TX4 5, w ∈ wsX4_hasUnlikeAtMost := fun w h => List.mem_cons_of_mem _ (List.mem_append_left _ (List.mem_append_right _ h))
noncomputable def f_X4_hasUnlikeAtMost_c48 (v_crowdSize : Int32) (v_crowd : Nat → Int32) (v_masses_sums : Nat → Int64) (v_masses_weights : Nat → Int64) (k48_l2 : Int32) (k48_l3 : Int32) : Option (Int32) := if k48_l2 < k48_l3 then (some ((0 : Int32))) else (some ((1 : Int32)))
noncomputable def f_X4_hasUnlikeAtMost_c40 (k5 : Int32 → Int32 → Int32 → Int32 → Option (Int32)) (v_crowdSize : Int32) (v_crowd : Nat → Int32) (v_masses_sums : Nat → Int64) (v_masses_weights : Nat → Int64) (k40_l1 : Int32) (k40_l2 : Int32) (k40_l4 : Int32) (k40_s0 : Int32) (k40_s1 : Int32) : Option (Int32) := nm (k40_s1 + k40_s0) fun x_2 => nm (k40_l4 + (1 : Int32)) fun x_3 => k5 k40_l1 k40_l2 x_2 x_3
noncomputable def f_X4_hasUnlikeAtMost_c5 (v_crowdSize : Int32) (v_crowd : Nat → Int32) (v_masses_sums : Nat → Int64) (v_masses_weights : Nat → Int64) : Nat → Int32 → Int32 → Int32 → Int32 → Option (Int32)
  | 0, _, _, _, _ => none
  | n + 1, k5_l1, k5_l2, k5_l3, k5_l4 => if v_crowdSize ≤ k5_l4 then (f_X4_hasUnlikeAtMost_c48 v_crowdSize v_crowd v_masses_sums v_masses_weights k5_l2 k5_l3) else (if k5_l2 < k5_l3 then (f_X4_hasUnlikeAtMost_c48 v_crowdSize v_crowd v_masses_sums v_masses_weights k5_l2 k5_l3) else (ck k5_l4 10 <| bd (f_X4_isLike v_masses_sums v_masses_weights k5_l1 (v_crowd k5_l4.toNatClampNeg)) fun R_7 => if R_7 = 0 then (f_X4_hasUnlikeAtMost_c40 (fun k5_l1 k5_l2 k5_l3 k5_l4 => f_X4_hasUnlikeAtMost_c5 v_crowdSize v_crowd v_masses_sums v_masses_weights n k5_l1 k5_l2 k5_l3 k5_l4) v_crowdSize v_crowd v_masses_sums v_masses_weights k5_l1 k5_l2 k5_l4 (1 : Int32) k5_l3) else (f_X4_hasUnlikeAtMost_c40 (fun k5_l1 k5_l2 k5_l3 k5_l4 => f_X4_hasUnlikeAtMost_c5 v_crowdSize v_crowd v_masses_sums v_masses_weights n k5_l1 k5_l2 k5_l3 k5_l4) v_crowdSize v_crowd v_masses_sums v_masses_weights k5_l1 k5_l2 k5_l4 (0 : Int32) k5_l3)))
noncomputable def f_X4_hasUnlikeAtMost (v_crowdSize : Int32) (v_crowd : Nat → Int32) (v_masses_sums : Nat → Int64) (v_masses_weights : Nat → Int64) (p1 : Int32) (p2 : Int32) : Option (Int32) := f_X4_hasUnlikeAtMost_c5 v_crowdSize v_crowd v_masses_sums v_masses_weights fu p1 p2 (0 : Int32) (0 : Int32)
set_option maxHeartbeats 4000000 in
set_option maxRecDepth 100000 in
theorem c_X4_hasUnlikeAtMost (l : Launch) (D : va_G) (cI cJ cQ : ClassId) (a_this : Nat) (a_crowd : Nat) (a_masses : Nat) (a_masses_sums : Nat) (a_masses_weights : Nat) (r_row : Value) (r_lines : Value) (v_crowdSize : Int32) (v_crowd : Nat → Int32) (v_masses_sums : Nat → Int64) (v_masses_weights : Nat → Int64) (p1 : Int32) (p2 : Int32) (R0 : Int32) (hf : f_X4_hasUnlikeAtMost v_crowdSize v_crowd v_masses_sums v_masses_weights p1 p2 = some R0) : Ci l yX4_hasUnlikeAtMost wsX4_hasUnlikeAtMost ({ frames := 2, cells := 0, slots := 0, locals := 84 } : Room) D [(cI, .int), (cJ, .long), (cQ, .object "WhisperCrowd$State")] [.ref a_this, .int p1, .int p2] [(a_this, .inr (4, [.ref a_masses, .ref a_crowd, r_row, .int v_crowdSize, r_lines])), (a_crowd, .inl (cI, 10, .inl v_crowd)), (a_masses, .inr (3, [.ref a_masses_sums, .ref a_masses_weights])), (a_masses_sums, .inl (cJ, 10, .inr (.inl v_masses_sums))), (a_masses_weights, .inl (cJ, 10, .inr (.inl v_masses_weights)))] [(a_this, .inr (4, [.ref a_masses, .ref a_crowd, r_row, .int v_crowdSize, r_lines])), (a_crowd, .inl (cI, 10, .inl v_crowd)), (a_masses, .inr (3, [.ref a_masses_sums, .ref a_masses_weights])), (a_masses_sums, .inl (cJ, 10, .inr (.inl v_masses_sums))), (a_masses_weights, .inl (cJ, 10, .inr (.inl v_masses_weights)))] R0 := by
  refine x_enti (cc := cX4_hasUnlikeAtMost) (maxL := 5) (rt := (some .boolean)) (lv := [(0, .ref a_this), (1, .int p1), (2, .int p2)]) (by decide) rfl (Nat.le_of_ble_eq_true rfl) rfl ?_
  intro p e s m args below meth c A Q hQ hC
  have J_48 : ∀ (k48_l2 : Int32) (k48_l3 : Int32), f_X4_hasUnlikeAtMost_c48 v_crowdSize v_crowd v_masses_sums v_masses_weights k48_l2 k48_l3 = some R0 → XW p l e ({ frames := 2, cells := 0, slots := 0, locals := 84 } : Room) s m args below meth c D A 5 0 0 Q [(a_this, .inr (4, [.ref a_masses, .ref a_crowd, r_row, .int v_crowdSize, r_lines])), (a_crowd, .inl (cI, 10, .inl v_crowd)), (a_masses, .inr (3, [.ref a_masses_sums, .ref a_masses_weights])), (a_masses_sums, .inl (cJ, 10, .inr (.inl v_masses_sums))), (a_masses_weights, .inl (cJ, 10, .inr (.inl v_masses_weights)))] [] [(2, .int k48_l2), (3, .int k48_l3)] 48 [] := by
    intro k48_l2 k48_l3 hf
    unfold f_X4_hasUnlikeAtMost_c48 at hf
    refine x_iload_n 49 1 hC dX4_hasUnlikeAtMost_48 rfl rfl rfl ?_
    refine x_iload_n 50 0 hC dX4_hasUnlikeAtMost_49 rfl rfl rfl ?_
    refine x_icmp_gt 57 53 hC dX4_hasUnlikeAtMost_50 (by decide) rfl (fun c_1 => ?_) (fun c_1 => ?_)
    · have hf := if_t hf c_1
      refine x_iconst 58 hC (0 : Int32) dX4_hasUnlikeAtMost_57 rfl (by decide) ?_
      cases hf
      exact x_zret hC rfl dX4_hasUnlikeAtMost_58 hQ rfl rfl
    · have hf := if_f hf c_1
      refine x_iconst 54 hC (1 : Int32) dX4_hasUnlikeAtMost_53 rfl (by decide) ?_
      refine x_goto 58 hC dX4_hasUnlikeAtMost_54 (by decide) ?_
      cases hf
      exact x_zret hC rfl dX4_hasUnlikeAtMost_58 hQ rfl rfl
  have J_5 : ∀ (n : Nat) (k5_l1 : Int32) (k5_l2 : Int32) (k5_l3 : Int32) (k5_l4 : Int32), f_X4_hasUnlikeAtMost_c5 v_crowdSize v_crowd v_masses_sums v_masses_weights n k5_l1 k5_l2 k5_l3 k5_l4 = some R0 → XW p l e ({ frames := 2, cells := 0, slots := 0, locals := 84 } : Room) s m args below meth c D A 5 0 0 Q [(a_this, .inr (4, [.ref a_masses, .ref a_crowd, r_row, .int v_crowdSize, r_lines])), (a_crowd, .inl (cI, 10, .inl v_crowd)), (a_masses, .inr (3, [.ref a_masses_sums, .ref a_masses_weights])), (a_masses_sums, .inl (cJ, 10, .inr (.inl v_masses_sums))), (a_masses_weights, .inl (cJ, 10, .inr (.inl v_masses_weights)))] [] [(0, .ref a_this), (1, .int k5_l1), (2, .int k5_l2), (3, .int k5_l3), (4, .int k5_l4)] 5 [] := by
    intro n
    induction n with
    | zero => intro k5_l1 k5_l2 k5_l3 k5_l4 hf; exact nomatch (show (none : Option (Int32)) = some R0 from hf)
    | succ n_5 ih_5 =>
      have J_40 : ∀ (k40_l1 : Int32) (k40_l2 : Int32) (k40_l4 : Int32) (k40_s0 : Int32) (k40_s1 : Int32), f_X4_hasUnlikeAtMost_c40 (fun k5_l1 k5_l2 k5_l3 k5_l4 => f_X4_hasUnlikeAtMost_c5 v_crowdSize v_crowd v_masses_sums v_masses_weights n_5 k5_l1 k5_l2 k5_l3 k5_l4) v_crowdSize v_crowd v_masses_sums v_masses_weights k40_l1 k40_l2 k40_l4 k40_s0 k40_s1 = some R0 → XW p l e ({ frames := 2, cells := 0, slots := 0, locals := 84 } : Room) s m args below meth c D A 5 0 0 Q [(a_this, .inr (4, [.ref a_masses, .ref a_crowd, r_row, .int v_crowdSize, r_lines])), (a_crowd, .inl (cI, 10, .inl v_crowd)), (a_masses, .inr (3, [.ref a_masses_sums, .ref a_masses_weights])), (a_masses_sums, .inl (cJ, 10, .inr (.inl v_masses_sums))), (a_masses_weights, .inl (cJ, 10, .inr (.inl v_masses_weights)))] [] [(0, .ref a_this), (1, .int k40_l1), (2, .int k40_l2), (4, .int k40_l4)] 40 [.int k40_s0, .int k40_s1] := by
        intro k40_l1 k40_l2 k40_l4 k40_s0 k40_s1 hf
        unfold f_X4_hasUnlikeAtMost_c40 at hf
        refine x_iadd 41 hC dX4_hasUnlikeAtMost_40 rfl ?_
        obtain ⟨x_2, e_x_2, hf⟩ := nmx_e hf
        refine x_istore_n 42 [(3, .int x_2), (0, .ref a_this), (1, .int k40_l1), (2, .int k40_l2), (4, .int k40_l4)] hC dX4_hasUnlikeAtMost_41 rfl rfl e_x_2 (by decide) rfl ?_
        obtain ⟨x_3, e_x_3, hf⟩ := nmx_e hf
        refine x_iinc 45 4 [(4, .int x_3), (3, .int x_2), (0, .ref a_this), (1, .int k40_l1), (2, .int k40_l2)] hC dX4_hasUnlikeAtMost_42 rfl rfl e_x_3 (by decide) (by decide) rfl ?_
        refine x_goto 5 hC dX4_hasUnlikeAtMost_45 (by decide) ?_
        refine x_lv [(0, .ref a_this), (1, .int k40_l1), (2, .int k40_l2), (3, .int x_2), (4, .int x_3)] [2, 3, 4, 1, 0] rfl ?_
        exact ih_5 k40_l1 k40_l2 x_2 x_3 hf
      intro k5_l1 k5_l2 k5_l3 k5_l4 hf
      unfold f_X4_hasUnlikeAtMost_c5 at hf
      refine x_iload 7 4 hC dX4_hasUnlikeAtMost_5 rfl rfl ?_
      refine x_aload_n 8 0 hC dX4_hasUnlikeAtMost_7 rfl rfl rfl ?_
      refine x_get 11 0 3 hC in_X4_hasUnlikeAtMost_X4 rfl rfl (by decide) (List.mem_of_getElem? (i := 1) (by decide +kernel)) rfl rfl dX4_hasUnlikeAtMost_8 rfl ?_
      refine x_icmp_ge 48 14 hC dX4_hasUnlikeAtMost_11 (by decide) rfl (fun c_4 => ?_) (fun c_4 => ?_)
      · have hf := if_t hf c_4
        refine x_lv [(2, .int k5_l2), (3, .int k5_l3)] [2, 3] rfl ?_
        exact J_48 k5_l2 k5_l3 hf
      · have hf := if_f hf c_4
        refine x_iload_n 15 3 hC dX4_hasUnlikeAtMost_14 rfl rfl rfl ?_
        refine x_iload_n 16 2 hC dX4_hasUnlikeAtMost_15 rfl rfl rfl ?_
        refine x_icmp_gt 48 19 hC dX4_hasUnlikeAtMost_16 (by decide) rfl (fun c_5 => ?_) (fun c_5 => ?_)
        · have hf := if_t hf c_5
          refine x_lv [(2, .int k5_l2), (3, .int k5_l3)] [2, 3] rfl ?_
          exact J_48 k5_l2 k5_l3 hf
        · have hf := if_f hf c_5
          refine x_iload_n 20 3 hC dX4_hasUnlikeAtMost_19 rfl rfl rfl ?_
          refine x_aload_n 21 0 hC dX4_hasUnlikeAtMost_20 rfl rfl rfl ?_
          refine x_iload_n 22 1 hC dX4_hasUnlikeAtMost_21 rfl rfl rfl ?_
          refine x_aload_n 23 0 hC dX4_hasUnlikeAtMost_22 rfl rfl rfl ?_
          refine x_get 26 0 1 hC in_X4_hasUnlikeAtMost_X4 rfl rfl (by decide) (List.mem_of_getElem? (i := 2) (by decide +kernel)) rfl rfl dX4_hasUnlikeAtMost_23 rfl ?_
          refine x_iload 28 4 hC dX4_hasUnlikeAtMost_26 rfl rfl ?_
          obtain ⟨h_6, hf⟩ := ck_e hf
          refine x_iald 29 1 0 hC rfl rfl h_6 dX4_hasUnlikeAtMost_28 rfl ?_
          obtain ⟨R_7, h_R_7, hf⟩ := bd_e hf
          refine x_callVi 32 0 2 [0, 2, 3, 4] [(a_this, .inr (4, [.ref a_masses, .ref a_crowd, r_row, .int v_crowdSize, r_lines])), (a_crowd, .inl (cI, 10, .inl v_crowd)), (a_masses, .inr (3, [.ref a_masses_sums, .ref a_masses_weights])), (a_masses_sums, .inl (cJ, 10, .inr (.inl v_masses_sums))), (a_masses_weights, .inl (cJ, 10, .inr (.inl v_masses_weights)))] hC (As := [.int k5_l1, .int (v_crowd k5_l4.toNatClampNeg)]) (c_X4_isLike l D cI cJ cQ a_this a_masses a_masses_sums a_masses_weights (.ref a_crowd) r_row r_lines v_crowdSize v_masses_sums v_masses_weights k5_l1 (v_crowd k5_l4.toNatClampNeg) R_7 h_R_7) rfl rfl gX4_hasUnlikeAtMost_X4_isLike rfl ⟨rfl, rfl⟩ hd_X4_isLike ⟨Nat.le_of_ble_eq_true rfl, Nat.le_of_ble_eq_true rfl⟩ rfl rfl rfl rfl rfl rfl (Nat.le_of_ble_eq_true rfl) ⟨Nat.le_of_ble_eq_true rfl, Nat.le_of_ble_eq_true rfl⟩ dX4_hasUnlikeAtMost_29 rfl ?_
          refine x_if_eq 39 35 hC dX4_hasUnlikeAtMost_32 (by decide) rfl (fun c_8 => ?_) (fun c_8 => ?_)
          · have hf := if_t hf c_8
            refine x_iconst 40 hC (1 : Int32) dX4_hasUnlikeAtMost_39 rfl (by decide) ?_
            refine x_lv [(0, .ref a_this), (1, .int k5_l1), (2, .int k5_l2), (4, .int k5_l4)] [0, 1, 2, 4] rfl ?_
            exact J_40 k5_l1 k5_l2 k5_l4 (1 : Int32) k5_l3 hf
          · have hf := if_f hf c_8
            refine x_iconst 36 hC (0 : Int32) dX4_hasUnlikeAtMost_35 rfl (by decide) ?_
            refine x_goto 40 hC dX4_hasUnlikeAtMost_36 (by decide) ?_
            refine x_lv [(0, .ref a_this), (1, .int k5_l1), (2, .int k5_l2), (4, .int k5_l4)] [0, 1, 2, 4] rfl ?_
            exact J_40 k5_l1 k5_l2 k5_l4 (0 : Int32) k5_l3 hf
  unfold f_X4_hasUnlikeAtMost at hf
  refine x_iconst 1 hC (0 : Int32) dX4_hasUnlikeAtMost_0 rfl (by decide) ?_
  refine x_istore_n 2 [(3, .int (0 : Int32)), (0, .ref a_this), (1, .int p1), (2, .int p2)] hC dX4_hasUnlikeAtMost_1 rfl rfl rfl (by decide) rfl ?_
  refine x_iconst 3 hC (0 : Int32) dX4_hasUnlikeAtMost_2 rfl (by decide) ?_
  refine x_istore 5 [(4, .int (0 : Int32)), (3, .int (0 : Int32)), (0, .ref a_this), (1, .int p1), (2, .int p2)] hC dX4_hasUnlikeAtMost_3 rfl rfl (by decide) rfl ?_
  refine x_lv [(0, .ref a_this), (1, .int p1), (2, .int p2), (3, .int (0 : Int32)), (4, .int (0 : Int32))] [2, 3, 4, 1, 0] rfl ?_
  exact J_5 fu p1 p2 (0 : Int32) (0 : Int32) hf

theorem hd_X4_isNear : yX4_isNear.cls = RX4 ∧ yX4_isNear.cls ≠ "java/lang/invoke/MethodHandle" ∧ yX4_isNear.cls ≠ "java/lang/invoke/VarHandle" ∧ (parseMethodDescriptor yX4_isNear.desc).map (fun d => d.parameters.length) = some 1 := by decide +kernel
theorem in_X4_isNear_X4 : ∀ w ∈ u_ws RX4 TX4 5, w ∈ wsX4_isNear := fun w h => List.mem_cons_of_mem _ (List.mem_append_left _ (List.mem_append_right _ h))
noncomputable def f_X4_isNear_c16 (v_crowdSize : Int32) (v_crowd : Nat → Int32) (v_masses_sums : Nat → Int64) (v_masses_weights : Nat → Int64) : Nat → Int32 → Int32 → Option (Int32)
  | 0, _, _ => none
  | n + 1, k16_l2, k16_l3 => if k16_l2 < k16_l3 then (some ((0 : Int32))) else (if v_crowdSize ≤ k16_l3 then (some ((0 : Int32))) else (ck k16_l3 10 <| bd (f_X4_hasUnlikeAtMost v_crowdSize v_crowd v_masses_sums v_masses_weights (v_crowd k16_l3.toNatClampNeg) k16_l2) fun R_4 => if R_4 = 0 then (nm (k16_l3 + (1 : Int32)) fun x_6 => (fun k16_l2 k16_l3 => f_X4_isNear_c16 v_crowdSize v_crowd v_masses_sums v_masses_weights n k16_l2 k16_l3) k16_l2 x_6) else (some ((1 : Int32)))))
noncomputable def f_X4_isNear (v_crowdSize : Int32) (v_crowd : Nat → Int32) (v_masses_sums : Nat → Int64) (v_masses_weights : Nat → Int64) (p1 : Int32) : Option (Int32) := nm ((2 : Int32) * p1) fun x_7 => if x_7 < v_crowdSize then (f_X4_isNear_c16 v_crowdSize v_crowd v_masses_sums v_masses_weights fu x_7 (0 : Int32)) else (some ((1 : Int32)))
set_option maxHeartbeats 4000000 in
set_option maxRecDepth 100000 in
theorem c_X4_isNear (l : Launch) (D : va_G) (cI cJ cQ : ClassId) (a_this : Nat) (a_crowd : Nat) (a_masses : Nat) (a_masses_sums : Nat) (a_masses_weights : Nat) (r_row : Value) (r_lines : Value) (v_crowdSize : Int32) (v_crowd : Nat → Int32) (v_masses_sums : Nat → Int64) (v_masses_weights : Nat → Int64) (p1 : Int32) (R0 : Int32) (hf : f_X4_isNear v_crowdSize v_crowd v_masses_sums v_masses_weights p1 = some R0) : Ci l yX4_isNear wsX4_isNear ({ frames := 3, cells := 0, slots := 0, locals := 110 } : Room) D [(cI, .int), (cJ, .long), (cQ, .object "WhisperCrowd$State")] [.ref a_this, .int p1] [(a_this, .inr (4, [.ref a_masses, .ref a_crowd, r_row, .int v_crowdSize, r_lines])), (a_crowd, .inl (cI, 10, .inl v_crowd)), (a_masses, .inr (3, [.ref a_masses_sums, .ref a_masses_weights])), (a_masses_sums, .inl (cJ, 10, .inr (.inl v_masses_sums))), (a_masses_weights, .inl (cJ, 10, .inr (.inl v_masses_weights)))] [(a_this, .inr (4, [.ref a_masses, .ref a_crowd, r_row, .int v_crowdSize, r_lines])), (a_crowd, .inl (cI, 10, .inl v_crowd)), (a_masses, .inr (3, [.ref a_masses_sums, .ref a_masses_weights])), (a_masses_sums, .inl (cJ, 10, .inr (.inl v_masses_sums))), (a_masses_weights, .inl (cJ, 10, .inr (.inl v_masses_weights)))] R0 := by
  refine x_enti (cc := cX4_isNear) (maxL := 4) (rt := (some .boolean)) (lv := [(0, .ref a_this), (1, .int p1)]) (by decide) rfl (Nat.le_of_ble_eq_true rfl) rfl ?_
  intro p e s m args below meth c A Q hQ hC
  have J_16 : ∀ (n : Nat) (k16_l2 : Int32) (k16_l3 : Int32), f_X4_isNear_c16 v_crowdSize v_crowd v_masses_sums v_masses_weights n k16_l2 k16_l3 = some R0 → XW p l e ({ frames := 3, cells := 0, slots := 0, locals := 110 } : Room) s m args below meth c D A 4 0 0 Q [(a_this, .inr (4, [.ref a_masses, .ref a_crowd, r_row, .int v_crowdSize, r_lines])), (a_crowd, .inl (cI, 10, .inl v_crowd)), (a_masses, .inr (3, [.ref a_masses_sums, .ref a_masses_weights])), (a_masses_sums, .inl (cJ, 10, .inr (.inl v_masses_sums))), (a_masses_weights, .inl (cJ, 10, .inr (.inl v_masses_weights)))] [] [(0, .ref a_this), (2, .int k16_l2), (3, .int k16_l3)] 16 [] := by
    intro n
    induction n with
    | zero => intro k16_l2 k16_l3 hf; exact nomatch (show (none : Option (Int32)) = some R0 from hf)
    | succ n_16 ih_16 =>
      intro k16_l2 k16_l3 hf
      unfold f_X4_isNear_c16 at hf
      refine x_iload_n 17 2 hC dX4_isNear_16 rfl rfl rfl ?_
      refine x_iload_n 18 1 hC dX4_isNear_17 rfl rfl rfl ?_
      refine x_icmp_gt 51 21 hC dX4_isNear_18 (by decide) rfl (fun c_1 => ?_) (fun c_1 => ?_)
      · have hf := if_t hf c_1
        refine x_iconst 52 hC (0 : Int32) dX4_isNear_51 rfl (by decide) ?_
        cases hf
        exact x_zret hC rfl dX4_isNear_52 hQ rfl rfl
      · have hf := if_f hf c_1
        refine x_iload_n 22 2 hC dX4_isNear_21 rfl rfl rfl ?_
        refine x_aload_n 23 0 hC dX4_isNear_22 rfl rfl rfl ?_
        refine x_get 26 0 3 hC in_X4_isNear_X4 rfl rfl (by decide) (List.mem_of_getElem? (i := 1) (by decide +kernel)) rfl rfl dX4_isNear_23 rfl ?_
        refine x_icmp_ge 51 29 hC dX4_isNear_26 (by decide) rfl (fun c_2 => ?_) (fun c_2 => ?_)
        · have hf := if_t hf c_2
          refine x_iconst 52 hC (0 : Int32) dX4_isNear_51 rfl (by decide) ?_
          cases hf
          exact x_zret hC rfl dX4_isNear_52 hQ rfl rfl
        · have hf := if_f hf c_2
          refine x_aload_n 30 0 hC dX4_isNear_29 rfl rfl rfl ?_
          refine x_aload_n 31 0 hC dX4_isNear_30 rfl rfl rfl ?_
          refine x_get 34 0 1 hC in_X4_isNear_X4 rfl rfl (by decide) (List.mem_of_getElem? (i := 2) (by decide +kernel)) rfl rfl dX4_isNear_31 rfl ?_
          refine x_iload_n 35 2 hC dX4_isNear_34 rfl rfl rfl ?_
          obtain ⟨h_3, hf⟩ := ck_e hf
          refine x_iald 36 1 0 hC rfl rfl h_3 dX4_isNear_35 rfl ?_
          refine x_iload_n 37 1 hC dX4_isNear_36 rfl rfl rfl ?_
          obtain ⟨R_4, h_R_4, hf⟩ := bd_e hf
          refine x_callVi 40 0 2 [0, 1, 2, 3, 4] [(a_this, .inr (4, [.ref a_masses, .ref a_crowd, r_row, .int v_crowdSize, r_lines])), (a_crowd, .inl (cI, 10, .inl v_crowd)), (a_masses, .inr (3, [.ref a_masses_sums, .ref a_masses_weights])), (a_masses_sums, .inl (cJ, 10, .inr (.inl v_masses_sums))), (a_masses_weights, .inl (cJ, 10, .inr (.inl v_masses_weights)))] hC (As := [.int (v_crowd k16_l3.toNatClampNeg), .int k16_l2]) (c_X4_hasUnlikeAtMost l D cI cJ cQ a_this a_crowd a_masses a_masses_sums a_masses_weights r_row r_lines v_crowdSize v_crowd v_masses_sums v_masses_weights (v_crowd k16_l3.toNatClampNeg) k16_l2 R_4 h_R_4) rfl rfl gX4_isNear_X4_hasUnlikeAtMost rfl ⟨rfl, rfl⟩ hd_X4_hasUnlikeAtMost ⟨Nat.le_of_ble_eq_true rfl, Nat.le_of_ble_eq_true rfl⟩ rfl rfl rfl rfl rfl rfl (Nat.le_of_ble_eq_true rfl) ⟨Nat.le_of_ble_eq_true rfl, Nat.le_of_ble_eq_true rfl⟩ dX4_isNear_37 rfl ?_
          refine x_if_eq 45 43 hC dX4_isNear_40 (by decide) rfl (fun c_5 => ?_) (fun c_5 => ?_)
          · have hf := if_t hf c_5
            obtain ⟨x_6, e_x_6, hf⟩ := nmx_e hf
            refine x_iinc 48 2 [(3, .int x_6), (0, .ref a_this), (2, .int k16_l2)] hC dX4_isNear_45 rfl rfl e_x_6 (by decide) (by decide) rfl ?_
            refine x_goto 16 hC dX4_isNear_48 (by decide) ?_
            refine x_lv [(0, .ref a_this), (2, .int k16_l2), (3, .int x_6)] [1, 2, 0] rfl ?_
            exact ih_16 k16_l2 x_6 hf
          · have hf := if_f hf c_5
            refine x_iconst 44 hC (1 : Int32) dX4_isNear_43 rfl (by decide) ?_
            cases hf
            exact x_zret hC rfl dX4_isNear_44 hQ rfl rfl
  unfold f_X4_isNear at hf
  refine x_iconst 1 hC (2 : Int32) dX4_isNear_0 rfl (by decide) ?_
  refine x_iload_n 2 1 hC dX4_isNear_1 rfl rfl rfl ?_
  refine x_imul 3 hC dX4_isNear_2 rfl ?_
  obtain ⟨x_7, e_x_7, hf⟩ := nmx_e hf
  refine x_istore_n 4 [(2, .int x_7), (0, .ref a_this), (1, .int p1)] hC dX4_isNear_3 rfl rfl e_x_7 (by decide) rfl ?_
  refine x_aload_n 5 1 hC dX4_isNear_4 rfl rfl rfl ?_
  refine x_get 8 0 3 hC in_X4_isNear_X4 rfl rfl (by decide) (List.mem_of_getElem? (i := 1) (by decide +kernel)) rfl rfl dX4_isNear_5 rfl ?_
  refine x_iload_n 9 0 hC dX4_isNear_8 rfl rfl rfl ?_
  refine x_icmp_gt 14 12 hC dX4_isNear_9 (by decide) rfl (fun c_8 => ?_) (fun c_8 => ?_)
  · have hf := if_t hf c_8
    refine x_iconst 15 hC (0 : Int32) dX4_isNear_14 rfl (by decide) ?_
    refine x_istore_n 16 [(3, .int (0 : Int32)), (2, .int x_7), (0, .ref a_this), (1, .int p1)] hC dX4_isNear_15 rfl rfl rfl (by decide) rfl ?_
    refine x_lv [(0, .ref a_this), (2, .int x_7), (3, .int (0 : Int32))] [2, 1, 0] rfl ?_
    exact J_16 fu x_7 (0 : Int32) hf
  · have hf := if_f hf c_8
    refine x_iconst 13 hC (1 : Int32) dX4_isNear_12 rfl (by decide) ?_
    cases hf
    exact x_zret hC rfl dX4_isNear_13 hQ rfl rfl

theorem hd_X4_evensOut : yX4_evensOut.cls = RX4 ∧ yX4_evensOut.cls ≠ "java/lang/invoke/MethodHandle" ∧ yX4_evensOut.cls ≠ "java/lang/invoke/VarHandle" ∧ (parseMethodDescriptor yX4_evensOut.desc).map (fun d => d.parameters.length) = some 2 := by decide +kernel
theorem in_X4_evensOut_X4 : ∀ w ∈ u_ws RX4 TX4 5, w ∈ wsX4_evensOut := fun w h => List.mem_cons_of_mem _ (List.mem_append_left _ (List.mem_append_left _ (List.mem_append_right _ h)))
theorem in_X4_evensOut_X2 : ∀ w ∈ u_ws RX2 TX2 3, w ∈ wsX4_evensOut := fun w h => List.mem_cons_of_mem _ (List.mem_append_left _ (List.mem_append_right _ h))
noncomputable def f_X4_evensOut_L0_c37 (v_crowdSize : Int32) (v_crowd : Nat → Int32) (v_lines_size : Int32) (v_lines_lesser : Nat → Int32) (v_lines_other : Nat → Int32) (v_masses_sums : Nat → Int64) (v_masses_weights : Nat → Int64) : Nat → (Nat → Int32) → Int32 → Int32 → Int32 → Option ((Nat → Int32) × Int32)
  | 0, _, _, _, _ => none
  | n + 1, k37_row, k37_l1, k37_l2, k37_l3 => if v_lines_size ≤ k37_l3 then (some (k37_row, (0 : Int32))) else (ck k37_l1 3 <| nm (upd k37_row k37_l1.toNatClampNeg k37_l3) fun g_3 => ck k37_l3 45 <| ck k37_l3 45 <| none)
noncomputable def f_X4_evensOut_L0_c10 (v_crowdSize : Int32) (v_crowd : Nat → Int32) (v_lines_size : Int32) (v_lines_lesser : Nat → Int32) (v_lines_other : Nat → Int32) (v_masses_sums : Nat → Int64) (v_masses_weights : Nat → Int64) (k10_row : Nat → Int32) : Option ((Nat → Int32) × Int32) := bd (f_X4_isNear v_crowdSize v_crowd v_masses_sums v_masses_weights (0 : Int32)) fun R_6 => ckp (narrow .boolean (.int R_6) = .int R_6) (Classical.propDecidable _) <| some (k10_row, R_6)
noncomputable def f_X4_evensOut_L0 (v_crowdSize : Int32) (v_crowd : Nat → Int32) (v_lines_size : Int32) (v_lines_lesser : Nat → Int32) (v_lines_other : Nat → Int32) (v_masses_sums : Nat → Int64) (v_masses_weights : Nat → Int64) (v_row : Nat → Int32) (p1 : Int32) (p2 : Int32) : Option ((Nat → Int32) × Int32) := if p2 ≤ p1 then (f_X4_evensOut_L0_c10 v_crowdSize v_crowd v_lines_size v_lines_lesser v_lines_other v_masses_sums v_masses_weights v_row) else (if p1 < (3 : Int32) then (bd (f_X4_isNear v_crowdSize v_crowd v_masses_sums v_masses_weights (p2 - p1)) fun R_10 => if ¬ R_10 = 0 then (f_X4_evensOut_L0_c37 v_crowdSize v_crowd v_lines_size v_lines_lesser v_lines_other v_masses_sums v_masses_weights fu v_row p1 p2 (0 : Int32)) else (some (v_row, (0 : Int32)))) else (f_X4_evensOut_L0_c10 v_crowdSize v_crowd v_lines_size v_lines_lesser v_lines_other v_masses_sums v_masses_weights v_row))
set_option maxHeartbeats 4000000 in
set_option maxRecDepth 100000 in
theorem c_X4_evensOut_L0 (l : Launch) (D : va_G) (cI cJ cQ : ClassId) (a_this : Nat) (a_crowd : Nat) (a_lines : Nat) (a_lines_lesser : Nat) (a_lines_other : Nat) (a_masses : Nat) (a_masses_sums : Nat) (a_masses_weights : Nat) (a_row : Nat) (v_crowdSize : Int32) (v_crowd : Nat → Int32) (v_lines_size : Int32) (v_lines_lesser : Nat → Int32) (v_lines_other : Nat → Int32) (v_masses_sums : Nat → Int64) (v_masses_weights : Nat → Int64) (v_row : Nat → Int32) (p1 : Int32) (p2 : Int32) (R0 : (Nat → Int32) × Int32) (hf : f_X4_evensOut_L0 v_crowdSize v_crowd v_lines_size v_lines_lesser v_lines_other v_masses_sums v_masses_weights v_row p1 p2 = some R0) : Ci l yX4_evensOut wsX4_evensOut ({ frames := 4, cells := 0, slots := 0, locals := 135 } : Room) D [(cI, .int), (cJ, .long), (cQ, .object "WhisperCrowd$State")] [.ref a_this, .int p1, .int p2] [(a_this, .inr (4, [.ref a_masses, .ref a_crowd, .ref a_row, .int v_crowdSize, .ref a_lines])), (a_crowd, .inl (cI, 10, .inl v_crowd)), (a_lines, .inr (2, [.ref a_lines_lesser, .ref a_lines_other, .int v_lines_size])), (a_lines_lesser, .inl (cI, 45, .inl v_lines_lesser)), (a_lines_other, .inl (cI, 45, .inl v_lines_other)), (a_masses, .inr (3, [.ref a_masses_sums, .ref a_masses_weights])), (a_masses_sums, .inl (cJ, 10, .inr (.inl v_masses_sums))), (a_masses_weights, .inl (cJ, 10, .inr (.inl v_masses_weights))), (a_row, .inl (cI, 3, .inl v_row))] [(a_this, .inr (4, [.ref a_masses, .ref a_crowd, .ref a_row, .int v_crowdSize, .ref a_lines])), (a_crowd, .inl (cI, 10, .inl v_crowd)), (a_lines, .inr (2, [.ref a_lines_lesser, .ref a_lines_other, .int v_lines_size])), (a_lines_lesser, .inl (cI, 45, .inl v_lines_lesser)), (a_lines_other, .inl (cI, 45, .inl v_lines_other)), (a_masses, .inr (3, [.ref a_masses_sums, .ref a_masses_weights])), (a_masses_sums, .inl (cJ, 10, .inr (.inl v_masses_sums))), (a_masses_weights, .inl (cJ, 10, .inr (.inl v_masses_weights))), (a_row, .inl (cI, 3, .inl R0.1))] R0.2 := by
  refine x_enti (cc := cX4_evensOut) (maxL := 4) (rt := (some .boolean)) (lv := [(0, .ref a_this), (1, .int p1), (2, .int p2)]) (by decide) rfl (Nat.le_of_ble_eq_true rfl) rfl ?_
  intro p e s m args below meth c A Q hQ hC
  have J_37 : ∀ (n : Nat) (k37_row : Nat → Int32) (k37_l1 : Int32) (k37_l2 : Int32) (k37_l3 : Int32), f_X4_evensOut_L0_c37 v_crowdSize v_crowd v_lines_size v_lines_lesser v_lines_other v_masses_sums v_masses_weights n k37_row k37_l1 k37_l2 k37_l3 = some R0 → XW p l e ({ frames := 4, cells := 0, slots := 0, locals := 135 } : Room) s m args below meth c D A 4 0 0 Q [(a_this, .inr (4, [.ref a_masses, .ref a_crowd, .ref a_row, .int v_crowdSize, .ref a_lines])), (a_crowd, .inl (cI, 10, .inl v_crowd)), (a_lines, .inr (2, [.ref a_lines_lesser, .ref a_lines_other, .int v_lines_size])), (a_lines_lesser, .inl (cI, 45, .inl v_lines_lesser)), (a_lines_other, .inl (cI, 45, .inl v_lines_other)), (a_masses, .inr (3, [.ref a_masses_sums, .ref a_masses_weights])), (a_masses_sums, .inl (cJ, 10, .inr (.inl v_masses_sums))), (a_masses_weights, .inl (cJ, 10, .inr (.inl v_masses_weights))), (a_row, .inl (cI, 3, .inl k37_row))] [] [(0, .ref a_this), (1, .int k37_l1), (2, .int k37_l2), (3, .int k37_l3)] 37 [] := by
    intro n
    induction n with
    | zero => intro k37_row k37_l1 k37_l2 k37_l3 hf; exact nomatch (show (none : Option ((Nat → Int32) × Int32)) = some R0 from hf)
    | succ n_37 ih_37 =>
      intro k37_row k37_l1 k37_l2 k37_l3 hf
      unfold f_X4_evensOut_L0_c37 at hf
      refine x_iload_n 38 3 hC dX4_evensOut_37 rfl rfl rfl ?_
      refine x_aload_n 39 0 hC dX4_evensOut_38 rfl rfl rfl ?_
      refine x_get 42 0 4 hC in_X4_evensOut_X4 rfl rfl (by decide) (List.mem_of_getElem? (i := 1) (by decide +kernel)) rfl rfl dX4_evensOut_39 rfl ?_
      refine x_get 45 2 2 hC in_X4_evensOut_X2 rfl rfl (by decide) (List.mem_of_getElem? (i := 2) (by decide +kernel)) rfl rfl dX4_evensOut_42 rfl ?_
      refine x_icmp_ge 90 48 hC dX4_evensOut_45 (by decide) rfl (fun c_1 => ?_) (fun c_1 => ?_)
      · have hf := if_t hf c_1
        refine x_iconst 91 hC (0 : Int32) dX4_evensOut_90 rfl (by decide) ?_
        cases hf
        exact x_zret hC rfl dX4_evensOut_91 hQ rfl rfl
      · have hf := if_f hf c_1
        refine x_aload_n 49 0 hC dX4_evensOut_48 rfl rfl rfl ?_
        refine x_get 52 0 2 hC in_X4_evensOut_X4 rfl rfl (by decide) (List.mem_of_getElem? (i := 3) (by decide +kernel)) rfl rfl dX4_evensOut_49 rfl ?_
        refine x_iload_n 53 1 hC dX4_evensOut_52 rfl rfl rfl ?_
        refine x_iload_n 54 3 hC dX4_evensOut_53 rfl rfl rfl ?_
        obtain ⟨h_2, hf⟩ := ck_e hf
        obtain ⟨g_3, e_g_3, hf⟩ := nmx_e hf
        refine x_iast 55 8 0 [(a_this, .inr (4, [.ref a_masses, .ref a_crowd, .ref a_row, .int v_crowdSize, .ref a_lines])), (a_crowd, .inl (cI, 10, .inl v_crowd)), (a_lines, .inr (2, [.ref a_lines_lesser, .ref a_lines_other, .int v_lines_size])), (a_lines_lesser, .inl (cI, 45, .inl v_lines_lesser)), (a_lines_other, .inl (cI, 45, .inl v_lines_other)), (a_masses, .inr (3, [.ref a_masses_sums, .ref a_masses_weights])), (a_masses_sums, .inl (cJ, 10, .inr (.inl v_masses_sums))), (a_masses_weights, .inl (cJ, 10, .inr (.inl v_masses_weights))), (a_row, .inl (cI, 3, .inl g_3))] hC rfl rfl h_2 e_g_3 rfl dX4_evensOut_54 rfl ?_
        refine x_aload_n 56 0 hC dX4_evensOut_55 rfl rfl rfl ?_
        refine x_aload_n 57 0 hC dX4_evensOut_56 rfl rfl rfl ?_
        refine x_get 60 0 4 hC in_X4_evensOut_X4 rfl rfl (by decide) (List.mem_of_getElem? (i := 1) (by decide +kernel)) rfl rfl dX4_evensOut_57 rfl ?_
        refine x_get 63 2 0 hC in_X4_evensOut_X2 rfl rfl (by decide) (List.mem_of_getElem? (i := 4) (by decide +kernel)) rfl rfl dX4_evensOut_60 rfl ?_
        refine x_iload_n 64 3 hC dX4_evensOut_63 rfl rfl rfl ?_
        obtain ⟨h_4, hf⟩ := ck_e hf
        refine x_iald 65 3 0 hC rfl rfl h_4 dX4_evensOut_64 rfl ?_
        refine x_aload_n 66 0 hC dX4_evensOut_65 rfl rfl rfl ?_
        refine x_get 69 0 4 hC in_X4_evensOut_X4 rfl rfl (by decide) (List.mem_of_getElem? (i := 1) (by decide +kernel)) rfl rfl dX4_evensOut_66 rfl ?_
        refine x_get 72 2 1 hC in_X4_evensOut_X2 rfl rfl (by decide) (List.mem_of_getElem? (i := 5) (by decide +kernel)) rfl rfl dX4_evensOut_69 rfl ?_
        refine x_iload_n 73 3 hC dX4_evensOut_72 rfl rfl rfl ?_
        obtain ⟨h_5, hf⟩ := ck_e hf
        refine x_iald 74 4 0 hC rfl rfl h_5 dX4_evensOut_73 rfl ?_
        refine x_iload_n 75 1 hC dX4_evensOut_74 rfl rfl rfl ?_
        refine x_iload_n 76 2 hC dX4_evensOut_75 rfl rfl rfl ?_
        exact nomatch hf
  have J_10 : ∀ (k10_row : Nat → Int32), f_X4_evensOut_L0_c10 v_crowdSize v_crowd v_lines_size v_lines_lesser v_lines_other v_masses_sums v_masses_weights k10_row = some R0 → XW p l e ({ frames := 4, cells := 0, slots := 0, locals := 135 } : Room) s m args below meth c D A 4 0 0 Q [(a_this, .inr (4, [.ref a_masses, .ref a_crowd, .ref a_row, .int v_crowdSize, .ref a_lines])), (a_crowd, .inl (cI, 10, .inl v_crowd)), (a_lines, .inr (2, [.ref a_lines_lesser, .ref a_lines_other, .int v_lines_size])), (a_lines_lesser, .inl (cI, 45, .inl v_lines_lesser)), (a_lines_other, .inl (cI, 45, .inl v_lines_other)), (a_masses, .inr (3, [.ref a_masses_sums, .ref a_masses_weights])), (a_masses_sums, .inl (cJ, 10, .inr (.inl v_masses_sums))), (a_masses_weights, .inl (cJ, 10, .inr (.inl v_masses_weights))), (a_row, .inl (cI, 3, .inl k10_row))] [] [(0, .ref a_this)] 10 [] := by
    intro k10_row hf
    unfold f_X4_evensOut_L0_c10 at hf
    refine x_aload_n 11 0 hC dX4_evensOut_10 rfl rfl rfl ?_
    refine x_iconst 12 hC (0 : Int32) dX4_evensOut_11 rfl (by decide) ?_
    obtain ⟨R_6, h_R_6, hf⟩ := bd_e hf
    refine x_callVi 15 0 1 [0, 1, 5, 6, 7] [(a_this, .inr (4, [.ref a_masses, .ref a_crowd, .ref a_row, .int v_crowdSize, .ref a_lines])), (a_crowd, .inl (cI, 10, .inl v_crowd)), (a_lines, .inr (2, [.ref a_lines_lesser, .ref a_lines_other, .int v_lines_size])), (a_lines_lesser, .inl (cI, 45, .inl v_lines_lesser)), (a_lines_other, .inl (cI, 45, .inl v_lines_other)), (a_masses, .inr (3, [.ref a_masses_sums, .ref a_masses_weights])), (a_masses_sums, .inl (cJ, 10, .inr (.inl v_masses_sums))), (a_masses_weights, .inl (cJ, 10, .inr (.inl v_masses_weights))), (a_row, .inl (cI, 3, .inl k10_row))] hC (As := [.int (0 : Int32)]) (c_X4_isNear l D cI cJ cQ a_this a_crowd a_masses a_masses_sums a_masses_weights (.ref a_row) (.ref a_lines) v_crowdSize v_crowd v_masses_sums v_masses_weights (0 : Int32) R_6 h_R_6) rfl rfl gX4_evensOut_X4_isNear rfl ⟨rfl, rfl⟩ hd_X4_isNear ⟨Nat.le_of_ble_eq_true rfl, Nat.le_of_ble_eq_true rfl⟩ rfl rfl rfl rfl rfl rfl (Nat.le_of_ble_eq_true rfl) ⟨Nat.le_of_ble_eq_true rfl, Nat.le_of_ble_eq_true rfl⟩ dX4_evensOut_12 rfl ?_
    obtain ⟨h_7, hf⟩ := ckp_e hf
    cases hf
    exact x_zret hC h_7 dX4_evensOut_15 hQ rfl rfl
  unfold f_X4_evensOut_L0 at hf
  refine x_iload_n 1 1 hC dX4_evensOut_0 rfl rfl rfl ?_
  refine x_iload_n 2 2 hC dX4_evensOut_1 rfl rfl rfl ?_
  refine x_icmp_ge 10 5 hC dX4_evensOut_2 (by decide) rfl (fun c_8 => ?_) (fun c_8 => ?_)
  · have hf := if_t hf c_8
    refine x_lv [(0, .ref a_this)] [0] rfl ?_
    exact J_10 v_row hf
  · have hf := if_f hf c_8
    refine x_iload_n 6 1 hC dX4_evensOut_5 rfl rfl rfl ?_
    refine x_iconst 7 hC (3 : Int32) dX4_evensOut_6 rfl (by decide) ?_
    refine x_icmp_lt 16 10 hC dX4_evensOut_7 (by decide) rfl (fun c_9 => ?_) (fun c_9 => ?_)
    · have hf := if_t hf c_9
      refine x_aload_n 17 0 hC dX4_evensOut_16 rfl rfl rfl ?_
      refine x_get 20 0 4 hC in_X4_evensOut_X4 rfl rfl (by decide) (List.mem_of_getElem? (i := 1) (by decide +kernel)) rfl rfl dX4_evensOut_17 rfl ?_
      refine x_ifnull 23 hC dX4_evensOut_20 rfl ?_
      refine x_aload_n 24 0 hC dX4_evensOut_23 rfl rfl rfl ?_
      refine x_iload_n 25 2 hC dX4_evensOut_24 rfl rfl rfl ?_
      refine x_iload_n 26 1 hC dX4_evensOut_25 rfl rfl rfl ?_
      refine x_isub 27 hC dX4_evensOut_26 rfl ?_
      obtain ⟨R_10, h_R_10, hf⟩ := bd_e hf
      refine x_callVi 30 0 1 [0, 1, 5, 6, 7] [(a_this, .inr (4, [.ref a_masses, .ref a_crowd, .ref a_row, .int v_crowdSize, .ref a_lines])), (a_crowd, .inl (cI, 10, .inl v_crowd)), (a_lines, .inr (2, [.ref a_lines_lesser, .ref a_lines_other, .int v_lines_size])), (a_lines_lesser, .inl (cI, 45, .inl v_lines_lesser)), (a_lines_other, .inl (cI, 45, .inl v_lines_other)), (a_masses, .inr (3, [.ref a_masses_sums, .ref a_masses_weights])), (a_masses_sums, .inl (cJ, 10, .inr (.inl v_masses_sums))), (a_masses_weights, .inl (cJ, 10, .inr (.inl v_masses_weights))), (a_row, .inl (cI, 3, .inl v_row))] hC (As := [.int (p2 - p1)]) (c_X4_isNear l D cI cJ cQ a_this a_crowd a_masses a_masses_sums a_masses_weights (.ref a_row) (.ref a_lines) v_crowdSize v_crowd v_masses_sums v_masses_weights (p2 - p1) R_10 h_R_10) rfl rfl gX4_evensOut_X4_isNear rfl ⟨rfl, rfl⟩ hd_X4_isNear ⟨Nat.le_of_ble_eq_true rfl, Nat.le_of_ble_eq_true rfl⟩ rfl rfl rfl rfl rfl rfl (Nat.le_of_ble_eq_true rfl) ⟨Nat.le_of_ble_eq_true rfl, Nat.le_of_ble_eq_true rfl⟩ dX4_evensOut_27 rfl ?_
      refine x_if_ne 35 33 hC dX4_evensOut_30 (by decide) rfl (fun c_11 => ?_) (fun c_11 => ?_)
      · have hf := if_t hf c_11
        refine x_iconst 36 hC (0 : Int32) dX4_evensOut_35 rfl (by decide) ?_
        refine x_istore_n 37 [(3, .int (0 : Int32)), (0, .ref a_this), (1, .int p1), (2, .int p2)] hC dX4_evensOut_36 rfl rfl rfl (by decide) rfl ?_
        refine x_lv [(0, .ref a_this), (1, .int p1), (2, .int p2), (3, .int (0 : Int32))] [1, 2, 3, 0] rfl ?_
        exact J_37 fu v_row p1 p2 (0 : Int32) hf
      · have hf := if_f hf c_11
        refine x_iconst 34 hC (0 : Int32) dX4_evensOut_33 rfl (by decide) ?_
        cases hf
        exact x_zret hC rfl dX4_evensOut_34 hQ rfl rfl
    · have hf := if_f hf c_9
      refine x_lv [(0, .ref a_this)] [0] rfl ?_
      exact J_10 v_row hf

theorem hd_X4_evensOutOver : yX4_evensOutOver.cls = RX4 ∧ yX4_evensOutOver.cls ≠ "java/lang/invoke/MethodHandle" ∧ yX4_evensOutOver.cls ≠ "java/lang/invoke/VarHandle" ∧ (parseMethodDescriptor yX4_evensOutOver.desc).map (fun d => d.parameters.length) = some 4 := by decide +kernel
theorem in_X4_evensOutOver_X4 : ∀ w ∈ u_ws RX4 TX4 5, w ∈ wsX4_evensOutOver := fun w h => List.mem_cons_of_mem _ (List.mem_append_left _ (List.mem_append_left _ (List.mem_append_right _ h)))
theorem in_X4_evensOutOver_X3 : ∀ w ∈ u_ws RX3 TX3 2, w ∈ wsX4_evensOutOver := fun w h => List.mem_cons_of_mem _ (List.mem_append_right _ h)
noncomputable def f_X4_evensOutOver_L1_c112 (v_crowdSize : Int32) (v_crowd : Nat → Int32) (v_lines_size : Int32) (v_lines_lesser : Nat → Int32) (v_lines_other : Nat → Int32) (k112_masses_sums : Nat → Int64) (k112_masses_weights : Nat → Int64) (k112_row : Nat → Int32) (k112_l1 : Int32) (k112_l2 : Int32) (k112_l5 : Int64) (k112_l7 : Int64) (k112_l9 : Int64) (k112_l11 : Int64) (k112_s0 : Int32) : Option ((Nat → Int64) × (Nat → Int64) × (Nat → Int32) × Int32) := bd (f_X3_put 10 k112_masses_sums k112_masses_weights k112_l1 k112_l5 k112_l7) fun R_1 => bd (f_X3_put 10 R_1.1 R_1.2 k112_l2 k112_l9 k112_l11) fun R_2 => ckp (narrow .boolean (.int k112_s0) = .int k112_s0) (Classical.propDecidable _) <| some (R_2.1, R_2.2, k112_row, k112_s0)
noncomputable def f_X4_evensOutOver_L1_c111 (v_crowdSize : Int32) (v_crowd : Nat → Int32) (v_lines_size : Int32) (v_lines_lesser : Nat → Int32) (v_lines_other : Nat → Int32) (k111_masses_sums : Nat → Int64) (k111_masses_weights : Nat → Int64) (k111_row : Nat → Int32) (k111_l1 : Int32) (k111_l2 : Int32) (k111_l5 : Int64) (k111_l7 : Int64) (k111_l9 : Int64) (k111_l11 : Int64) : Option ((Nat → Int64) × (Nat → Int64) × (Nat → Int32) × Int32) := f_X4_evensOutOver_L1_c112 v_crowdSize v_crowd v_lines_size v_lines_lesser v_lines_other k111_masses_sums k111_masses_weights k111_row k111_l1 k111_l2 k111_l5 k111_l7 k111_l9 k111_l11 (0 : Int32)
noncomputable def f_X4_evensOutOver_L1_c88 (v_crowdSize : Int32) (v_crowd : Nat → Int32) (v_lines_size : Int32) (v_lines_lesser : Nat → Int32) (v_lines_other : Nat → Int32) (k88_masses_sums : Nat → Int64) (k88_masses_weights : Nat → Int64) (k88_row : Nat → Int32) (k88_l1 : Int32) (k88_l2 : Int32) (k88_l3 : Int32) (k88_l4 : Int32) (k88_l5 : Int64) (k88_l7 : Int64) (k88_l9 : Int64) (k88_l11 : Int64) (k88_s0 : Int32) : Option ((Nat → Int64) × (Nat → Int64) × (Nat → Int32) × Int32) := if k88_s0 = 0 then (f_X4_evensOutOver_L1_c111 v_crowdSize v_crowd v_lines_size v_lines_lesser v_lines_other k88_masses_sums k88_masses_weights k88_row k88_l1 k88_l2 k88_l5 k88_l7 k88_l9 k88_l11) else (bd (f_X4_evensOut_L0 v_crowdSize v_crowd v_lines_size v_lines_lesser v_lines_other k88_masses_sums k88_masses_weights k88_row (k88_l3 + (1 : Int32)) k88_l4) fun R_5 => if R_5.2 = 0 then (f_X4_evensOutOver_L1_c111 v_crowdSize v_crowd v_lines_size v_lines_lesser v_lines_other k88_masses_sums k88_masses_weights R_5.1 k88_l1 k88_l2 k88_l5 k88_l7 k88_l9 k88_l11) else (f_X4_evensOutOver_L1_c112 v_crowdSize v_crowd v_lines_size v_lines_lesser v_lines_other k88_masses_sums k88_masses_weights R_5.1 k88_l1 k88_l2 k88_l5 k88_l7 k88_l9 k88_l11 (1 : Int32)))
noncomputable def f_X4_evensOutOver_L1_c83 (v_crowdSize : Int32) (v_crowd : Nat → Int32) (v_lines_size : Int32) (v_lines_lesser : Nat → Int32) (v_lines_other : Nat → Int32) (k83_masses_sums : Nat → Int64) (k83_masses_weights : Nat → Int64) (k83_row : Nat → Int32) (k83_l1 : Int32) (k83_l2 : Int32) (k83_l3 : Int32) (k83_l4 : Int32) (k83_l5 : Int64) (k83_l7 : Int64) (k83_l9 : Int64) (k83_l11 : Int64) : Option ((Nat → Int64) × (Nat → Int64) × (Nat → Int32) × Int32) := f_X4_evensOutOver_L1_c88 v_crowdSize v_crowd v_lines_size v_lines_lesser v_lines_other k83_masses_sums k83_masses_weights k83_row k83_l1 k83_l2 k83_l3 k83_l4 k83_l5 k83_l7 k83_l9 k83_l11 (1 : Int32)
noncomputable def f_X4_evensOutOver_L1 (v_crowdSize : Int32) (v_crowd : Nat → Int32) (v_lines_size : Int32) (v_lines_lesser : Nat → Int32) (v_lines_other : Nat → Int32) (v_masses_sums : Nat → Int64) (v_masses_weights : Nat → Int64) (v_row : Nat → Int32) (p1 : Int32) (p2 : Int32) (p3 : Int32) (p4 : Int32) : Option ((Nat → Int64) × (Nat → Int64) × (Nat → Int32) × Int32) := ck p1 10 <| nm (v_masses_sums p1.toNatClampNeg) fun x_8 => ck p1 10 <| nm (v_masses_weights p1.toNatClampNeg) fun x_10 => ck p2 10 <| nm (v_masses_sums p2.toNatClampNeg) fun x_12 => ck p2 10 <| nm (v_masses_weights p2.toNatClampNeg) fun x_14 => bd (f_X3_even 10 v_masses_sums v_masses_weights p1 p2) fun R_15 => ck p1 10 <| if ¬ (R_15.1 p1.toNatClampNeg) = x_8 then (f_X4_evensOutOver_L1_c83 v_crowdSize v_crowd v_lines_size v_lines_lesser v_lines_other R_15.1 R_15.2 v_row p1 p2 p3 p4 x_8 x_10 x_12 x_14) else (ck p1 10 <| if (R_15.2 p1.toNatClampNeg) = x_10 then (f_X4_evensOutOver_L1_c88 v_crowdSize v_crowd v_lines_size v_lines_lesser v_lines_other R_15.1 R_15.2 v_row p1 p2 p3 p4 x_8 x_10 x_12 x_14 (0 : Int32)) else (f_X4_evensOutOver_L1_c83 v_crowdSize v_crowd v_lines_size v_lines_lesser v_lines_other R_15.1 R_15.2 v_row p1 p2 p3 p4 x_8 x_10 x_12 x_14))
set_option maxHeartbeats 4000000 in
set_option maxRecDepth 100000 in
theorem c_X4_evensOutOver_L1 (l : Launch) (D : va_G) (cI cJ cQ : ClassId) (a_this : Nat) (a_crowd : Nat) (a_lines : Nat) (a_lines_lesser : Nat) (a_lines_other : Nat) (a_masses : Nat) (a_masses_sums : Nat) (a_masses_weights : Nat) (a_row : Nat) (v_crowdSize : Int32) (v_crowd : Nat → Int32) (v_lines_size : Int32) (v_lines_lesser : Nat → Int32) (v_lines_other : Nat → Int32) (v_masses_sums : Nat → Int64) (v_masses_weights : Nat → Int64) (v_row : Nat → Int32) (p1 : Int32) (p2 : Int32) (p3 : Int32) (p4 : Int32) (R0 : (Nat → Int64) × (Nat → Int64) × (Nat → Int32) × Int32) (hf : f_X4_evensOutOver_L1 v_crowdSize v_crowd v_lines_size v_lines_lesser v_lines_other v_masses_sums v_masses_weights v_row p1 p2 p3 p4 = some R0) : Ci l yX4_evensOutOver wsX4_evensOutOver ({ frames := 5, cells := 0, slots := 0, locals := 160 } : Room) D [(cI, .int), (cJ, .long), (cQ, .object "WhisperCrowd$State")] [.ref a_this, .int p1, .int p2, .int p3, .int p4] [(a_this, .inr (4, [.ref a_masses, .ref a_crowd, .ref a_row, .int v_crowdSize, .ref a_lines])), (a_crowd, .inl (cI, 10, .inl v_crowd)), (a_lines, .inr (2, [.ref a_lines_lesser, .ref a_lines_other, .int v_lines_size])), (a_lines_lesser, .inl (cI, 45, .inl v_lines_lesser)), (a_lines_other, .inl (cI, 45, .inl v_lines_other)), (a_masses, .inr (3, [.ref a_masses_sums, .ref a_masses_weights])), (a_masses_sums, .inl (cJ, 10, .inr (.inl v_masses_sums))), (a_masses_weights, .inl (cJ, 10, .inr (.inl v_masses_weights))), (a_row, .inl (cI, 3, .inl v_row))] [(a_this, .inr (4, [.ref a_masses, .ref a_crowd, .ref a_row, .int v_crowdSize, .ref a_lines])), (a_crowd, .inl (cI, 10, .inl v_crowd)), (a_lines, .inr (2, [.ref a_lines_lesser, .ref a_lines_other, .int v_lines_size])), (a_lines_lesser, .inl (cI, 45, .inl v_lines_lesser)), (a_lines_other, .inl (cI, 45, .inl v_lines_other)), (a_masses, .inr (3, [.ref a_masses_sums, .ref a_masses_weights])), (a_masses_sums, .inl (cJ, 10, .inr (.inl R0.1))), (a_masses_weights, .inl (cJ, 10, .inr (.inl R0.2.1))), (a_row, .inl (cI, 3, .inl R0.2.2.1))] R0.2.2.2 := by
  refine x_enti (cc := cX4_evensOutOver) (maxL := 15) (rt := (some .boolean)) (lv := [(0, .ref a_this), (1, .int p1), (2, .int p2), (3, .int p3), (4, .int p4)]) (by decide) rfl (Nat.le_of_ble_eq_true rfl) rfl ?_
  intro p e s m args below meth c A Q hQ hC
  have J_112 : ∀ (k112_masses_sums : Nat → Int64) (k112_masses_weights : Nat → Int64) (k112_row : Nat → Int32) (k112_l1 : Int32) (k112_l2 : Int32) (k112_l5 : Int64) (k112_l7 : Int64) (k112_l9 : Int64) (k112_l11 : Int64) (k112_s0 : Int32), f_X4_evensOutOver_L1_c112 v_crowdSize v_crowd v_lines_size v_lines_lesser v_lines_other k112_masses_sums k112_masses_weights k112_row k112_l1 k112_l2 k112_l5 k112_l7 k112_l9 k112_l11 k112_s0 = some R0 → XW p l e ({ frames := 5, cells := 0, slots := 0, locals := 160 } : Room) s m args below meth c D A 15 0 0 Q [(a_this, .inr (4, [.ref a_masses, .ref a_crowd, .ref a_row, .int v_crowdSize, .ref a_lines])), (a_crowd, .inl (cI, 10, .inl v_crowd)), (a_lines, .inr (2, [.ref a_lines_lesser, .ref a_lines_other, .int v_lines_size])), (a_lines_lesser, .inl (cI, 45, .inl v_lines_lesser)), (a_lines_other, .inl (cI, 45, .inl v_lines_other)), (a_masses, .inr (3, [.ref a_masses_sums, .ref a_masses_weights])), (a_masses_sums, .inl (cJ, 10, .inr (.inl k112_masses_sums))), (a_masses_weights, .inl (cJ, 10, .inr (.inl k112_masses_weights))), (a_row, .inl (cI, 3, .inl k112_row))] [] [(0, .ref a_this), (1, .int k112_l1), (2, .int k112_l2), (5, .long k112_l5), (7, .long k112_l7), (9, .long k112_l9), (11, .long k112_l11)] 112 [.int k112_s0] := by
    intro k112_masses_sums k112_masses_weights k112_row k112_l1 k112_l2 k112_l5 k112_l7 k112_l9 k112_l11 k112_s0 hf
    unfold f_X4_evensOutOver_L1_c112 at hf
    refine x_istore 114 [(14, .int k112_s0), (0, .ref a_this), (1, .int k112_l1), (2, .int k112_l2), (5, .long k112_l5), (7, .long k112_l7), (9, .long k112_l9), (11, .long k112_l11)] hC dX4_evensOutOver_112 rfl rfl (by decide) rfl ?_
    refine x_aload_n 115 1 hC dX4_evensOutOver_114 rfl rfl rfl ?_
    refine x_get 118 0 0 hC in_X4_evensOutOver_X4 rfl rfl (by decide) (List.mem_of_getElem? (i := 1) (by decide +kernel)) rfl rfl dX4_evensOutOver_115 rfl ?_
    refine x_iload_n 119 2 hC dX4_evensOutOver_118 rfl rfl rfl ?_
    refine x_lload 121 4 hC dX4_evensOutOver_119 rfl rfl ?_
    refine x_lload 123 5 hC dX4_evensOutOver_121 rfl rfl ?_
    obtain ⟨R_1, h_R_1, hf⟩ := bd_e hf
    refine x_callVv 126 0 3 [5, 6, 7] [(a_this, .inr (4, [.ref a_masses, .ref a_crowd, .ref a_row, .int v_crowdSize, .ref a_lines])), (a_crowd, .inl (cI, 10, .inl v_crowd)), (a_lines, .inr (2, [.ref a_lines_lesser, .ref a_lines_other, .int v_lines_size])), (a_lines_lesser, .inl (cI, 45, .inl v_lines_lesser)), (a_lines_other, .inl (cI, 45, .inl v_lines_other)), (a_masses, .inr (3, [.ref a_masses_sums, .ref a_masses_weights])), (a_masses_sums, .inl (cJ, 10, .inr (.inl R_1.1))), (a_masses_weights, .inl (cJ, 10, .inr (.inl R_1.2))), (a_row, .inl (cI, 3, .inl k112_row))] hC (As := [.int k112_l1, .long k112_l5, .long k112_l7]) (c_X3_put l D cI cJ cQ a_masses a_masses_sums a_masses_weights 10 k112_masses_sums k112_masses_weights k112_l1 k112_l5 k112_l7 R_1 h_R_1) rfl rfl gX4_evensOutOver_X3_put rfl ⟨rfl, rfl⟩ hd_X3_put ⟨Nat.le_of_ble_eq_true rfl, Nat.le_of_ble_eq_true rfl⟩ rfl rfl rfl rfl rfl rfl (Nat.le_of_ble_eq_true rfl) ⟨Nat.le_of_ble_eq_true rfl, Nat.le_of_ble_eq_true rfl⟩ dX4_evensOutOver_123 rfl ?_
    refine x_aload_n 127 1 hC dX4_evensOutOver_126 rfl rfl rfl ?_
    refine x_get 130 0 0 hC in_X4_evensOutOver_X4 rfl rfl (by decide) (List.mem_of_getElem? (i := 1) (by decide +kernel)) rfl rfl dX4_evensOutOver_127 rfl ?_
    refine x_iload_n 131 3 hC dX4_evensOutOver_130 rfl rfl rfl ?_
    refine x_lload 133 6 hC dX4_evensOutOver_131 rfl rfl ?_
    refine x_lload 135 7 hC dX4_evensOutOver_133 rfl rfl ?_
    obtain ⟨R_2, h_R_2, hf⟩ := bd_e hf
    refine x_callVv 138 0 3 [5, 6, 7] [(a_this, .inr (4, [.ref a_masses, .ref a_crowd, .ref a_row, .int v_crowdSize, .ref a_lines])), (a_crowd, .inl (cI, 10, .inl v_crowd)), (a_lines, .inr (2, [.ref a_lines_lesser, .ref a_lines_other, .int v_lines_size])), (a_lines_lesser, .inl (cI, 45, .inl v_lines_lesser)), (a_lines_other, .inl (cI, 45, .inl v_lines_other)), (a_masses, .inr (3, [.ref a_masses_sums, .ref a_masses_weights])), (a_masses_sums, .inl (cJ, 10, .inr (.inl R_2.1))), (a_masses_weights, .inl (cJ, 10, .inr (.inl R_2.2))), (a_row, .inl (cI, 3, .inl k112_row))] hC (As := [.int k112_l2, .long k112_l9, .long k112_l11]) (c_X3_put l D cI cJ cQ a_masses a_masses_sums a_masses_weights 10 R_1.1 R_1.2 k112_l2 k112_l9 k112_l11 R_2 h_R_2) rfl rfl gX4_evensOutOver_X3_put rfl ⟨rfl, rfl⟩ hd_X3_put ⟨Nat.le_of_ble_eq_true rfl, Nat.le_of_ble_eq_true rfl⟩ rfl rfl rfl rfl rfl rfl (Nat.le_of_ble_eq_true rfl) ⟨Nat.le_of_ble_eq_true rfl, Nat.le_of_ble_eq_true rfl⟩ dX4_evensOutOver_135 rfl ?_
    refine x_iload 140 0 hC dX4_evensOutOver_138 rfl rfl ?_
    obtain ⟨h_3, hf⟩ := ckp_e hf
    cases hf
    exact x_zret hC h_3 dX4_evensOutOver_140 hQ rfl rfl
  have J_111 : ∀ (k111_masses_sums : Nat → Int64) (k111_masses_weights : Nat → Int64) (k111_row : Nat → Int32) (k111_l1 : Int32) (k111_l2 : Int32) (k111_l5 : Int64) (k111_l7 : Int64) (k111_l9 : Int64) (k111_l11 : Int64), f_X4_evensOutOver_L1_c111 v_crowdSize v_crowd v_lines_size v_lines_lesser v_lines_other k111_masses_sums k111_masses_weights k111_row k111_l1 k111_l2 k111_l5 k111_l7 k111_l9 k111_l11 = some R0 → XW p l e ({ frames := 5, cells := 0, slots := 0, locals := 160 } : Room) s m args below meth c D A 15 0 0 Q [(a_this, .inr (4, [.ref a_masses, .ref a_crowd, .ref a_row, .int v_crowdSize, .ref a_lines])), (a_crowd, .inl (cI, 10, .inl v_crowd)), (a_lines, .inr (2, [.ref a_lines_lesser, .ref a_lines_other, .int v_lines_size])), (a_lines_lesser, .inl (cI, 45, .inl v_lines_lesser)), (a_lines_other, .inl (cI, 45, .inl v_lines_other)), (a_masses, .inr (3, [.ref a_masses_sums, .ref a_masses_weights])), (a_masses_sums, .inl (cJ, 10, .inr (.inl k111_masses_sums))), (a_masses_weights, .inl (cJ, 10, .inr (.inl k111_masses_weights))), (a_row, .inl (cI, 3, .inl k111_row))] [] [(0, .ref a_this), (1, .int k111_l1), (2, .int k111_l2), (5, .long k111_l5), (7, .long k111_l7), (9, .long k111_l9), (11, .long k111_l11)] 111 [] := by
    intro k111_masses_sums k111_masses_weights k111_row k111_l1 k111_l2 k111_l5 k111_l7 k111_l9 k111_l11 hf
    unfold f_X4_evensOutOver_L1_c111 at hf
    refine x_iconst 112 hC (0 : Int32) dX4_evensOutOver_111 rfl (by decide) ?_
    refine x_lv [(0, .ref a_this), (1, .int k111_l1), (2, .int k111_l2), (5, .long k111_l5), (7, .long k111_l7), (9, .long k111_l9), (11, .long k111_l11)] [0, 1, 2, 3, 4, 5, 6] rfl ?_
    exact J_112 k111_masses_sums k111_masses_weights k111_row k111_l1 k111_l2 k111_l5 k111_l7 k111_l9 k111_l11 (0 : Int32) hf
  have J_88 : ∀ (k88_masses_sums : Nat → Int64) (k88_masses_weights : Nat → Int64) (k88_row : Nat → Int32) (k88_l1 : Int32) (k88_l2 : Int32) (k88_l3 : Int32) (k88_l4 : Int32) (k88_l5 : Int64) (k88_l7 : Int64) (k88_l9 : Int64) (k88_l11 : Int64) (k88_s0 : Int32), f_X4_evensOutOver_L1_c88 v_crowdSize v_crowd v_lines_size v_lines_lesser v_lines_other k88_masses_sums k88_masses_weights k88_row k88_l1 k88_l2 k88_l3 k88_l4 k88_l5 k88_l7 k88_l9 k88_l11 k88_s0 = some R0 → XW p l e ({ frames := 5, cells := 0, slots := 0, locals := 160 } : Room) s m args below meth c D A 15 0 0 Q [(a_this, .inr (4, [.ref a_masses, .ref a_crowd, .ref a_row, .int v_crowdSize, .ref a_lines])), (a_crowd, .inl (cI, 10, .inl v_crowd)), (a_lines, .inr (2, [.ref a_lines_lesser, .ref a_lines_other, .int v_lines_size])), (a_lines_lesser, .inl (cI, 45, .inl v_lines_lesser)), (a_lines_other, .inl (cI, 45, .inl v_lines_other)), (a_masses, .inr (3, [.ref a_masses_sums, .ref a_masses_weights])), (a_masses_sums, .inl (cJ, 10, .inr (.inl k88_masses_sums))), (a_masses_weights, .inl (cJ, 10, .inr (.inl k88_masses_weights))), (a_row, .inl (cI, 3, .inl k88_row))] [] [(0, .ref a_this), (1, .int k88_l1), (2, .int k88_l2), (3, .int k88_l3), (4, .int k88_l4), (5, .long k88_l5), (7, .long k88_l7), (9, .long k88_l9), (11, .long k88_l11)] 88 [.int k88_s0] := by
    intro k88_masses_sums k88_masses_weights k88_row k88_l1 k88_l2 k88_l3 k88_l4 k88_l5 k88_l7 k88_l9 k88_l11 k88_s0 hf
    unfold f_X4_evensOutOver_L1_c88 at hf
    refine x_istore 90 [(13, .int k88_s0), (0, .ref a_this), (1, .int k88_l1), (2, .int k88_l2), (3, .int k88_l3), (4, .int k88_l4), (5, .long k88_l5), (7, .long k88_l7), (9, .long k88_l9), (11, .long k88_l11)] hC dX4_evensOutOver_88 rfl rfl (by decide) rfl ?_
    refine x_iload 92 0 hC dX4_evensOutOver_90 rfl rfl ?_
    refine x_if_eq 111 95 hC dX4_evensOutOver_92 (by decide) rfl (fun c_4 => ?_) (fun c_4 => ?_)
    · have hf := if_t hf c_4
      refine x_lv [(0, .ref a_this), (1, .int k88_l1), (2, .int k88_l2), (5, .long k88_l5), (7, .long k88_l7), (9, .long k88_l9), (11, .long k88_l11)] [1, 2, 3, 6, 7, 8, 9] rfl ?_
      exact J_111 k88_masses_sums k88_masses_weights k88_row k88_l1 k88_l2 k88_l5 k88_l7 k88_l9 k88_l11 hf
    · have hf := if_f hf c_4
      refine x_aload_n 96 1 hC dX4_evensOutOver_95 rfl rfl rfl ?_
      refine x_iload_n 97 4 hC dX4_evensOutOver_96 rfl rfl rfl ?_
      refine x_iconst 98 hC (1 : Int32) dX4_evensOutOver_97 rfl (by decide) ?_
      refine x_iadd 99 hC dX4_evensOutOver_98 rfl ?_
      refine x_iload 101 5 hC dX4_evensOutOver_99 rfl rfl ?_
      obtain ⟨R_5, h_R_5, hf⟩ := bd_e hf
      refine x_callVi 104 0 2 [0, 1, 2, 3, 4, 5, 6, 7, 8] [(a_this, .inr (4, [.ref a_masses, .ref a_crowd, .ref a_row, .int v_crowdSize, .ref a_lines])), (a_crowd, .inl (cI, 10, .inl v_crowd)), (a_lines, .inr (2, [.ref a_lines_lesser, .ref a_lines_other, .int v_lines_size])), (a_lines_lesser, .inl (cI, 45, .inl v_lines_lesser)), (a_lines_other, .inl (cI, 45, .inl v_lines_other)), (a_masses, .inr (3, [.ref a_masses_sums, .ref a_masses_weights])), (a_masses_sums, .inl (cJ, 10, .inr (.inl k88_masses_sums))), (a_masses_weights, .inl (cJ, 10, .inr (.inl k88_masses_weights))), (a_row, .inl (cI, 3, .inl R_5.1))] hC (As := [.int (k88_l3 + (1 : Int32)), .int k88_l4]) (c_X4_evensOut_L0 l D cI cJ cQ a_this a_crowd a_lines a_lines_lesser a_lines_other a_masses a_masses_sums a_masses_weights a_row v_crowdSize v_crowd v_lines_size v_lines_lesser v_lines_other k88_masses_sums k88_masses_weights k88_row (k88_l3 + (1 : Int32)) k88_l4 R_5 h_R_5) rfl rfl gX4_evensOutOver_X4_evensOut rfl ⟨rfl, rfl⟩ hd_X4_evensOut ⟨Nat.le_of_ble_eq_true rfl, Nat.le_of_ble_eq_true rfl⟩ rfl rfl rfl rfl rfl rfl (Nat.le_of_ble_eq_true rfl) ⟨Nat.le_of_ble_eq_true rfl, Nat.le_of_ble_eq_true rfl⟩ dX4_evensOutOver_101 rfl ?_
      refine x_if_eq 111 107 hC dX4_evensOutOver_104 (by decide) rfl (fun c_6 => ?_) (fun c_6 => ?_)
      · have hf := if_t hf c_6
        refine x_lv [(0, .ref a_this), (1, .int k88_l1), (2, .int k88_l2), (5, .long k88_l5), (7, .long k88_l7), (9, .long k88_l9), (11, .long k88_l11)] [1, 2, 3, 6, 7, 8, 9] rfl ?_
        exact J_111 k88_masses_sums k88_masses_weights R_5.1 k88_l1 k88_l2 k88_l5 k88_l7 k88_l9 k88_l11 hf
      · have hf := if_f hf c_6
        refine x_iconst 108 hC (1 : Int32) dX4_evensOutOver_107 rfl (by decide) ?_
        refine x_goto 112 hC dX4_evensOutOver_108 (by decide) ?_
        refine x_lv [(0, .ref a_this), (1, .int k88_l1), (2, .int k88_l2), (5, .long k88_l5), (7, .long k88_l7), (9, .long k88_l9), (11, .long k88_l11)] [1, 2, 3, 6, 7, 8, 9] rfl ?_
        exact J_112 k88_masses_sums k88_masses_weights R_5.1 k88_l1 k88_l2 k88_l5 k88_l7 k88_l9 k88_l11 (1 : Int32) hf
  have J_83 : ∀ (k83_masses_sums : Nat → Int64) (k83_masses_weights : Nat → Int64) (k83_row : Nat → Int32) (k83_l1 : Int32) (k83_l2 : Int32) (k83_l3 : Int32) (k83_l4 : Int32) (k83_l5 : Int64) (k83_l7 : Int64) (k83_l9 : Int64) (k83_l11 : Int64), f_X4_evensOutOver_L1_c83 v_crowdSize v_crowd v_lines_size v_lines_lesser v_lines_other k83_masses_sums k83_masses_weights k83_row k83_l1 k83_l2 k83_l3 k83_l4 k83_l5 k83_l7 k83_l9 k83_l11 = some R0 → XW p l e ({ frames := 5, cells := 0, slots := 0, locals := 160 } : Room) s m args below meth c D A 15 0 0 Q [(a_this, .inr (4, [.ref a_masses, .ref a_crowd, .ref a_row, .int v_crowdSize, .ref a_lines])), (a_crowd, .inl (cI, 10, .inl v_crowd)), (a_lines, .inr (2, [.ref a_lines_lesser, .ref a_lines_other, .int v_lines_size])), (a_lines_lesser, .inl (cI, 45, .inl v_lines_lesser)), (a_lines_other, .inl (cI, 45, .inl v_lines_other)), (a_masses, .inr (3, [.ref a_masses_sums, .ref a_masses_weights])), (a_masses_sums, .inl (cJ, 10, .inr (.inl k83_masses_sums))), (a_masses_weights, .inl (cJ, 10, .inr (.inl k83_masses_weights))), (a_row, .inl (cI, 3, .inl k83_row))] [] [(0, .ref a_this), (1, .int k83_l1), (2, .int k83_l2), (3, .int k83_l3), (4, .int k83_l4), (5, .long k83_l5), (7, .long k83_l7), (9, .long k83_l9), (11, .long k83_l11)] 83 [] := by
    intro k83_masses_sums k83_masses_weights k83_row k83_l1 k83_l2 k83_l3 k83_l4 k83_l5 k83_l7 k83_l9 k83_l11 hf
    unfold f_X4_evensOutOver_L1_c83 at hf
    refine x_iconst 84 hC (1 : Int32) dX4_evensOutOver_83 rfl (by decide) ?_
    refine x_goto 88 hC dX4_evensOutOver_84 (by decide) ?_
    refine x_lv [(0, .ref a_this), (1, .int k83_l1), (2, .int k83_l2), (3, .int k83_l3), (4, .int k83_l4), (5, .long k83_l5), (7, .long k83_l7), (9, .long k83_l9), (11, .long k83_l11)] [0, 1, 2, 3, 4, 5, 6, 7, 8] rfl ?_
    exact J_88 k83_masses_sums k83_masses_weights k83_row k83_l1 k83_l2 k83_l3 k83_l4 k83_l5 k83_l7 k83_l9 k83_l11 (1 : Int32) hf
  unfold f_X4_evensOutOver_L1 at hf
  refine x_aload_n 1 0 hC dX4_evensOutOver_0 rfl rfl rfl ?_
  refine x_get 4 0 0 hC in_X4_evensOutOver_X4 rfl rfl (by decide) (List.mem_of_getElem? (i := 1) (by decide +kernel)) rfl rfl dX4_evensOutOver_1 rfl ?_
  refine x_get 7 5 0 hC in_X4_evensOutOver_X3 rfl rfl (by decide) (List.mem_of_getElem? (i := 2) (by decide +kernel)) rfl rfl dX4_evensOutOver_4 rfl ?_
  refine x_iload_n 8 1 hC dX4_evensOutOver_7 rfl rfl rfl ?_
  obtain ⟨h_7, hf⟩ := ck_e hf
  refine x_lald 9 6 1 hC rfl rfl h_7 dX4_evensOutOver_8 rfl ?_
  obtain ⟨x_8, e_x_8, hf⟩ := nmx_e hf
  refine x_lstore 11 [(5, .long x_8), (0, .ref a_this), (1, .int p1), (2, .int p2), (3, .int p3), (4, .int p4)] hC dX4_evensOutOver_9 rfl e_x_8 (by decide) rfl ?_
  refine x_aload_n 12 1 hC dX4_evensOutOver_11 rfl rfl rfl ?_
  refine x_get 15 0 0 hC in_X4_evensOutOver_X4 rfl rfl (by decide) (List.mem_of_getElem? (i := 1) (by decide +kernel)) rfl rfl dX4_evensOutOver_12 rfl ?_
  refine x_get 18 5 1 hC in_X4_evensOutOver_X3 rfl rfl (by decide) (List.mem_of_getElem? (i := 3) (by decide +kernel)) rfl rfl dX4_evensOutOver_15 rfl ?_
  refine x_iload_n 19 2 hC dX4_evensOutOver_18 rfl rfl rfl ?_
  obtain ⟨h_9, hf⟩ := ck_e hf
  refine x_lald 20 7 1 hC rfl rfl h_9 dX4_evensOutOver_19 rfl ?_
  obtain ⟨x_10, e_x_10, hf⟩ := nmx_e hf
  refine x_lstore 22 [(7, .long x_10), (5, .long x_8), (0, .ref a_this), (1, .int p1), (2, .int p2), (3, .int p3), (4, .int p4)] hC dX4_evensOutOver_20 rfl e_x_10 (by decide) rfl ?_
  refine x_aload_n 23 2 hC dX4_evensOutOver_22 rfl rfl rfl ?_
  refine x_get 26 0 0 hC in_X4_evensOutOver_X4 rfl rfl (by decide) (List.mem_of_getElem? (i := 1) (by decide +kernel)) rfl rfl dX4_evensOutOver_23 rfl ?_
  refine x_get 29 5 0 hC in_X4_evensOutOver_X3 rfl rfl (by decide) (List.mem_of_getElem? (i := 2) (by decide +kernel)) rfl rfl dX4_evensOutOver_26 rfl ?_
  refine x_iload_n 30 4 hC dX4_evensOutOver_29 rfl rfl rfl ?_
  obtain ⟨h_11, hf⟩ := ck_e hf
  refine x_lald 31 6 1 hC rfl rfl h_11 dX4_evensOutOver_30 rfl ?_
  obtain ⟨x_12, e_x_12, hf⟩ := nmx_e hf
  refine x_lstore 33 [(9, .long x_12), (7, .long x_10), (5, .long x_8), (0, .ref a_this), (1, .int p1), (2, .int p2), (3, .int p3), (4, .int p4)] hC dX4_evensOutOver_31 rfl e_x_12 (by decide) rfl ?_
  refine x_aload_n 34 3 hC dX4_evensOutOver_33 rfl rfl rfl ?_
  refine x_get 37 0 0 hC in_X4_evensOutOver_X4 rfl rfl (by decide) (List.mem_of_getElem? (i := 1) (by decide +kernel)) rfl rfl dX4_evensOutOver_34 rfl ?_
  refine x_get 40 5 1 hC in_X4_evensOutOver_X3 rfl rfl (by decide) (List.mem_of_getElem? (i := 3) (by decide +kernel)) rfl rfl dX4_evensOutOver_37 rfl ?_
  refine x_iload_n 41 5 hC dX4_evensOutOver_40 rfl rfl rfl ?_
  obtain ⟨h_13, hf⟩ := ck_e hf
  refine x_lald 42 7 1 hC rfl rfl h_13 dX4_evensOutOver_41 rfl ?_
  obtain ⟨x_14, e_x_14, hf⟩ := nmx_e hf
  refine x_lstore 44 [(11, .long x_14), (9, .long x_12), (7, .long x_10), (5, .long x_8), (0, .ref a_this), (1, .int p1), (2, .int p2), (3, .int p3), (4, .int p4)] hC dX4_evensOutOver_42 rfl e_x_14 (by decide) rfl ?_
  refine x_aload_n 45 4 hC dX4_evensOutOver_44 rfl rfl rfl ?_
  refine x_get 48 0 0 hC in_X4_evensOutOver_X4 rfl rfl (by decide) (List.mem_of_getElem? (i := 1) (by decide +kernel)) rfl rfl dX4_evensOutOver_45 rfl ?_
  refine x_iload_n 49 5 hC dX4_evensOutOver_48 rfl rfl rfl ?_
  refine x_iload_n 50 6 hC dX4_evensOutOver_49 rfl rfl rfl ?_
  obtain ⟨R_15, h_R_15, hf⟩ := bd_e hf
  refine x_callVv 53 0 2 [5, 6, 7] [(a_this, .inr (4, [.ref a_masses, .ref a_crowd, .ref a_row, .int v_crowdSize, .ref a_lines])), (a_crowd, .inl (cI, 10, .inl v_crowd)), (a_lines, .inr (2, [.ref a_lines_lesser, .ref a_lines_other, .int v_lines_size])), (a_lines_lesser, .inl (cI, 45, .inl v_lines_lesser)), (a_lines_other, .inl (cI, 45, .inl v_lines_other)), (a_masses, .inr (3, [.ref a_masses_sums, .ref a_masses_weights])), (a_masses_sums, .inl (cJ, 10, .inr (.inl R_15.1))), (a_masses_weights, .inl (cJ, 10, .inr (.inl R_15.2))), (a_row, .inl (cI, 3, .inl v_row))] hC (As := [.int p1, .int p2]) (c_X3_even l D cI cJ cQ a_masses a_masses_sums a_masses_weights 10 v_masses_sums v_masses_weights p1 p2 R_15 h_R_15) rfl rfl gX4_evensOutOver_X3_even rfl ⟨rfl, rfl⟩ hd_X3_even ⟨Nat.le_of_ble_eq_true rfl, Nat.le_of_ble_eq_true rfl⟩ rfl rfl rfl rfl rfl rfl (Nat.le_of_ble_eq_true rfl) ⟨Nat.le_of_ble_eq_true rfl, Nat.le_of_ble_eq_true rfl⟩ dX4_evensOutOver_50 rfl ?_
  refine x_aload_n 54 4 hC dX4_evensOutOver_53 rfl rfl rfl ?_
  refine x_get 57 0 0 hC in_X4_evensOutOver_X4 rfl rfl (by decide) (List.mem_of_getElem? (i := 1) (by decide +kernel)) rfl rfl dX4_evensOutOver_54 rfl ?_
  refine x_get 60 5 0 hC in_X4_evensOutOver_X3 rfl rfl (by decide) (List.mem_of_getElem? (i := 2) (by decide +kernel)) rfl rfl dX4_evensOutOver_57 rfl ?_
  refine x_iload_n 61 5 hC dX4_evensOutOver_60 rfl rfl rfl ?_
  obtain ⟨h_16, hf⟩ := ck_e hf
  refine x_lald 62 6 1 hC rfl rfl h_16 dX4_evensOutOver_61 rfl ?_
  refine x_lload 64 3 hC dX4_evensOutOver_62 rfl rfl ?_
  refine x_lcmp_ne 83 68 hC dX4_evensOutOver_64 dX4_evensOutOver_65 (by decide) rfl (fun c_17 => ?_) (fun c_17 => ?_)
  · have hf := if_t hf c_17
    refine x_lv [(0, .ref a_this), (1, .int p1), (2, .int p2), (3, .int p3), (4, .int p4), (5, .long x_8), (7, .long x_10), (9, .long x_12), (11, .long x_14)] [4, 5, 6, 7, 8, 3, 2, 1, 0] rfl ?_
    exact J_83 R_15.1 R_15.2 v_row p1 p2 p3 p4 x_8 x_10 x_12 x_14 hf
  · have hf := if_f hf c_17
    refine x_aload_n 69 4 hC dX4_evensOutOver_68 rfl rfl rfl ?_
    refine x_get 72 0 0 hC in_X4_evensOutOver_X4 rfl rfl (by decide) (List.mem_of_getElem? (i := 1) (by decide +kernel)) rfl rfl dX4_evensOutOver_69 rfl ?_
    refine x_get 75 5 1 hC in_X4_evensOutOver_X3 rfl rfl (by decide) (List.mem_of_getElem? (i := 3) (by decide +kernel)) rfl rfl dX4_evensOutOver_72 rfl ?_
    refine x_iload_n 76 5 hC dX4_evensOutOver_75 rfl rfl rfl ?_
    obtain ⟨h_18, hf⟩ := ck_e hf
    refine x_lald 77 7 1 hC rfl rfl h_18 dX4_evensOutOver_76 rfl ?_
    refine x_lload 79 2 hC dX4_evensOutOver_77 rfl rfl ?_
    refine x_lcmp_eq 87 83 hC dX4_evensOutOver_79 dX4_evensOutOver_80 (by decide) rfl (fun c_19 => ?_) (fun c_19 => ?_)
    · have hf := if_t hf c_19
      refine x_iconst 88 hC (0 : Int32) dX4_evensOutOver_87 rfl (by decide) ?_
      refine x_lv [(0, .ref a_this), (1, .int p1), (2, .int p2), (3, .int p3), (4, .int p4), (5, .long x_8), (7, .long x_10), (9, .long x_12), (11, .long x_14)] [4, 5, 6, 7, 8, 3, 2, 1, 0] rfl ?_
      exact J_88 R_15.1 R_15.2 v_row p1 p2 p3 p4 x_8 x_10 x_12 x_14 (0 : Int32) hf
    · have hf := if_f hf c_19
      refine x_lv [(0, .ref a_this), (1, .int p1), (2, .int p2), (3, .int p3), (4, .int p4), (5, .long x_8), (7, .long x_10), (9, .long x_12), (11, .long x_14)] [4, 5, 6, 7, 8, 3, 2, 1, 0] rfl ?_
      exact J_83 R_15.1 R_15.2 v_row p1 p2 p3 p4 x_8 x_10 x_12 x_14 hf

noncomputable def f_X4_evensOut_L1_c37 (v_crowdSize : Int32) (v_crowd : Nat → Int32) (v_lines_size : Int32) (v_lines_lesser : Nat → Int32) (v_lines_other : Nat → Int32) : Nat → (Nat → Int64) → (Nat → Int64) → (Nat → Int32) → Int32 → Int32 → Int32 → Option ((Nat → Int64) × (Nat → Int64) × (Nat → Int32) × Int32)
  | 0, _, _, _, _, _, _ => none
  | n + 1, k37_masses_sums, k37_masses_weights, k37_row, k37_l1, k37_l2, k37_l3 => if v_lines_size ≤ k37_l3 then (some (k37_masses_sums, k37_masses_weights, k37_row, (0 : Int32))) else (ck k37_l1 3 <| nm (upd k37_row k37_l1.toNatClampNeg k37_l3) fun g_3 => ck k37_l3 45 <| ck k37_l3 45 <| bd (f_X4_evensOutOver_L1 v_crowdSize v_crowd v_lines_size v_lines_lesser v_lines_other k37_masses_sums k37_masses_weights g_3 (v_lines_lesser k37_l3.toNatClampNeg) (v_lines_other k37_l3.toNatClampNeg) k37_l1 k37_l2) fun R_6 => if R_6.2.2.2 = 0 then (nm (k37_l3 + (1 : Int32)) fun x_8 => (fun k37_masses_sums k37_masses_weights k37_row k37_l1 k37_l2 k37_l3 => f_X4_evensOut_L1_c37 v_crowdSize v_crowd v_lines_size v_lines_lesser v_lines_other n k37_masses_sums k37_masses_weights k37_row k37_l1 k37_l2 k37_l3) R_6.1 R_6.2.1 R_6.2.2.1 k37_l1 k37_l2 x_8) else (some (R_6.1, R_6.2.1, R_6.2.2.1, (1 : Int32))))
noncomputable def f_X4_evensOut_L1_c10 (v_crowdSize : Int32) (v_crowd : Nat → Int32) (v_lines_size : Int32) (v_lines_lesser : Nat → Int32) (v_lines_other : Nat → Int32) (k10_masses_sums : Nat → Int64) (k10_masses_weights : Nat → Int64) (k10_row : Nat → Int32) : Option ((Nat → Int64) × (Nat → Int64) × (Nat → Int32) × Int32) := bd (f_X4_isNear v_crowdSize v_crowd k10_masses_sums k10_masses_weights (0 : Int32)) fun R_9 => ckp (narrow .boolean (.int R_9) = .int R_9) (Classical.propDecidable _) <| some (k10_masses_sums, k10_masses_weights, k10_row, R_9)
noncomputable def f_X4_evensOut_L1 (v_crowdSize : Int32) (v_crowd : Nat → Int32) (v_lines_size : Int32) (v_lines_lesser : Nat → Int32) (v_lines_other : Nat → Int32) (v_masses_sums : Nat → Int64) (v_masses_weights : Nat → Int64) (v_row : Nat → Int32) (p1 : Int32) (p2 : Int32) : Option ((Nat → Int64) × (Nat → Int64) × (Nat → Int32) × Int32) := if p2 ≤ p1 then (f_X4_evensOut_L1_c10 v_crowdSize v_crowd v_lines_size v_lines_lesser v_lines_other v_masses_sums v_masses_weights v_row) else (if p1 < (3 : Int32) then (bd (f_X4_isNear v_crowdSize v_crowd v_masses_sums v_masses_weights (p2 - p1)) fun R_13 => if ¬ R_13 = 0 then (f_X4_evensOut_L1_c37 v_crowdSize v_crowd v_lines_size v_lines_lesser v_lines_other fu v_masses_sums v_masses_weights v_row p1 p2 (0 : Int32)) else (some (v_masses_sums, v_masses_weights, v_row, (0 : Int32)))) else (f_X4_evensOut_L1_c10 v_crowdSize v_crowd v_lines_size v_lines_lesser v_lines_other v_masses_sums v_masses_weights v_row))
set_option maxHeartbeats 4000000 in
set_option maxRecDepth 100000 in
theorem c_X4_evensOut_L1 (l : Launch) (D : va_G) (cI cJ cQ : ClassId) (a_this : Nat) (a_crowd : Nat) (a_lines : Nat) (a_lines_lesser : Nat) (a_lines_other : Nat) (a_masses : Nat) (a_masses_sums : Nat) (a_masses_weights : Nat) (a_row : Nat) (v_crowdSize : Int32) (v_crowd : Nat → Int32) (v_lines_size : Int32) (v_lines_lesser : Nat → Int32) (v_lines_other : Nat → Int32) (v_masses_sums : Nat → Int64) (v_masses_weights : Nat → Int64) (v_row : Nat → Int32) (p1 : Int32) (p2 : Int32) (R0 : (Nat → Int64) × (Nat → Int64) × (Nat → Int32) × Int32) (hf : f_X4_evensOut_L1 v_crowdSize v_crowd v_lines_size v_lines_lesser v_lines_other v_masses_sums v_masses_weights v_row p1 p2 = some R0) : Ci l yX4_evensOut wsX4_evensOut ({ frames := 6, cells := 0, slots := 0, locals := 196 } : Room) D [(cI, .int), (cJ, .long), (cQ, .object "WhisperCrowd$State")] [.ref a_this, .int p1, .int p2] [(a_this, .inr (4, [.ref a_masses, .ref a_crowd, .ref a_row, .int v_crowdSize, .ref a_lines])), (a_crowd, .inl (cI, 10, .inl v_crowd)), (a_lines, .inr (2, [.ref a_lines_lesser, .ref a_lines_other, .int v_lines_size])), (a_lines_lesser, .inl (cI, 45, .inl v_lines_lesser)), (a_lines_other, .inl (cI, 45, .inl v_lines_other)), (a_masses, .inr (3, [.ref a_masses_sums, .ref a_masses_weights])), (a_masses_sums, .inl (cJ, 10, .inr (.inl v_masses_sums))), (a_masses_weights, .inl (cJ, 10, .inr (.inl v_masses_weights))), (a_row, .inl (cI, 3, .inl v_row))] [(a_this, .inr (4, [.ref a_masses, .ref a_crowd, .ref a_row, .int v_crowdSize, .ref a_lines])), (a_crowd, .inl (cI, 10, .inl v_crowd)), (a_lines, .inr (2, [.ref a_lines_lesser, .ref a_lines_other, .int v_lines_size])), (a_lines_lesser, .inl (cI, 45, .inl v_lines_lesser)), (a_lines_other, .inl (cI, 45, .inl v_lines_other)), (a_masses, .inr (3, [.ref a_masses_sums, .ref a_masses_weights])), (a_masses_sums, .inl (cJ, 10, .inr (.inl R0.1))), (a_masses_weights, .inl (cJ, 10, .inr (.inl R0.2.1))), (a_row, .inl (cI, 3, .inl R0.2.2.1))] R0.2.2.2 := by
  refine x_enti (cc := cX4_evensOut) (maxL := 4) (rt := (some .boolean)) (lv := [(0, .ref a_this), (1, .int p1), (2, .int p2)]) (by decide) rfl (Nat.le_of_ble_eq_true rfl) rfl ?_
  intro p e s m args below meth c A Q hQ hC
  have J_37 : ∀ (n : Nat) (k37_masses_sums : Nat → Int64) (k37_masses_weights : Nat → Int64) (k37_row : Nat → Int32) (k37_l1 : Int32) (k37_l2 : Int32) (k37_l3 : Int32), f_X4_evensOut_L1_c37 v_crowdSize v_crowd v_lines_size v_lines_lesser v_lines_other n k37_masses_sums k37_masses_weights k37_row k37_l1 k37_l2 k37_l3 = some R0 → XW p l e ({ frames := 6, cells := 0, slots := 0, locals := 196 } : Room) s m args below meth c D A 4 0 0 Q [(a_this, .inr (4, [.ref a_masses, .ref a_crowd, .ref a_row, .int v_crowdSize, .ref a_lines])), (a_crowd, .inl (cI, 10, .inl v_crowd)), (a_lines, .inr (2, [.ref a_lines_lesser, .ref a_lines_other, .int v_lines_size])), (a_lines_lesser, .inl (cI, 45, .inl v_lines_lesser)), (a_lines_other, .inl (cI, 45, .inl v_lines_other)), (a_masses, .inr (3, [.ref a_masses_sums, .ref a_masses_weights])), (a_masses_sums, .inl (cJ, 10, .inr (.inl k37_masses_sums))), (a_masses_weights, .inl (cJ, 10, .inr (.inl k37_masses_weights))), (a_row, .inl (cI, 3, .inl k37_row))] [] [(0, .ref a_this), (1, .int k37_l1), (2, .int k37_l2), (3, .int k37_l3)] 37 [] := by
    intro n
    induction n with
    | zero => intro k37_masses_sums k37_masses_weights k37_row k37_l1 k37_l2 k37_l3 hf; exact nomatch (show (none : Option ((Nat → Int64) × (Nat → Int64) × (Nat → Int32) × Int32)) = some R0 from hf)
    | succ n_37 ih_37 =>
      intro k37_masses_sums k37_masses_weights k37_row k37_l1 k37_l2 k37_l3 hf
      unfold f_X4_evensOut_L1_c37 at hf
      refine x_iload_n 38 3 hC dX4_evensOut_37 rfl rfl rfl ?_
      refine x_aload_n 39 0 hC dX4_evensOut_38 rfl rfl rfl ?_
      refine x_get 42 0 4 hC in_X4_evensOut_X4 rfl rfl (by decide) (List.mem_of_getElem? (i := 1) (by decide +kernel)) rfl rfl dX4_evensOut_39 rfl ?_
      refine x_get 45 2 2 hC in_X4_evensOut_X2 rfl rfl (by decide) (List.mem_of_getElem? (i := 2) (by decide +kernel)) rfl rfl dX4_evensOut_42 rfl ?_
      refine x_icmp_ge 90 48 hC dX4_evensOut_45 (by decide) rfl (fun c_1 => ?_) (fun c_1 => ?_)
      · have hf := if_t hf c_1
        refine x_iconst 91 hC (0 : Int32) dX4_evensOut_90 rfl (by decide) ?_
        cases hf
        exact x_zret hC rfl dX4_evensOut_91 hQ rfl rfl
      · have hf := if_f hf c_1
        refine x_aload_n 49 0 hC dX4_evensOut_48 rfl rfl rfl ?_
        refine x_get 52 0 2 hC in_X4_evensOut_X4 rfl rfl (by decide) (List.mem_of_getElem? (i := 3) (by decide +kernel)) rfl rfl dX4_evensOut_49 rfl ?_
        refine x_iload_n 53 1 hC dX4_evensOut_52 rfl rfl rfl ?_
        refine x_iload_n 54 3 hC dX4_evensOut_53 rfl rfl rfl ?_
        obtain ⟨h_2, hf⟩ := ck_e hf
        obtain ⟨g_3, e_g_3, hf⟩ := nmx_e hf
        refine x_iast 55 8 0 [(a_this, .inr (4, [.ref a_masses, .ref a_crowd, .ref a_row, .int v_crowdSize, .ref a_lines])), (a_crowd, .inl (cI, 10, .inl v_crowd)), (a_lines, .inr (2, [.ref a_lines_lesser, .ref a_lines_other, .int v_lines_size])), (a_lines_lesser, .inl (cI, 45, .inl v_lines_lesser)), (a_lines_other, .inl (cI, 45, .inl v_lines_other)), (a_masses, .inr (3, [.ref a_masses_sums, .ref a_masses_weights])), (a_masses_sums, .inl (cJ, 10, .inr (.inl k37_masses_sums))), (a_masses_weights, .inl (cJ, 10, .inr (.inl k37_masses_weights))), (a_row, .inl (cI, 3, .inl g_3))] hC rfl rfl h_2 e_g_3 rfl dX4_evensOut_54 rfl ?_
        refine x_aload_n 56 0 hC dX4_evensOut_55 rfl rfl rfl ?_
        refine x_aload_n 57 0 hC dX4_evensOut_56 rfl rfl rfl ?_
        refine x_get 60 0 4 hC in_X4_evensOut_X4 rfl rfl (by decide) (List.mem_of_getElem? (i := 1) (by decide +kernel)) rfl rfl dX4_evensOut_57 rfl ?_
        refine x_get 63 2 0 hC in_X4_evensOut_X2 rfl rfl (by decide) (List.mem_of_getElem? (i := 4) (by decide +kernel)) rfl rfl dX4_evensOut_60 rfl ?_
        refine x_iload_n 64 3 hC dX4_evensOut_63 rfl rfl rfl ?_
        obtain ⟨h_4, hf⟩ := ck_e hf
        refine x_iald 65 3 0 hC rfl rfl h_4 dX4_evensOut_64 rfl ?_
        refine x_aload_n 66 0 hC dX4_evensOut_65 rfl rfl rfl ?_
        refine x_get 69 0 4 hC in_X4_evensOut_X4 rfl rfl (by decide) (List.mem_of_getElem? (i := 1) (by decide +kernel)) rfl rfl dX4_evensOut_66 rfl ?_
        refine x_get 72 2 1 hC in_X4_evensOut_X2 rfl rfl (by decide) (List.mem_of_getElem? (i := 5) (by decide +kernel)) rfl rfl dX4_evensOut_69 rfl ?_
        refine x_iload_n 73 3 hC dX4_evensOut_72 rfl rfl rfl ?_
        obtain ⟨h_5, hf⟩ := ck_e hf
        refine x_iald 74 4 0 hC rfl rfl h_5 dX4_evensOut_73 rfl ?_
        refine x_iload_n 75 1 hC dX4_evensOut_74 rfl rfl rfl ?_
        refine x_iload_n 76 2 hC dX4_evensOut_75 rfl rfl rfl ?_
        obtain ⟨R_6, h_R_6, hf⟩ := bd_e hf
        refine x_callVi 79 0 4 [0, 1, 2, 3, 4, 5, 6, 7, 8] [(a_this, .inr (4, [.ref a_masses, .ref a_crowd, .ref a_row, .int v_crowdSize, .ref a_lines])), (a_crowd, .inl (cI, 10, .inl v_crowd)), (a_lines, .inr (2, [.ref a_lines_lesser, .ref a_lines_other, .int v_lines_size])), (a_lines_lesser, .inl (cI, 45, .inl v_lines_lesser)), (a_lines_other, .inl (cI, 45, .inl v_lines_other)), (a_masses, .inr (3, [.ref a_masses_sums, .ref a_masses_weights])), (a_masses_sums, .inl (cJ, 10, .inr (.inl R_6.1))), (a_masses_weights, .inl (cJ, 10, .inr (.inl R_6.2.1))), (a_row, .inl (cI, 3, .inl R_6.2.2.1))] hC (As := [.int (v_lines_lesser k37_l3.toNatClampNeg), .int (v_lines_other k37_l3.toNatClampNeg), .int k37_l1, .int k37_l2]) (c_X4_evensOutOver_L1 l D cI cJ cQ a_this a_crowd a_lines a_lines_lesser a_lines_other a_masses a_masses_sums a_masses_weights a_row v_crowdSize v_crowd v_lines_size v_lines_lesser v_lines_other k37_masses_sums k37_masses_weights g_3 (v_lines_lesser k37_l3.toNatClampNeg) (v_lines_other k37_l3.toNatClampNeg) k37_l1 k37_l2 R_6 h_R_6) rfl rfl gX4_evensOut_X4_evensOutOver rfl ⟨rfl, rfl⟩ hd_X4_evensOutOver ⟨Nat.le_of_ble_eq_true rfl, Nat.le_of_ble_eq_true rfl⟩ rfl rfl rfl rfl rfl rfl (Nat.le_of_ble_eq_true rfl) ⟨Nat.le_of_ble_eq_true rfl, Nat.le_of_ble_eq_true rfl⟩ dX4_evensOut_76 rfl ?_
        refine x_if_eq 84 82 hC dX4_evensOut_79 (by decide) rfl (fun c_7 => ?_) (fun c_7 => ?_)
        · have hf := if_t hf c_7
          obtain ⟨x_8, e_x_8, hf⟩ := nmx_e hf
          refine x_iinc 87 3 [(3, .int x_8), (0, .ref a_this), (1, .int k37_l1), (2, .int k37_l2)] hC dX4_evensOut_84 rfl rfl e_x_8 (by decide) (by decide) rfl ?_
          refine x_goto 37 hC dX4_evensOut_87 (by decide) ?_
          refine x_lv [(0, .ref a_this), (1, .int k37_l1), (2, .int k37_l2), (3, .int x_8)] [1, 2, 3, 0] rfl ?_
          exact ih_37 R_6.1 R_6.2.1 R_6.2.2.1 k37_l1 k37_l2 x_8 hf
        · have hf := if_f hf c_7
          refine x_iconst 83 hC (1 : Int32) dX4_evensOut_82 rfl (by decide) ?_
          cases hf
          exact x_zret hC rfl dX4_evensOut_83 hQ rfl rfl
  have J_10 : ∀ (k10_masses_sums : Nat → Int64) (k10_masses_weights : Nat → Int64) (k10_row : Nat → Int32), f_X4_evensOut_L1_c10 v_crowdSize v_crowd v_lines_size v_lines_lesser v_lines_other k10_masses_sums k10_masses_weights k10_row = some R0 → XW p l e ({ frames := 6, cells := 0, slots := 0, locals := 196 } : Room) s m args below meth c D A 4 0 0 Q [(a_this, .inr (4, [.ref a_masses, .ref a_crowd, .ref a_row, .int v_crowdSize, .ref a_lines])), (a_crowd, .inl (cI, 10, .inl v_crowd)), (a_lines, .inr (2, [.ref a_lines_lesser, .ref a_lines_other, .int v_lines_size])), (a_lines_lesser, .inl (cI, 45, .inl v_lines_lesser)), (a_lines_other, .inl (cI, 45, .inl v_lines_other)), (a_masses, .inr (3, [.ref a_masses_sums, .ref a_masses_weights])), (a_masses_sums, .inl (cJ, 10, .inr (.inl k10_masses_sums))), (a_masses_weights, .inl (cJ, 10, .inr (.inl k10_masses_weights))), (a_row, .inl (cI, 3, .inl k10_row))] [] [(0, .ref a_this)] 10 [] := by
    intro k10_masses_sums k10_masses_weights k10_row hf
    unfold f_X4_evensOut_L1_c10 at hf
    refine x_aload_n 11 0 hC dX4_evensOut_10 rfl rfl rfl ?_
    refine x_iconst 12 hC (0 : Int32) dX4_evensOut_11 rfl (by decide) ?_
    obtain ⟨R_9, h_R_9, hf⟩ := bd_e hf
    refine x_callVi 15 0 1 [0, 1, 5, 6, 7] [(a_this, .inr (4, [.ref a_masses, .ref a_crowd, .ref a_row, .int v_crowdSize, .ref a_lines])), (a_crowd, .inl (cI, 10, .inl v_crowd)), (a_lines, .inr (2, [.ref a_lines_lesser, .ref a_lines_other, .int v_lines_size])), (a_lines_lesser, .inl (cI, 45, .inl v_lines_lesser)), (a_lines_other, .inl (cI, 45, .inl v_lines_other)), (a_masses, .inr (3, [.ref a_masses_sums, .ref a_masses_weights])), (a_masses_sums, .inl (cJ, 10, .inr (.inl k10_masses_sums))), (a_masses_weights, .inl (cJ, 10, .inr (.inl k10_masses_weights))), (a_row, .inl (cI, 3, .inl k10_row))] hC (As := [.int (0 : Int32)]) (c_X4_isNear l D cI cJ cQ a_this a_crowd a_masses a_masses_sums a_masses_weights (.ref a_row) (.ref a_lines) v_crowdSize v_crowd k10_masses_sums k10_masses_weights (0 : Int32) R_9 h_R_9) rfl rfl gX4_evensOut_X4_isNear rfl ⟨rfl, rfl⟩ hd_X4_isNear ⟨Nat.le_of_ble_eq_true rfl, Nat.le_of_ble_eq_true rfl⟩ rfl rfl rfl rfl rfl rfl (Nat.le_of_ble_eq_true rfl) ⟨Nat.le_of_ble_eq_true rfl, Nat.le_of_ble_eq_true rfl⟩ dX4_evensOut_12 rfl ?_
    obtain ⟨h_10, hf⟩ := ckp_e hf
    cases hf
    exact x_zret hC h_10 dX4_evensOut_15 hQ rfl rfl
  unfold f_X4_evensOut_L1 at hf
  refine x_iload_n 1 1 hC dX4_evensOut_0 rfl rfl rfl ?_
  refine x_iload_n 2 2 hC dX4_evensOut_1 rfl rfl rfl ?_
  refine x_icmp_ge 10 5 hC dX4_evensOut_2 (by decide) rfl (fun c_11 => ?_) (fun c_11 => ?_)
  · have hf := if_t hf c_11
    refine x_lv [(0, .ref a_this)] [0] rfl ?_
    exact J_10 v_masses_sums v_masses_weights v_row hf
  · have hf := if_f hf c_11
    refine x_iload_n 6 1 hC dX4_evensOut_5 rfl rfl rfl ?_
    refine x_iconst 7 hC (3 : Int32) dX4_evensOut_6 rfl (by decide) ?_
    refine x_icmp_lt 16 10 hC dX4_evensOut_7 (by decide) rfl (fun c_12 => ?_) (fun c_12 => ?_)
    · have hf := if_t hf c_12
      refine x_aload_n 17 0 hC dX4_evensOut_16 rfl rfl rfl ?_
      refine x_get 20 0 4 hC in_X4_evensOut_X4 rfl rfl (by decide) (List.mem_of_getElem? (i := 1) (by decide +kernel)) rfl rfl dX4_evensOut_17 rfl ?_
      refine x_ifnull 23 hC dX4_evensOut_20 rfl ?_
      refine x_aload_n 24 0 hC dX4_evensOut_23 rfl rfl rfl ?_
      refine x_iload_n 25 2 hC dX4_evensOut_24 rfl rfl rfl ?_
      refine x_iload_n 26 1 hC dX4_evensOut_25 rfl rfl rfl ?_
      refine x_isub 27 hC dX4_evensOut_26 rfl ?_
      obtain ⟨R_13, h_R_13, hf⟩ := bd_e hf
      refine x_callVi 30 0 1 [0, 1, 5, 6, 7] [(a_this, .inr (4, [.ref a_masses, .ref a_crowd, .ref a_row, .int v_crowdSize, .ref a_lines])), (a_crowd, .inl (cI, 10, .inl v_crowd)), (a_lines, .inr (2, [.ref a_lines_lesser, .ref a_lines_other, .int v_lines_size])), (a_lines_lesser, .inl (cI, 45, .inl v_lines_lesser)), (a_lines_other, .inl (cI, 45, .inl v_lines_other)), (a_masses, .inr (3, [.ref a_masses_sums, .ref a_masses_weights])), (a_masses_sums, .inl (cJ, 10, .inr (.inl v_masses_sums))), (a_masses_weights, .inl (cJ, 10, .inr (.inl v_masses_weights))), (a_row, .inl (cI, 3, .inl v_row))] hC (As := [.int (p2 - p1)]) (c_X4_isNear l D cI cJ cQ a_this a_crowd a_masses a_masses_sums a_masses_weights (.ref a_row) (.ref a_lines) v_crowdSize v_crowd v_masses_sums v_masses_weights (p2 - p1) R_13 h_R_13) rfl rfl gX4_evensOut_X4_isNear rfl ⟨rfl, rfl⟩ hd_X4_isNear ⟨Nat.le_of_ble_eq_true rfl, Nat.le_of_ble_eq_true rfl⟩ rfl rfl rfl rfl rfl rfl (Nat.le_of_ble_eq_true rfl) ⟨Nat.le_of_ble_eq_true rfl, Nat.le_of_ble_eq_true rfl⟩ dX4_evensOut_27 rfl ?_
      refine x_if_ne 35 33 hC dX4_evensOut_30 (by decide) rfl (fun c_14 => ?_) (fun c_14 => ?_)
      · have hf := if_t hf c_14
        refine x_iconst 36 hC (0 : Int32) dX4_evensOut_35 rfl (by decide) ?_
        refine x_istore_n 37 [(3, .int (0 : Int32)), (0, .ref a_this), (1, .int p1), (2, .int p2)] hC dX4_evensOut_36 rfl rfl rfl (by decide) rfl ?_
        refine x_lv [(0, .ref a_this), (1, .int p1), (2, .int p2), (3, .int (0 : Int32))] [1, 2, 3, 0] rfl ?_
        exact J_37 fu v_masses_sums v_masses_weights v_row p1 p2 (0 : Int32) hf
      · have hf := if_f hf c_14
        refine x_iconst 34 hC (0 : Int32) dX4_evensOut_33 rfl (by decide) ?_
        cases hf
        exact x_zret hC rfl dX4_evensOut_34 hQ rfl rfl
    · have hf := if_f hf c_12
      refine x_lv [(0, .ref a_this)] [0] rfl ?_
      exact J_10 v_masses_sums v_masses_weights v_row hf

noncomputable def f_X4_evensOutOver_L2_c112 (v_crowdSize : Int32) (v_crowd : Nat → Int32) (v_lines_size : Int32) (v_lines_lesser : Nat → Int32) (v_lines_other : Nat → Int32) (k112_masses_sums : Nat → Int64) (k112_masses_weights : Nat → Int64) (k112_row : Nat → Int32) (k112_l1 : Int32) (k112_l2 : Int32) (k112_l5 : Int64) (k112_l7 : Int64) (k112_l9 : Int64) (k112_l11 : Int64) (k112_s0 : Int32) : Option ((Nat → Int64) × (Nat → Int64) × (Nat → Int32) × Int32) := bd (f_X3_put 10 k112_masses_sums k112_masses_weights k112_l1 k112_l5 k112_l7) fun R_1 => bd (f_X3_put 10 R_1.1 R_1.2 k112_l2 k112_l9 k112_l11) fun R_2 => ckp (narrow .boolean (.int k112_s0) = .int k112_s0) (Classical.propDecidable _) <| some (R_2.1, R_2.2, k112_row, k112_s0)
noncomputable def f_X4_evensOutOver_L2_c111 (v_crowdSize : Int32) (v_crowd : Nat → Int32) (v_lines_size : Int32) (v_lines_lesser : Nat → Int32) (v_lines_other : Nat → Int32) (k111_masses_sums : Nat → Int64) (k111_masses_weights : Nat → Int64) (k111_row : Nat → Int32) (k111_l1 : Int32) (k111_l2 : Int32) (k111_l5 : Int64) (k111_l7 : Int64) (k111_l9 : Int64) (k111_l11 : Int64) : Option ((Nat → Int64) × (Nat → Int64) × (Nat → Int32) × Int32) := f_X4_evensOutOver_L2_c112 v_crowdSize v_crowd v_lines_size v_lines_lesser v_lines_other k111_masses_sums k111_masses_weights k111_row k111_l1 k111_l2 k111_l5 k111_l7 k111_l9 k111_l11 (0 : Int32)
noncomputable def f_X4_evensOutOver_L2_c88 (v_crowdSize : Int32) (v_crowd : Nat → Int32) (v_lines_size : Int32) (v_lines_lesser : Nat → Int32) (v_lines_other : Nat → Int32) (k88_masses_sums : Nat → Int64) (k88_masses_weights : Nat → Int64) (k88_row : Nat → Int32) (k88_l1 : Int32) (k88_l2 : Int32) (k88_l3 : Int32) (k88_l4 : Int32) (k88_l5 : Int64) (k88_l7 : Int64) (k88_l9 : Int64) (k88_l11 : Int64) (k88_s0 : Int32) : Option ((Nat → Int64) × (Nat → Int64) × (Nat → Int32) × Int32) := if k88_s0 = 0 then (f_X4_evensOutOver_L2_c111 v_crowdSize v_crowd v_lines_size v_lines_lesser v_lines_other k88_masses_sums k88_masses_weights k88_row k88_l1 k88_l2 k88_l5 k88_l7 k88_l9 k88_l11) else (bd (f_X4_evensOut_L1 v_crowdSize v_crowd v_lines_size v_lines_lesser v_lines_other k88_masses_sums k88_masses_weights k88_row (k88_l3 + (1 : Int32)) k88_l4) fun R_5 => if R_5.2.2.2 = 0 then (f_X4_evensOutOver_L2_c111 v_crowdSize v_crowd v_lines_size v_lines_lesser v_lines_other R_5.1 R_5.2.1 R_5.2.2.1 k88_l1 k88_l2 k88_l5 k88_l7 k88_l9 k88_l11) else (f_X4_evensOutOver_L2_c112 v_crowdSize v_crowd v_lines_size v_lines_lesser v_lines_other R_5.1 R_5.2.1 R_5.2.2.1 k88_l1 k88_l2 k88_l5 k88_l7 k88_l9 k88_l11 (1 : Int32)))
noncomputable def f_X4_evensOutOver_L2_c83 (v_crowdSize : Int32) (v_crowd : Nat → Int32) (v_lines_size : Int32) (v_lines_lesser : Nat → Int32) (v_lines_other : Nat → Int32) (k83_masses_sums : Nat → Int64) (k83_masses_weights : Nat → Int64) (k83_row : Nat → Int32) (k83_l1 : Int32) (k83_l2 : Int32) (k83_l3 : Int32) (k83_l4 : Int32) (k83_l5 : Int64) (k83_l7 : Int64) (k83_l9 : Int64) (k83_l11 : Int64) : Option ((Nat → Int64) × (Nat → Int64) × (Nat → Int32) × Int32) := f_X4_evensOutOver_L2_c88 v_crowdSize v_crowd v_lines_size v_lines_lesser v_lines_other k83_masses_sums k83_masses_weights k83_row k83_l1 k83_l2 k83_l3 k83_l4 k83_l5 k83_l7 k83_l9 k83_l11 (1 : Int32)
noncomputable def f_X4_evensOutOver_L2 (v_crowdSize : Int32) (v_crowd : Nat → Int32) (v_lines_size : Int32) (v_lines_lesser : Nat → Int32) (v_lines_other : Nat → Int32) (v_masses_sums : Nat → Int64) (v_masses_weights : Nat → Int64) (v_row : Nat → Int32) (p1 : Int32) (p2 : Int32) (p3 : Int32) (p4 : Int32) : Option ((Nat → Int64) × (Nat → Int64) × (Nat → Int32) × Int32) := ck p1 10 <| nm (v_masses_sums p1.toNatClampNeg) fun x_8 => ck p1 10 <| nm (v_masses_weights p1.toNatClampNeg) fun x_10 => ck p2 10 <| nm (v_masses_sums p2.toNatClampNeg) fun x_12 => ck p2 10 <| nm (v_masses_weights p2.toNatClampNeg) fun x_14 => bd (f_X3_even 10 v_masses_sums v_masses_weights p1 p2) fun R_15 => ck p1 10 <| if ¬ (R_15.1 p1.toNatClampNeg) = x_8 then (f_X4_evensOutOver_L2_c83 v_crowdSize v_crowd v_lines_size v_lines_lesser v_lines_other R_15.1 R_15.2 v_row p1 p2 p3 p4 x_8 x_10 x_12 x_14) else (ck p1 10 <| if (R_15.2 p1.toNatClampNeg) = x_10 then (f_X4_evensOutOver_L2_c88 v_crowdSize v_crowd v_lines_size v_lines_lesser v_lines_other R_15.1 R_15.2 v_row p1 p2 p3 p4 x_8 x_10 x_12 x_14 (0 : Int32)) else (f_X4_evensOutOver_L2_c83 v_crowdSize v_crowd v_lines_size v_lines_lesser v_lines_other R_15.1 R_15.2 v_row p1 p2 p3 p4 x_8 x_10 x_12 x_14))
set_option maxHeartbeats 4000000 in
set_option maxRecDepth 100000 in
theorem c_X4_evensOutOver_L2 (l : Launch) (D : va_G) (cI cJ cQ : ClassId) (a_this : Nat) (a_crowd : Nat) (a_lines : Nat) (a_lines_lesser : Nat) (a_lines_other : Nat) (a_masses : Nat) (a_masses_sums : Nat) (a_masses_weights : Nat) (a_row : Nat) (v_crowdSize : Int32) (v_crowd : Nat → Int32) (v_lines_size : Int32) (v_lines_lesser : Nat → Int32) (v_lines_other : Nat → Int32) (v_masses_sums : Nat → Int64) (v_masses_weights : Nat → Int64) (v_row : Nat → Int32) (p1 : Int32) (p2 : Int32) (p3 : Int32) (p4 : Int32) (R0 : (Nat → Int64) × (Nat → Int64) × (Nat → Int32) × Int32) (hf : f_X4_evensOutOver_L2 v_crowdSize v_crowd v_lines_size v_lines_lesser v_lines_other v_masses_sums v_masses_weights v_row p1 p2 p3 p4 = some R0) : Ci l yX4_evensOutOver wsX4_evensOutOver ({ frames := 7, cells := 0, slots := 0, locals := 221 } : Room) D [(cI, .int), (cJ, .long), (cQ, .object "WhisperCrowd$State")] [.ref a_this, .int p1, .int p2, .int p3, .int p4] [(a_this, .inr (4, [.ref a_masses, .ref a_crowd, .ref a_row, .int v_crowdSize, .ref a_lines])), (a_crowd, .inl (cI, 10, .inl v_crowd)), (a_lines, .inr (2, [.ref a_lines_lesser, .ref a_lines_other, .int v_lines_size])), (a_lines_lesser, .inl (cI, 45, .inl v_lines_lesser)), (a_lines_other, .inl (cI, 45, .inl v_lines_other)), (a_masses, .inr (3, [.ref a_masses_sums, .ref a_masses_weights])), (a_masses_sums, .inl (cJ, 10, .inr (.inl v_masses_sums))), (a_masses_weights, .inl (cJ, 10, .inr (.inl v_masses_weights))), (a_row, .inl (cI, 3, .inl v_row))] [(a_this, .inr (4, [.ref a_masses, .ref a_crowd, .ref a_row, .int v_crowdSize, .ref a_lines])), (a_crowd, .inl (cI, 10, .inl v_crowd)), (a_lines, .inr (2, [.ref a_lines_lesser, .ref a_lines_other, .int v_lines_size])), (a_lines_lesser, .inl (cI, 45, .inl v_lines_lesser)), (a_lines_other, .inl (cI, 45, .inl v_lines_other)), (a_masses, .inr (3, [.ref a_masses_sums, .ref a_masses_weights])), (a_masses_sums, .inl (cJ, 10, .inr (.inl R0.1))), (a_masses_weights, .inl (cJ, 10, .inr (.inl R0.2.1))), (a_row, .inl (cI, 3, .inl R0.2.2.1))] R0.2.2.2 := by
  refine x_enti (cc := cX4_evensOutOver) (maxL := 15) (rt := (some .boolean)) (lv := [(0, .ref a_this), (1, .int p1), (2, .int p2), (3, .int p3), (4, .int p4)]) (by decide) rfl (Nat.le_of_ble_eq_true rfl) rfl ?_
  intro p e s m args below meth c A Q hQ hC
  have J_112 : ∀ (k112_masses_sums : Nat → Int64) (k112_masses_weights : Nat → Int64) (k112_row : Nat → Int32) (k112_l1 : Int32) (k112_l2 : Int32) (k112_l5 : Int64) (k112_l7 : Int64) (k112_l9 : Int64) (k112_l11 : Int64) (k112_s0 : Int32), f_X4_evensOutOver_L2_c112 v_crowdSize v_crowd v_lines_size v_lines_lesser v_lines_other k112_masses_sums k112_masses_weights k112_row k112_l1 k112_l2 k112_l5 k112_l7 k112_l9 k112_l11 k112_s0 = some R0 → XW p l e ({ frames := 7, cells := 0, slots := 0, locals := 221 } : Room) s m args below meth c D A 15 0 0 Q [(a_this, .inr (4, [.ref a_masses, .ref a_crowd, .ref a_row, .int v_crowdSize, .ref a_lines])), (a_crowd, .inl (cI, 10, .inl v_crowd)), (a_lines, .inr (2, [.ref a_lines_lesser, .ref a_lines_other, .int v_lines_size])), (a_lines_lesser, .inl (cI, 45, .inl v_lines_lesser)), (a_lines_other, .inl (cI, 45, .inl v_lines_other)), (a_masses, .inr (3, [.ref a_masses_sums, .ref a_masses_weights])), (a_masses_sums, .inl (cJ, 10, .inr (.inl k112_masses_sums))), (a_masses_weights, .inl (cJ, 10, .inr (.inl k112_masses_weights))), (a_row, .inl (cI, 3, .inl k112_row))] [] [(0, .ref a_this), (1, .int k112_l1), (2, .int k112_l2), (5, .long k112_l5), (7, .long k112_l7), (9, .long k112_l9), (11, .long k112_l11)] 112 [.int k112_s0] := by
    intro k112_masses_sums k112_masses_weights k112_row k112_l1 k112_l2 k112_l5 k112_l7 k112_l9 k112_l11 k112_s0 hf
    unfold f_X4_evensOutOver_L2_c112 at hf
    refine x_istore 114 [(14, .int k112_s0), (0, .ref a_this), (1, .int k112_l1), (2, .int k112_l2), (5, .long k112_l5), (7, .long k112_l7), (9, .long k112_l9), (11, .long k112_l11)] hC dX4_evensOutOver_112 rfl rfl (by decide) rfl ?_
    refine x_aload_n 115 1 hC dX4_evensOutOver_114 rfl rfl rfl ?_
    refine x_get 118 0 0 hC in_X4_evensOutOver_X4 rfl rfl (by decide) (List.mem_of_getElem? (i := 1) (by decide +kernel)) rfl rfl dX4_evensOutOver_115 rfl ?_
    refine x_iload_n 119 2 hC dX4_evensOutOver_118 rfl rfl rfl ?_
    refine x_lload 121 4 hC dX4_evensOutOver_119 rfl rfl ?_
    refine x_lload 123 5 hC dX4_evensOutOver_121 rfl rfl ?_
    obtain ⟨R_1, h_R_1, hf⟩ := bd_e hf
    refine x_callVv 126 0 3 [5, 6, 7] [(a_this, .inr (4, [.ref a_masses, .ref a_crowd, .ref a_row, .int v_crowdSize, .ref a_lines])), (a_crowd, .inl (cI, 10, .inl v_crowd)), (a_lines, .inr (2, [.ref a_lines_lesser, .ref a_lines_other, .int v_lines_size])), (a_lines_lesser, .inl (cI, 45, .inl v_lines_lesser)), (a_lines_other, .inl (cI, 45, .inl v_lines_other)), (a_masses, .inr (3, [.ref a_masses_sums, .ref a_masses_weights])), (a_masses_sums, .inl (cJ, 10, .inr (.inl R_1.1))), (a_masses_weights, .inl (cJ, 10, .inr (.inl R_1.2))), (a_row, .inl (cI, 3, .inl k112_row))] hC (As := [.int k112_l1, .long k112_l5, .long k112_l7]) (c_X3_put l D cI cJ cQ a_masses a_masses_sums a_masses_weights 10 k112_masses_sums k112_masses_weights k112_l1 k112_l5 k112_l7 R_1 h_R_1) rfl rfl gX4_evensOutOver_X3_put rfl ⟨rfl, rfl⟩ hd_X3_put ⟨Nat.le_of_ble_eq_true rfl, Nat.le_of_ble_eq_true rfl⟩ rfl rfl rfl rfl rfl rfl (Nat.le_of_ble_eq_true rfl) ⟨Nat.le_of_ble_eq_true rfl, Nat.le_of_ble_eq_true rfl⟩ dX4_evensOutOver_123 rfl ?_
    refine x_aload_n 127 1 hC dX4_evensOutOver_126 rfl rfl rfl ?_
    refine x_get 130 0 0 hC in_X4_evensOutOver_X4 rfl rfl (by decide) (List.mem_of_getElem? (i := 1) (by decide +kernel)) rfl rfl dX4_evensOutOver_127 rfl ?_
    refine x_iload_n 131 3 hC dX4_evensOutOver_130 rfl rfl rfl ?_
    refine x_lload 133 6 hC dX4_evensOutOver_131 rfl rfl ?_
    refine x_lload 135 7 hC dX4_evensOutOver_133 rfl rfl ?_
    obtain ⟨R_2, h_R_2, hf⟩ := bd_e hf
    refine x_callVv 138 0 3 [5, 6, 7] [(a_this, .inr (4, [.ref a_masses, .ref a_crowd, .ref a_row, .int v_crowdSize, .ref a_lines])), (a_crowd, .inl (cI, 10, .inl v_crowd)), (a_lines, .inr (2, [.ref a_lines_lesser, .ref a_lines_other, .int v_lines_size])), (a_lines_lesser, .inl (cI, 45, .inl v_lines_lesser)), (a_lines_other, .inl (cI, 45, .inl v_lines_other)), (a_masses, .inr (3, [.ref a_masses_sums, .ref a_masses_weights])), (a_masses_sums, .inl (cJ, 10, .inr (.inl R_2.1))), (a_masses_weights, .inl (cJ, 10, .inr (.inl R_2.2))), (a_row, .inl (cI, 3, .inl k112_row))] hC (As := [.int k112_l2, .long k112_l9, .long k112_l11]) (c_X3_put l D cI cJ cQ a_masses a_masses_sums a_masses_weights 10 R_1.1 R_1.2 k112_l2 k112_l9 k112_l11 R_2 h_R_2) rfl rfl gX4_evensOutOver_X3_put rfl ⟨rfl, rfl⟩ hd_X3_put ⟨Nat.le_of_ble_eq_true rfl, Nat.le_of_ble_eq_true rfl⟩ rfl rfl rfl rfl rfl rfl (Nat.le_of_ble_eq_true rfl) ⟨Nat.le_of_ble_eq_true rfl, Nat.le_of_ble_eq_true rfl⟩ dX4_evensOutOver_135 rfl ?_
    refine x_iload 140 0 hC dX4_evensOutOver_138 rfl rfl ?_
    obtain ⟨h_3, hf⟩ := ckp_e hf
    cases hf
    exact x_zret hC h_3 dX4_evensOutOver_140 hQ rfl rfl
  have J_111 : ∀ (k111_masses_sums : Nat → Int64) (k111_masses_weights : Nat → Int64) (k111_row : Nat → Int32) (k111_l1 : Int32) (k111_l2 : Int32) (k111_l5 : Int64) (k111_l7 : Int64) (k111_l9 : Int64) (k111_l11 : Int64), f_X4_evensOutOver_L2_c111 v_crowdSize v_crowd v_lines_size v_lines_lesser v_lines_other k111_masses_sums k111_masses_weights k111_row k111_l1 k111_l2 k111_l5 k111_l7 k111_l9 k111_l11 = some R0 → XW p l e ({ frames := 7, cells := 0, slots := 0, locals := 221 } : Room) s m args below meth c D A 15 0 0 Q [(a_this, .inr (4, [.ref a_masses, .ref a_crowd, .ref a_row, .int v_crowdSize, .ref a_lines])), (a_crowd, .inl (cI, 10, .inl v_crowd)), (a_lines, .inr (2, [.ref a_lines_lesser, .ref a_lines_other, .int v_lines_size])), (a_lines_lesser, .inl (cI, 45, .inl v_lines_lesser)), (a_lines_other, .inl (cI, 45, .inl v_lines_other)), (a_masses, .inr (3, [.ref a_masses_sums, .ref a_masses_weights])), (a_masses_sums, .inl (cJ, 10, .inr (.inl k111_masses_sums))), (a_masses_weights, .inl (cJ, 10, .inr (.inl k111_masses_weights))), (a_row, .inl (cI, 3, .inl k111_row))] [] [(0, .ref a_this), (1, .int k111_l1), (2, .int k111_l2), (5, .long k111_l5), (7, .long k111_l7), (9, .long k111_l9), (11, .long k111_l11)] 111 [] := by
    intro k111_masses_sums k111_masses_weights k111_row k111_l1 k111_l2 k111_l5 k111_l7 k111_l9 k111_l11 hf
    unfold f_X4_evensOutOver_L2_c111 at hf
    refine x_iconst 112 hC (0 : Int32) dX4_evensOutOver_111 rfl (by decide) ?_
    refine x_lv [(0, .ref a_this), (1, .int k111_l1), (2, .int k111_l2), (5, .long k111_l5), (7, .long k111_l7), (9, .long k111_l9), (11, .long k111_l11)] [0, 1, 2, 3, 4, 5, 6] rfl ?_
    exact J_112 k111_masses_sums k111_masses_weights k111_row k111_l1 k111_l2 k111_l5 k111_l7 k111_l9 k111_l11 (0 : Int32) hf
  have J_88 : ∀ (k88_masses_sums : Nat → Int64) (k88_masses_weights : Nat → Int64) (k88_row : Nat → Int32) (k88_l1 : Int32) (k88_l2 : Int32) (k88_l3 : Int32) (k88_l4 : Int32) (k88_l5 : Int64) (k88_l7 : Int64) (k88_l9 : Int64) (k88_l11 : Int64) (k88_s0 : Int32), f_X4_evensOutOver_L2_c88 v_crowdSize v_crowd v_lines_size v_lines_lesser v_lines_other k88_masses_sums k88_masses_weights k88_row k88_l1 k88_l2 k88_l3 k88_l4 k88_l5 k88_l7 k88_l9 k88_l11 k88_s0 = some R0 → XW p l e ({ frames := 7, cells := 0, slots := 0, locals := 221 } : Room) s m args below meth c D A 15 0 0 Q [(a_this, .inr (4, [.ref a_masses, .ref a_crowd, .ref a_row, .int v_crowdSize, .ref a_lines])), (a_crowd, .inl (cI, 10, .inl v_crowd)), (a_lines, .inr (2, [.ref a_lines_lesser, .ref a_lines_other, .int v_lines_size])), (a_lines_lesser, .inl (cI, 45, .inl v_lines_lesser)), (a_lines_other, .inl (cI, 45, .inl v_lines_other)), (a_masses, .inr (3, [.ref a_masses_sums, .ref a_masses_weights])), (a_masses_sums, .inl (cJ, 10, .inr (.inl k88_masses_sums))), (a_masses_weights, .inl (cJ, 10, .inr (.inl k88_masses_weights))), (a_row, .inl (cI, 3, .inl k88_row))] [] [(0, .ref a_this), (1, .int k88_l1), (2, .int k88_l2), (3, .int k88_l3), (4, .int k88_l4), (5, .long k88_l5), (7, .long k88_l7), (9, .long k88_l9), (11, .long k88_l11)] 88 [.int k88_s0] := by
    intro k88_masses_sums k88_masses_weights k88_row k88_l1 k88_l2 k88_l3 k88_l4 k88_l5 k88_l7 k88_l9 k88_l11 k88_s0 hf
    unfold f_X4_evensOutOver_L2_c88 at hf
    refine x_istore 90 [(13, .int k88_s0), (0, .ref a_this), (1, .int k88_l1), (2, .int k88_l2), (3, .int k88_l3), (4, .int k88_l4), (5, .long k88_l5), (7, .long k88_l7), (9, .long k88_l9), (11, .long k88_l11)] hC dX4_evensOutOver_88 rfl rfl (by decide) rfl ?_
    refine x_iload 92 0 hC dX4_evensOutOver_90 rfl rfl ?_
    refine x_if_eq 111 95 hC dX4_evensOutOver_92 (by decide) rfl (fun c_4 => ?_) (fun c_4 => ?_)
    · have hf := if_t hf c_4
      refine x_lv [(0, .ref a_this), (1, .int k88_l1), (2, .int k88_l2), (5, .long k88_l5), (7, .long k88_l7), (9, .long k88_l9), (11, .long k88_l11)] [1, 2, 3, 6, 7, 8, 9] rfl ?_
      exact J_111 k88_masses_sums k88_masses_weights k88_row k88_l1 k88_l2 k88_l5 k88_l7 k88_l9 k88_l11 hf
    · have hf := if_f hf c_4
      refine x_aload_n 96 1 hC dX4_evensOutOver_95 rfl rfl rfl ?_
      refine x_iload_n 97 4 hC dX4_evensOutOver_96 rfl rfl rfl ?_
      refine x_iconst 98 hC (1 : Int32) dX4_evensOutOver_97 rfl (by decide) ?_
      refine x_iadd 99 hC dX4_evensOutOver_98 rfl ?_
      refine x_iload 101 5 hC dX4_evensOutOver_99 rfl rfl ?_
      obtain ⟨R_5, h_R_5, hf⟩ := bd_e hf
      refine x_callVi 104 0 2 [0, 1, 2, 3, 4, 5, 6, 7, 8] [(a_this, .inr (4, [.ref a_masses, .ref a_crowd, .ref a_row, .int v_crowdSize, .ref a_lines])), (a_crowd, .inl (cI, 10, .inl v_crowd)), (a_lines, .inr (2, [.ref a_lines_lesser, .ref a_lines_other, .int v_lines_size])), (a_lines_lesser, .inl (cI, 45, .inl v_lines_lesser)), (a_lines_other, .inl (cI, 45, .inl v_lines_other)), (a_masses, .inr (3, [.ref a_masses_sums, .ref a_masses_weights])), (a_masses_sums, .inl (cJ, 10, .inr (.inl R_5.1))), (a_masses_weights, .inl (cJ, 10, .inr (.inl R_5.2.1))), (a_row, .inl (cI, 3, .inl R_5.2.2.1))] hC (As := [.int (k88_l3 + (1 : Int32)), .int k88_l4]) (c_X4_evensOut_L1 l D cI cJ cQ a_this a_crowd a_lines a_lines_lesser a_lines_other a_masses a_masses_sums a_masses_weights a_row v_crowdSize v_crowd v_lines_size v_lines_lesser v_lines_other k88_masses_sums k88_masses_weights k88_row (k88_l3 + (1 : Int32)) k88_l4 R_5 h_R_5) rfl rfl gX4_evensOutOver_X4_evensOut rfl ⟨rfl, rfl⟩ hd_X4_evensOut ⟨Nat.le_of_ble_eq_true rfl, Nat.le_of_ble_eq_true rfl⟩ rfl rfl rfl rfl rfl rfl (Nat.le_of_ble_eq_true rfl) ⟨Nat.le_of_ble_eq_true rfl, Nat.le_of_ble_eq_true rfl⟩ dX4_evensOutOver_101 rfl ?_
      refine x_if_eq 111 107 hC dX4_evensOutOver_104 (by decide) rfl (fun c_6 => ?_) (fun c_6 => ?_)
      · have hf := if_t hf c_6
        refine x_lv [(0, .ref a_this), (1, .int k88_l1), (2, .int k88_l2), (5, .long k88_l5), (7, .long k88_l7), (9, .long k88_l9), (11, .long k88_l11)] [1, 2, 3, 6, 7, 8, 9] rfl ?_
        exact J_111 R_5.1 R_5.2.1 R_5.2.2.1 k88_l1 k88_l2 k88_l5 k88_l7 k88_l9 k88_l11 hf
      · have hf := if_f hf c_6
        refine x_iconst 108 hC (1 : Int32) dX4_evensOutOver_107 rfl (by decide) ?_
        refine x_goto 112 hC dX4_evensOutOver_108 (by decide) ?_
        refine x_lv [(0, .ref a_this), (1, .int k88_l1), (2, .int k88_l2), (5, .long k88_l5), (7, .long k88_l7), (9, .long k88_l9), (11, .long k88_l11)] [1, 2, 3, 6, 7, 8, 9] rfl ?_
        exact J_112 R_5.1 R_5.2.1 R_5.2.2.1 k88_l1 k88_l2 k88_l5 k88_l7 k88_l9 k88_l11 (1 : Int32) hf
  have J_83 : ∀ (k83_masses_sums : Nat → Int64) (k83_masses_weights : Nat → Int64) (k83_row : Nat → Int32) (k83_l1 : Int32) (k83_l2 : Int32) (k83_l3 : Int32) (k83_l4 : Int32) (k83_l5 : Int64) (k83_l7 : Int64) (k83_l9 : Int64) (k83_l11 : Int64), f_X4_evensOutOver_L2_c83 v_crowdSize v_crowd v_lines_size v_lines_lesser v_lines_other k83_masses_sums k83_masses_weights k83_row k83_l1 k83_l2 k83_l3 k83_l4 k83_l5 k83_l7 k83_l9 k83_l11 = some R0 → XW p l e ({ frames := 7, cells := 0, slots := 0, locals := 221 } : Room) s m args below meth c D A 15 0 0 Q [(a_this, .inr (4, [.ref a_masses, .ref a_crowd, .ref a_row, .int v_crowdSize, .ref a_lines])), (a_crowd, .inl (cI, 10, .inl v_crowd)), (a_lines, .inr (2, [.ref a_lines_lesser, .ref a_lines_other, .int v_lines_size])), (a_lines_lesser, .inl (cI, 45, .inl v_lines_lesser)), (a_lines_other, .inl (cI, 45, .inl v_lines_other)), (a_masses, .inr (3, [.ref a_masses_sums, .ref a_masses_weights])), (a_masses_sums, .inl (cJ, 10, .inr (.inl k83_masses_sums))), (a_masses_weights, .inl (cJ, 10, .inr (.inl k83_masses_weights))), (a_row, .inl (cI, 3, .inl k83_row))] [] [(0, .ref a_this), (1, .int k83_l1), (2, .int k83_l2), (3, .int k83_l3), (4, .int k83_l4), (5, .long k83_l5), (7, .long k83_l7), (9, .long k83_l9), (11, .long k83_l11)] 83 [] := by
    intro k83_masses_sums k83_masses_weights k83_row k83_l1 k83_l2 k83_l3 k83_l4 k83_l5 k83_l7 k83_l9 k83_l11 hf
    unfold f_X4_evensOutOver_L2_c83 at hf
    refine x_iconst 84 hC (1 : Int32) dX4_evensOutOver_83 rfl (by decide) ?_
    refine x_goto 88 hC dX4_evensOutOver_84 (by decide) ?_
    refine x_lv [(0, .ref a_this), (1, .int k83_l1), (2, .int k83_l2), (3, .int k83_l3), (4, .int k83_l4), (5, .long k83_l5), (7, .long k83_l7), (9, .long k83_l9), (11, .long k83_l11)] [0, 1, 2, 3, 4, 5, 6, 7, 8] rfl ?_
    exact J_88 k83_masses_sums k83_masses_weights k83_row k83_l1 k83_l2 k83_l3 k83_l4 k83_l5 k83_l7 k83_l9 k83_l11 (1 : Int32) hf
  unfold f_X4_evensOutOver_L2 at hf
  refine x_aload_n 1 0 hC dX4_evensOutOver_0 rfl rfl rfl ?_
  refine x_get 4 0 0 hC in_X4_evensOutOver_X4 rfl rfl (by decide) (List.mem_of_getElem? (i := 1) (by decide +kernel)) rfl rfl dX4_evensOutOver_1 rfl ?_
  refine x_get 7 5 0 hC in_X4_evensOutOver_X3 rfl rfl (by decide) (List.mem_of_getElem? (i := 2) (by decide +kernel)) rfl rfl dX4_evensOutOver_4 rfl ?_
  refine x_iload_n 8 1 hC dX4_evensOutOver_7 rfl rfl rfl ?_
  obtain ⟨h_7, hf⟩ := ck_e hf
  refine x_lald 9 6 1 hC rfl rfl h_7 dX4_evensOutOver_8 rfl ?_
  obtain ⟨x_8, e_x_8, hf⟩ := nmx_e hf
  refine x_lstore 11 [(5, .long x_8), (0, .ref a_this), (1, .int p1), (2, .int p2), (3, .int p3), (4, .int p4)] hC dX4_evensOutOver_9 rfl e_x_8 (by decide) rfl ?_
  refine x_aload_n 12 1 hC dX4_evensOutOver_11 rfl rfl rfl ?_
  refine x_get 15 0 0 hC in_X4_evensOutOver_X4 rfl rfl (by decide) (List.mem_of_getElem? (i := 1) (by decide +kernel)) rfl rfl dX4_evensOutOver_12 rfl ?_
  refine x_get 18 5 1 hC in_X4_evensOutOver_X3 rfl rfl (by decide) (List.mem_of_getElem? (i := 3) (by decide +kernel)) rfl rfl dX4_evensOutOver_15 rfl ?_
  refine x_iload_n 19 2 hC dX4_evensOutOver_18 rfl rfl rfl ?_
  obtain ⟨h_9, hf⟩ := ck_e hf
  refine x_lald 20 7 1 hC rfl rfl h_9 dX4_evensOutOver_19 rfl ?_
  obtain ⟨x_10, e_x_10, hf⟩ := nmx_e hf
  refine x_lstore 22 [(7, .long x_10), (5, .long x_8), (0, .ref a_this), (1, .int p1), (2, .int p2), (3, .int p3), (4, .int p4)] hC dX4_evensOutOver_20 rfl e_x_10 (by decide) rfl ?_
  refine x_aload_n 23 2 hC dX4_evensOutOver_22 rfl rfl rfl ?_
  refine x_get 26 0 0 hC in_X4_evensOutOver_X4 rfl rfl (by decide) (List.mem_of_getElem? (i := 1) (by decide +kernel)) rfl rfl dX4_evensOutOver_23 rfl ?_
  refine x_get 29 5 0 hC in_X4_evensOutOver_X3 rfl rfl (by decide) (List.mem_of_getElem? (i := 2) (by decide +kernel)) rfl rfl dX4_evensOutOver_26 rfl ?_
  refine x_iload_n 30 4 hC dX4_evensOutOver_29 rfl rfl rfl ?_
  obtain ⟨h_11, hf⟩ := ck_e hf
  refine x_lald 31 6 1 hC rfl rfl h_11 dX4_evensOutOver_30 rfl ?_
  obtain ⟨x_12, e_x_12, hf⟩ := nmx_e hf
  refine x_lstore 33 [(9, .long x_12), (7, .long x_10), (5, .long x_8), (0, .ref a_this), (1, .int p1), (2, .int p2), (3, .int p3), (4, .int p4)] hC dX4_evensOutOver_31 rfl e_x_12 (by decide) rfl ?_
  refine x_aload_n 34 3 hC dX4_evensOutOver_33 rfl rfl rfl ?_
  refine x_get 37 0 0 hC in_X4_evensOutOver_X4 rfl rfl (by decide) (List.mem_of_getElem? (i := 1) (by decide +kernel)) rfl rfl dX4_evensOutOver_34 rfl ?_
  refine x_get 40 5 1 hC in_X4_evensOutOver_X3 rfl rfl (by decide) (List.mem_of_getElem? (i := 3) (by decide +kernel)) rfl rfl dX4_evensOutOver_37 rfl ?_
  refine x_iload_n 41 5 hC dX4_evensOutOver_40 rfl rfl rfl ?_
  obtain ⟨h_13, hf⟩ := ck_e hf
  refine x_lald 42 7 1 hC rfl rfl h_13 dX4_evensOutOver_41 rfl ?_
  obtain ⟨x_14, e_x_14, hf⟩ := nmx_e hf
  refine x_lstore 44 [(11, .long x_14), (9, .long x_12), (7, .long x_10), (5, .long x_8), (0, .ref a_this), (1, .int p1), (2, .int p2), (3, .int p3), (4, .int p4)] hC dX4_evensOutOver_42 rfl e_x_14 (by decide) rfl ?_
  refine x_aload_n 45 4 hC dX4_evensOutOver_44 rfl rfl rfl ?_
  refine x_get 48 0 0 hC in_X4_evensOutOver_X4 rfl rfl (by decide) (List.mem_of_getElem? (i := 1) (by decide +kernel)) rfl rfl dX4_evensOutOver_45 rfl ?_
  refine x_iload_n 49 5 hC dX4_evensOutOver_48 rfl rfl rfl ?_
  refine x_iload_n 50 6 hC dX4_evensOutOver_49 rfl rfl rfl ?_
  obtain ⟨R_15, h_R_15, hf⟩ := bd_e hf
  refine x_callVv 53 0 2 [5, 6, 7] [(a_this, .inr (4, [.ref a_masses, .ref a_crowd, .ref a_row, .int v_crowdSize, .ref a_lines])), (a_crowd, .inl (cI, 10, .inl v_crowd)), (a_lines, .inr (2, [.ref a_lines_lesser, .ref a_lines_other, .int v_lines_size])), (a_lines_lesser, .inl (cI, 45, .inl v_lines_lesser)), (a_lines_other, .inl (cI, 45, .inl v_lines_other)), (a_masses, .inr (3, [.ref a_masses_sums, .ref a_masses_weights])), (a_masses_sums, .inl (cJ, 10, .inr (.inl R_15.1))), (a_masses_weights, .inl (cJ, 10, .inr (.inl R_15.2))), (a_row, .inl (cI, 3, .inl v_row))] hC (As := [.int p1, .int p2]) (c_X3_even l D cI cJ cQ a_masses a_masses_sums a_masses_weights 10 v_masses_sums v_masses_weights p1 p2 R_15 h_R_15) rfl rfl gX4_evensOutOver_X3_even rfl ⟨rfl, rfl⟩ hd_X3_even ⟨Nat.le_of_ble_eq_true rfl, Nat.le_of_ble_eq_true rfl⟩ rfl rfl rfl rfl rfl rfl (Nat.le_of_ble_eq_true rfl) ⟨Nat.le_of_ble_eq_true rfl, Nat.le_of_ble_eq_true rfl⟩ dX4_evensOutOver_50 rfl ?_
  refine x_aload_n 54 4 hC dX4_evensOutOver_53 rfl rfl rfl ?_
  refine x_get 57 0 0 hC in_X4_evensOutOver_X4 rfl rfl (by decide) (List.mem_of_getElem? (i := 1) (by decide +kernel)) rfl rfl dX4_evensOutOver_54 rfl ?_
  refine x_get 60 5 0 hC in_X4_evensOutOver_X3 rfl rfl (by decide) (List.mem_of_getElem? (i := 2) (by decide +kernel)) rfl rfl dX4_evensOutOver_57 rfl ?_
  refine x_iload_n 61 5 hC dX4_evensOutOver_60 rfl rfl rfl ?_
  obtain ⟨h_16, hf⟩ := ck_e hf
  refine x_lald 62 6 1 hC rfl rfl h_16 dX4_evensOutOver_61 rfl ?_
  refine x_lload 64 3 hC dX4_evensOutOver_62 rfl rfl ?_
  refine x_lcmp_ne 83 68 hC dX4_evensOutOver_64 dX4_evensOutOver_65 (by decide) rfl (fun c_17 => ?_) (fun c_17 => ?_)
  · have hf := if_t hf c_17
    refine x_lv [(0, .ref a_this), (1, .int p1), (2, .int p2), (3, .int p3), (4, .int p4), (5, .long x_8), (7, .long x_10), (9, .long x_12), (11, .long x_14)] [4, 5, 6, 7, 8, 3, 2, 1, 0] rfl ?_
    exact J_83 R_15.1 R_15.2 v_row p1 p2 p3 p4 x_8 x_10 x_12 x_14 hf
  · have hf := if_f hf c_17
    refine x_aload_n 69 4 hC dX4_evensOutOver_68 rfl rfl rfl ?_
    refine x_get 72 0 0 hC in_X4_evensOutOver_X4 rfl rfl (by decide) (List.mem_of_getElem? (i := 1) (by decide +kernel)) rfl rfl dX4_evensOutOver_69 rfl ?_
    refine x_get 75 5 1 hC in_X4_evensOutOver_X3 rfl rfl (by decide) (List.mem_of_getElem? (i := 3) (by decide +kernel)) rfl rfl dX4_evensOutOver_72 rfl ?_
    refine x_iload_n 76 5 hC dX4_evensOutOver_75 rfl rfl rfl ?_
    obtain ⟨h_18, hf⟩ := ck_e hf
    refine x_lald 77 7 1 hC rfl rfl h_18 dX4_evensOutOver_76 rfl ?_
    refine x_lload 79 2 hC dX4_evensOutOver_77 rfl rfl ?_
    refine x_lcmp_eq 87 83 hC dX4_evensOutOver_79 dX4_evensOutOver_80 (by decide) rfl (fun c_19 => ?_) (fun c_19 => ?_)
    · have hf := if_t hf c_19
      refine x_iconst 88 hC (0 : Int32) dX4_evensOutOver_87 rfl (by decide) ?_
      refine x_lv [(0, .ref a_this), (1, .int p1), (2, .int p2), (3, .int p3), (4, .int p4), (5, .long x_8), (7, .long x_10), (9, .long x_12), (11, .long x_14)] [4, 5, 6, 7, 8, 3, 2, 1, 0] rfl ?_
      exact J_88 R_15.1 R_15.2 v_row p1 p2 p3 p4 x_8 x_10 x_12 x_14 (0 : Int32) hf
    · have hf := if_f hf c_19
      refine x_lv [(0, .ref a_this), (1, .int p1), (2, .int p2), (3, .int p3), (4, .int p4), (5, .long x_8), (7, .long x_10), (9, .long x_12), (11, .long x_14)] [4, 5, 6, 7, 8, 3, 2, 1, 0] rfl ?_
      exact J_83 R_15.1 R_15.2 v_row p1 p2 p3 p4 x_8 x_10 x_12 x_14 hf

noncomputable def f_X4_evensOut_L2_c37 (v_crowdSize : Int32) (v_crowd : Nat → Int32) (v_lines_size : Int32) (v_lines_lesser : Nat → Int32) (v_lines_other : Nat → Int32) : Nat → (Nat → Int64) → (Nat → Int64) → (Nat → Int32) → Int32 → Int32 → Int32 → Option ((Nat → Int64) × (Nat → Int64) × (Nat → Int32) × Int32)
  | 0, _, _, _, _, _, _ => none
  | n + 1, k37_masses_sums, k37_masses_weights, k37_row, k37_l1, k37_l2, k37_l3 => if v_lines_size ≤ k37_l3 then (some (k37_masses_sums, k37_masses_weights, k37_row, (0 : Int32))) else (ck k37_l1 3 <| nm (upd k37_row k37_l1.toNatClampNeg k37_l3) fun g_3 => ck k37_l3 45 <| ck k37_l3 45 <| bd (f_X4_evensOutOver_L2 v_crowdSize v_crowd v_lines_size v_lines_lesser v_lines_other k37_masses_sums k37_masses_weights g_3 (v_lines_lesser k37_l3.toNatClampNeg) (v_lines_other k37_l3.toNatClampNeg) k37_l1 k37_l2) fun R_6 => if R_6.2.2.2 = 0 then (nm (k37_l3 + (1 : Int32)) fun x_8 => (fun k37_masses_sums k37_masses_weights k37_row k37_l1 k37_l2 k37_l3 => f_X4_evensOut_L2_c37 v_crowdSize v_crowd v_lines_size v_lines_lesser v_lines_other n k37_masses_sums k37_masses_weights k37_row k37_l1 k37_l2 k37_l3) R_6.1 R_6.2.1 R_6.2.2.1 k37_l1 k37_l2 x_8) else (some (R_6.1, R_6.2.1, R_6.2.2.1, (1 : Int32))))
noncomputable def f_X4_evensOut_L2_c10 (v_crowdSize : Int32) (v_crowd : Nat → Int32) (v_lines_size : Int32) (v_lines_lesser : Nat → Int32) (v_lines_other : Nat → Int32) (k10_masses_sums : Nat → Int64) (k10_masses_weights : Nat → Int64) (k10_row : Nat → Int32) : Option ((Nat → Int64) × (Nat → Int64) × (Nat → Int32) × Int32) := bd (f_X4_isNear v_crowdSize v_crowd k10_masses_sums k10_masses_weights (0 : Int32)) fun R_9 => ckp (narrow .boolean (.int R_9) = .int R_9) (Classical.propDecidable _) <| some (k10_masses_sums, k10_masses_weights, k10_row, R_9)
noncomputable def f_X4_evensOut_L2 (v_crowdSize : Int32) (v_crowd : Nat → Int32) (v_lines_size : Int32) (v_lines_lesser : Nat → Int32) (v_lines_other : Nat → Int32) (v_masses_sums : Nat → Int64) (v_masses_weights : Nat → Int64) (v_row : Nat → Int32) (p1 : Int32) (p2 : Int32) : Option ((Nat → Int64) × (Nat → Int64) × (Nat → Int32) × Int32) := if p2 ≤ p1 then (f_X4_evensOut_L2_c10 v_crowdSize v_crowd v_lines_size v_lines_lesser v_lines_other v_masses_sums v_masses_weights v_row) else (if p1 < (3 : Int32) then (bd (f_X4_isNear v_crowdSize v_crowd v_masses_sums v_masses_weights (p2 - p1)) fun R_13 => if ¬ R_13 = 0 then (f_X4_evensOut_L2_c37 v_crowdSize v_crowd v_lines_size v_lines_lesser v_lines_other fu v_masses_sums v_masses_weights v_row p1 p2 (0 : Int32)) else (some (v_masses_sums, v_masses_weights, v_row, (0 : Int32)))) else (f_X4_evensOut_L2_c10 v_crowdSize v_crowd v_lines_size v_lines_lesser v_lines_other v_masses_sums v_masses_weights v_row))
set_option maxHeartbeats 4000000 in
set_option maxRecDepth 100000 in
theorem c_X4_evensOut_L2 (l : Launch) (D : va_G) (cI cJ cQ : ClassId) (a_this : Nat) (a_crowd : Nat) (a_lines : Nat) (a_lines_lesser : Nat) (a_lines_other : Nat) (a_masses : Nat) (a_masses_sums : Nat) (a_masses_weights : Nat) (a_row : Nat) (v_crowdSize : Int32) (v_crowd : Nat → Int32) (v_lines_size : Int32) (v_lines_lesser : Nat → Int32) (v_lines_other : Nat → Int32) (v_masses_sums : Nat → Int64) (v_masses_weights : Nat → Int64) (v_row : Nat → Int32) (p1 : Int32) (p2 : Int32) (R0 : (Nat → Int64) × (Nat → Int64) × (Nat → Int32) × Int32) (hf : f_X4_evensOut_L2 v_crowdSize v_crowd v_lines_size v_lines_lesser v_lines_other v_masses_sums v_masses_weights v_row p1 p2 = some R0) : Ci l yX4_evensOut wsX4_evensOut ({ frames := 8, cells := 0, slots := 0, locals := 257 } : Room) D [(cI, .int), (cJ, .long), (cQ, .object "WhisperCrowd$State")] [.ref a_this, .int p1, .int p2] [(a_this, .inr (4, [.ref a_masses, .ref a_crowd, .ref a_row, .int v_crowdSize, .ref a_lines])), (a_crowd, .inl (cI, 10, .inl v_crowd)), (a_lines, .inr (2, [.ref a_lines_lesser, .ref a_lines_other, .int v_lines_size])), (a_lines_lesser, .inl (cI, 45, .inl v_lines_lesser)), (a_lines_other, .inl (cI, 45, .inl v_lines_other)), (a_masses, .inr (3, [.ref a_masses_sums, .ref a_masses_weights])), (a_masses_sums, .inl (cJ, 10, .inr (.inl v_masses_sums))), (a_masses_weights, .inl (cJ, 10, .inr (.inl v_masses_weights))), (a_row, .inl (cI, 3, .inl v_row))] [(a_this, .inr (4, [.ref a_masses, .ref a_crowd, .ref a_row, .int v_crowdSize, .ref a_lines])), (a_crowd, .inl (cI, 10, .inl v_crowd)), (a_lines, .inr (2, [.ref a_lines_lesser, .ref a_lines_other, .int v_lines_size])), (a_lines_lesser, .inl (cI, 45, .inl v_lines_lesser)), (a_lines_other, .inl (cI, 45, .inl v_lines_other)), (a_masses, .inr (3, [.ref a_masses_sums, .ref a_masses_weights])), (a_masses_sums, .inl (cJ, 10, .inr (.inl R0.1))), (a_masses_weights, .inl (cJ, 10, .inr (.inl R0.2.1))), (a_row, .inl (cI, 3, .inl R0.2.2.1))] R0.2.2.2 := by
  refine x_enti (cc := cX4_evensOut) (maxL := 4) (rt := (some .boolean)) (lv := [(0, .ref a_this), (1, .int p1), (2, .int p2)]) (by decide) rfl (Nat.le_of_ble_eq_true rfl) rfl ?_
  intro p e s m args below meth c A Q hQ hC
  have J_37 : ∀ (n : Nat) (k37_masses_sums : Nat → Int64) (k37_masses_weights : Nat → Int64) (k37_row : Nat → Int32) (k37_l1 : Int32) (k37_l2 : Int32) (k37_l3 : Int32), f_X4_evensOut_L2_c37 v_crowdSize v_crowd v_lines_size v_lines_lesser v_lines_other n k37_masses_sums k37_masses_weights k37_row k37_l1 k37_l2 k37_l3 = some R0 → XW p l e ({ frames := 8, cells := 0, slots := 0, locals := 257 } : Room) s m args below meth c D A 4 0 0 Q [(a_this, .inr (4, [.ref a_masses, .ref a_crowd, .ref a_row, .int v_crowdSize, .ref a_lines])), (a_crowd, .inl (cI, 10, .inl v_crowd)), (a_lines, .inr (2, [.ref a_lines_lesser, .ref a_lines_other, .int v_lines_size])), (a_lines_lesser, .inl (cI, 45, .inl v_lines_lesser)), (a_lines_other, .inl (cI, 45, .inl v_lines_other)), (a_masses, .inr (3, [.ref a_masses_sums, .ref a_masses_weights])), (a_masses_sums, .inl (cJ, 10, .inr (.inl k37_masses_sums))), (a_masses_weights, .inl (cJ, 10, .inr (.inl k37_masses_weights))), (a_row, .inl (cI, 3, .inl k37_row))] [] [(0, .ref a_this), (1, .int k37_l1), (2, .int k37_l2), (3, .int k37_l3)] 37 [] := by
    intro n
    induction n with
    | zero => intro k37_masses_sums k37_masses_weights k37_row k37_l1 k37_l2 k37_l3 hf; exact nomatch (show (none : Option ((Nat → Int64) × (Nat → Int64) × (Nat → Int32) × Int32)) = some R0 from hf)
    | succ n_37 ih_37 =>
      intro k37_masses_sums k37_masses_weights k37_row k37_l1 k37_l2 k37_l3 hf
      unfold f_X4_evensOut_L2_c37 at hf
      refine x_iload_n 38 3 hC dX4_evensOut_37 rfl rfl rfl ?_
      refine x_aload_n 39 0 hC dX4_evensOut_38 rfl rfl rfl ?_
      refine x_get 42 0 4 hC in_X4_evensOut_X4 rfl rfl (by decide) (List.mem_of_getElem? (i := 1) (by decide +kernel)) rfl rfl dX4_evensOut_39 rfl ?_
      refine x_get 45 2 2 hC in_X4_evensOut_X2 rfl rfl (by decide) (List.mem_of_getElem? (i := 2) (by decide +kernel)) rfl rfl dX4_evensOut_42 rfl ?_
      refine x_icmp_ge 90 48 hC dX4_evensOut_45 (by decide) rfl (fun c_1 => ?_) (fun c_1 => ?_)
      · have hf := if_t hf c_1
        refine x_iconst 91 hC (0 : Int32) dX4_evensOut_90 rfl (by decide) ?_
        cases hf
        exact x_zret hC rfl dX4_evensOut_91 hQ rfl rfl
      · have hf := if_f hf c_1
        refine x_aload_n 49 0 hC dX4_evensOut_48 rfl rfl rfl ?_
        refine x_get 52 0 2 hC in_X4_evensOut_X4 rfl rfl (by decide) (List.mem_of_getElem? (i := 3) (by decide +kernel)) rfl rfl dX4_evensOut_49 rfl ?_
        refine x_iload_n 53 1 hC dX4_evensOut_52 rfl rfl rfl ?_
        refine x_iload_n 54 3 hC dX4_evensOut_53 rfl rfl rfl ?_
        obtain ⟨h_2, hf⟩ := ck_e hf
        obtain ⟨g_3, e_g_3, hf⟩ := nmx_e hf
        refine x_iast 55 8 0 [(a_this, .inr (4, [.ref a_masses, .ref a_crowd, .ref a_row, .int v_crowdSize, .ref a_lines])), (a_crowd, .inl (cI, 10, .inl v_crowd)), (a_lines, .inr (2, [.ref a_lines_lesser, .ref a_lines_other, .int v_lines_size])), (a_lines_lesser, .inl (cI, 45, .inl v_lines_lesser)), (a_lines_other, .inl (cI, 45, .inl v_lines_other)), (a_masses, .inr (3, [.ref a_masses_sums, .ref a_masses_weights])), (a_masses_sums, .inl (cJ, 10, .inr (.inl k37_masses_sums))), (a_masses_weights, .inl (cJ, 10, .inr (.inl k37_masses_weights))), (a_row, .inl (cI, 3, .inl g_3))] hC rfl rfl h_2 e_g_3 rfl dX4_evensOut_54 rfl ?_
        refine x_aload_n 56 0 hC dX4_evensOut_55 rfl rfl rfl ?_
        refine x_aload_n 57 0 hC dX4_evensOut_56 rfl rfl rfl ?_
        refine x_get 60 0 4 hC in_X4_evensOut_X4 rfl rfl (by decide) (List.mem_of_getElem? (i := 1) (by decide +kernel)) rfl rfl dX4_evensOut_57 rfl ?_
        refine x_get 63 2 0 hC in_X4_evensOut_X2 rfl rfl (by decide) (List.mem_of_getElem? (i := 4) (by decide +kernel)) rfl rfl dX4_evensOut_60 rfl ?_
        refine x_iload_n 64 3 hC dX4_evensOut_63 rfl rfl rfl ?_
        obtain ⟨h_4, hf⟩ := ck_e hf
        refine x_iald 65 3 0 hC rfl rfl h_4 dX4_evensOut_64 rfl ?_
        refine x_aload_n 66 0 hC dX4_evensOut_65 rfl rfl rfl ?_
        refine x_get 69 0 4 hC in_X4_evensOut_X4 rfl rfl (by decide) (List.mem_of_getElem? (i := 1) (by decide +kernel)) rfl rfl dX4_evensOut_66 rfl ?_
        refine x_get 72 2 1 hC in_X4_evensOut_X2 rfl rfl (by decide) (List.mem_of_getElem? (i := 5) (by decide +kernel)) rfl rfl dX4_evensOut_69 rfl ?_
        refine x_iload_n 73 3 hC dX4_evensOut_72 rfl rfl rfl ?_
        obtain ⟨h_5, hf⟩ := ck_e hf
        refine x_iald 74 4 0 hC rfl rfl h_5 dX4_evensOut_73 rfl ?_
        refine x_iload_n 75 1 hC dX4_evensOut_74 rfl rfl rfl ?_
        refine x_iload_n 76 2 hC dX4_evensOut_75 rfl rfl rfl ?_
        obtain ⟨R_6, h_R_6, hf⟩ := bd_e hf
        refine x_callVi 79 0 4 [0, 1, 2, 3, 4, 5, 6, 7, 8] [(a_this, .inr (4, [.ref a_masses, .ref a_crowd, .ref a_row, .int v_crowdSize, .ref a_lines])), (a_crowd, .inl (cI, 10, .inl v_crowd)), (a_lines, .inr (2, [.ref a_lines_lesser, .ref a_lines_other, .int v_lines_size])), (a_lines_lesser, .inl (cI, 45, .inl v_lines_lesser)), (a_lines_other, .inl (cI, 45, .inl v_lines_other)), (a_masses, .inr (3, [.ref a_masses_sums, .ref a_masses_weights])), (a_masses_sums, .inl (cJ, 10, .inr (.inl R_6.1))), (a_masses_weights, .inl (cJ, 10, .inr (.inl R_6.2.1))), (a_row, .inl (cI, 3, .inl R_6.2.2.1))] hC (As := [.int (v_lines_lesser k37_l3.toNatClampNeg), .int (v_lines_other k37_l3.toNatClampNeg), .int k37_l1, .int k37_l2]) (c_X4_evensOutOver_L2 l D cI cJ cQ a_this a_crowd a_lines a_lines_lesser a_lines_other a_masses a_masses_sums a_masses_weights a_row v_crowdSize v_crowd v_lines_size v_lines_lesser v_lines_other k37_masses_sums k37_masses_weights g_3 (v_lines_lesser k37_l3.toNatClampNeg) (v_lines_other k37_l3.toNatClampNeg) k37_l1 k37_l2 R_6 h_R_6) rfl rfl gX4_evensOut_X4_evensOutOver rfl ⟨rfl, rfl⟩ hd_X4_evensOutOver ⟨Nat.le_of_ble_eq_true rfl, Nat.le_of_ble_eq_true rfl⟩ rfl rfl rfl rfl rfl rfl (Nat.le_of_ble_eq_true rfl) ⟨Nat.le_of_ble_eq_true rfl, Nat.le_of_ble_eq_true rfl⟩ dX4_evensOut_76 rfl ?_
        refine x_if_eq 84 82 hC dX4_evensOut_79 (by decide) rfl (fun c_7 => ?_) (fun c_7 => ?_)
        · have hf := if_t hf c_7
          obtain ⟨x_8, e_x_8, hf⟩ := nmx_e hf
          refine x_iinc 87 3 [(3, .int x_8), (0, .ref a_this), (1, .int k37_l1), (2, .int k37_l2)] hC dX4_evensOut_84 rfl rfl e_x_8 (by decide) (by decide) rfl ?_
          refine x_goto 37 hC dX4_evensOut_87 (by decide) ?_
          refine x_lv [(0, .ref a_this), (1, .int k37_l1), (2, .int k37_l2), (3, .int x_8)] [1, 2, 3, 0] rfl ?_
          exact ih_37 R_6.1 R_6.2.1 R_6.2.2.1 k37_l1 k37_l2 x_8 hf
        · have hf := if_f hf c_7
          refine x_iconst 83 hC (1 : Int32) dX4_evensOut_82 rfl (by decide) ?_
          cases hf
          exact x_zret hC rfl dX4_evensOut_83 hQ rfl rfl
  have J_10 : ∀ (k10_masses_sums : Nat → Int64) (k10_masses_weights : Nat → Int64) (k10_row : Nat → Int32), f_X4_evensOut_L2_c10 v_crowdSize v_crowd v_lines_size v_lines_lesser v_lines_other k10_masses_sums k10_masses_weights k10_row = some R0 → XW p l e ({ frames := 8, cells := 0, slots := 0, locals := 257 } : Room) s m args below meth c D A 4 0 0 Q [(a_this, .inr (4, [.ref a_masses, .ref a_crowd, .ref a_row, .int v_crowdSize, .ref a_lines])), (a_crowd, .inl (cI, 10, .inl v_crowd)), (a_lines, .inr (2, [.ref a_lines_lesser, .ref a_lines_other, .int v_lines_size])), (a_lines_lesser, .inl (cI, 45, .inl v_lines_lesser)), (a_lines_other, .inl (cI, 45, .inl v_lines_other)), (a_masses, .inr (3, [.ref a_masses_sums, .ref a_masses_weights])), (a_masses_sums, .inl (cJ, 10, .inr (.inl k10_masses_sums))), (a_masses_weights, .inl (cJ, 10, .inr (.inl k10_masses_weights))), (a_row, .inl (cI, 3, .inl k10_row))] [] [(0, .ref a_this)] 10 [] := by
    intro k10_masses_sums k10_masses_weights k10_row hf
    unfold f_X4_evensOut_L2_c10 at hf
    refine x_aload_n 11 0 hC dX4_evensOut_10 rfl rfl rfl ?_
    refine x_iconst 12 hC (0 : Int32) dX4_evensOut_11 rfl (by decide) ?_
    obtain ⟨R_9, h_R_9, hf⟩ := bd_e hf
    refine x_callVi 15 0 1 [0, 1, 5, 6, 7] [(a_this, .inr (4, [.ref a_masses, .ref a_crowd, .ref a_row, .int v_crowdSize, .ref a_lines])), (a_crowd, .inl (cI, 10, .inl v_crowd)), (a_lines, .inr (2, [.ref a_lines_lesser, .ref a_lines_other, .int v_lines_size])), (a_lines_lesser, .inl (cI, 45, .inl v_lines_lesser)), (a_lines_other, .inl (cI, 45, .inl v_lines_other)), (a_masses, .inr (3, [.ref a_masses_sums, .ref a_masses_weights])), (a_masses_sums, .inl (cJ, 10, .inr (.inl k10_masses_sums))), (a_masses_weights, .inl (cJ, 10, .inr (.inl k10_masses_weights))), (a_row, .inl (cI, 3, .inl k10_row))] hC (As := [.int (0 : Int32)]) (c_X4_isNear l D cI cJ cQ a_this a_crowd a_masses a_masses_sums a_masses_weights (.ref a_row) (.ref a_lines) v_crowdSize v_crowd k10_masses_sums k10_masses_weights (0 : Int32) R_9 h_R_9) rfl rfl gX4_evensOut_X4_isNear rfl ⟨rfl, rfl⟩ hd_X4_isNear ⟨Nat.le_of_ble_eq_true rfl, Nat.le_of_ble_eq_true rfl⟩ rfl rfl rfl rfl rfl rfl (Nat.le_of_ble_eq_true rfl) ⟨Nat.le_of_ble_eq_true rfl, Nat.le_of_ble_eq_true rfl⟩ dX4_evensOut_12 rfl ?_
    obtain ⟨h_10, hf⟩ := ckp_e hf
    cases hf
    exact x_zret hC h_10 dX4_evensOut_15 hQ rfl rfl
  unfold f_X4_evensOut_L2 at hf
  refine x_iload_n 1 1 hC dX4_evensOut_0 rfl rfl rfl ?_
  refine x_iload_n 2 2 hC dX4_evensOut_1 rfl rfl rfl ?_
  refine x_icmp_ge 10 5 hC dX4_evensOut_2 (by decide) rfl (fun c_11 => ?_) (fun c_11 => ?_)
  · have hf := if_t hf c_11
    refine x_lv [(0, .ref a_this)] [0] rfl ?_
    exact J_10 v_masses_sums v_masses_weights v_row hf
  · have hf := if_f hf c_11
    refine x_iload_n 6 1 hC dX4_evensOut_5 rfl rfl rfl ?_
    refine x_iconst 7 hC (3 : Int32) dX4_evensOut_6 rfl (by decide) ?_
    refine x_icmp_lt 16 10 hC dX4_evensOut_7 (by decide) rfl (fun c_12 => ?_) (fun c_12 => ?_)
    · have hf := if_t hf c_12
      refine x_aload_n 17 0 hC dX4_evensOut_16 rfl rfl rfl ?_
      refine x_get 20 0 4 hC in_X4_evensOut_X4 rfl rfl (by decide) (List.mem_of_getElem? (i := 1) (by decide +kernel)) rfl rfl dX4_evensOut_17 rfl ?_
      refine x_ifnull 23 hC dX4_evensOut_20 rfl ?_
      refine x_aload_n 24 0 hC dX4_evensOut_23 rfl rfl rfl ?_
      refine x_iload_n 25 2 hC dX4_evensOut_24 rfl rfl rfl ?_
      refine x_iload_n 26 1 hC dX4_evensOut_25 rfl rfl rfl ?_
      refine x_isub 27 hC dX4_evensOut_26 rfl ?_
      obtain ⟨R_13, h_R_13, hf⟩ := bd_e hf
      refine x_callVi 30 0 1 [0, 1, 5, 6, 7] [(a_this, .inr (4, [.ref a_masses, .ref a_crowd, .ref a_row, .int v_crowdSize, .ref a_lines])), (a_crowd, .inl (cI, 10, .inl v_crowd)), (a_lines, .inr (2, [.ref a_lines_lesser, .ref a_lines_other, .int v_lines_size])), (a_lines_lesser, .inl (cI, 45, .inl v_lines_lesser)), (a_lines_other, .inl (cI, 45, .inl v_lines_other)), (a_masses, .inr (3, [.ref a_masses_sums, .ref a_masses_weights])), (a_masses_sums, .inl (cJ, 10, .inr (.inl v_masses_sums))), (a_masses_weights, .inl (cJ, 10, .inr (.inl v_masses_weights))), (a_row, .inl (cI, 3, .inl v_row))] hC (As := [.int (p2 - p1)]) (c_X4_isNear l D cI cJ cQ a_this a_crowd a_masses a_masses_sums a_masses_weights (.ref a_row) (.ref a_lines) v_crowdSize v_crowd v_masses_sums v_masses_weights (p2 - p1) R_13 h_R_13) rfl rfl gX4_evensOut_X4_isNear rfl ⟨rfl, rfl⟩ hd_X4_isNear ⟨Nat.le_of_ble_eq_true rfl, Nat.le_of_ble_eq_true rfl⟩ rfl rfl rfl rfl rfl rfl (Nat.le_of_ble_eq_true rfl) ⟨Nat.le_of_ble_eq_true rfl, Nat.le_of_ble_eq_true rfl⟩ dX4_evensOut_27 rfl ?_
      refine x_if_ne 35 33 hC dX4_evensOut_30 (by decide) rfl (fun c_14 => ?_) (fun c_14 => ?_)
      · have hf := if_t hf c_14
        refine x_iconst 36 hC (0 : Int32) dX4_evensOut_35 rfl (by decide) ?_
        refine x_istore_n 37 [(3, .int (0 : Int32)), (0, .ref a_this), (1, .int p1), (2, .int p2)] hC dX4_evensOut_36 rfl rfl rfl (by decide) rfl ?_
        refine x_lv [(0, .ref a_this), (1, .int p1), (2, .int p2), (3, .int (0 : Int32))] [1, 2, 3, 0] rfl ?_
        exact J_37 fu v_masses_sums v_masses_weights v_row p1 p2 (0 : Int32) hf
      · have hf := if_f hf c_14
        refine x_iconst 34 hC (0 : Int32) dX4_evensOut_33 rfl (by decide) ?_
        cases hf
        exact x_zret hC rfl dX4_evensOut_34 hQ rfl rfl
    · have hf := if_f hf c_12
      refine x_lv [(0, .ref a_this)] [0] rfl ?_
      exact J_10 v_masses_sums v_masses_weights v_row hf

noncomputable def f_X4_evensOutOver_L3_c112 (v_crowdSize : Int32) (v_crowd : Nat → Int32) (v_lines_size : Int32) (v_lines_lesser : Nat → Int32) (v_lines_other : Nat → Int32) (k112_masses_sums : Nat → Int64) (k112_masses_weights : Nat → Int64) (k112_row : Nat → Int32) (k112_l1 : Int32) (k112_l2 : Int32) (k112_l5 : Int64) (k112_l7 : Int64) (k112_l9 : Int64) (k112_l11 : Int64) (k112_s0 : Int32) : Option ((Nat → Int64) × (Nat → Int64) × (Nat → Int32) × Int32) := bd (f_X3_put 10 k112_masses_sums k112_masses_weights k112_l1 k112_l5 k112_l7) fun R_1 => bd (f_X3_put 10 R_1.1 R_1.2 k112_l2 k112_l9 k112_l11) fun R_2 => ckp (narrow .boolean (.int k112_s0) = .int k112_s0) (Classical.propDecidable _) <| some (R_2.1, R_2.2, k112_row, k112_s0)
noncomputable def f_X4_evensOutOver_L3_c111 (v_crowdSize : Int32) (v_crowd : Nat → Int32) (v_lines_size : Int32) (v_lines_lesser : Nat → Int32) (v_lines_other : Nat → Int32) (k111_masses_sums : Nat → Int64) (k111_masses_weights : Nat → Int64) (k111_row : Nat → Int32) (k111_l1 : Int32) (k111_l2 : Int32) (k111_l5 : Int64) (k111_l7 : Int64) (k111_l9 : Int64) (k111_l11 : Int64) : Option ((Nat → Int64) × (Nat → Int64) × (Nat → Int32) × Int32) := f_X4_evensOutOver_L3_c112 v_crowdSize v_crowd v_lines_size v_lines_lesser v_lines_other k111_masses_sums k111_masses_weights k111_row k111_l1 k111_l2 k111_l5 k111_l7 k111_l9 k111_l11 (0 : Int32)
noncomputable def f_X4_evensOutOver_L3_c88 (v_crowdSize : Int32) (v_crowd : Nat → Int32) (v_lines_size : Int32) (v_lines_lesser : Nat → Int32) (v_lines_other : Nat → Int32) (k88_masses_sums : Nat → Int64) (k88_masses_weights : Nat → Int64) (k88_row : Nat → Int32) (k88_l1 : Int32) (k88_l2 : Int32) (k88_l3 : Int32) (k88_l4 : Int32) (k88_l5 : Int64) (k88_l7 : Int64) (k88_l9 : Int64) (k88_l11 : Int64) (k88_s0 : Int32) : Option ((Nat → Int64) × (Nat → Int64) × (Nat → Int32) × Int32) := if k88_s0 = 0 then (f_X4_evensOutOver_L3_c111 v_crowdSize v_crowd v_lines_size v_lines_lesser v_lines_other k88_masses_sums k88_masses_weights k88_row k88_l1 k88_l2 k88_l5 k88_l7 k88_l9 k88_l11) else (bd (f_X4_evensOut_L2 v_crowdSize v_crowd v_lines_size v_lines_lesser v_lines_other k88_masses_sums k88_masses_weights k88_row (k88_l3 + (1 : Int32)) k88_l4) fun R_5 => if R_5.2.2.2 = 0 then (f_X4_evensOutOver_L3_c111 v_crowdSize v_crowd v_lines_size v_lines_lesser v_lines_other R_5.1 R_5.2.1 R_5.2.2.1 k88_l1 k88_l2 k88_l5 k88_l7 k88_l9 k88_l11) else (f_X4_evensOutOver_L3_c112 v_crowdSize v_crowd v_lines_size v_lines_lesser v_lines_other R_5.1 R_5.2.1 R_5.2.2.1 k88_l1 k88_l2 k88_l5 k88_l7 k88_l9 k88_l11 (1 : Int32)))
noncomputable def f_X4_evensOutOver_L3_c83 (v_crowdSize : Int32) (v_crowd : Nat → Int32) (v_lines_size : Int32) (v_lines_lesser : Nat → Int32) (v_lines_other : Nat → Int32) (k83_masses_sums : Nat → Int64) (k83_masses_weights : Nat → Int64) (k83_row : Nat → Int32) (k83_l1 : Int32) (k83_l2 : Int32) (k83_l3 : Int32) (k83_l4 : Int32) (k83_l5 : Int64) (k83_l7 : Int64) (k83_l9 : Int64) (k83_l11 : Int64) : Option ((Nat → Int64) × (Nat → Int64) × (Nat → Int32) × Int32) := f_X4_evensOutOver_L3_c88 v_crowdSize v_crowd v_lines_size v_lines_lesser v_lines_other k83_masses_sums k83_masses_weights k83_row k83_l1 k83_l2 k83_l3 k83_l4 k83_l5 k83_l7 k83_l9 k83_l11 (1 : Int32)
noncomputable def f_X4_evensOutOver_L3 (v_crowdSize : Int32) (v_crowd : Nat → Int32) (v_lines_size : Int32) (v_lines_lesser : Nat → Int32) (v_lines_other : Nat → Int32) (v_masses_sums : Nat → Int64) (v_masses_weights : Nat → Int64) (v_row : Nat → Int32) (p1 : Int32) (p2 : Int32) (p3 : Int32) (p4 : Int32) : Option ((Nat → Int64) × (Nat → Int64) × (Nat → Int32) × Int32) := ck p1 10 <| nm (v_masses_sums p1.toNatClampNeg) fun x_8 => ck p1 10 <| nm (v_masses_weights p1.toNatClampNeg) fun x_10 => ck p2 10 <| nm (v_masses_sums p2.toNatClampNeg) fun x_12 => ck p2 10 <| nm (v_masses_weights p2.toNatClampNeg) fun x_14 => bd (f_X3_even 10 v_masses_sums v_masses_weights p1 p2) fun R_15 => ck p1 10 <| if ¬ (R_15.1 p1.toNatClampNeg) = x_8 then (f_X4_evensOutOver_L3_c83 v_crowdSize v_crowd v_lines_size v_lines_lesser v_lines_other R_15.1 R_15.2 v_row p1 p2 p3 p4 x_8 x_10 x_12 x_14) else (ck p1 10 <| if (R_15.2 p1.toNatClampNeg) = x_10 then (f_X4_evensOutOver_L3_c88 v_crowdSize v_crowd v_lines_size v_lines_lesser v_lines_other R_15.1 R_15.2 v_row p1 p2 p3 p4 x_8 x_10 x_12 x_14 (0 : Int32)) else (f_X4_evensOutOver_L3_c83 v_crowdSize v_crowd v_lines_size v_lines_lesser v_lines_other R_15.1 R_15.2 v_row p1 p2 p3 p4 x_8 x_10 x_12 x_14))
set_option maxHeartbeats 4000000 in
set_option maxRecDepth 100000 in
theorem c_X4_evensOutOver_L3 (l : Launch) (D : va_G) (cI cJ cQ : ClassId) (a_this : Nat) (a_crowd : Nat) (a_lines : Nat) (a_lines_lesser : Nat) (a_lines_other : Nat) (a_masses : Nat) (a_masses_sums : Nat) (a_masses_weights : Nat) (a_row : Nat) (v_crowdSize : Int32) (v_crowd : Nat → Int32) (v_lines_size : Int32) (v_lines_lesser : Nat → Int32) (v_lines_other : Nat → Int32) (v_masses_sums : Nat → Int64) (v_masses_weights : Nat → Int64) (v_row : Nat → Int32) (p1 : Int32) (p2 : Int32) (p3 : Int32) (p4 : Int32) (R0 : (Nat → Int64) × (Nat → Int64) × (Nat → Int32) × Int32) (hf : f_X4_evensOutOver_L3 v_crowdSize v_crowd v_lines_size v_lines_lesser v_lines_other v_masses_sums v_masses_weights v_row p1 p2 p3 p4 = some R0) : Ci l yX4_evensOutOver wsX4_evensOutOver ({ frames := 9, cells := 0, slots := 0, locals := 282 } : Room) D [(cI, .int), (cJ, .long), (cQ, .object "WhisperCrowd$State")] [.ref a_this, .int p1, .int p2, .int p3, .int p4] [(a_this, .inr (4, [.ref a_masses, .ref a_crowd, .ref a_row, .int v_crowdSize, .ref a_lines])), (a_crowd, .inl (cI, 10, .inl v_crowd)), (a_lines, .inr (2, [.ref a_lines_lesser, .ref a_lines_other, .int v_lines_size])), (a_lines_lesser, .inl (cI, 45, .inl v_lines_lesser)), (a_lines_other, .inl (cI, 45, .inl v_lines_other)), (a_masses, .inr (3, [.ref a_masses_sums, .ref a_masses_weights])), (a_masses_sums, .inl (cJ, 10, .inr (.inl v_masses_sums))), (a_masses_weights, .inl (cJ, 10, .inr (.inl v_masses_weights))), (a_row, .inl (cI, 3, .inl v_row))] [(a_this, .inr (4, [.ref a_masses, .ref a_crowd, .ref a_row, .int v_crowdSize, .ref a_lines])), (a_crowd, .inl (cI, 10, .inl v_crowd)), (a_lines, .inr (2, [.ref a_lines_lesser, .ref a_lines_other, .int v_lines_size])), (a_lines_lesser, .inl (cI, 45, .inl v_lines_lesser)), (a_lines_other, .inl (cI, 45, .inl v_lines_other)), (a_masses, .inr (3, [.ref a_masses_sums, .ref a_masses_weights])), (a_masses_sums, .inl (cJ, 10, .inr (.inl R0.1))), (a_masses_weights, .inl (cJ, 10, .inr (.inl R0.2.1))), (a_row, .inl (cI, 3, .inl R0.2.2.1))] R0.2.2.2 := by
  refine x_enti (cc := cX4_evensOutOver) (maxL := 15) (rt := (some .boolean)) (lv := [(0, .ref a_this), (1, .int p1), (2, .int p2), (3, .int p3), (4, .int p4)]) (by decide) rfl (Nat.le_of_ble_eq_true rfl) rfl ?_
  intro p e s m args below meth c A Q hQ hC
  have J_112 : ∀ (k112_masses_sums : Nat → Int64) (k112_masses_weights : Nat → Int64) (k112_row : Nat → Int32) (k112_l1 : Int32) (k112_l2 : Int32) (k112_l5 : Int64) (k112_l7 : Int64) (k112_l9 : Int64) (k112_l11 : Int64) (k112_s0 : Int32), f_X4_evensOutOver_L3_c112 v_crowdSize v_crowd v_lines_size v_lines_lesser v_lines_other k112_masses_sums k112_masses_weights k112_row k112_l1 k112_l2 k112_l5 k112_l7 k112_l9 k112_l11 k112_s0 = some R0 → XW p l e ({ frames := 9, cells := 0, slots := 0, locals := 282 } : Room) s m args below meth c D A 15 0 0 Q [(a_this, .inr (4, [.ref a_masses, .ref a_crowd, .ref a_row, .int v_crowdSize, .ref a_lines])), (a_crowd, .inl (cI, 10, .inl v_crowd)), (a_lines, .inr (2, [.ref a_lines_lesser, .ref a_lines_other, .int v_lines_size])), (a_lines_lesser, .inl (cI, 45, .inl v_lines_lesser)), (a_lines_other, .inl (cI, 45, .inl v_lines_other)), (a_masses, .inr (3, [.ref a_masses_sums, .ref a_masses_weights])), (a_masses_sums, .inl (cJ, 10, .inr (.inl k112_masses_sums))), (a_masses_weights, .inl (cJ, 10, .inr (.inl k112_masses_weights))), (a_row, .inl (cI, 3, .inl k112_row))] [] [(0, .ref a_this), (1, .int k112_l1), (2, .int k112_l2), (5, .long k112_l5), (7, .long k112_l7), (9, .long k112_l9), (11, .long k112_l11)] 112 [.int k112_s0] := by
    intro k112_masses_sums k112_masses_weights k112_row k112_l1 k112_l2 k112_l5 k112_l7 k112_l9 k112_l11 k112_s0 hf
    unfold f_X4_evensOutOver_L3_c112 at hf
    refine x_istore 114 [(14, .int k112_s0), (0, .ref a_this), (1, .int k112_l1), (2, .int k112_l2), (5, .long k112_l5), (7, .long k112_l7), (9, .long k112_l9), (11, .long k112_l11)] hC dX4_evensOutOver_112 rfl rfl (by decide) rfl ?_
    refine x_aload_n 115 1 hC dX4_evensOutOver_114 rfl rfl rfl ?_
    refine x_get 118 0 0 hC in_X4_evensOutOver_X4 rfl rfl (by decide) (List.mem_of_getElem? (i := 1) (by decide +kernel)) rfl rfl dX4_evensOutOver_115 rfl ?_
    refine x_iload_n 119 2 hC dX4_evensOutOver_118 rfl rfl rfl ?_
    refine x_lload 121 4 hC dX4_evensOutOver_119 rfl rfl ?_
    refine x_lload 123 5 hC dX4_evensOutOver_121 rfl rfl ?_
    obtain ⟨R_1, h_R_1, hf⟩ := bd_e hf
    refine x_callVv 126 0 3 [5, 6, 7] [(a_this, .inr (4, [.ref a_masses, .ref a_crowd, .ref a_row, .int v_crowdSize, .ref a_lines])), (a_crowd, .inl (cI, 10, .inl v_crowd)), (a_lines, .inr (2, [.ref a_lines_lesser, .ref a_lines_other, .int v_lines_size])), (a_lines_lesser, .inl (cI, 45, .inl v_lines_lesser)), (a_lines_other, .inl (cI, 45, .inl v_lines_other)), (a_masses, .inr (3, [.ref a_masses_sums, .ref a_masses_weights])), (a_masses_sums, .inl (cJ, 10, .inr (.inl R_1.1))), (a_masses_weights, .inl (cJ, 10, .inr (.inl R_1.2))), (a_row, .inl (cI, 3, .inl k112_row))] hC (As := [.int k112_l1, .long k112_l5, .long k112_l7]) (c_X3_put l D cI cJ cQ a_masses a_masses_sums a_masses_weights 10 k112_masses_sums k112_masses_weights k112_l1 k112_l5 k112_l7 R_1 h_R_1) rfl rfl gX4_evensOutOver_X3_put rfl ⟨rfl, rfl⟩ hd_X3_put ⟨Nat.le_of_ble_eq_true rfl, Nat.le_of_ble_eq_true rfl⟩ rfl rfl rfl rfl rfl rfl (Nat.le_of_ble_eq_true rfl) ⟨Nat.le_of_ble_eq_true rfl, Nat.le_of_ble_eq_true rfl⟩ dX4_evensOutOver_123 rfl ?_
    refine x_aload_n 127 1 hC dX4_evensOutOver_126 rfl rfl rfl ?_
    refine x_get 130 0 0 hC in_X4_evensOutOver_X4 rfl rfl (by decide) (List.mem_of_getElem? (i := 1) (by decide +kernel)) rfl rfl dX4_evensOutOver_127 rfl ?_
    refine x_iload_n 131 3 hC dX4_evensOutOver_130 rfl rfl rfl ?_
    refine x_lload 133 6 hC dX4_evensOutOver_131 rfl rfl ?_
    refine x_lload 135 7 hC dX4_evensOutOver_133 rfl rfl ?_
    obtain ⟨R_2, h_R_2, hf⟩ := bd_e hf
    refine x_callVv 138 0 3 [5, 6, 7] [(a_this, .inr (4, [.ref a_masses, .ref a_crowd, .ref a_row, .int v_crowdSize, .ref a_lines])), (a_crowd, .inl (cI, 10, .inl v_crowd)), (a_lines, .inr (2, [.ref a_lines_lesser, .ref a_lines_other, .int v_lines_size])), (a_lines_lesser, .inl (cI, 45, .inl v_lines_lesser)), (a_lines_other, .inl (cI, 45, .inl v_lines_other)), (a_masses, .inr (3, [.ref a_masses_sums, .ref a_masses_weights])), (a_masses_sums, .inl (cJ, 10, .inr (.inl R_2.1))), (a_masses_weights, .inl (cJ, 10, .inr (.inl R_2.2))), (a_row, .inl (cI, 3, .inl k112_row))] hC (As := [.int k112_l2, .long k112_l9, .long k112_l11]) (c_X3_put l D cI cJ cQ a_masses a_masses_sums a_masses_weights 10 R_1.1 R_1.2 k112_l2 k112_l9 k112_l11 R_2 h_R_2) rfl rfl gX4_evensOutOver_X3_put rfl ⟨rfl, rfl⟩ hd_X3_put ⟨Nat.le_of_ble_eq_true rfl, Nat.le_of_ble_eq_true rfl⟩ rfl rfl rfl rfl rfl rfl (Nat.le_of_ble_eq_true rfl) ⟨Nat.le_of_ble_eq_true rfl, Nat.le_of_ble_eq_true rfl⟩ dX4_evensOutOver_135 rfl ?_
    refine x_iload 140 0 hC dX4_evensOutOver_138 rfl rfl ?_
    obtain ⟨h_3, hf⟩ := ckp_e hf
    cases hf
    exact x_zret hC h_3 dX4_evensOutOver_140 hQ rfl rfl
  have J_111 : ∀ (k111_masses_sums : Nat → Int64) (k111_masses_weights : Nat → Int64) (k111_row : Nat → Int32) (k111_l1 : Int32) (k111_l2 : Int32) (k111_l5 : Int64) (k111_l7 : Int64) (k111_l9 : Int64) (k111_l11 : Int64), f_X4_evensOutOver_L3_c111 v_crowdSize v_crowd v_lines_size v_lines_lesser v_lines_other k111_masses_sums k111_masses_weights k111_row k111_l1 k111_l2 k111_l5 k111_l7 k111_l9 k111_l11 = some R0 → XW p l e ({ frames := 9, cells := 0, slots := 0, locals := 282 } : Room) s m args below meth c D A 15 0 0 Q [(a_this, .inr (4, [.ref a_masses, .ref a_crowd, .ref a_row, .int v_crowdSize, .ref a_lines])), (a_crowd, .inl (cI, 10, .inl v_crowd)), (a_lines, .inr (2, [.ref a_lines_lesser, .ref a_lines_other, .int v_lines_size])), (a_lines_lesser, .inl (cI, 45, .inl v_lines_lesser)), (a_lines_other, .inl (cI, 45, .inl v_lines_other)), (a_masses, .inr (3, [.ref a_masses_sums, .ref a_masses_weights])), (a_masses_sums, .inl (cJ, 10, .inr (.inl k111_masses_sums))), (a_masses_weights, .inl (cJ, 10, .inr (.inl k111_masses_weights))), (a_row, .inl (cI, 3, .inl k111_row))] [] [(0, .ref a_this), (1, .int k111_l1), (2, .int k111_l2), (5, .long k111_l5), (7, .long k111_l7), (9, .long k111_l9), (11, .long k111_l11)] 111 [] := by
    intro k111_masses_sums k111_masses_weights k111_row k111_l1 k111_l2 k111_l5 k111_l7 k111_l9 k111_l11 hf
    unfold f_X4_evensOutOver_L3_c111 at hf
    refine x_iconst 112 hC (0 : Int32) dX4_evensOutOver_111 rfl (by decide) ?_
    refine x_lv [(0, .ref a_this), (1, .int k111_l1), (2, .int k111_l2), (5, .long k111_l5), (7, .long k111_l7), (9, .long k111_l9), (11, .long k111_l11)] [0, 1, 2, 3, 4, 5, 6] rfl ?_
    exact J_112 k111_masses_sums k111_masses_weights k111_row k111_l1 k111_l2 k111_l5 k111_l7 k111_l9 k111_l11 (0 : Int32) hf
  have J_88 : ∀ (k88_masses_sums : Nat → Int64) (k88_masses_weights : Nat → Int64) (k88_row : Nat → Int32) (k88_l1 : Int32) (k88_l2 : Int32) (k88_l3 : Int32) (k88_l4 : Int32) (k88_l5 : Int64) (k88_l7 : Int64) (k88_l9 : Int64) (k88_l11 : Int64) (k88_s0 : Int32), f_X4_evensOutOver_L3_c88 v_crowdSize v_crowd v_lines_size v_lines_lesser v_lines_other k88_masses_sums k88_masses_weights k88_row k88_l1 k88_l2 k88_l3 k88_l4 k88_l5 k88_l7 k88_l9 k88_l11 k88_s0 = some R0 → XW p l e ({ frames := 9, cells := 0, slots := 0, locals := 282 } : Room) s m args below meth c D A 15 0 0 Q [(a_this, .inr (4, [.ref a_masses, .ref a_crowd, .ref a_row, .int v_crowdSize, .ref a_lines])), (a_crowd, .inl (cI, 10, .inl v_crowd)), (a_lines, .inr (2, [.ref a_lines_lesser, .ref a_lines_other, .int v_lines_size])), (a_lines_lesser, .inl (cI, 45, .inl v_lines_lesser)), (a_lines_other, .inl (cI, 45, .inl v_lines_other)), (a_masses, .inr (3, [.ref a_masses_sums, .ref a_masses_weights])), (a_masses_sums, .inl (cJ, 10, .inr (.inl k88_masses_sums))), (a_masses_weights, .inl (cJ, 10, .inr (.inl k88_masses_weights))), (a_row, .inl (cI, 3, .inl k88_row))] [] [(0, .ref a_this), (1, .int k88_l1), (2, .int k88_l2), (3, .int k88_l3), (4, .int k88_l4), (5, .long k88_l5), (7, .long k88_l7), (9, .long k88_l9), (11, .long k88_l11)] 88 [.int k88_s0] := by
    intro k88_masses_sums k88_masses_weights k88_row k88_l1 k88_l2 k88_l3 k88_l4 k88_l5 k88_l7 k88_l9 k88_l11 k88_s0 hf
    unfold f_X4_evensOutOver_L3_c88 at hf
    refine x_istore 90 [(13, .int k88_s0), (0, .ref a_this), (1, .int k88_l1), (2, .int k88_l2), (3, .int k88_l3), (4, .int k88_l4), (5, .long k88_l5), (7, .long k88_l7), (9, .long k88_l9), (11, .long k88_l11)] hC dX4_evensOutOver_88 rfl rfl (by decide) rfl ?_
    refine x_iload 92 0 hC dX4_evensOutOver_90 rfl rfl ?_
    refine x_if_eq 111 95 hC dX4_evensOutOver_92 (by decide) rfl (fun c_4 => ?_) (fun c_4 => ?_)
    · have hf := if_t hf c_4
      refine x_lv [(0, .ref a_this), (1, .int k88_l1), (2, .int k88_l2), (5, .long k88_l5), (7, .long k88_l7), (9, .long k88_l9), (11, .long k88_l11)] [1, 2, 3, 6, 7, 8, 9] rfl ?_
      exact J_111 k88_masses_sums k88_masses_weights k88_row k88_l1 k88_l2 k88_l5 k88_l7 k88_l9 k88_l11 hf
    · have hf := if_f hf c_4
      refine x_aload_n 96 1 hC dX4_evensOutOver_95 rfl rfl rfl ?_
      refine x_iload_n 97 4 hC dX4_evensOutOver_96 rfl rfl rfl ?_
      refine x_iconst 98 hC (1 : Int32) dX4_evensOutOver_97 rfl (by decide) ?_
      refine x_iadd 99 hC dX4_evensOutOver_98 rfl ?_
      refine x_iload 101 5 hC dX4_evensOutOver_99 rfl rfl ?_
      obtain ⟨R_5, h_R_5, hf⟩ := bd_e hf
      refine x_callVi 104 0 2 [0, 1, 2, 3, 4, 5, 6, 7, 8] [(a_this, .inr (4, [.ref a_masses, .ref a_crowd, .ref a_row, .int v_crowdSize, .ref a_lines])), (a_crowd, .inl (cI, 10, .inl v_crowd)), (a_lines, .inr (2, [.ref a_lines_lesser, .ref a_lines_other, .int v_lines_size])), (a_lines_lesser, .inl (cI, 45, .inl v_lines_lesser)), (a_lines_other, .inl (cI, 45, .inl v_lines_other)), (a_masses, .inr (3, [.ref a_masses_sums, .ref a_masses_weights])), (a_masses_sums, .inl (cJ, 10, .inr (.inl R_5.1))), (a_masses_weights, .inl (cJ, 10, .inr (.inl R_5.2.1))), (a_row, .inl (cI, 3, .inl R_5.2.2.1))] hC (As := [.int (k88_l3 + (1 : Int32)), .int k88_l4]) (c_X4_evensOut_L2 l D cI cJ cQ a_this a_crowd a_lines a_lines_lesser a_lines_other a_masses a_masses_sums a_masses_weights a_row v_crowdSize v_crowd v_lines_size v_lines_lesser v_lines_other k88_masses_sums k88_masses_weights k88_row (k88_l3 + (1 : Int32)) k88_l4 R_5 h_R_5) rfl rfl gX4_evensOutOver_X4_evensOut rfl ⟨rfl, rfl⟩ hd_X4_evensOut ⟨Nat.le_of_ble_eq_true rfl, Nat.le_of_ble_eq_true rfl⟩ rfl rfl rfl rfl rfl rfl (Nat.le_of_ble_eq_true rfl) ⟨Nat.le_of_ble_eq_true rfl, Nat.le_of_ble_eq_true rfl⟩ dX4_evensOutOver_101 rfl ?_
      refine x_if_eq 111 107 hC dX4_evensOutOver_104 (by decide) rfl (fun c_6 => ?_) (fun c_6 => ?_)
      · have hf := if_t hf c_6
        refine x_lv [(0, .ref a_this), (1, .int k88_l1), (2, .int k88_l2), (5, .long k88_l5), (7, .long k88_l7), (9, .long k88_l9), (11, .long k88_l11)] [1, 2, 3, 6, 7, 8, 9] rfl ?_
        exact J_111 R_5.1 R_5.2.1 R_5.2.2.1 k88_l1 k88_l2 k88_l5 k88_l7 k88_l9 k88_l11 hf
      · have hf := if_f hf c_6
        refine x_iconst 108 hC (1 : Int32) dX4_evensOutOver_107 rfl (by decide) ?_
        refine x_goto 112 hC dX4_evensOutOver_108 (by decide) ?_
        refine x_lv [(0, .ref a_this), (1, .int k88_l1), (2, .int k88_l2), (5, .long k88_l5), (7, .long k88_l7), (9, .long k88_l9), (11, .long k88_l11)] [1, 2, 3, 6, 7, 8, 9] rfl ?_
        exact J_112 R_5.1 R_5.2.1 R_5.2.2.1 k88_l1 k88_l2 k88_l5 k88_l7 k88_l9 k88_l11 (1 : Int32) hf
  have J_83 : ∀ (k83_masses_sums : Nat → Int64) (k83_masses_weights : Nat → Int64) (k83_row : Nat → Int32) (k83_l1 : Int32) (k83_l2 : Int32) (k83_l3 : Int32) (k83_l4 : Int32) (k83_l5 : Int64) (k83_l7 : Int64) (k83_l9 : Int64) (k83_l11 : Int64), f_X4_evensOutOver_L3_c83 v_crowdSize v_crowd v_lines_size v_lines_lesser v_lines_other k83_masses_sums k83_masses_weights k83_row k83_l1 k83_l2 k83_l3 k83_l4 k83_l5 k83_l7 k83_l9 k83_l11 = some R0 → XW p l e ({ frames := 9, cells := 0, slots := 0, locals := 282 } : Room) s m args below meth c D A 15 0 0 Q [(a_this, .inr (4, [.ref a_masses, .ref a_crowd, .ref a_row, .int v_crowdSize, .ref a_lines])), (a_crowd, .inl (cI, 10, .inl v_crowd)), (a_lines, .inr (2, [.ref a_lines_lesser, .ref a_lines_other, .int v_lines_size])), (a_lines_lesser, .inl (cI, 45, .inl v_lines_lesser)), (a_lines_other, .inl (cI, 45, .inl v_lines_other)), (a_masses, .inr (3, [.ref a_masses_sums, .ref a_masses_weights])), (a_masses_sums, .inl (cJ, 10, .inr (.inl k83_masses_sums))), (a_masses_weights, .inl (cJ, 10, .inr (.inl k83_masses_weights))), (a_row, .inl (cI, 3, .inl k83_row))] [] [(0, .ref a_this), (1, .int k83_l1), (2, .int k83_l2), (3, .int k83_l3), (4, .int k83_l4), (5, .long k83_l5), (7, .long k83_l7), (9, .long k83_l9), (11, .long k83_l11)] 83 [] := by
    intro k83_masses_sums k83_masses_weights k83_row k83_l1 k83_l2 k83_l3 k83_l4 k83_l5 k83_l7 k83_l9 k83_l11 hf
    unfold f_X4_evensOutOver_L3_c83 at hf
    refine x_iconst 84 hC (1 : Int32) dX4_evensOutOver_83 rfl (by decide) ?_
    refine x_goto 88 hC dX4_evensOutOver_84 (by decide) ?_
    refine x_lv [(0, .ref a_this), (1, .int k83_l1), (2, .int k83_l2), (3, .int k83_l3), (4, .int k83_l4), (5, .long k83_l5), (7, .long k83_l7), (9, .long k83_l9), (11, .long k83_l11)] [0, 1, 2, 3, 4, 5, 6, 7, 8] rfl ?_
    exact J_88 k83_masses_sums k83_masses_weights k83_row k83_l1 k83_l2 k83_l3 k83_l4 k83_l5 k83_l7 k83_l9 k83_l11 (1 : Int32) hf
  unfold f_X4_evensOutOver_L3 at hf
  refine x_aload_n 1 0 hC dX4_evensOutOver_0 rfl rfl rfl ?_
  refine x_get 4 0 0 hC in_X4_evensOutOver_X4 rfl rfl (by decide) (List.mem_of_getElem? (i := 1) (by decide +kernel)) rfl rfl dX4_evensOutOver_1 rfl ?_
  refine x_get 7 5 0 hC in_X4_evensOutOver_X3 rfl rfl (by decide) (List.mem_of_getElem? (i := 2) (by decide +kernel)) rfl rfl dX4_evensOutOver_4 rfl ?_
  refine x_iload_n 8 1 hC dX4_evensOutOver_7 rfl rfl rfl ?_
  obtain ⟨h_7, hf⟩ := ck_e hf
  refine x_lald 9 6 1 hC rfl rfl h_7 dX4_evensOutOver_8 rfl ?_
  obtain ⟨x_8, e_x_8, hf⟩ := nmx_e hf
  refine x_lstore 11 [(5, .long x_8), (0, .ref a_this), (1, .int p1), (2, .int p2), (3, .int p3), (4, .int p4)] hC dX4_evensOutOver_9 rfl e_x_8 (by decide) rfl ?_
  refine x_aload_n 12 1 hC dX4_evensOutOver_11 rfl rfl rfl ?_
  refine x_get 15 0 0 hC in_X4_evensOutOver_X4 rfl rfl (by decide) (List.mem_of_getElem? (i := 1) (by decide +kernel)) rfl rfl dX4_evensOutOver_12 rfl ?_
  refine x_get 18 5 1 hC in_X4_evensOutOver_X3 rfl rfl (by decide) (List.mem_of_getElem? (i := 3) (by decide +kernel)) rfl rfl dX4_evensOutOver_15 rfl ?_
  refine x_iload_n 19 2 hC dX4_evensOutOver_18 rfl rfl rfl ?_
  obtain ⟨h_9, hf⟩ := ck_e hf
  refine x_lald 20 7 1 hC rfl rfl h_9 dX4_evensOutOver_19 rfl ?_
  obtain ⟨x_10, e_x_10, hf⟩ := nmx_e hf
  refine x_lstore 22 [(7, .long x_10), (5, .long x_8), (0, .ref a_this), (1, .int p1), (2, .int p2), (3, .int p3), (4, .int p4)] hC dX4_evensOutOver_20 rfl e_x_10 (by decide) rfl ?_
  refine x_aload_n 23 2 hC dX4_evensOutOver_22 rfl rfl rfl ?_
  refine x_get 26 0 0 hC in_X4_evensOutOver_X4 rfl rfl (by decide) (List.mem_of_getElem? (i := 1) (by decide +kernel)) rfl rfl dX4_evensOutOver_23 rfl ?_
  refine x_get 29 5 0 hC in_X4_evensOutOver_X3 rfl rfl (by decide) (List.mem_of_getElem? (i := 2) (by decide +kernel)) rfl rfl dX4_evensOutOver_26 rfl ?_
  refine x_iload_n 30 4 hC dX4_evensOutOver_29 rfl rfl rfl ?_
  obtain ⟨h_11, hf⟩ := ck_e hf
  refine x_lald 31 6 1 hC rfl rfl h_11 dX4_evensOutOver_30 rfl ?_
  obtain ⟨x_12, e_x_12, hf⟩ := nmx_e hf
  refine x_lstore 33 [(9, .long x_12), (7, .long x_10), (5, .long x_8), (0, .ref a_this), (1, .int p1), (2, .int p2), (3, .int p3), (4, .int p4)] hC dX4_evensOutOver_31 rfl e_x_12 (by decide) rfl ?_
  refine x_aload_n 34 3 hC dX4_evensOutOver_33 rfl rfl rfl ?_
  refine x_get 37 0 0 hC in_X4_evensOutOver_X4 rfl rfl (by decide) (List.mem_of_getElem? (i := 1) (by decide +kernel)) rfl rfl dX4_evensOutOver_34 rfl ?_
  refine x_get 40 5 1 hC in_X4_evensOutOver_X3 rfl rfl (by decide) (List.mem_of_getElem? (i := 3) (by decide +kernel)) rfl rfl dX4_evensOutOver_37 rfl ?_
  refine x_iload_n 41 5 hC dX4_evensOutOver_40 rfl rfl rfl ?_
  obtain ⟨h_13, hf⟩ := ck_e hf
  refine x_lald 42 7 1 hC rfl rfl h_13 dX4_evensOutOver_41 rfl ?_
  obtain ⟨x_14, e_x_14, hf⟩ := nmx_e hf
  refine x_lstore 44 [(11, .long x_14), (9, .long x_12), (7, .long x_10), (5, .long x_8), (0, .ref a_this), (1, .int p1), (2, .int p2), (3, .int p3), (4, .int p4)] hC dX4_evensOutOver_42 rfl e_x_14 (by decide) rfl ?_
  refine x_aload_n 45 4 hC dX4_evensOutOver_44 rfl rfl rfl ?_
  refine x_get 48 0 0 hC in_X4_evensOutOver_X4 rfl rfl (by decide) (List.mem_of_getElem? (i := 1) (by decide +kernel)) rfl rfl dX4_evensOutOver_45 rfl ?_
  refine x_iload_n 49 5 hC dX4_evensOutOver_48 rfl rfl rfl ?_
  refine x_iload_n 50 6 hC dX4_evensOutOver_49 rfl rfl rfl ?_
  obtain ⟨R_15, h_R_15, hf⟩ := bd_e hf
  refine x_callVv 53 0 2 [5, 6, 7] [(a_this, .inr (4, [.ref a_masses, .ref a_crowd, .ref a_row, .int v_crowdSize, .ref a_lines])), (a_crowd, .inl (cI, 10, .inl v_crowd)), (a_lines, .inr (2, [.ref a_lines_lesser, .ref a_lines_other, .int v_lines_size])), (a_lines_lesser, .inl (cI, 45, .inl v_lines_lesser)), (a_lines_other, .inl (cI, 45, .inl v_lines_other)), (a_masses, .inr (3, [.ref a_masses_sums, .ref a_masses_weights])), (a_masses_sums, .inl (cJ, 10, .inr (.inl R_15.1))), (a_masses_weights, .inl (cJ, 10, .inr (.inl R_15.2))), (a_row, .inl (cI, 3, .inl v_row))] hC (As := [.int p1, .int p2]) (c_X3_even l D cI cJ cQ a_masses a_masses_sums a_masses_weights 10 v_masses_sums v_masses_weights p1 p2 R_15 h_R_15) rfl rfl gX4_evensOutOver_X3_even rfl ⟨rfl, rfl⟩ hd_X3_even ⟨Nat.le_of_ble_eq_true rfl, Nat.le_of_ble_eq_true rfl⟩ rfl rfl rfl rfl rfl rfl (Nat.le_of_ble_eq_true rfl) ⟨Nat.le_of_ble_eq_true rfl, Nat.le_of_ble_eq_true rfl⟩ dX4_evensOutOver_50 rfl ?_
  refine x_aload_n 54 4 hC dX4_evensOutOver_53 rfl rfl rfl ?_
  refine x_get 57 0 0 hC in_X4_evensOutOver_X4 rfl rfl (by decide) (List.mem_of_getElem? (i := 1) (by decide +kernel)) rfl rfl dX4_evensOutOver_54 rfl ?_
  refine x_get 60 5 0 hC in_X4_evensOutOver_X3 rfl rfl (by decide) (List.mem_of_getElem? (i := 2) (by decide +kernel)) rfl rfl dX4_evensOutOver_57 rfl ?_
  refine x_iload_n 61 5 hC dX4_evensOutOver_60 rfl rfl rfl ?_
  obtain ⟨h_16, hf⟩ := ck_e hf
  refine x_lald 62 6 1 hC rfl rfl h_16 dX4_evensOutOver_61 rfl ?_
  refine x_lload 64 3 hC dX4_evensOutOver_62 rfl rfl ?_
  refine x_lcmp_ne 83 68 hC dX4_evensOutOver_64 dX4_evensOutOver_65 (by decide) rfl (fun c_17 => ?_) (fun c_17 => ?_)
  · have hf := if_t hf c_17
    refine x_lv [(0, .ref a_this), (1, .int p1), (2, .int p2), (3, .int p3), (4, .int p4), (5, .long x_8), (7, .long x_10), (9, .long x_12), (11, .long x_14)] [4, 5, 6, 7, 8, 3, 2, 1, 0] rfl ?_
    exact J_83 R_15.1 R_15.2 v_row p1 p2 p3 p4 x_8 x_10 x_12 x_14 hf
  · have hf := if_f hf c_17
    refine x_aload_n 69 4 hC dX4_evensOutOver_68 rfl rfl rfl ?_
    refine x_get 72 0 0 hC in_X4_evensOutOver_X4 rfl rfl (by decide) (List.mem_of_getElem? (i := 1) (by decide +kernel)) rfl rfl dX4_evensOutOver_69 rfl ?_
    refine x_get 75 5 1 hC in_X4_evensOutOver_X3 rfl rfl (by decide) (List.mem_of_getElem? (i := 3) (by decide +kernel)) rfl rfl dX4_evensOutOver_72 rfl ?_
    refine x_iload_n 76 5 hC dX4_evensOutOver_75 rfl rfl rfl ?_
    obtain ⟨h_18, hf⟩ := ck_e hf
    refine x_lald 77 7 1 hC rfl rfl h_18 dX4_evensOutOver_76 rfl ?_
    refine x_lload 79 2 hC dX4_evensOutOver_77 rfl rfl ?_
    refine x_lcmp_eq 87 83 hC dX4_evensOutOver_79 dX4_evensOutOver_80 (by decide) rfl (fun c_19 => ?_) (fun c_19 => ?_)
    · have hf := if_t hf c_19
      refine x_iconst 88 hC (0 : Int32) dX4_evensOutOver_87 rfl (by decide) ?_
      refine x_lv [(0, .ref a_this), (1, .int p1), (2, .int p2), (3, .int p3), (4, .int p4), (5, .long x_8), (7, .long x_10), (9, .long x_12), (11, .long x_14)] [4, 5, 6, 7, 8, 3, 2, 1, 0] rfl ?_
      exact J_88 R_15.1 R_15.2 v_row p1 p2 p3 p4 x_8 x_10 x_12 x_14 (0 : Int32) hf
    · have hf := if_f hf c_19
      refine x_lv [(0, .ref a_this), (1, .int p1), (2, .int p2), (3, .int p3), (4, .int p4), (5, .long x_8), (7, .long x_10), (9, .long x_12), (11, .long x_14)] [4, 5, 6, 7, 8, 3, 2, 1, 0] rfl ?_
      exact J_83 R_15.1 R_15.2 v_row p1 p2 p3 p4 x_8 x_10 x_12 x_14 hf

noncomputable def f_X4_evensOut_L3_c37 (v_crowdSize : Int32) (v_crowd : Nat → Int32) (v_lines_size : Int32) (v_lines_lesser : Nat → Int32) (v_lines_other : Nat → Int32) : Nat → (Nat → Int64) → (Nat → Int64) → (Nat → Int32) → Int32 → Int32 → Int32 → Option ((Nat → Int64) × (Nat → Int64) × (Nat → Int32) × Int32)
  | 0, _, _, _, _, _, _ => none
  | n + 1, k37_masses_sums, k37_masses_weights, k37_row, k37_l1, k37_l2, k37_l3 => if v_lines_size ≤ k37_l3 then (some (k37_masses_sums, k37_masses_weights, k37_row, (0 : Int32))) else (ck k37_l1 3 <| nm (upd k37_row k37_l1.toNatClampNeg k37_l3) fun g_3 => ck k37_l3 45 <| ck k37_l3 45 <| bd (f_X4_evensOutOver_L3 v_crowdSize v_crowd v_lines_size v_lines_lesser v_lines_other k37_masses_sums k37_masses_weights g_3 (v_lines_lesser k37_l3.toNatClampNeg) (v_lines_other k37_l3.toNatClampNeg) k37_l1 k37_l2) fun R_6 => if R_6.2.2.2 = 0 then (nm (k37_l3 + (1 : Int32)) fun x_8 => (fun k37_masses_sums k37_masses_weights k37_row k37_l1 k37_l2 k37_l3 => f_X4_evensOut_L3_c37 v_crowdSize v_crowd v_lines_size v_lines_lesser v_lines_other n k37_masses_sums k37_masses_weights k37_row k37_l1 k37_l2 k37_l3) R_6.1 R_6.2.1 R_6.2.2.1 k37_l1 k37_l2 x_8) else (some (R_6.1, R_6.2.1, R_6.2.2.1, (1 : Int32))))
noncomputable def f_X4_evensOut_L3_c10 (v_crowdSize : Int32) (v_crowd : Nat → Int32) (v_lines_size : Int32) (v_lines_lesser : Nat → Int32) (v_lines_other : Nat → Int32) (k10_masses_sums : Nat → Int64) (k10_masses_weights : Nat → Int64) (k10_row : Nat → Int32) : Option ((Nat → Int64) × (Nat → Int64) × (Nat → Int32) × Int32) := bd (f_X4_isNear v_crowdSize v_crowd k10_masses_sums k10_masses_weights (0 : Int32)) fun R_9 => ckp (narrow .boolean (.int R_9) = .int R_9) (Classical.propDecidable _) <| some (k10_masses_sums, k10_masses_weights, k10_row, R_9)
noncomputable def f_X4_evensOut_L3 (v_crowdSize : Int32) (v_crowd : Nat → Int32) (v_lines_size : Int32) (v_lines_lesser : Nat → Int32) (v_lines_other : Nat → Int32) (v_masses_sums : Nat → Int64) (v_masses_weights : Nat → Int64) (v_row : Nat → Int32) (p1 : Int32) (p2 : Int32) : Option ((Nat → Int64) × (Nat → Int64) × (Nat → Int32) × Int32) := if p2 ≤ p1 then (f_X4_evensOut_L3_c10 v_crowdSize v_crowd v_lines_size v_lines_lesser v_lines_other v_masses_sums v_masses_weights v_row) else (if p1 < (3 : Int32) then (bd (f_X4_isNear v_crowdSize v_crowd v_masses_sums v_masses_weights (p2 - p1)) fun R_13 => if ¬ R_13 = 0 then (f_X4_evensOut_L3_c37 v_crowdSize v_crowd v_lines_size v_lines_lesser v_lines_other fu v_masses_sums v_masses_weights v_row p1 p2 (0 : Int32)) else (some (v_masses_sums, v_masses_weights, v_row, (0 : Int32)))) else (f_X4_evensOut_L3_c10 v_crowdSize v_crowd v_lines_size v_lines_lesser v_lines_other v_masses_sums v_masses_weights v_row))
set_option maxHeartbeats 4000000 in
set_option maxRecDepth 100000 in
theorem c_X4_evensOut_L3 (l : Launch) (D : va_G) (cI cJ cQ : ClassId) (a_this : Nat) (a_crowd : Nat) (a_lines : Nat) (a_lines_lesser : Nat) (a_lines_other : Nat) (a_masses : Nat) (a_masses_sums : Nat) (a_masses_weights : Nat) (a_row : Nat) (v_crowdSize : Int32) (v_crowd : Nat → Int32) (v_lines_size : Int32) (v_lines_lesser : Nat → Int32) (v_lines_other : Nat → Int32) (v_masses_sums : Nat → Int64) (v_masses_weights : Nat → Int64) (v_row : Nat → Int32) (p1 : Int32) (p2 : Int32) (R0 : (Nat → Int64) × (Nat → Int64) × (Nat → Int32) × Int32) (hf : f_X4_evensOut_L3 v_crowdSize v_crowd v_lines_size v_lines_lesser v_lines_other v_masses_sums v_masses_weights v_row p1 p2 = some R0) : Ci l yX4_evensOut wsX4_evensOut ({ frames := 10, cells := 0, slots := 0, locals := 318 } : Room) D [(cI, .int), (cJ, .long), (cQ, .object "WhisperCrowd$State")] [.ref a_this, .int p1, .int p2] [(a_this, .inr (4, [.ref a_masses, .ref a_crowd, .ref a_row, .int v_crowdSize, .ref a_lines])), (a_crowd, .inl (cI, 10, .inl v_crowd)), (a_lines, .inr (2, [.ref a_lines_lesser, .ref a_lines_other, .int v_lines_size])), (a_lines_lesser, .inl (cI, 45, .inl v_lines_lesser)), (a_lines_other, .inl (cI, 45, .inl v_lines_other)), (a_masses, .inr (3, [.ref a_masses_sums, .ref a_masses_weights])), (a_masses_sums, .inl (cJ, 10, .inr (.inl v_masses_sums))), (a_masses_weights, .inl (cJ, 10, .inr (.inl v_masses_weights))), (a_row, .inl (cI, 3, .inl v_row))] [(a_this, .inr (4, [.ref a_masses, .ref a_crowd, .ref a_row, .int v_crowdSize, .ref a_lines])), (a_crowd, .inl (cI, 10, .inl v_crowd)), (a_lines, .inr (2, [.ref a_lines_lesser, .ref a_lines_other, .int v_lines_size])), (a_lines_lesser, .inl (cI, 45, .inl v_lines_lesser)), (a_lines_other, .inl (cI, 45, .inl v_lines_other)), (a_masses, .inr (3, [.ref a_masses_sums, .ref a_masses_weights])), (a_masses_sums, .inl (cJ, 10, .inr (.inl R0.1))), (a_masses_weights, .inl (cJ, 10, .inr (.inl R0.2.1))), (a_row, .inl (cI, 3, .inl R0.2.2.1))] R0.2.2.2 := by
  refine x_enti (cc := cX4_evensOut) (maxL := 4) (rt := (some .boolean)) (lv := [(0, .ref a_this), (1, .int p1), (2, .int p2)]) (by decide) rfl (Nat.le_of_ble_eq_true rfl) rfl ?_
  intro p e s m args below meth c A Q hQ hC
  have J_37 : ∀ (n : Nat) (k37_masses_sums : Nat → Int64) (k37_masses_weights : Nat → Int64) (k37_row : Nat → Int32) (k37_l1 : Int32) (k37_l2 : Int32) (k37_l3 : Int32), f_X4_evensOut_L3_c37 v_crowdSize v_crowd v_lines_size v_lines_lesser v_lines_other n k37_masses_sums k37_masses_weights k37_row k37_l1 k37_l2 k37_l3 = some R0 → XW p l e ({ frames := 10, cells := 0, slots := 0, locals := 318 } : Room) s m args below meth c D A 4 0 0 Q [(a_this, .inr (4, [.ref a_masses, .ref a_crowd, .ref a_row, .int v_crowdSize, .ref a_lines])), (a_crowd, .inl (cI, 10, .inl v_crowd)), (a_lines, .inr (2, [.ref a_lines_lesser, .ref a_lines_other, .int v_lines_size])), (a_lines_lesser, .inl (cI, 45, .inl v_lines_lesser)), (a_lines_other, .inl (cI, 45, .inl v_lines_other)), (a_masses, .inr (3, [.ref a_masses_sums, .ref a_masses_weights])), (a_masses_sums, .inl (cJ, 10, .inr (.inl k37_masses_sums))), (a_masses_weights, .inl (cJ, 10, .inr (.inl k37_masses_weights))), (a_row, .inl (cI, 3, .inl k37_row))] [] [(0, .ref a_this), (1, .int k37_l1), (2, .int k37_l2), (3, .int k37_l3)] 37 [] := by
    intro n
    induction n with
    | zero => intro k37_masses_sums k37_masses_weights k37_row k37_l1 k37_l2 k37_l3 hf; exact nomatch (show (none : Option ((Nat → Int64) × (Nat → Int64) × (Nat → Int32) × Int32)) = some R0 from hf)
    | succ n_37 ih_37 =>
      intro k37_masses_sums k37_masses_weights k37_row k37_l1 k37_l2 k37_l3 hf
      unfold f_X4_evensOut_L3_c37 at hf
      refine x_iload_n 38 3 hC dX4_evensOut_37 rfl rfl rfl ?_
      refine x_aload_n 39 0 hC dX4_evensOut_38 rfl rfl rfl ?_
      refine x_get 42 0 4 hC in_X4_evensOut_X4 rfl rfl (by decide) (List.mem_of_getElem? (i := 1) (by decide +kernel)) rfl rfl dX4_evensOut_39 rfl ?_
      refine x_get 45 2 2 hC in_X4_evensOut_X2 rfl rfl (by decide) (List.mem_of_getElem? (i := 2) (by decide +kernel)) rfl rfl dX4_evensOut_42 rfl ?_
      refine x_icmp_ge 90 48 hC dX4_evensOut_45 (by decide) rfl (fun c_1 => ?_) (fun c_1 => ?_)
      · have hf := if_t hf c_1
        refine x_iconst 91 hC (0 : Int32) dX4_evensOut_90 rfl (by decide) ?_
        cases hf
        exact x_zret hC rfl dX4_evensOut_91 hQ rfl rfl
      · have hf := if_f hf c_1
        refine x_aload_n 49 0 hC dX4_evensOut_48 rfl rfl rfl ?_
        refine x_get 52 0 2 hC in_X4_evensOut_X4 rfl rfl (by decide) (List.mem_of_getElem? (i := 3) (by decide +kernel)) rfl rfl dX4_evensOut_49 rfl ?_
        refine x_iload_n 53 1 hC dX4_evensOut_52 rfl rfl rfl ?_
        refine x_iload_n 54 3 hC dX4_evensOut_53 rfl rfl rfl ?_
        obtain ⟨h_2, hf⟩ := ck_e hf
        obtain ⟨g_3, e_g_3, hf⟩ := nmx_e hf
        refine x_iast 55 8 0 [(a_this, .inr (4, [.ref a_masses, .ref a_crowd, .ref a_row, .int v_crowdSize, .ref a_lines])), (a_crowd, .inl (cI, 10, .inl v_crowd)), (a_lines, .inr (2, [.ref a_lines_lesser, .ref a_lines_other, .int v_lines_size])), (a_lines_lesser, .inl (cI, 45, .inl v_lines_lesser)), (a_lines_other, .inl (cI, 45, .inl v_lines_other)), (a_masses, .inr (3, [.ref a_masses_sums, .ref a_masses_weights])), (a_masses_sums, .inl (cJ, 10, .inr (.inl k37_masses_sums))), (a_masses_weights, .inl (cJ, 10, .inr (.inl k37_masses_weights))), (a_row, .inl (cI, 3, .inl g_3))] hC rfl rfl h_2 e_g_3 rfl dX4_evensOut_54 rfl ?_
        refine x_aload_n 56 0 hC dX4_evensOut_55 rfl rfl rfl ?_
        refine x_aload_n 57 0 hC dX4_evensOut_56 rfl rfl rfl ?_
        refine x_get 60 0 4 hC in_X4_evensOut_X4 rfl rfl (by decide) (List.mem_of_getElem? (i := 1) (by decide +kernel)) rfl rfl dX4_evensOut_57 rfl ?_
        refine x_get 63 2 0 hC in_X4_evensOut_X2 rfl rfl (by decide) (List.mem_of_getElem? (i := 4) (by decide +kernel)) rfl rfl dX4_evensOut_60 rfl ?_
        refine x_iload_n 64 3 hC dX4_evensOut_63 rfl rfl rfl ?_
        obtain ⟨h_4, hf⟩ := ck_e hf
        refine x_iald 65 3 0 hC rfl rfl h_4 dX4_evensOut_64 rfl ?_
        refine x_aload_n 66 0 hC dX4_evensOut_65 rfl rfl rfl ?_
        refine x_get 69 0 4 hC in_X4_evensOut_X4 rfl rfl (by decide) (List.mem_of_getElem? (i := 1) (by decide +kernel)) rfl rfl dX4_evensOut_66 rfl ?_
        refine x_get 72 2 1 hC in_X4_evensOut_X2 rfl rfl (by decide) (List.mem_of_getElem? (i := 5) (by decide +kernel)) rfl rfl dX4_evensOut_69 rfl ?_
        refine x_iload_n 73 3 hC dX4_evensOut_72 rfl rfl rfl ?_
        obtain ⟨h_5, hf⟩ := ck_e hf
        refine x_iald 74 4 0 hC rfl rfl h_5 dX4_evensOut_73 rfl ?_
        refine x_iload_n 75 1 hC dX4_evensOut_74 rfl rfl rfl ?_
        refine x_iload_n 76 2 hC dX4_evensOut_75 rfl rfl rfl ?_
        obtain ⟨R_6, h_R_6, hf⟩ := bd_e hf
        refine x_callVi 79 0 4 [0, 1, 2, 3, 4, 5, 6, 7, 8] [(a_this, .inr (4, [.ref a_masses, .ref a_crowd, .ref a_row, .int v_crowdSize, .ref a_lines])), (a_crowd, .inl (cI, 10, .inl v_crowd)), (a_lines, .inr (2, [.ref a_lines_lesser, .ref a_lines_other, .int v_lines_size])), (a_lines_lesser, .inl (cI, 45, .inl v_lines_lesser)), (a_lines_other, .inl (cI, 45, .inl v_lines_other)), (a_masses, .inr (3, [.ref a_masses_sums, .ref a_masses_weights])), (a_masses_sums, .inl (cJ, 10, .inr (.inl R_6.1))), (a_masses_weights, .inl (cJ, 10, .inr (.inl R_6.2.1))), (a_row, .inl (cI, 3, .inl R_6.2.2.1))] hC (As := [.int (v_lines_lesser k37_l3.toNatClampNeg), .int (v_lines_other k37_l3.toNatClampNeg), .int k37_l1, .int k37_l2]) (c_X4_evensOutOver_L3 l D cI cJ cQ a_this a_crowd a_lines a_lines_lesser a_lines_other a_masses a_masses_sums a_masses_weights a_row v_crowdSize v_crowd v_lines_size v_lines_lesser v_lines_other k37_masses_sums k37_masses_weights g_3 (v_lines_lesser k37_l3.toNatClampNeg) (v_lines_other k37_l3.toNatClampNeg) k37_l1 k37_l2 R_6 h_R_6) rfl rfl gX4_evensOut_X4_evensOutOver rfl ⟨rfl, rfl⟩ hd_X4_evensOutOver ⟨Nat.le_of_ble_eq_true rfl, Nat.le_of_ble_eq_true rfl⟩ rfl rfl rfl rfl rfl rfl (Nat.le_of_ble_eq_true rfl) ⟨Nat.le_of_ble_eq_true rfl, Nat.le_of_ble_eq_true rfl⟩ dX4_evensOut_76 rfl ?_
        refine x_if_eq 84 82 hC dX4_evensOut_79 (by decide) rfl (fun c_7 => ?_) (fun c_7 => ?_)
        · have hf := if_t hf c_7
          obtain ⟨x_8, e_x_8, hf⟩ := nmx_e hf
          refine x_iinc 87 3 [(3, .int x_8), (0, .ref a_this), (1, .int k37_l1), (2, .int k37_l2)] hC dX4_evensOut_84 rfl rfl e_x_8 (by decide) (by decide) rfl ?_
          refine x_goto 37 hC dX4_evensOut_87 (by decide) ?_
          refine x_lv [(0, .ref a_this), (1, .int k37_l1), (2, .int k37_l2), (3, .int x_8)] [1, 2, 3, 0] rfl ?_
          exact ih_37 R_6.1 R_6.2.1 R_6.2.2.1 k37_l1 k37_l2 x_8 hf
        · have hf := if_f hf c_7
          refine x_iconst 83 hC (1 : Int32) dX4_evensOut_82 rfl (by decide) ?_
          cases hf
          exact x_zret hC rfl dX4_evensOut_83 hQ rfl rfl
  have J_10 : ∀ (k10_masses_sums : Nat → Int64) (k10_masses_weights : Nat → Int64) (k10_row : Nat → Int32), f_X4_evensOut_L3_c10 v_crowdSize v_crowd v_lines_size v_lines_lesser v_lines_other k10_masses_sums k10_masses_weights k10_row = some R0 → XW p l e ({ frames := 10, cells := 0, slots := 0, locals := 318 } : Room) s m args below meth c D A 4 0 0 Q [(a_this, .inr (4, [.ref a_masses, .ref a_crowd, .ref a_row, .int v_crowdSize, .ref a_lines])), (a_crowd, .inl (cI, 10, .inl v_crowd)), (a_lines, .inr (2, [.ref a_lines_lesser, .ref a_lines_other, .int v_lines_size])), (a_lines_lesser, .inl (cI, 45, .inl v_lines_lesser)), (a_lines_other, .inl (cI, 45, .inl v_lines_other)), (a_masses, .inr (3, [.ref a_masses_sums, .ref a_masses_weights])), (a_masses_sums, .inl (cJ, 10, .inr (.inl k10_masses_sums))), (a_masses_weights, .inl (cJ, 10, .inr (.inl k10_masses_weights))), (a_row, .inl (cI, 3, .inl k10_row))] [] [(0, .ref a_this)] 10 [] := by
    intro k10_masses_sums k10_masses_weights k10_row hf
    unfold f_X4_evensOut_L3_c10 at hf
    refine x_aload_n 11 0 hC dX4_evensOut_10 rfl rfl rfl ?_
    refine x_iconst 12 hC (0 : Int32) dX4_evensOut_11 rfl (by decide) ?_
    obtain ⟨R_9, h_R_9, hf⟩ := bd_e hf
    refine x_callVi 15 0 1 [0, 1, 5, 6, 7] [(a_this, .inr (4, [.ref a_masses, .ref a_crowd, .ref a_row, .int v_crowdSize, .ref a_lines])), (a_crowd, .inl (cI, 10, .inl v_crowd)), (a_lines, .inr (2, [.ref a_lines_lesser, .ref a_lines_other, .int v_lines_size])), (a_lines_lesser, .inl (cI, 45, .inl v_lines_lesser)), (a_lines_other, .inl (cI, 45, .inl v_lines_other)), (a_masses, .inr (3, [.ref a_masses_sums, .ref a_masses_weights])), (a_masses_sums, .inl (cJ, 10, .inr (.inl k10_masses_sums))), (a_masses_weights, .inl (cJ, 10, .inr (.inl k10_masses_weights))), (a_row, .inl (cI, 3, .inl k10_row))] hC (As := [.int (0 : Int32)]) (c_X4_isNear l D cI cJ cQ a_this a_crowd a_masses a_masses_sums a_masses_weights (.ref a_row) (.ref a_lines) v_crowdSize v_crowd k10_masses_sums k10_masses_weights (0 : Int32) R_9 h_R_9) rfl rfl gX4_evensOut_X4_isNear rfl ⟨rfl, rfl⟩ hd_X4_isNear ⟨Nat.le_of_ble_eq_true rfl, Nat.le_of_ble_eq_true rfl⟩ rfl rfl rfl rfl rfl rfl (Nat.le_of_ble_eq_true rfl) ⟨Nat.le_of_ble_eq_true rfl, Nat.le_of_ble_eq_true rfl⟩ dX4_evensOut_12 rfl ?_
    obtain ⟨h_10, hf⟩ := ckp_e hf
    cases hf
    exact x_zret hC h_10 dX4_evensOut_15 hQ rfl rfl
  unfold f_X4_evensOut_L3 at hf
  refine x_iload_n 1 1 hC dX4_evensOut_0 rfl rfl rfl ?_
  refine x_iload_n 2 2 hC dX4_evensOut_1 rfl rfl rfl ?_
  refine x_icmp_ge 10 5 hC dX4_evensOut_2 (by decide) rfl (fun c_11 => ?_) (fun c_11 => ?_)
  · have hf := if_t hf c_11
    refine x_lv [(0, .ref a_this)] [0] rfl ?_
    exact J_10 v_masses_sums v_masses_weights v_row hf
  · have hf := if_f hf c_11
    refine x_iload_n 6 1 hC dX4_evensOut_5 rfl rfl rfl ?_
    refine x_iconst 7 hC (3 : Int32) dX4_evensOut_6 rfl (by decide) ?_
    refine x_icmp_lt 16 10 hC dX4_evensOut_7 (by decide) rfl (fun c_12 => ?_) (fun c_12 => ?_)
    · have hf := if_t hf c_12
      refine x_aload_n 17 0 hC dX4_evensOut_16 rfl rfl rfl ?_
      refine x_get 20 0 4 hC in_X4_evensOut_X4 rfl rfl (by decide) (List.mem_of_getElem? (i := 1) (by decide +kernel)) rfl rfl dX4_evensOut_17 rfl ?_
      refine x_ifnull 23 hC dX4_evensOut_20 rfl ?_
      refine x_aload_n 24 0 hC dX4_evensOut_23 rfl rfl rfl ?_
      refine x_iload_n 25 2 hC dX4_evensOut_24 rfl rfl rfl ?_
      refine x_iload_n 26 1 hC dX4_evensOut_25 rfl rfl rfl ?_
      refine x_isub 27 hC dX4_evensOut_26 rfl ?_
      obtain ⟨R_13, h_R_13, hf⟩ := bd_e hf
      refine x_callVi 30 0 1 [0, 1, 5, 6, 7] [(a_this, .inr (4, [.ref a_masses, .ref a_crowd, .ref a_row, .int v_crowdSize, .ref a_lines])), (a_crowd, .inl (cI, 10, .inl v_crowd)), (a_lines, .inr (2, [.ref a_lines_lesser, .ref a_lines_other, .int v_lines_size])), (a_lines_lesser, .inl (cI, 45, .inl v_lines_lesser)), (a_lines_other, .inl (cI, 45, .inl v_lines_other)), (a_masses, .inr (3, [.ref a_masses_sums, .ref a_masses_weights])), (a_masses_sums, .inl (cJ, 10, .inr (.inl v_masses_sums))), (a_masses_weights, .inl (cJ, 10, .inr (.inl v_masses_weights))), (a_row, .inl (cI, 3, .inl v_row))] hC (As := [.int (p2 - p1)]) (c_X4_isNear l D cI cJ cQ a_this a_crowd a_masses a_masses_sums a_masses_weights (.ref a_row) (.ref a_lines) v_crowdSize v_crowd v_masses_sums v_masses_weights (p2 - p1) R_13 h_R_13) rfl rfl gX4_evensOut_X4_isNear rfl ⟨rfl, rfl⟩ hd_X4_isNear ⟨Nat.le_of_ble_eq_true rfl, Nat.le_of_ble_eq_true rfl⟩ rfl rfl rfl rfl rfl rfl (Nat.le_of_ble_eq_true rfl) ⟨Nat.le_of_ble_eq_true rfl, Nat.le_of_ble_eq_true rfl⟩ dX4_evensOut_27 rfl ?_
      refine x_if_ne 35 33 hC dX4_evensOut_30 (by decide) rfl (fun c_14 => ?_) (fun c_14 => ?_)
      · have hf := if_t hf c_14
        refine x_iconst 36 hC (0 : Int32) dX4_evensOut_35 rfl (by decide) ?_
        refine x_istore_n 37 [(3, .int (0 : Int32)), (0, .ref a_this), (1, .int p1), (2, .int p2)] hC dX4_evensOut_36 rfl rfl rfl (by decide) rfl ?_
        refine x_lv [(0, .ref a_this), (1, .int p1), (2, .int p2), (3, .int (0 : Int32))] [1, 2, 3, 0] rfl ?_
        exact J_37 fu v_masses_sums v_masses_weights v_row p1 p2 (0 : Int32) hf
      · have hf := if_f hf c_14
        refine x_iconst 34 hC (0 : Int32) dX4_evensOut_33 rfl (by decide) ?_
        cases hf
        exact x_zret hC rfl dX4_evensOut_34 hQ rfl rfl
    · have hf := if_f hf c_12
      refine x_lv [(0, .ref a_this)] [0] rfl ?_
      exact J_10 v_masses_sums v_masses_weights v_row hf

theorem hd_X4_finds : yX4_finds.cls = RX4 ∧ yX4_finds.cls ≠ "java/lang/invoke/MethodHandle" ∧ yX4_finds.cls ≠ "java/lang/invoke/VarHandle" ∧ (parseMethodDescriptor yX4_finds.desc).map (fun d => d.parameters.length) = some 1 := by decide +kernel
noncomputable def f_X4_finds (v_crowdSize : Int32) (v_crowd : Nat → Int32) (v_lines_size : Int32) (v_lines_lesser : Nat → Int32) (v_lines_other : Nat → Int32) (v_masses_sums : Nat → Int64) (v_masses_weights : Nat → Int64) (v_row : Nat → Int32) (p1 : Int32) : Option ((Nat → Int64) × (Nat → Int64) × (Nat → Int32) × Int32) := if p1 < 0 then (some (v_masses_sums, v_masses_weights, v_row, (0 : Int32))) else (if (3 : Int32) < p1 then (some (v_masses_sums, v_masses_weights, v_row, (0 : Int32))) else (bd (f_X4_evensOut_L3 v_crowdSize v_crowd v_lines_size v_lines_lesser v_lines_other v_masses_sums v_masses_weights v_row (0 : Int32) p1) fun R_3 => if R_3.2.2.2 = 0 then (some (R_3.1, R_3.2.1, R_3.2.2.1, (0 : Int32))) else (some (R_3.1, R_3.2.1, R_3.2.2.1, (1 : Int32)))))
set_option maxHeartbeats 4000000 in
set_option maxRecDepth 100000 in
theorem c_X4_finds (l : Launch) (D : va_G) (cI cJ cQ : ClassId) (a_this : Nat) (a_crowd : Nat) (a_lines : Nat) (a_lines_lesser : Nat) (a_lines_other : Nat) (a_masses : Nat) (a_masses_sums : Nat) (a_masses_weights : Nat) (a_row : Nat) (v_crowdSize : Int32) (v_crowd : Nat → Int32) (v_lines_size : Int32) (v_lines_lesser : Nat → Int32) (v_lines_other : Nat → Int32) (v_masses_sums : Nat → Int64) (v_masses_weights : Nat → Int64) (v_row : Nat → Int32) (p1 : Int32) (R0 : (Nat → Int64) × (Nat → Int64) × (Nat → Int32) × Int32) (hf : f_X4_finds v_crowdSize v_crowd v_lines_size v_lines_lesser v_lines_other v_masses_sums v_masses_weights v_row p1 = some R0) : Ci l yX4_finds wsX4_finds ({ frames := 11, cells := 0, slots := 0, locals := 343 } : Room) D [(cI, .int), (cJ, .long), (cQ, .object "WhisperCrowd$State")] [.ref a_this, .int p1] [(a_this, .inr (4, [.ref a_masses, .ref a_crowd, .ref a_row, .int v_crowdSize, .ref a_lines])), (a_crowd, .inl (cI, 10, .inl v_crowd)), (a_lines, .inr (2, [.ref a_lines_lesser, .ref a_lines_other, .int v_lines_size])), (a_lines_lesser, .inl (cI, 45, .inl v_lines_lesser)), (a_lines_other, .inl (cI, 45, .inl v_lines_other)), (a_masses, .inr (3, [.ref a_masses_sums, .ref a_masses_weights])), (a_masses_sums, .inl (cJ, 10, .inr (.inl v_masses_sums))), (a_masses_weights, .inl (cJ, 10, .inr (.inl v_masses_weights))), (a_row, .inl (cI, 3, .inl v_row))] [(a_this, .inr (4, [.ref a_masses, .ref a_crowd, .ref a_row, .int v_crowdSize, .ref a_lines])), (a_crowd, .inl (cI, 10, .inl v_crowd)), (a_lines, .inr (2, [.ref a_lines_lesser, .ref a_lines_other, .int v_lines_size])), (a_lines_lesser, .inl (cI, 45, .inl v_lines_lesser)), (a_lines_other, .inl (cI, 45, .inl v_lines_other)), (a_masses, .inr (3, [.ref a_masses_sums, .ref a_masses_weights])), (a_masses_sums, .inl (cJ, 10, .inr (.inl R0.1))), (a_masses_weights, .inl (cJ, 10, .inr (.inl R0.2.1))), (a_row, .inl (cI, 3, .inl R0.2.2.1))] R0.2.2.2 := by
  refine x_enti (cc := cX4_finds) (maxL := 2) (rt := (some .boolean)) (lv := [(0, .ref a_this), (1, .int p1)]) (by decide) rfl (Nat.le_of_ble_eq_true rfl) rfl ?_
  intro p e s m args below meth c A Q hQ hC
  unfold f_X4_finds at hf
  refine x_iload_n 1 1 hC dX4_finds_0 rfl rfl rfl ?_
  refine x_if_lt 22 4 hC dX4_finds_1 (by decide) rfl (fun c_1 => ?_) (fun c_1 => ?_)
  · have hf := if_t hf c_1
    refine x_iconst 23 hC (0 : Int32) dX4_finds_22 rfl (by decide) ?_
    cases hf
    exact x_zret hC rfl dX4_finds_23 hQ rfl rfl
  · have hf := if_f hf c_1
    refine x_iload_n 5 1 hC dX4_finds_4 rfl rfl rfl ?_
    refine x_iconst 6 hC (3 : Int32) dX4_finds_5 rfl (by decide) ?_
    refine x_icmp_gt 22 9 hC dX4_finds_6 (by decide) rfl (fun c_2 => ?_) (fun c_2 => ?_)
    · have hf := if_t hf c_2
      refine x_iconst 23 hC (0 : Int32) dX4_finds_22 rfl (by decide) ?_
      cases hf
      exact x_zret hC rfl dX4_finds_23 hQ rfl rfl
    · have hf := if_f hf c_2
      refine x_aload_n 10 0 hC dX4_finds_9 rfl rfl rfl ?_
      refine x_iconst 11 hC (0 : Int32) dX4_finds_10 rfl (by decide) ?_
      refine x_iload_n 12 1 hC dX4_finds_11 rfl rfl rfl ?_
      obtain ⟨R_3, h_R_3, hf⟩ := bd_e hf
      refine x_callVi 15 0 2 [0, 1, 2, 3, 4, 5, 6, 7, 8] [(a_this, .inr (4, [.ref a_masses, .ref a_crowd, .ref a_row, .int v_crowdSize, .ref a_lines])), (a_crowd, .inl (cI, 10, .inl v_crowd)), (a_lines, .inr (2, [.ref a_lines_lesser, .ref a_lines_other, .int v_lines_size])), (a_lines_lesser, .inl (cI, 45, .inl v_lines_lesser)), (a_lines_other, .inl (cI, 45, .inl v_lines_other)), (a_masses, .inr (3, [.ref a_masses_sums, .ref a_masses_weights])), (a_masses_sums, .inl (cJ, 10, .inr (.inl R_3.1))), (a_masses_weights, .inl (cJ, 10, .inr (.inl R_3.2.1))), (a_row, .inl (cI, 3, .inl R_3.2.2.1))] hC (As := [.int (0 : Int32), .int p1]) (c_X4_evensOut_L3 l D cI cJ cQ a_this a_crowd a_lines a_lines_lesser a_lines_other a_masses a_masses_sums a_masses_weights a_row v_crowdSize v_crowd v_lines_size v_lines_lesser v_lines_other v_masses_sums v_masses_weights v_row (0 : Int32) p1 R_3 h_R_3) rfl rfl gX4_finds_X4_evensOut rfl ⟨rfl, rfl⟩ hd_X4_evensOut ⟨Nat.le_of_ble_eq_true rfl, Nat.le_of_ble_eq_true rfl⟩ rfl rfl rfl rfl rfl rfl (Nat.le_of_ble_eq_true rfl) ⟨Nat.le_of_ble_eq_true rfl, Nat.le_of_ble_eq_true rfl⟩ dX4_finds_12 rfl ?_
      refine x_if_eq 22 18 hC dX4_finds_15 (by decide) rfl (fun c_4 => ?_) (fun c_4 => ?_)
      · have hf := if_t hf c_4
        refine x_iconst 23 hC (0 : Int32) dX4_finds_22 rfl (by decide) ?_
        cases hf
        exact x_zret hC rfl dX4_finds_23 hQ rfl rfl
      · have hf := if_f hf c_4
        refine x_iconst 19 hC (1 : Int32) dX4_finds_18 rfl (by decide) ?_
        refine x_goto 23 hC dX4_finds_19 (by decide) ?_
        cases hf
        exact x_zret hC rfl dX4_finds_23 hQ rfl rfl

theorem hd_X7_fewest : yX7_fewest.cls = RX7 ∧ yX7_fewest.cls ≠ "java/lang/invoke/MethodHandle" ∧ yX7_fewest.cls ≠ "java/lang/invoke/VarHandle" ∧ (parseMethodDescriptor yX7_fewest.desc).map (fun d => d.parameters.length) = some 1 := by decide +kernel
theorem in_X7_fewest_X7 : ∀ w ∈ u_ws RX7 TX7 6, w ∈ wsX7_fewest := fun w h => List.mem_cons_of_mem _ (List.mem_append_left _ (List.mem_append_left _ (List.mem_append_left _ (List.mem_append_left _ (List.mem_append_right _ h)))))
theorem in_X7_fewest_X4 : ∀ w ∈ u_ws RX4 TX4 5, w ∈ wsX7_fewest := fun w h => List.mem_cons_of_mem _ (List.mem_append_left _ (List.mem_append_left _ (List.mem_append_left _ (List.mem_append_right _ h))))
noncomputable def f_X7_fewest_c39 (a_open : Nat) (v_now_members : Int32) (v_now_here : Int32) (v_now_joined : Nat → Int32) (v_now_masses_sums : Nat → Int64) (v_now_masses_weights : Nat → Int64) : Nat → Int32 → Int32 → (Nat → Int32) → (Nat → Int32) → (Nat → Int32) → Int32 → (Nat → Int32) → (Nat → Int64) → (Nat → Int64) → (Nat → Int32) → Int32 → Int32 → Option (Int32 × Int32 × (Nat → Int32) × (Nat → Int32) × (Nat → Int32) × Int32 × (Nat → Int32) × (Nat → Int64) × (Nat → Int64) × (Nat → Int32) × Value × Int32)
  | 0, _, _, _, _, _, _, _, _, _, _, _, _ => none
  | n + 1, k39_plannedTalks, k39_open_size, k39_open_lesser, k39_open_other, k39_planned, k39_search_crowdSize, k39_search_crowd, k39_search_masses_sums, k39_search_masses_weights, k39_search_row, k39_l1, k39_l2 => if k39_l1 < k39_l2 then (some (k39_plannedTalks, k39_open_size, k39_open_lesser, k39_open_other, k39_planned, k39_search_crowdSize, k39_search_crowd, k39_search_masses_sums, k39_search_masses_weights, k39_search_row, (.ref a_open), (-4 : Int32))) else (bd (f_X4_finds k39_search_crowdSize k39_search_crowd k39_open_size k39_open_lesser k39_open_other k39_search_masses_sums k39_search_masses_weights k39_search_row k39_l2) fun R_2 => if R_2.2.2.2 = 0 then (nm (k39_l2 + (1 : Int32)) fun x_4 => (fun k39_plannedTalks k39_open_size k39_open_lesser k39_open_other k39_planned k39_search_crowdSize k39_search_crowd k39_search_masses_sums k39_search_masses_weights k39_search_row k39_l1 k39_l2 => f_X7_fewest_c39 a_open v_now_members v_now_here v_now_joined v_now_masses_sums v_now_masses_weights n k39_plannedTalks k39_open_size k39_open_lesser k39_open_other k39_planned k39_search_crowdSize k39_search_crowd k39_search_masses_sums k39_search_masses_weights k39_search_row k39_l1 k39_l2) k39_plannedTalks k39_open_size k39_open_lesser k39_open_other k39_planned k39_search_crowdSize k39_search_crowd R_2.1 R_2.2.1 R_2.2.2.1 k39_l1 x_4) else (ckp (¬ (0 : Int32) < 0 ∧ ¬ (0 : Int32) < 0 ∧ ¬ k39_l2 < 0 ∧ (0 : Int32).toNatClampNeg + k39_l2.toNatClampNeg ≤ 3 ∧ (0 : Int32).toNatClampNeg + k39_l2.toNatClampNeg ≤ 3) (Classical.propDecidable _) <| nm (va_cpy R_2.2.2.1 k39_planned (0 : Int32).toNatClampNeg (0 : Int32).toNatClampNeg k39_l2.toNatClampNeg) fun g_6 => some (k39_l2, k39_open_size, k39_open_lesser, k39_open_other, g_6, k39_search_crowdSize, k39_search_crowd, R_2.1, R_2.2.1, R_2.2.2.1, (.ref a_open), k39_l2)))
noncomputable def f_X7_fewest (a_open : Nat) (v_now_members : Int32) (v_now_here : Int32) (v_now_joined : Nat → Int32) (v_now_masses_sums : Nat → Int64) (v_now_masses_weights : Nat → Int64) (v_plannedTalks : Int32) (v_open_size : Int32) (v_open_lesser : Nat → Int32) (v_open_other : Nat → Int32) (v_planned : Nat → Int32) (v_search_crowdSize : Int32) (v_search_crowd : Nat → Int32) (v_search_masses_sums : Nat → Int64) (v_search_masses_weights : Nat → Int64) (v_search_row : Nat → Int32) (v_search_lines : Value) (p1 : Int32) : Option (Int32 × Int32 × (Nat → Int32) × (Nat → Int32) × (Nat → Int32) × Int32 × (Nat → Int32) × (Nat → Int64) × (Nat → Int64) × (Nat → Int32) × Value × Int32) := if p1 < 0 then (some (v_plannedTalks, v_open_size, v_open_lesser, v_open_other, v_planned, v_search_crowdSize, v_search_crowd, v_search_masses_sums, v_search_masses_weights, v_search_row, v_search_lines, (-1 : Int32))) else (if p1 ≤ (3 : Int32) then (bd (f_X2_listOf v_now_members v_now_here v_now_joined v_open_size v_open_lesser v_open_other) fun R_9 => bd (f_X4_start v_now_members v_now_here v_now_masses_sums v_now_masses_weights v_search_crowdSize v_search_crowd v_search_masses_sums v_search_masses_weights) fun R_10 => f_X7_fewest_c39 a_open v_now_members v_now_here v_now_joined v_now_masses_sums v_now_masses_weights fu v_plannedTalks R_9.1 R_9.2.1 R_9.2.2 v_planned R_10.1 R_10.2.1 R_10.2.2.1 R_10.2.2.2 v_search_row p1 (0 : Int32)) else (some (v_plannedTalks, v_open_size, v_open_lesser, v_open_other, v_planned, v_search_crowdSize, v_search_crowd, v_search_masses_sums, v_search_masses_weights, v_search_row, v_search_lines, (-1 : Int32))))
set_option maxHeartbeats 4000000 in
set_option maxRecDepth 100000 in
theorem c_X7_fewest (l : Launch) (D : va_G) (cI cJ cQ : ClassId) (a_this : Nat) (a_now : Nat) (a_now_joined : Nat) (a_now_masses : Nat) (a_now_masses_sums : Nat) (a_now_masses_weights : Nat) (a_open : Nat) (a_open_lesser : Nat) (a_open_other : Nat) (a_planned : Nat) (a_search : Nat) (a_search_crowd : Nat) (a_search_masses : Nat) (a_search_masses_sums : Nat) (a_search_masses_weights : Nat) (a_search_row : Nat) (r_history : Value) (r_now_values : Value) (r_now_greatest : Value) (r_now_least : Value) (r_now_heard : Value) (r_now_tickets : Value) (r_now_books : Value) (r_now_owed : Value) (r_now_letters : Value) (v_plannedTalks : Int32) (v_now_members : Int32) (v_now_here : Int32) (v_now_seed : Int32) (v_now_talks : Int32) (v_now_joined : Nat → Int32) (v_now_masses_sums : Nat → Int64) (v_now_masses_weights : Nat → Int64) (v_open_size : Int32) (v_open_lesser : Nat → Int32) (v_open_other : Nat → Int32) (v_planned : Nat → Int32) (v_search_crowdSize : Int32) (v_search_crowd : Nat → Int32) (v_search_masses_sums : Nat → Int64) (v_search_masses_weights : Nat → Int64) (v_search_row : Nat → Int32) (v_search_lines : Value) (p1 : Int32) (R0 : Int32 × Int32 × (Nat → Int32) × (Nat → Int32) × (Nat → Int32) × Int32 × (Nat → Int32) × (Nat → Int64) × (Nat → Int64) × (Nat → Int32) × Value × Int32) (hf : f_X7_fewest a_open v_now_members v_now_here v_now_joined v_now_masses_sums v_now_masses_weights v_plannedTalks v_open_size v_open_lesser v_open_other v_planned v_search_crowdSize v_search_crowd v_search_masses_sums v_search_masses_weights v_search_row v_search_lines p1 = some R0) : Ci l yX7_fewest wsX7_fewest ({ frames := 12, cells := 0, slots := 0, locals := 366 } : Room) D [(cI, .int), (cJ, .long), (cQ, .object "WhisperCrowd$State")] [.ref a_this, .int p1] [(a_this, .inr (7, [.ref a_now, r_history, .ref a_open, .ref a_search, .ref a_planned, .int v_plannedTalks])), (a_now, .inr (5, [.int v_now_members, .int v_now_here, .int v_now_seed, .int v_now_talks, r_now_values, r_now_greatest, r_now_least, r_now_heard, .ref a_now_joined, r_now_tickets, .ref a_now_masses, r_now_books, r_now_owed, r_now_letters])), (a_now_joined, .inl (cI, 10, .inl v_now_joined)), (a_now_masses, .inr (3, [.ref a_now_masses_sums, .ref a_now_masses_weights])), (a_now_masses_sums, .inl (cJ, 10, .inr (.inl v_now_masses_sums))), (a_now_masses_weights, .inl (cJ, 10, .inr (.inl v_now_masses_weights))), (a_open, .inr (2, [.ref a_open_lesser, .ref a_open_other, .int v_open_size])), (a_open_lesser, .inl (cI, 45, .inl v_open_lesser)), (a_open_other, .inl (cI, 45, .inl v_open_other)), (a_planned, .inl (cI, 3, .inl v_planned)), (a_search, .inr (4, [.ref a_search_masses, .ref a_search_crowd, .ref a_search_row, .int v_search_crowdSize, v_search_lines])), (a_search_crowd, .inl (cI, 10, .inl v_search_crowd)), (a_search_masses, .inr (3, [.ref a_search_masses_sums, .ref a_search_masses_weights])), (a_search_masses_sums, .inl (cJ, 10, .inr (.inl v_search_masses_sums))), (a_search_masses_weights, .inl (cJ, 10, .inr (.inl v_search_masses_weights))), (a_search_row, .inl (cI, 3, .inl v_search_row))] [(a_this, .inr (7, [.ref a_now, r_history, .ref a_open, .ref a_search, .ref a_planned, .int R0.1])), (a_now, .inr (5, [.int v_now_members, .int v_now_here, .int v_now_seed, .int v_now_talks, r_now_values, r_now_greatest, r_now_least, r_now_heard, .ref a_now_joined, r_now_tickets, .ref a_now_masses, r_now_books, r_now_owed, r_now_letters])), (a_now_joined, .inl (cI, 10, .inl v_now_joined)), (a_now_masses, .inr (3, [.ref a_now_masses_sums, .ref a_now_masses_weights])), (a_now_masses_sums, .inl (cJ, 10, .inr (.inl v_now_masses_sums))), (a_now_masses_weights, .inl (cJ, 10, .inr (.inl v_now_masses_weights))), (a_open, .inr (2, [.ref a_open_lesser, .ref a_open_other, .int R0.2.1])), (a_open_lesser, .inl (cI, 45, .inl R0.2.2.1)), (a_open_other, .inl (cI, 45, .inl R0.2.2.2.1)), (a_planned, .inl (cI, 3, .inl R0.2.2.2.2.1)), (a_search, .inr (4, [.ref a_search_masses, .ref a_search_crowd, .ref a_search_row, .int R0.2.2.2.2.2.1, R0.2.2.2.2.2.2.2.2.2.2.1])), (a_search_crowd, .inl (cI, 10, .inl R0.2.2.2.2.2.2.1)), (a_search_masses, .inr (3, [.ref a_search_masses_sums, .ref a_search_masses_weights])), (a_search_masses_sums, .inl (cJ, 10, .inr (.inl R0.2.2.2.2.2.2.2.1))), (a_search_masses_weights, .inl (cJ, 10, .inr (.inl R0.2.2.2.2.2.2.2.2.1))), (a_search_row, .inl (cI, 3, .inl R0.2.2.2.2.2.2.2.2.2.1))] R0.2.2.2.2.2.2.2.2.2.2.2 := by
  refine x_enti (cc := cX7_fewest) (maxL := 3) (rt := (some .int)) (lv := [(0, .ref a_this), (1, .int p1)]) (by decide) rfl (Nat.le_of_ble_eq_true rfl) rfl ?_
  intro p e s m args below meth c A Q hQ hC
  have J_39 : ∀ (n : Nat) (k39_plannedTalks : Int32) (k39_open_size : Int32) (k39_open_lesser : Nat → Int32) (k39_open_other : Nat → Int32) (k39_planned : Nat → Int32) (k39_search_crowdSize : Int32) (k39_search_crowd : Nat → Int32) (k39_search_masses_sums : Nat → Int64) (k39_search_masses_weights : Nat → Int64) (k39_search_row : Nat → Int32) (k39_l1 : Int32) (k39_l2 : Int32), f_X7_fewest_c39 a_open v_now_members v_now_here v_now_joined v_now_masses_sums v_now_masses_weights n k39_plannedTalks k39_open_size k39_open_lesser k39_open_other k39_planned k39_search_crowdSize k39_search_crowd k39_search_masses_sums k39_search_masses_weights k39_search_row k39_l1 k39_l2 = some R0 → XW p l e ({ frames := 12, cells := 0, slots := 0, locals := 366 } : Room) s m args below meth c D A 3 0 0 Q [(a_this, .inr (7, [.ref a_now, r_history, .ref a_open, .ref a_search, .ref a_planned, .int k39_plannedTalks])), (a_now, .inr (5, [.int v_now_members, .int v_now_here, .int v_now_seed, .int v_now_talks, r_now_values, r_now_greatest, r_now_least, r_now_heard, .ref a_now_joined, r_now_tickets, .ref a_now_masses, r_now_books, r_now_owed, r_now_letters])), (a_now_joined, .inl (cI, 10, .inl v_now_joined)), (a_now_masses, .inr (3, [.ref a_now_masses_sums, .ref a_now_masses_weights])), (a_now_masses_sums, .inl (cJ, 10, .inr (.inl v_now_masses_sums))), (a_now_masses_weights, .inl (cJ, 10, .inr (.inl v_now_masses_weights))), (a_open, .inr (2, [.ref a_open_lesser, .ref a_open_other, .int k39_open_size])), (a_open_lesser, .inl (cI, 45, .inl k39_open_lesser)), (a_open_other, .inl (cI, 45, .inl k39_open_other)), (a_planned, .inl (cI, 3, .inl k39_planned)), (a_search, .inr (4, [.ref a_search_masses, .ref a_search_crowd, .ref a_search_row, .int k39_search_crowdSize, (.ref a_open)])), (a_search_crowd, .inl (cI, 10, .inl k39_search_crowd)), (a_search_masses, .inr (3, [.ref a_search_masses_sums, .ref a_search_masses_weights])), (a_search_masses_sums, .inl (cJ, 10, .inr (.inl k39_search_masses_sums))), (a_search_masses_weights, .inl (cJ, 10, .inr (.inl k39_search_masses_weights))), (a_search_row, .inl (cI, 3, .inl k39_search_row))] [] [(0, .ref a_this), (1, .int k39_l1), (2, .int k39_l2)] 39 [] := by
    intro n
    induction n with
    | zero => intro k39_plannedTalks k39_open_size k39_open_lesser k39_open_other k39_planned k39_search_crowdSize k39_search_crowd k39_search_masses_sums k39_search_masses_weights k39_search_row k39_l1 k39_l2 hf; exact nomatch (show (none : Option (Int32 × Int32 × (Nat → Int32) × (Nat → Int32) × (Nat → Int32) × Int32 × (Nat → Int32) × (Nat → Int64) × (Nat → Int64) × (Nat → Int32) × Value × Int32)) = some R0 from hf)
    | succ n_39 ih_39 =>
      intro k39_plannedTalks k39_open_size k39_open_lesser k39_open_other k39_planned k39_search_crowdSize k39_search_crowd k39_search_masses_sums k39_search_masses_weights k39_search_row k39_l1 k39_l2 hf
      unfold f_X7_fewest_c39 at hf
      refine x_iload_n 40 2 hC dX7_fewest_39 rfl rfl rfl ?_
      refine x_iload_n 41 1 hC dX7_fewest_40 rfl rfl rfl ?_
      refine x_icmp_gt 85 44 hC dX7_fewest_41 (by decide) rfl (fun c_1 => ?_) (fun c_1 => ?_)
      · have hf := if_t hf c_1
        refine x_bipush 87 hC (-4 : Int32) dX7_fewest_85 rfl (by decide) ?_
        cases hf
        exact x_iret hC dX7_fewest_87 hQ rfl rfl
      · have hf := if_f hf c_1
        refine x_aload_n 45 0 hC dX7_fewest_44 rfl rfl rfl ?_
        refine x_get 48 0 3 hC in_X7_fewest_X7 rfl rfl (by decide) (List.mem_of_getElem? (i := 3) (by decide +kernel)) rfl rfl dX7_fewest_45 rfl ?_
        refine x_iload_n 49 2 hC dX7_fewest_48 rfl rfl rfl ?_
        obtain ⟨R_2, h_R_2, hf⟩ := bd_e hf
        refine x_callVi 52 0 1 [10, 11, 6, 7, 8, 12, 13, 14, 15] [(a_this, .inr (7, [.ref a_now, r_history, .ref a_open, .ref a_search, .ref a_planned, .int k39_plannedTalks])), (a_now, .inr (5, [.int v_now_members, .int v_now_here, .int v_now_seed, .int v_now_talks, r_now_values, r_now_greatest, r_now_least, r_now_heard, .ref a_now_joined, r_now_tickets, .ref a_now_masses, r_now_books, r_now_owed, r_now_letters])), (a_now_joined, .inl (cI, 10, .inl v_now_joined)), (a_now_masses, .inr (3, [.ref a_now_masses_sums, .ref a_now_masses_weights])), (a_now_masses_sums, .inl (cJ, 10, .inr (.inl v_now_masses_sums))), (a_now_masses_weights, .inl (cJ, 10, .inr (.inl v_now_masses_weights))), (a_open, .inr (2, [.ref a_open_lesser, .ref a_open_other, .int k39_open_size])), (a_open_lesser, .inl (cI, 45, .inl k39_open_lesser)), (a_open_other, .inl (cI, 45, .inl k39_open_other)), (a_planned, .inl (cI, 3, .inl k39_planned)), (a_search, .inr (4, [.ref a_search_masses, .ref a_search_crowd, .ref a_search_row, .int k39_search_crowdSize, (.ref a_open)])), (a_search_crowd, .inl (cI, 10, .inl k39_search_crowd)), (a_search_masses, .inr (3, [.ref a_search_masses_sums, .ref a_search_masses_weights])), (a_search_masses_sums, .inl (cJ, 10, .inr (.inl R_2.1))), (a_search_masses_weights, .inl (cJ, 10, .inr (.inl R_2.2.1))), (a_search_row, .inl (cI, 3, .inl R_2.2.2.1))] hC (As := [.int k39_l2]) (c_X4_finds l D cI cJ cQ a_search a_search_crowd a_open a_open_lesser a_open_other a_search_masses a_search_masses_sums a_search_masses_weights a_search_row k39_search_crowdSize k39_search_crowd k39_open_size k39_open_lesser k39_open_other k39_search_masses_sums k39_search_masses_weights k39_search_row k39_l2 R_2 h_R_2) rfl rfl gX7_fewest_X4_finds rfl ⟨rfl, rfl⟩ hd_X4_finds ⟨Nat.le_of_ble_eq_true rfl, Nat.le_of_ble_eq_true rfl⟩ rfl rfl rfl rfl rfl rfl (Nat.le_of_ble_eq_true rfl) ⟨Nat.le_of_ble_eq_true rfl, Nat.le_of_ble_eq_true rfl⟩ dX7_fewest_49 rfl ?_
        refine x_if_eq 79 55 hC dX7_fewest_52 (by decide) rfl (fun c_3 => ?_) (fun c_3 => ?_)
        · have hf := if_t hf c_3
          obtain ⟨x_4, e_x_4, hf⟩ := nmx_e hf
          refine x_iinc 82 2 [(2, .int x_4), (0, .ref a_this), (1, .int k39_l1)] hC dX7_fewest_79 rfl rfl e_x_4 (by decide) (by decide) rfl ?_
          refine x_goto 39 hC dX7_fewest_82 (by decide) ?_
          refine x_lv [(0, .ref a_this), (1, .int k39_l1), (2, .int x_4)] [1, 2, 0] rfl ?_
          exact ih_39 k39_plannedTalks k39_open_size k39_open_lesser k39_open_other k39_planned k39_search_crowdSize k39_search_crowd R_2.1 R_2.2.1 R_2.2.2.1 k39_l1 x_4 hf
        · have hf := if_f hf c_3
          refine x_aload_n 56 0 hC dX7_fewest_55 rfl rfl rfl ?_
          refine x_get 59 0 3 hC in_X7_fewest_X7 rfl rfl (by decide) (List.mem_of_getElem? (i := 3) (by decide +kernel)) rfl rfl dX7_fewest_56 rfl ?_
          refine x_get 62 10 2 hC in_X7_fewest_X4 rfl rfl (by decide) (List.mem_of_getElem? (i := 4) (by decide +kernel)) rfl rfl dX7_fewest_59 rfl ?_
          refine x_iconst 63 hC (0 : Int32) dX7_fewest_62 rfl (by decide) ?_
          refine x_aload_n 64 0 hC dX7_fewest_63 rfl rfl rfl ?_
          refine x_get 67 0 4 hC in_X7_fewest_X7 rfl rfl (by decide) (List.mem_of_getElem? (i := 5) (by decide +kernel)) rfl rfl dX7_fewest_64 rfl ?_
          refine x_iconst 68 hC (0 : Int32) dX7_fewest_67 rfl (by decide) ?_
          refine x_iload_n 69 2 hC dX7_fewest_68 rfl rfl rfl ?_
          obtain ⟨h_5, hf⟩ := ckp_e hf
          obtain ⟨g_6, e_g_6, hf⟩ := nmx_e hf
          refine x_copyi 72 15 9 0 [(a_this, .inr (7, [.ref a_now, r_history, .ref a_open, .ref a_search, .ref a_planned, .int k39_plannedTalks])), (a_now, .inr (5, [.int v_now_members, .int v_now_here, .int v_now_seed, .int v_now_talks, r_now_values, r_now_greatest, r_now_least, r_now_heard, .ref a_now_joined, r_now_tickets, .ref a_now_masses, r_now_books, r_now_owed, r_now_letters])), (a_now_joined, .inl (cI, 10, .inl v_now_joined)), (a_now_masses, .inr (3, [.ref a_now_masses_sums, .ref a_now_masses_weights])), (a_now_masses_sums, .inl (cJ, 10, .inr (.inl v_now_masses_sums))), (a_now_masses_weights, .inl (cJ, 10, .inr (.inl v_now_masses_weights))), (a_open, .inr (2, [.ref a_open_lesser, .ref a_open_other, .int k39_open_size])), (a_open_lesser, .inl (cI, 45, .inl k39_open_lesser)), (a_open_other, .inl (cI, 45, .inl k39_open_other)), (a_planned, .inl (cI, 3, .inl g_6)), (a_search, .inr (4, [.ref a_search_masses, .ref a_search_crowd, .ref a_search_row, .int k39_search_crowdSize, (.ref a_open)])), (a_search_crowd, .inl (cI, 10, .inl k39_search_crowd)), (a_search_masses, .inr (3, [.ref a_search_masses_sums, .ref a_search_masses_weights])), (a_search_masses_sums, .inl (cJ, 10, .inr (.inl R_2.1))), (a_search_masses_weights, .inl (cJ, 10, .inr (.inl R_2.2.1))), (a_search_row, .inl (cI, 3, .inl R_2.2.2.1))] hC (List.mem_of_getElem? (i := 6) (by decide +kernel)) (List.mem_of_getElem? (i := 7) (by decide +kernel)) (List.mem_of_getElem? (i := 8) (by decide +kernel)) (List.mem_of_getElem? (i := 9) (by decide +kernel)) rfl rfl rfl h_5 e_g_6 rfl (Nat.le_of_ble_eq_true rfl) (by decide) dX7_fewest_69 rfl ?_
          refine x_aload_n 73 0 hC dX7_fewest_72 rfl rfl rfl ?_
          refine x_iload_n 74 2 hC dX7_fewest_73 rfl rfl rfl ?_
          refine x_put 77 0 5 [(a_this, .inr (7, [.ref a_now, r_history, .ref a_open, .ref a_search, .ref a_planned, .int k39_l2])), (a_now, .inr (5, [.int v_now_members, .int v_now_here, .int v_now_seed, .int v_now_talks, r_now_values, r_now_greatest, r_now_least, r_now_heard, .ref a_now_joined, r_now_tickets, .ref a_now_masses, r_now_books, r_now_owed, r_now_letters])), (a_now_joined, .inl (cI, 10, .inl v_now_joined)), (a_now_masses, .inr (3, [.ref a_now_masses_sums, .ref a_now_masses_weights])), (a_now_masses_sums, .inl (cJ, 10, .inr (.inl v_now_masses_sums))), (a_now_masses_weights, .inl (cJ, 10, .inr (.inl v_now_masses_weights))), (a_open, .inr (2, [.ref a_open_lesser, .ref a_open_other, .int k39_open_size])), (a_open_lesser, .inl (cI, 45, .inl k39_open_lesser)), (a_open_other, .inl (cI, 45, .inl k39_open_other)), (a_planned, .inl (cI, 3, .inl g_6)), (a_search, .inr (4, [.ref a_search_masses, .ref a_search_crowd, .ref a_search_row, .int k39_search_crowdSize, (.ref a_open)])), (a_search_crowd, .inl (cI, 10, .inl k39_search_crowd)), (a_search_masses, .inr (3, [.ref a_search_masses_sums, .ref a_search_masses_weights])), (a_search_masses_sums, .inl (cJ, 10, .inr (.inl R_2.1))), (a_search_masses_weights, .inl (cJ, 10, .inr (.inl R_2.2.1))), (a_search_row, .inl (cI, 3, .inl R_2.2.2.1))] hC in_X7_fewest_X7 tyX7_ok nmX7 rfl rfl (by decide) (List.mem_of_getElem? (i := 10) (by decide +kernel)) rfl rfl rfl rfl rfl rfl (Nat.le_of_ble_eq_true rfl) rfl dX7_fewest_74 rfl ?_
          refine x_iload_n 78 2 hC dX7_fewest_77 rfl rfl rfl ?_
          cases hf
          exact x_iret hC dX7_fewest_78 hQ rfl rfl
  unfold f_X7_fewest at hf
  refine x_iload_n 1 1 hC dX7_fewest_0 rfl rfl rfl ?_
  refine x_if_lt 9 4 hC dX7_fewest_1 (by decide) rfl (fun c_7 => ?_) (fun c_7 => ?_)
  · have hf := if_t hf c_7
    refine x_iconst 10 hC (-1 : Int32) dX7_fewest_9 rfl (by decide) ?_
    cases hf
    exact x_iret hC dX7_fewest_10 hQ rfl rfl
  · have hf := if_f hf c_7
    refine x_iload_n 5 1 hC dX7_fewest_4 rfl rfl rfl ?_
    refine x_iconst 6 hC (3 : Int32) dX7_fewest_5 rfl (by decide) ?_
    refine x_icmp_le 11 9 hC dX7_fewest_6 (by decide) rfl (fun c_8 => ?_) (fun c_8 => ?_)
    · have hf := if_t hf c_8
      refine x_aload_n 12 0 hC dX7_fewest_11 rfl rfl rfl ?_
      refine x_get 15 0 2 hC in_X7_fewest_X7 rfl rfl (by decide) (List.mem_of_getElem? (i := 1) (by decide +kernel)) rfl rfl dX7_fewest_12 rfl ?_
      refine x_aload_n 16 0 hC dX7_fewest_15 rfl rfl rfl ?_
      refine x_get 19 0 0 hC in_X7_fewest_X7 rfl rfl (by decide) (List.mem_of_getElem? (i := 2) (by decide +kernel)) rfl rfl dX7_fewest_16 rfl ?_
      obtain ⟨R_9, h_R_9, hf⟩ := bd_e hf
      refine x_callVv 22 2 1 [1, 2, 6, 7, 8] [(a_this, .inr (7, [.ref a_now, r_history, .ref a_open, .ref a_search, .ref a_planned, .int v_plannedTalks])), (a_now, .inr (5, [.int v_now_members, .int v_now_here, .int v_now_seed, .int v_now_talks, r_now_values, r_now_greatest, r_now_least, r_now_heard, .ref a_now_joined, r_now_tickets, .ref a_now_masses, r_now_books, r_now_owed, r_now_letters])), (a_now_joined, .inl (cI, 10, .inl v_now_joined)), (a_now_masses, .inr (3, [.ref a_now_masses_sums, .ref a_now_masses_weights])), (a_now_masses_sums, .inl (cJ, 10, .inr (.inl v_now_masses_sums))), (a_now_masses_weights, .inl (cJ, 10, .inr (.inl v_now_masses_weights))), (a_open, .inr (2, [.ref a_open_lesser, .ref a_open_other, .int R_9.1])), (a_open_lesser, .inl (cI, 45, .inl R_9.2.1)), (a_open_other, .inl (cI, 45, .inl R_9.2.2)), (a_planned, .inl (cI, 3, .inl v_planned)), (a_search, .inr (4, [.ref a_search_masses, .ref a_search_crowd, .ref a_search_row, .int v_search_crowdSize, v_search_lines])), (a_search_crowd, .inl (cI, 10, .inl v_search_crowd)), (a_search_masses, .inr (3, [.ref a_search_masses_sums, .ref a_search_masses_weights])), (a_search_masses_sums, .inl (cJ, 10, .inr (.inl v_search_masses_sums))), (a_search_masses_weights, .inl (cJ, 10, .inr (.inl v_search_masses_weights))), (a_search_row, .inl (cI, 3, .inl v_search_row))] hC (As := [.ref a_now]) (c_X2_listOf l D cI cJ cQ a_now a_now_joined a_open a_open_lesser a_open_other r_now_values r_now_greatest r_now_least r_now_heard r_now_tickets (.ref a_now_masses) r_now_books r_now_owed r_now_letters v_now_members v_now_here v_now_seed v_now_talks v_now_joined v_open_size v_open_lesser v_open_other R_9 h_R_9) rfl rfl gX7_fewest_X2_listOf rfl ⟨rfl, rfl⟩ hd_X2_listOf ⟨Nat.le_of_ble_eq_true rfl, Nat.le_of_ble_eq_true rfl⟩ rfl rfl rfl rfl rfl rfl (Nat.le_of_ble_eq_true rfl) ⟨Nat.le_of_ble_eq_true rfl, Nat.le_of_ble_eq_true rfl⟩ dX7_fewest_19 rfl ?_
      refine x_aload_n 23 0 hC dX7_fewest_22 rfl rfl rfl ?_
      refine x_get 26 0 3 hC in_X7_fewest_X7 rfl rfl (by decide) (List.mem_of_getElem? (i := 3) (by decide +kernel)) rfl rfl dX7_fewest_23 rfl ?_
      refine x_aload_n 27 0 hC dX7_fewest_26 rfl rfl rfl ?_
      refine x_get 30 0 0 hC in_X7_fewest_X7 rfl rfl (by decide) (List.mem_of_getElem? (i := 2) (by decide +kernel)) rfl rfl dX7_fewest_27 rfl ?_
      refine x_aload_n 31 0 hC dX7_fewest_30 rfl rfl rfl ?_
      refine x_get 34 0 2 hC in_X7_fewest_X7 rfl rfl (by decide) (List.mem_of_getElem? (i := 1) (by decide +kernel)) rfl rfl dX7_fewest_31 rfl ?_
      obtain ⟨R_10, h_R_10, hf⟩ := bd_e hf
      refine x_callVv 37 5 2 [1, 3, 4, 5, 6, 10, 11, 12, 13, 14] [(a_this, .inr (7, [.ref a_now, r_history, .ref a_open, .ref a_search, .ref a_planned, .int v_plannedTalks])), (a_now, .inr (5, [.int v_now_members, .int v_now_here, .int v_now_seed, .int v_now_talks, r_now_values, r_now_greatest, r_now_least, r_now_heard, .ref a_now_joined, r_now_tickets, .ref a_now_masses, r_now_books, r_now_owed, r_now_letters])), (a_now_joined, .inl (cI, 10, .inl v_now_joined)), (a_now_masses, .inr (3, [.ref a_now_masses_sums, .ref a_now_masses_weights])), (a_now_masses_sums, .inl (cJ, 10, .inr (.inl v_now_masses_sums))), (a_now_masses_weights, .inl (cJ, 10, .inr (.inl v_now_masses_weights))), (a_open, .inr (2, [.ref a_open_lesser, .ref a_open_other, .int R_9.1])), (a_open_lesser, .inl (cI, 45, .inl R_9.2.1)), (a_open_other, .inl (cI, 45, .inl R_9.2.2)), (a_planned, .inl (cI, 3, .inl v_planned)), (a_search, .inr (4, [.ref a_search_masses, .ref a_search_crowd, .ref a_search_row, .int R_10.1, (.ref a_open)])), (a_search_crowd, .inl (cI, 10, .inl R_10.2.1)), (a_search_masses, .inr (3, [.ref a_search_masses_sums, .ref a_search_masses_weights])), (a_search_masses_sums, .inl (cJ, 10, .inr (.inl R_10.2.2.1))), (a_search_masses_weights, .inl (cJ, 10, .inr (.inl R_10.2.2.2))), (a_search_row, .inl (cI, 3, .inl v_search_row))] hC (As := [.ref a_now, .ref a_open]) (c_X4_start l D cI cJ cQ a_now a_now_masses a_now_masses_sums a_now_masses_weights a_open a_search a_search_crowd a_search_masses a_search_masses_sums a_search_masses_weights r_now_values r_now_greatest r_now_least r_now_heard (.ref a_now_joined) r_now_tickets r_now_books r_now_owed r_now_letters (.ref a_open_lesser) (.ref a_open_other) (.ref a_search_row) v_search_lines v_now_members v_now_here v_now_seed v_now_talks v_now_masses_sums v_now_masses_weights R_9.1 v_search_crowdSize v_search_crowd v_search_masses_sums v_search_masses_weights R_10 h_R_10) rfl rfl gX7_fewest_X4_start rfl ⟨rfl, rfl⟩ hd_X4_start ⟨Nat.le_of_ble_eq_true rfl, Nat.le_of_ble_eq_true rfl⟩ rfl rfl rfl rfl rfl rfl (Nat.le_of_ble_eq_true rfl) ⟨Nat.le_of_ble_eq_true rfl, Nat.le_of_ble_eq_true rfl⟩ dX7_fewest_34 rfl ?_
      refine x_iconst 38 hC (0 : Int32) dX7_fewest_37 rfl (by decide) ?_
      refine x_istore_n 39 [(2, .int (0 : Int32)), (0, .ref a_this), (1, .int p1)] hC dX7_fewest_38 rfl rfl rfl (by decide) rfl ?_
      refine x_lv [(0, .ref a_this), (1, .int p1), (2, .int (0 : Int32))] [1, 2, 0] rfl ?_
      exact J_39 fu v_plannedTalks R_9.1 R_9.2.1 R_9.2.2 v_planned R_10.1 R_10.2.1 R_10.2.2.1 R_10.2.2.2 v_search_row p1 (0 : Int32) hf
    · have hf := if_f hf c_8
      refine x_iconst 10 hC (-1 : Int32) dX7_fewest_9 rfl (by decide) ?_
      cases hf
      exact x_iret hC dX7_fewest_10 hQ rfl rfl
