theorem hd_X2_add : yX2_add.cls = RX2 ∧ yX2_add.cls ≠ "java/lang/invoke/MethodHandle" ∧ yX2_add.cls ≠ "java/lang/invoke/VarHandle" ∧ (parseMethodDescriptor yX2_add.desc).map (fun d => d.parameters.length) = some 2 := by decide +kernel
theorem in_X2_add_X2 : ∀ w ∈ u_ws RX2 TX2 3, w ∈ wsX2_add := fun w h => List.mem_cons_of_mem _ (List.mem_append_right _ h)
noncomputable def f_X2_add (v_size : Int32) (v_lesser : Nat → Int32) (v_other : Nat → Int32) (p1 : Int32) (p2 : Int32) : Option (Int32 × (Nat → Int32) × (Nat → Int32)) := if (45 : Int32) ≤ v_size then (some (v_size, v_lesser, v_other)) else (ck v_size 45 <| nm (upd v_lesser v_size.toNatClampNeg p1) fun g_3 => ck v_size 45 <| nm (upd v_other v_size.toNatClampNeg p2) fun g_5 => nm (v_size + (1 : Int32)) fun x_6 => some (x_6, g_3, g_5))
set_option maxHeartbeats 4000000 in
set_option maxRecDepth 100000 in
theorem c_X2_add (l : Launch) (D : va_G) (cI cJ cQ : ClassId) (a_this : Nat) (a_lesser : Nat) (a_other : Nat) (v_size : Int32) (v_lesser : Nat → Int32) (v_other : Nat → Int32) (p1 : Int32) (p2 : Int32) (R0 : Int32 × (Nat → Int32) × (Nat → Int32)) (hf : f_X2_add v_size v_lesser v_other p1 p2 = some R0) : Cv l yX2_add wsX2_add ({ frames := 1, cells := 0, slots := 0, locals := 60 } : Room) D [(cI, .int), (cJ, .long), (cQ, .object "WhisperCrowd$State")] [.ref a_this, .int p1, .int p2] [(a_this, .inr (2, [.ref a_lesser, .ref a_other, .int v_size])), (a_lesser, .inl (cI, 45, .inl v_lesser)), (a_other, .inl (cI, 45, .inl v_other))] [(a_this, .inr (2, [.ref a_lesser, .ref a_other, .int R0.1])), (a_lesser, .inl (cI, 45, .inl R0.2.1)), (a_other, .inl (cI, 45, .inl R0.2.2))] := by
  refine x_entv (cc := cX2_add) (maxL := 3) (rt := none) (lv := [(0, .ref a_this), (1, .int p1), (2, .int p2)]) (by decide) rfl (Nat.le_of_ble_eq_true rfl) rfl ?_
  intro p e s m args below meth c A Q hQ hC
  unfold f_X2_add at hf
  refine x_aload_n 1 0 hC dX2_add_0 rfl rfl rfl ?_
  refine x_get 4 0 2 hC in_X2_add_X2 rfl rfl (by decide) (List.mem_of_getElem? (i := 1) (by decide +kernel)) rfl rfl dX2_add_1 rfl ?_
  refine x_bipush 6 hC (45 : Int32) dX2_add_4 rfl (by decide) ?_
  refine x_icmp_ge 39 9 hC dX2_add_6 (by decide) rfl (fun c_1 => ?_) (fun c_1 => ?_)
  · have hf := if_t hf c_1
    cases hf
    exact x_vret hC dX2_add_39 hQ rfl
  · have hf := if_f hf c_1
    refine x_aload_n 10 0 hC dX2_add_9 rfl rfl rfl ?_
    refine x_get 13 0 0 hC in_X2_add_X2 rfl rfl (by decide) (List.mem_of_getElem? (i := 2) (by decide +kernel)) rfl rfl dX2_add_10 rfl ?_
    refine x_aload_n 14 0 hC dX2_add_13 rfl rfl rfl ?_
    refine x_get 17 0 2 hC in_X2_add_X2 rfl rfl (by decide) (List.mem_of_getElem? (i := 1) (by decide +kernel)) rfl rfl dX2_add_14 rfl ?_
    refine x_iload_n 18 1 hC dX2_add_17 rfl rfl rfl ?_
    obtain ⟨h_2, hf⟩ := ck_e hf
    obtain ⟨g_3, e_g_3, hf⟩ := nmx_e hf
    refine x_iast 19 1 0 [(a_this, .inr (2, [.ref a_lesser, .ref a_other, .int v_size])), (a_lesser, .inl (cI, 45, .inl g_3)), (a_other, .inl (cI, 45, .inl v_other))] hC rfl rfl h_2 e_g_3 rfl dX2_add_18 rfl ?_
    refine x_aload_n 20 0 hC dX2_add_19 rfl rfl rfl ?_
    refine x_get 23 0 1 hC in_X2_add_X2 rfl rfl (by decide) (List.mem_of_getElem? (i := 3) (by decide +kernel)) rfl rfl dX2_add_20 rfl ?_
    refine x_aload_n 24 0 hC dX2_add_23 rfl rfl rfl ?_
    refine x_get 27 0 2 hC in_X2_add_X2 rfl rfl (by decide) (List.mem_of_getElem? (i := 1) (by decide +kernel)) rfl rfl dX2_add_24 rfl ?_
    refine x_iload_n 28 2 hC dX2_add_27 rfl rfl rfl ?_
    obtain ⟨h_4, hf⟩ := ck_e hf
    obtain ⟨g_5, e_g_5, hf⟩ := nmx_e hf
    refine x_iast 29 2 0 [(a_this, .inr (2, [.ref a_lesser, .ref a_other, .int v_size])), (a_lesser, .inl (cI, 45, .inl g_3)), (a_other, .inl (cI, 45, .inl g_5))] hC rfl rfl h_4 e_g_5 rfl dX2_add_28 rfl ?_
    refine x_aload_n 30 0 hC dX2_add_29 rfl rfl rfl ?_
    refine x_dup 31 hC dX2_add_30 rfl rfl ?_
    refine x_get 34 0 2 hC in_X2_add_X2 rfl rfl (by decide) (List.mem_of_getElem? (i := 1) (by decide +kernel)) rfl rfl dX2_add_31 rfl ?_
    refine x_iconst 35 hC (1 : Int32) dX2_add_34 rfl (by decide) ?_
    refine x_iadd 36 hC dX2_add_35 rfl ?_
    obtain ⟨x_6, e_x_6, hf⟩ := nmx_e hf
    refine x_put 39 0 2 [(a_this, .inr (2, [.ref a_lesser, .ref a_other, .int x_6])), (a_lesser, .inl (cI, 45, .inl g_3)), (a_other, .inl (cI, 45, .inl g_5))] hC in_X2_add_X2 tyX2_ok nmX2 rfl rfl (by decide) (List.mem_of_getElem? (i := 1) (by decide +kernel)) rfl rfl rfl (congrArg Value.int e_x_6) rfl rfl (Nat.le_of_ble_eq_true rfl) rfl dX2_add_36 rfl ?_
    cases hf
    exact x_vret hC dX2_add_39 hQ rfl

theorem hd_X2_listOf : yX2_listOf.cls = RX2 ∧ yX2_listOf.cls ≠ "java/lang/invoke/MethodHandle" ∧ yX2_listOf.cls ≠ "java/lang/invoke/VarHandle" ∧ (parseMethodDescriptor yX2_listOf.desc).map (fun d => d.parameters.length) = some 1 := by decide +kernel
theorem in_X2_listOf_X5 : ∀ w ∈ u_ws RX5 TX5 14, w ∈ wsX2_listOf := fun w h => List.mem_cons_of_mem _ (List.mem_append_right _ h)
theorem in_X2_listOf_X2 : ∀ w ∈ u_ws RX2 TX2 3, w ∈ wsX2_listOf := fun w h => List.mem_cons_of_mem _ (List.mem_append_left _ (List.mem_append_right _ h))
noncomputable def f_X2_listOf_c58 (k7 : Int32 → (Nat → Int32) → (Nat → Int32) → Int32 → Option (Int32 × (Nat → Int32) × (Nat → Int32))) (k19 : Int32 → (Nat → Int32) → (Nat → Int32) → Int32 → Int32 → Option (Int32 × (Nat → Int32) × (Nat → Int32))) (v_p1_members : Int32) (v_p1_here : Int32) (v_p1_joined : Nat → Int32) (k58_size : Int32) (k58_lesser : Nat → Int32) (k58_other : Nat → Int32) (k58_l2 : Int32) (k58_l3 : Int32) : Option (Int32 × (Nat → Int32) × (Nat → Int32)) := nm (k58_l3 + (1 : Int32)) fun x_1 => k19 k58_size k58_lesser k58_other k58_l2 x_1
noncomputable def f_X2_listOf_c19 (k7 : Int32 → (Nat → Int32) → (Nat → Int32) → Int32 → Option (Int32 × (Nat → Int32) × (Nat → Int32))) (v_p1_members : Int32) (v_p1_here : Int32) (v_p1_joined : Nat → Int32) : Nat → Int32 → (Nat → Int32) → (Nat → Int32) → Int32 → Int32 → Option (Int32 × (Nat → Int32) × (Nat → Int32))
  | 0, _, _, _, _, _ => none
  | n + 1, k19_size, k19_lesser, k19_other, k19_l2, k19_l3 => if v_p1_members ≤ k19_l3 then (nm (k19_l2 + (1 : Int32)) fun x_3 => k7 k19_size k19_lesser k19_other x_3) else (bd (f_X5_isJoined v_p1_joined k19_l2 k19_l3) fun R_4 => if R_4 = 0 then (f_X2_listOf_c58 k7 (fun k19_size k19_lesser k19_other k19_l2 k19_l3 => f_X2_listOf_c19 k7 v_p1_members v_p1_here v_p1_joined n k19_size k19_lesser k19_other k19_l2 k19_l3) v_p1_members v_p1_here v_p1_joined k19_size k19_lesser k19_other k19_l2 k19_l3) else (bd (f_X5_isHere v_p1_here k19_l2) fun R_6 => if R_6 = 0 then (f_X2_listOf_c58 k7 (fun k19_size k19_lesser k19_other k19_l2 k19_l3 => f_X2_listOf_c19 k7 v_p1_members v_p1_here v_p1_joined n k19_size k19_lesser k19_other k19_l2 k19_l3) v_p1_members v_p1_here v_p1_joined k19_size k19_lesser k19_other k19_l2 k19_l3) else (bd (f_X5_isHere v_p1_here k19_l3) fun R_8 => if R_8 = 0 then (f_X2_listOf_c58 k7 (fun k19_size k19_lesser k19_other k19_l2 k19_l3 => f_X2_listOf_c19 k7 v_p1_members v_p1_here v_p1_joined n k19_size k19_lesser k19_other k19_l2 k19_l3) v_p1_members v_p1_here v_p1_joined k19_size k19_lesser k19_other k19_l2 k19_l3) else (bd (f_X2_add k19_size k19_lesser k19_other k19_l2 k19_l3) fun R_10 => f_X2_listOf_c58 k7 (fun k19_size k19_lesser k19_other k19_l2 k19_l3 => f_X2_listOf_c19 k7 v_p1_members v_p1_here v_p1_joined n k19_size k19_lesser k19_other k19_l2 k19_l3) v_p1_members v_p1_here v_p1_joined R_10.1 R_10.2.1 R_10.2.2 k19_l2 k19_l3))))
noncomputable def f_X2_listOf_c7 (v_p1_members : Int32) (v_p1_here : Int32) (v_p1_joined : Nat → Int32) : Nat → Int32 → (Nat → Int32) → (Nat → Int32) → Int32 → Option (Int32 × (Nat → Int32) × (Nat → Int32))
  | 0, _, _, _, _ => none
  | n + 1, k7_size, k7_lesser, k7_other, k7_l2 => if v_p1_members ≤ k7_l2 then (some (k7_size, k7_lesser, k7_other)) else (nm (k7_l2 + (1 : Int32)) fun x_12 => f_X2_listOf_c19 (fun k7_size k7_lesser k7_other k7_l2 => f_X2_listOf_c7 v_p1_members v_p1_here v_p1_joined n k7_size k7_lesser k7_other k7_l2) v_p1_members v_p1_here v_p1_joined fu k7_size k7_lesser k7_other k7_l2 x_12)
noncomputable def f_X2_listOf (v_p1_members : Int32) (v_p1_here : Int32) (v_p1_joined : Nat → Int32) (v_size : Int32) (v_lesser : Nat → Int32) (v_other : Nat → Int32) : Option (Int32 × (Nat → Int32) × (Nat → Int32)) := f_X2_listOf_c7 v_p1_members v_p1_here v_p1_joined fu (0 : Int32) v_lesser v_other (0 : Int32)
set_option maxHeartbeats 4000000 in
set_option maxRecDepth 100000 in
theorem c_X2_listOf (l : Launch) (D : va_G) (cI cJ cQ : ClassId) (a_p1 : Nat) (a_p1_joined : Nat) (a_this : Nat) (a_lesser : Nat) (a_other : Nat) (r_p1_values : Value) (r_p1_greatest : Value) (r_p1_least : Value) (r_p1_heard : Value) (r_p1_tickets : Value) (r_p1_masses : Value) (r_p1_books : Value) (r_p1_owed : Value) (r_p1_letters : Value) (v_p1_members : Int32) (v_p1_here : Int32) (v_p1_seed : Int32) (v_p1_talks : Int32) (v_p1_joined : Nat → Int32) (v_size : Int32) (v_lesser : Nat → Int32) (v_other : Nat → Int32) (R0 : Int32 × (Nat → Int32) × (Nat → Int32)) (hf : f_X2_listOf v_p1_members v_p1_here v_p1_joined v_size v_lesser v_other = some R0) : Cv l yX2_listOf wsX2_listOf ({ frames := 2, cells := 0, slots := 0, locals := 84 } : Room) D [(cI, .int), (cJ, .long), (cQ, .object "WhisperCrowd$State")] [.ref a_this, .ref a_p1] [(a_p1, .inr (5, [.int v_p1_members, .int v_p1_here, .int v_p1_seed, .int v_p1_talks, r_p1_values, r_p1_greatest, r_p1_least, r_p1_heard, .ref a_p1_joined, r_p1_tickets, r_p1_masses, r_p1_books, r_p1_owed, r_p1_letters])), (a_p1_joined, .inl (cI, 10, .inl v_p1_joined)), (a_this, .inr (2, [.ref a_lesser, .ref a_other, .int v_size])), (a_lesser, .inl (cI, 45, .inl v_lesser)), (a_other, .inl (cI, 45, .inl v_other))] [(a_p1, .inr (5, [.int v_p1_members, .int v_p1_here, .int v_p1_seed, .int v_p1_talks, r_p1_values, r_p1_greatest, r_p1_least, r_p1_heard, .ref a_p1_joined, r_p1_tickets, r_p1_masses, r_p1_books, r_p1_owed, r_p1_letters])), (a_p1_joined, .inl (cI, 10, .inl v_p1_joined)), (a_this, .inr (2, [.ref a_lesser, .ref a_other, .int R0.1])), (a_lesser, .inl (cI, 45, .inl R0.2.1)), (a_other, .inl (cI, 45, .inl R0.2.2))] := by
  refine x_entv (cc := cX2_listOf) (maxL := 4) (rt := none) (lv := [(0, .ref a_this), (1, .ref a_p1)]) (by decide) rfl (Nat.le_of_ble_eq_true rfl) rfl ?_
  intro p e s m args below meth c A Q hQ hC
  have J_7 : ∀ (n : Nat) (k7_size : Int32) (k7_lesser : Nat → Int32) (k7_other : Nat → Int32) (k7_l2 : Int32), f_X2_listOf_c7 v_p1_members v_p1_here v_p1_joined n k7_size k7_lesser k7_other k7_l2 = some R0 → XW p l e ({ frames := 2, cells := 0, slots := 0, locals := 84 } : Room) s m args below meth c D A 4 0 0 Q [(a_p1, .inr (5, [.int v_p1_members, .int v_p1_here, .int v_p1_seed, .int v_p1_talks, r_p1_values, r_p1_greatest, r_p1_least, r_p1_heard, .ref a_p1_joined, r_p1_tickets, r_p1_masses, r_p1_books, r_p1_owed, r_p1_letters])), (a_p1_joined, .inl (cI, 10, .inl v_p1_joined)), (a_this, .inr (2, [.ref a_lesser, .ref a_other, .int k7_size])), (a_lesser, .inl (cI, 45, .inl k7_lesser)), (a_other, .inl (cI, 45, .inl k7_other))] [] [(0, .ref a_this), (1, .ref a_p1), (2, .int k7_l2)] 7 [] := by
    intro n
    induction n with
    | zero => intro k7_size k7_lesser k7_other k7_l2 hf; exact nomatch (show (none : Option (Int32 × (Nat → Int32) × (Nat → Int32))) = some R0 from hf)
    | succ n_7 ih_7 =>
      have J_19 : ∀ (n : Nat) (k19_size : Int32) (k19_lesser : Nat → Int32) (k19_other : Nat → Int32) (k19_l2 : Int32) (k19_l3 : Int32), f_X2_listOf_c19 (fun k7_size k7_lesser k7_other k7_l2 => f_X2_listOf_c7 v_p1_members v_p1_here v_p1_joined n_7 k7_size k7_lesser k7_other k7_l2) v_p1_members v_p1_here v_p1_joined n k19_size k19_lesser k19_other k19_l2 k19_l3 = some R0 → XW p l e ({ frames := 2, cells := 0, slots := 0, locals := 84 } : Room) s m args below meth c D A 4 0 0 Q [(a_p1, .inr (5, [.int v_p1_members, .int v_p1_here, .int v_p1_seed, .int v_p1_talks, r_p1_values, r_p1_greatest, r_p1_least, r_p1_heard, .ref a_p1_joined, r_p1_tickets, r_p1_masses, r_p1_books, r_p1_owed, r_p1_letters])), (a_p1_joined, .inl (cI, 10, .inl v_p1_joined)), (a_this, .inr (2, [.ref a_lesser, .ref a_other, .int k19_size])), (a_lesser, .inl (cI, 45, .inl k19_lesser)), (a_other, .inl (cI, 45, .inl k19_other))] [] [(0, .ref a_this), (1, .ref a_p1), (2, .int k19_l2), (3, .int k19_l3)] 19 [] := by
        intro n
        induction n with
        | zero => intro k19_size k19_lesser k19_other k19_l2 k19_l3 hf; exact nomatch (show (none : Option (Int32 × (Nat → Int32) × (Nat → Int32))) = some R0 from hf)
        | succ n_19 ih_19 =>
          have J_58 : ∀ (k58_size : Int32) (k58_lesser : Nat → Int32) (k58_other : Nat → Int32) (k58_l2 : Int32) (k58_l3 : Int32), f_X2_listOf_c58 (fun k7_size k7_lesser k7_other k7_l2 => f_X2_listOf_c7 v_p1_members v_p1_here v_p1_joined n_7 k7_size k7_lesser k7_other k7_l2) (fun k19_size k19_lesser k19_other k19_l2 k19_l3 => f_X2_listOf_c19 (fun k7_size k7_lesser k7_other k7_l2 => f_X2_listOf_c7 v_p1_members v_p1_here v_p1_joined n_7 k7_size k7_lesser k7_other k7_l2) v_p1_members v_p1_here v_p1_joined n_19 k19_size k19_lesser k19_other k19_l2 k19_l3) v_p1_members v_p1_here v_p1_joined k58_size k58_lesser k58_other k58_l2 k58_l3 = some R0 → XW p l e ({ frames := 2, cells := 0, slots := 0, locals := 84 } : Room) s m args below meth c D A 4 0 0 Q [(a_p1, .inr (5, [.int v_p1_members, .int v_p1_here, .int v_p1_seed, .int v_p1_talks, r_p1_values, r_p1_greatest, r_p1_least, r_p1_heard, .ref a_p1_joined, r_p1_tickets, r_p1_masses, r_p1_books, r_p1_owed, r_p1_letters])), (a_p1_joined, .inl (cI, 10, .inl v_p1_joined)), (a_this, .inr (2, [.ref a_lesser, .ref a_other, .int k58_size])), (a_lesser, .inl (cI, 45, .inl k58_lesser)), (a_other, .inl (cI, 45, .inl k58_other))] [] [(0, .ref a_this), (1, .ref a_p1), (2, .int k58_l2), (3, .int k58_l3)] 58 [] := by
            intro k58_size k58_lesser k58_other k58_l2 k58_l3 hf
            unfold f_X2_listOf_c58 at hf
            obtain ⟨x_1, e_x_1, hf⟩ := nmx_e hf
            refine x_iinc 61 3 [(3, .int x_1), (0, .ref a_this), (1, .ref a_p1), (2, .int k58_l2)] hC dX2_listOf_58 rfl rfl e_x_1 (by decide) (by decide) rfl ?_
            refine x_goto 19 hC dX2_listOf_61 (by decide) ?_
            refine x_lv [(0, .ref a_this), (1, .ref a_p1), (2, .int k58_l2), (3, .int x_1)] [1, 2, 3, 0] rfl ?_
            exact ih_19 k58_size k58_lesser k58_other k58_l2 x_1 hf
          intro k19_size k19_lesser k19_other k19_l2 k19_l3 hf
          unfold f_X2_listOf_c19 at hf
          refine x_iload_n 20 3 hC dX2_listOf_19 rfl rfl rfl ?_
          refine x_aload_n 21 1 hC dX2_listOf_20 rfl rfl rfl ?_
          refine x_get 24 0 0 hC in_X2_listOf_X5 rfl rfl (by decide) (List.mem_of_getElem? (i := 2) (by decide +kernel)) rfl rfl dX2_listOf_21 rfl ?_
          refine x_icmp_ge 64 27 hC dX2_listOf_24 (by decide) rfl (fun c_2 => ?_) (fun c_2 => ?_)
          · have hf := if_t hf c_2
            obtain ⟨x_3, e_x_3, hf⟩ := nmx_e hf
            refine x_iinc 67 2 [(2, .int x_3), (0, .ref a_this), (1, .ref a_p1), (3, .int k19_l3)] hC dX2_listOf_64 rfl rfl e_x_3 (by decide) (by decide) rfl ?_
            refine x_goto 7 hC dX2_listOf_67 (by decide) ?_
            refine x_lv [(0, .ref a_this), (1, .ref a_p1), (2, .int x_3)] [1, 2, 0] rfl ?_
            exact ih_7 k19_size k19_lesser k19_other x_3 hf
          · have hf := if_f hf c_2
            refine x_aload_n 28 1 hC dX2_listOf_27 rfl rfl rfl ?_
            refine x_iload_n 29 2 hC dX2_listOf_28 rfl rfl rfl ?_
            refine x_iload_n 30 3 hC dX2_listOf_29 rfl rfl rfl ?_
            obtain ⟨R_4, h_R_4, hf⟩ := bd_e hf
            refine x_callVi 33 0 2 [0, 1] [(a_p1, .inr (5, [.int v_p1_members, .int v_p1_here, .int v_p1_seed, .int v_p1_talks, r_p1_values, r_p1_greatest, r_p1_least, r_p1_heard, .ref a_p1_joined, r_p1_tickets, r_p1_masses, r_p1_books, r_p1_owed, r_p1_letters])), (a_p1_joined, .inl (cI, 10, .inl v_p1_joined)), (a_this, .inr (2, [.ref a_lesser, .ref a_other, .int k19_size])), (a_lesser, .inl (cI, 45, .inl k19_lesser)), (a_other, .inl (cI, 45, .inl k19_other))] hC (As := [.int k19_l2, .int k19_l3]) (c_X5_isJoined l D cI cJ cQ a_p1 a_p1_joined r_p1_values r_p1_greatest r_p1_least r_p1_heard r_p1_tickets r_p1_masses r_p1_books r_p1_owed r_p1_letters v_p1_members v_p1_here v_p1_seed v_p1_talks v_p1_joined k19_l2 k19_l3 R_4 h_R_4) rfl rfl gX2_listOf_X5_isJoined rfl ⟨rfl, rfl⟩ hd_X5_isJoined ⟨Nat.le_of_ble_eq_true rfl, Nat.le_of_ble_eq_true rfl⟩ rfl rfl rfl rfl rfl rfl (Nat.le_of_ble_eq_true rfl) ⟨Nat.le_of_ble_eq_true rfl, Nat.le_of_ble_eq_true rfl⟩ dX2_listOf_30 rfl ?_
            refine x_if_eq 58 36 hC dX2_listOf_33 (by decide) rfl (fun c_5 => ?_) (fun c_5 => ?_)
            · have hf := if_t hf c_5
              refine x_lv [(0, .ref a_this), (1, .ref a_p1), (2, .int k19_l2), (3, .int k19_l3)] [0, 1, 2, 3] rfl ?_
              exact J_58 k19_size k19_lesser k19_other k19_l2 k19_l3 hf
            · have hf := if_f hf c_5
              refine x_aload_n 37 1 hC dX2_listOf_36 rfl rfl rfl ?_
              refine x_iload_n 38 2 hC dX2_listOf_37 rfl rfl rfl ?_
              obtain ⟨R_6, h_R_6, hf⟩ := bd_e hf
              refine x_callVi 41 0 1 [0] [(a_p1, .inr (5, [.int v_p1_members, .int v_p1_here, .int v_p1_seed, .int v_p1_talks, r_p1_values, r_p1_greatest, r_p1_least, r_p1_heard, .ref a_p1_joined, r_p1_tickets, r_p1_masses, r_p1_books, r_p1_owed, r_p1_letters])), (a_p1_joined, .inl (cI, 10, .inl v_p1_joined)), (a_this, .inr (2, [.ref a_lesser, .ref a_other, .int k19_size])), (a_lesser, .inl (cI, 45, .inl k19_lesser)), (a_other, .inl (cI, 45, .inl k19_other))] hC (As := [.int k19_l2]) (c_X5_isHere l D cI cJ cQ a_p1 r_p1_values r_p1_greatest r_p1_least r_p1_heard (.ref a_p1_joined) r_p1_tickets r_p1_masses r_p1_books r_p1_owed r_p1_letters v_p1_members v_p1_here v_p1_seed v_p1_talks k19_l2 R_6 h_R_6) rfl rfl gX2_listOf_X5_isHere rfl ⟨rfl, rfl⟩ hd_X5_isHere ⟨Nat.le_of_ble_eq_true rfl, Nat.le_of_ble_eq_true rfl⟩ rfl rfl rfl rfl rfl rfl (Nat.le_of_ble_eq_true rfl) ⟨Nat.le_of_ble_eq_true rfl, Nat.le_of_ble_eq_true rfl⟩ dX2_listOf_38 rfl ?_
              refine x_if_eq 58 44 hC dX2_listOf_41 (by decide) rfl (fun c_7 => ?_) (fun c_7 => ?_)
              · have hf := if_t hf c_7
                refine x_lv [(0, .ref a_this), (1, .ref a_p1), (2, .int k19_l2), (3, .int k19_l3)] [0, 1, 2, 3] rfl ?_
                exact J_58 k19_size k19_lesser k19_other k19_l2 k19_l3 hf
              · have hf := if_f hf c_7
                refine x_aload_n 45 1 hC dX2_listOf_44 rfl rfl rfl ?_
                refine x_iload_n 46 3 hC dX2_listOf_45 rfl rfl rfl ?_
                obtain ⟨R_8, h_R_8, hf⟩ := bd_e hf
                refine x_callVi 49 0 1 [0] [(a_p1, .inr (5, [.int v_p1_members, .int v_p1_here, .int v_p1_seed, .int v_p1_talks, r_p1_values, r_p1_greatest, r_p1_least, r_p1_heard, .ref a_p1_joined, r_p1_tickets, r_p1_masses, r_p1_books, r_p1_owed, r_p1_letters])), (a_p1_joined, .inl (cI, 10, .inl v_p1_joined)), (a_this, .inr (2, [.ref a_lesser, .ref a_other, .int k19_size])), (a_lesser, .inl (cI, 45, .inl k19_lesser)), (a_other, .inl (cI, 45, .inl k19_other))] hC (As := [.int k19_l3]) (c_X5_isHere l D cI cJ cQ a_p1 r_p1_values r_p1_greatest r_p1_least r_p1_heard (.ref a_p1_joined) r_p1_tickets r_p1_masses r_p1_books r_p1_owed r_p1_letters v_p1_members v_p1_here v_p1_seed v_p1_talks k19_l3 R_8 h_R_8) rfl rfl gX2_listOf_X5_isHere rfl ⟨rfl, rfl⟩ hd_X5_isHere ⟨Nat.le_of_ble_eq_true rfl, Nat.le_of_ble_eq_true rfl⟩ rfl rfl rfl rfl rfl rfl (Nat.le_of_ble_eq_true rfl) ⟨Nat.le_of_ble_eq_true rfl, Nat.le_of_ble_eq_true rfl⟩ dX2_listOf_46 rfl ?_
                refine x_if_eq 58 52 hC dX2_listOf_49 (by decide) rfl (fun c_9 => ?_) (fun c_9 => ?_)
                · have hf := if_t hf c_9
                  refine x_lv [(0, .ref a_this), (1, .ref a_p1), (2, .int k19_l2), (3, .int k19_l3)] [0, 1, 2, 3] rfl ?_
                  exact J_58 k19_size k19_lesser k19_other k19_l2 k19_l3 hf
                · have hf := if_f hf c_9
                  refine x_aload_n 53 0 hC dX2_listOf_52 rfl rfl rfl ?_
                  refine x_iload_n 54 2 hC dX2_listOf_53 rfl rfl rfl ?_
                  refine x_iload_n 55 3 hC dX2_listOf_54 rfl rfl rfl ?_
                  obtain ⟨R_10, h_R_10, hf⟩ := bd_e hf
                  refine x_callVv 58 0 2 [2, 3, 4] [(a_p1, .inr (5, [.int v_p1_members, .int v_p1_here, .int v_p1_seed, .int v_p1_talks, r_p1_values, r_p1_greatest, r_p1_least, r_p1_heard, .ref a_p1_joined, r_p1_tickets, r_p1_masses, r_p1_books, r_p1_owed, r_p1_letters])), (a_p1_joined, .inl (cI, 10, .inl v_p1_joined)), (a_this, .inr (2, [.ref a_lesser, .ref a_other, .int R_10.1])), (a_lesser, .inl (cI, 45, .inl R_10.2.1)), (a_other, .inl (cI, 45, .inl R_10.2.2))] hC (As := [.int k19_l2, .int k19_l3]) (c_X2_add l D cI cJ cQ a_this a_lesser a_other k19_size k19_lesser k19_other k19_l2 k19_l3 R_10 h_R_10) rfl rfl gX2_listOf_X2_add rfl ⟨rfl, rfl⟩ hd_X2_add ⟨Nat.le_of_ble_eq_true rfl, Nat.le_of_ble_eq_true rfl⟩ rfl rfl rfl rfl rfl rfl (Nat.le_of_ble_eq_true rfl) ⟨Nat.le_of_ble_eq_true rfl, Nat.le_of_ble_eq_true rfl⟩ dX2_listOf_55 rfl ?_
                  refine x_lv [(0, .ref a_this), (1, .ref a_p1), (2, .int k19_l2), (3, .int k19_l3)] [0, 1, 2, 3] rfl ?_
                  exact J_58 R_10.1 R_10.2.1 R_10.2.2 k19_l2 k19_l3 hf
      intro k7_size k7_lesser k7_other k7_l2 hf
      unfold f_X2_listOf_c7 at hf
      refine x_iload_n 8 2 hC dX2_listOf_7 rfl rfl rfl ?_
      refine x_aload_n 9 1 hC dX2_listOf_8 rfl rfl rfl ?_
      refine x_get 12 0 0 hC in_X2_listOf_X5 rfl rfl (by decide) (List.mem_of_getElem? (i := 2) (by decide +kernel)) rfl rfl dX2_listOf_9 rfl ?_
      refine x_icmp_ge 70 15 hC dX2_listOf_12 (by decide) rfl (fun c_11 => ?_) (fun c_11 => ?_)
      · have hf := if_t hf c_11
        cases hf
        exact x_vret hC dX2_listOf_70 hQ rfl
      · have hf := if_f hf c_11
        refine x_iload_n 16 2 hC dX2_listOf_15 rfl rfl rfl ?_
        refine x_iconst 17 hC (1 : Int32) dX2_listOf_16 rfl (by decide) ?_
        refine x_iadd 18 hC dX2_listOf_17 rfl ?_
        obtain ⟨x_12, e_x_12, hf⟩ := nmx_e hf
        refine x_istore_n 19 [(3, .int x_12), (0, .ref a_this), (1, .ref a_p1), (2, .int k7_l2)] hC dX2_listOf_18 rfl rfl e_x_12 (by decide) rfl ?_
        refine x_lv [(0, .ref a_this), (1, .ref a_p1), (2, .int k7_l2), (3, .int x_12)] [1, 2, 3, 0] rfl ?_
        exact J_19 fu k7_size k7_lesser k7_other k7_l2 x_12 hf
  unfold f_X2_listOf at hf
  refine x_aload_n 1 0 hC dX2_listOf_0 rfl rfl rfl ?_
  refine x_iconst 2 hC (0 : Int32) dX2_listOf_1 rfl (by decide) ?_
  refine x_put 5 2 2 [(a_p1, .inr (5, [.int v_p1_members, .int v_p1_here, .int v_p1_seed, .int v_p1_talks, r_p1_values, r_p1_greatest, r_p1_least, r_p1_heard, .ref a_p1_joined, r_p1_tickets, r_p1_masses, r_p1_books, r_p1_owed, r_p1_letters])), (a_p1_joined, .inl (cI, 10, .inl v_p1_joined)), (a_this, .inr (2, [.ref a_lesser, .ref a_other, .int (0 : Int32)])), (a_lesser, .inl (cI, 45, .inl v_lesser)), (a_other, .inl (cI, 45, .inl v_other))] hC in_X2_listOf_X2 tyX2_ok nmX2 rfl rfl (by decide) (List.mem_of_getElem? (i := 1) (by decide +kernel)) rfl rfl rfl rfl rfl rfl (Nat.le_of_ble_eq_true rfl) rfl dX2_listOf_2 rfl ?_
  refine x_iconst 6 hC (0 : Int32) dX2_listOf_5 rfl (by decide) ?_
  refine x_istore_n 7 [(2, .int (0 : Int32)), (0, .ref a_this), (1, .ref a_p1)] hC dX2_listOf_6 rfl rfl rfl (by decide) rfl ?_
  refine x_lv [(0, .ref a_this), (1, .ref a_p1), (2, .int (0 : Int32))] [1, 2, 0] rfl ?_
  exact J_7 fu (0 : Int32) v_lesser v_other (0 : Int32) hf
