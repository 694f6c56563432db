theorem hd_X7_far : yX7_far.cls = RX7 ∧ yX7_far.cls ≠ "java/lang/invoke/MethodHandle" ∧ yX7_far.cls ≠ "java/lang/invoke/VarHandle" ∧ (parseMethodDescriptor yX7_far.desc).map (fun d => d.parameters.length) = some 0 := by decide +kernel
theorem in_X7_far_X7 : ∀ w ∈ u_ws RX7 TX7 6, w ∈ wsX7_far := fun w h => List.mem_cons_of_mem _ (List.mem_append_left _ (List.mem_append_left _ (List.mem_append_right _ h)))
theorem in_X7_far_X5 : ∀ w ∈ u_ws RX5 TX5 14, w ∈ wsX7_far := fun w h => List.mem_cons_of_mem _ (List.mem_append_left _ (List.mem_append_right _ h))
noncomputable def f_X7_far_c80 (k10 : Int32 → UInt64 → UInt64 → Int32 → Option (Int64)) (v_now_members : Int32) (v_now_here : Int32) (v_now_masses_sums : Nat → Int64) (v_now_masses_weights : Nat → Int64) (k80_l1 : Int32) (k80_l2 : UInt64) (k80_l4 : UInt64) (k80_l6 : Int32) : Option (Int64) := nm (k80_l6 + (1 : Int32)) fun x_1 => k10 k80_l1 k80_l2 k80_l4 x_1
noncomputable def f_X7_far_c76 (k10 : Int32 → UInt64 → UInt64 → Int32 → Option (Int64)) (v_now_members : Int32) (v_now_here : Int32) (v_now_masses_sums : Nat → Int64) (v_now_masses_weights : Nat → Int64) (k76_l2 : UInt64) (k76_l6 : Int32) (k76_s0 : UInt64) : Option (Int64) := f_X7_far_c80 k10 v_now_members v_now_here v_now_masses_sums v_now_masses_weights (1 : Int32) k76_l2 k76_s0 k76_l6
noncomputable def f_X7_far_c69 (k10 : Int32 → UInt64 → UInt64 → Int32 → Option (Int64)) (v_now_members : Int32) (v_now_here : Int32) (v_now_masses_sums : Nat → Int64) (v_now_masses_weights : Nat → Int64) (k69_l2 : UInt64) (k69_l6 : Int32) (k69_l7 : UInt64) : Option (Int64) := f_X7_far_c76 k10 v_now_members v_now_here v_now_masses_sums v_now_masses_weights k69_l2 k69_l6 k69_l7
noncomputable def f_X7_far_c56 (k10 : Int32 → UInt64 → UInt64 → Int32 → Option (Int64)) (v_now_members : Int32) (v_now_here : Int32) (v_now_masses_sums : Nat → Int64) (v_now_masses_weights : Nat → Int64) (k56_l1 : Int32) (k56_l4 : UInt64) (k56_l6 : Int32) (k56_l7 : UInt64) (k56_s0 : UInt64) : Option (Int64) := if k56_l1 = 0 then (f_X7_far_c69 k10 v_now_members v_now_here v_now_masses_sums v_now_masses_weights k56_s0 k56_l6 k56_l7) else (if 0 ≤ (Op.cmpValue (FP.dcmp k56_l7 k56_l4) .g) then (f_X7_far_c76 k10 v_now_members v_now_here v_now_masses_sums v_now_masses_weights k56_s0 k56_l6 k56_l4) else (f_X7_far_c69 k10 v_now_members v_now_here v_now_masses_sums v_now_masses_weights k56_s0 k56_l6 k56_l7))
noncomputable def f_X7_far_c50 (k10 : Int32 → UInt64 → UInt64 → Int32 → Option (Int64)) (v_now_members : Int32) (v_now_here : Int32) (v_now_masses_sums : Nat → Int64) (v_now_masses_weights : Nat → Int64) (k50_l1 : Int32) (k50_l4 : UInt64) (k50_l6 : Int32) (k50_l7 : UInt64) : Option (Int64) := f_X7_far_c56 k10 v_now_members v_now_here v_now_masses_sums v_now_masses_weights k50_l1 k50_l4 k50_l6 k50_l7 k50_l7
noncomputable def f_X7_far_c10 (v_now_members : Int32) (v_now_here : Int32) (v_now_masses_sums : Nat → Int64) (v_now_masses_weights : Nat → Int64) : Nat → Int32 → UInt64 → UInt64 → Int32 → Option (Int64)
  | 0, _, _, _, _ => none
  | n + 1, k10_l1, k10_l2, k10_l4, k10_l6 => if v_now_members ≤ k10_l6 then (if k10_l1 = 0 then (some ((-1 : Int64))) else (ckp (FP.dsub k10_l2 k10_l4 &&& 0x7fffffffffffffff ≤ 0x7ff0000000000000) (Classical.propDecidable _) <| bd (f_X7_bitsOf (FP.dsub k10_l2 k10_l4)) fun R_7 => some (R_7))) else (bd (f_X7_hasGuess v_now_members v_now_here v_now_masses_sums v_now_masses_weights k10_l6) fun R_8 => if R_8 = 0 then (f_X7_far_c80 (fun k10_l1 k10_l2 k10_l4 k10_l6 => f_X7_far_c10 v_now_members v_now_here v_now_masses_sums v_now_masses_weights n k10_l1 k10_l2 k10_l4 k10_l6) v_now_members v_now_here v_now_masses_sums v_now_masses_weights k10_l1 k10_l2 k10_l4 k10_l6) else (bd (f_X7_guessOf v_now_masses_sums v_now_masses_weights k10_l6) fun R_10 => if k10_l1 = 0 then (f_X7_far_c50 (fun k10_l1 k10_l2 k10_l4 k10_l6 => f_X7_far_c10 v_now_members v_now_here v_now_masses_sums v_now_masses_weights n k10_l1 k10_l2 k10_l4 k10_l6) v_now_members v_now_here v_now_masses_sums v_now_masses_weights k10_l1 k10_l4 k10_l6 R_10) else (if (Op.cmpValue (FP.dcmp R_10 k10_l2) .l) ≤ 0 then (f_X7_far_c56 (fun k10_l1 k10_l2 k10_l4 k10_l6 => f_X7_far_c10 v_now_members v_now_here v_now_masses_sums v_now_masses_weights n k10_l1 k10_l2 k10_l4 k10_l6) v_now_members v_now_here v_now_masses_sums v_now_masses_weights k10_l1 k10_l4 k10_l6 R_10 k10_l2) else (f_X7_far_c50 (fun k10_l1 k10_l2 k10_l4 k10_l6 => f_X7_far_c10 v_now_members v_now_here v_now_masses_sums v_now_masses_weights n k10_l1 k10_l2 k10_l4 k10_l6) v_now_members v_now_here v_now_masses_sums v_now_masses_weights k10_l1 k10_l4 k10_l6 R_10))))
noncomputable def f_X7_far (v_now_members : Int32) (v_now_here : Int32) (v_now_masses_sums : Nat → Int64) (v_now_masses_weights : Nat → Int64) : Option (Int64) := f_X7_far_c10 v_now_members v_now_here v_now_masses_sums v_now_masses_weights fu (0 : Int32) FP.dconst0 FP.dconst0 (0 : Int32)
set_option maxHeartbeats 4000000 in
set_option maxRecDepth 100000 in
theorem c_X7_far (l : Launch) (D : va_G) (cI cJ cQ : ClassId) (a_this : Nat) (a_now : Nat) (a_now_masses : Nat) (a_now_masses_sums : Nat) (a_now_masses_weights : Nat) (r_history : Value) (r_open : Value) (r_search : Value) (r_planned : Value) (r_now_values : Value) (r_now_greatest : Value) (r_now_least : Value) (r_now_heard : Value) (r_now_joined : Value) (r_now_tickets : Value) (r_now_books : Value) (r_now_owed : Value) (r_now_letters : Value) (v_plannedTalks : Int32) (v_now_members : Int32) (v_now_here : Int32) (v_now_seed : Int32) (v_now_talks : Int32) (v_now_masses_sums : Nat → Int64) (v_now_masses_weights : Nat → Int64) (R0 : Int64) (hf : f_X7_far v_now_members v_now_here v_now_masses_sums v_now_masses_weights = some R0) : Cl l yX7_far wsX7_far ({ frames := 4, cells := 0, slots := 0, locals := 129 } : Room) D [(cI, .int), (cJ, .long), (cQ, .object "WhisperCrowd$State")] [.ref a_this] [(a_this, .inr (7, [.ref a_now, r_history, r_open, r_search, r_planned, .int v_plannedTalks])), (a_now, .inr (5, [.int v_now_members, .int v_now_here, .int v_now_seed, .int v_now_talks, r_now_values, r_now_greatest, r_now_least, r_now_heard, r_now_joined, r_now_tickets, .ref a_now_masses, r_now_books, r_now_owed, r_now_letters])), (a_now_masses, .inr (3, [.ref a_now_masses_sums, .ref a_now_masses_weights])), (a_now_masses_sums, .inl (cJ, 10, .inr (.inl v_now_masses_sums))), (a_now_masses_weights, .inl (cJ, 10, .inr (.inl v_now_masses_weights)))] [(a_this, .inr (7, [.ref a_now, r_history, r_open, r_search, r_planned, .int v_plannedTalks])), (a_now, .inr (5, [.int v_now_members, .int v_now_here, .int v_now_seed, .int v_now_talks, r_now_values, r_now_greatest, r_now_least, r_now_heard, r_now_joined, r_now_tickets, .ref a_now_masses, r_now_books, r_now_owed, r_now_letters])), (a_now_masses, .inr (3, [.ref a_now_masses_sums, .ref a_now_masses_weights])), (a_now_masses_sums, .inl (cJ, 10, .inr (.inl v_now_masses_sums))), (a_now_masses_weights, .inl (cJ, 10, .inr (.inl v_now_masses_weights)))] R0 := by
  refine x_entl (cc := cX7_far) (maxL := 9) (rt := (some .long)) (lv := [(0, .ref a_this)]) (by decide) rfl (Nat.le_of_ble_eq_true rfl) rfl ?_
  intro p e s m args below meth c A Q hQ hC
  have J_10 : ∀ (n : Nat) (k10_l1 : Int32) (k10_l2 : UInt64) (k10_l4 : UInt64) (k10_l6 : Int32), f_X7_far_c10 v_now_members v_now_here v_now_masses_sums v_now_masses_weights n k10_l1 k10_l2 k10_l4 k10_l6 = some R0 → XW p l e ({ frames := 4, cells := 0, slots := 0, locals := 129 } : Room) s m args below meth c D A 9 0 0 Q [(a_this, .inr (7, [.ref a_now, r_history, r_open, r_search, r_planned, .int v_plannedTalks])), (a_now, .inr (5, [.int v_now_members, .int v_now_here, .int v_now_seed, .int v_now_talks, r_now_values, r_now_greatest, r_now_least, r_now_heard, r_now_joined, r_now_tickets, .ref a_now_masses, r_now_books, r_now_owed, r_now_letters])), (a_now_masses, .inr (3, [.ref a_now_masses_sums, .ref a_now_masses_weights])), (a_now_masses_sums, .inl (cJ, 10, .inr (.inl v_now_masses_sums))), (a_now_masses_weights, .inl (cJ, 10, .inr (.inl v_now_masses_weights)))] [] [(0, .ref a_this), (1, .int k10_l1), (2, .double k10_l2), (4, .double k10_l4), (6, .int k10_l6)] 10 [] := by
    intro n
    induction n with
    | zero => intro k10_l1 k10_l2 k10_l4 k10_l6 hf; exact nomatch (show (none : Option (Int64)) = some R0 from hf)
    | succ n_10 ih_10 =>
      have J_80 : ∀ (k80_l1 : Int32) (k80_l2 : UInt64) (k80_l4 : UInt64) (k80_l6 : Int32), f_X7_far_c80 (fun k10_l1 k10_l2 k10_l4 k10_l6 => f_X7_far_c10 v_now_members v_now_here v_now_masses_sums v_now_masses_weights n_10 k10_l1 k10_l2 k10_l4 k10_l6) v_now_members v_now_here v_now_masses_sums v_now_masses_weights k80_l1 k80_l2 k80_l4 k80_l6 = some R0 → XW p l e ({ frames := 4, cells := 0, slots := 0, locals := 129 } : Room) s m args below meth c D A 9 0 0 Q [(a_this, .inr (7, [.ref a_now, r_history, r_open, r_search, r_planned, .int v_plannedTalks])), (a_now, .inr (5, [.int v_now_members, .int v_now_here, .int v_now_seed, .int v_now_talks, r_now_values, r_now_greatest, r_now_least, r_now_heard, r_now_joined, r_now_tickets, .ref a_now_masses, r_now_books, r_now_owed, r_now_letters])), (a_now_masses, .inr (3, [.ref a_now_masses_sums, .ref a_now_masses_weights])), (a_now_masses_sums, .inl (cJ, 10, .inr (.inl v_now_masses_sums))), (a_now_masses_weights, .inl (cJ, 10, .inr (.inl v_now_masses_weights)))] [] [(0, .ref a_this), (1, .int k80_l1), (2, .double k80_l2), (4, .double k80_l4), (6, .int k80_l6)] 80 [] := by
        intro k80_l1 k80_l2 k80_l4 k80_l6 hf
        unfold f_X7_far_c80 at hf
        obtain ⟨x_1, e_x_1, hf⟩ := nmx_e hf
        refine x_iinc 83 4 [(6, .int x_1), (0, .ref a_this), (1, .int k80_l1), (2, .double k80_l2), (4, .double k80_l4)] hC dX7_far_80 rfl rfl e_x_1 (by decide) (by decide) rfl ?_
        refine x_goto 10 hC dX7_far_83 (by decide) ?_
        refine x_lv [(0, .ref a_this), (1, .int k80_l1), (2, .double k80_l2), (4, .double k80_l4), (6, .int x_1)] [1, 2, 3, 4, 0] rfl ?_
        exact ih_10 k80_l1 k80_l2 k80_l4 x_1 hf
      have J_76 : ∀ (k76_l2 : UInt64) (k76_l6 : Int32) (k76_s0 : UInt64), f_X7_far_c76 (fun k10_l1 k10_l2 k10_l4 k10_l6 => f_X7_far_c10 v_now_members v_now_here v_now_masses_sums v_now_masses_weights n_10 k10_l1 k10_l2 k10_l4 k10_l6) v_now_members v_now_here v_now_masses_sums v_now_masses_weights k76_l2 k76_l6 k76_s0 = some R0 → XW p l e ({ frames := 4, cells := 0, slots := 0, locals := 129 } : Room) s m args below meth c D A 9 0 0 Q [(a_this, .inr (7, [.ref a_now, r_history, r_open, r_search, r_planned, .int v_plannedTalks])), (a_now, .inr (5, [.int v_now_members, .int v_now_here, .int v_now_seed, .int v_now_talks, r_now_values, r_now_greatest, r_now_least, r_now_heard, r_now_joined, r_now_tickets, .ref a_now_masses, r_now_books, r_now_owed, r_now_letters])), (a_now_masses, .inr (3, [.ref a_now_masses_sums, .ref a_now_masses_weights])), (a_now_masses_sums, .inl (cJ, 10, .inr (.inl v_now_masses_sums))), (a_now_masses_weights, .inl (cJ, 10, .inr (.inl v_now_masses_weights)))] [] [(0, .ref a_this), (2, .double k76_l2), (6, .int k76_l6)] 76 [.double k76_s0] := by
        intro k76_l2 k76_l6 k76_s0 hf
        unfold f_X7_far_c76 at hf
        refine x_dstore 78 [(4, .double k76_s0), (0, .ref a_this), (2, .double k76_l2), (6, .int k76_l6)] hC dX7_far_76 rfl rfl (by decide) rfl ?_
        refine x_iconst 79 hC (1 : Int32) dX7_far_78 rfl (by decide) ?_
        refine x_istore_n 80 [(1, .int (1 : Int32)), (4, .double k76_s0), (0, .ref a_this), (2, .double k76_l2), (6, .int k76_l6)] hC dX7_far_79 rfl rfl rfl (by decide) rfl ?_
        refine x_lv [(0, .ref a_this), (1, .int (1 : Int32)), (2, .double k76_l2), (4, .double k76_s0), (6, .int k76_l6)] [2, 0, 3, 1, 4] rfl ?_
        exact J_80 (1 : Int32) k76_l2 k76_s0 k76_l6 hf
      have J_69 : ∀ (k69_l2 : UInt64) (k69_l6 : Int32) (k69_l7 : UInt64), f_X7_far_c69 (fun k10_l1 k10_l2 k10_l4 k10_l6 => f_X7_far_c10 v_now_members v_now_here v_now_masses_sums v_now_masses_weights n_10 k10_l1 k10_l2 k10_l4 k10_l6) v_now_members v_now_here v_now_masses_sums v_now_masses_weights k69_l2 k69_l6 k69_l7 = some R0 → XW p l e ({ frames := 4, cells := 0, slots := 0, locals := 129 } : Room) s m args below meth c D A 9 0 0 Q [(a_this, .inr (7, [.ref a_now, r_history, r_open, r_search, r_planned, .int v_plannedTalks])), (a_now, .inr (5, [.int v_now_members, .int v_now_here, .int v_now_seed, .int v_now_talks, r_now_values, r_now_greatest, r_now_least, r_now_heard, r_now_joined, r_now_tickets, .ref a_now_masses, r_now_books, r_now_owed, r_now_letters])), (a_now_masses, .inr (3, [.ref a_now_masses_sums, .ref a_now_masses_weights])), (a_now_masses_sums, .inl (cJ, 10, .inr (.inl v_now_masses_sums))), (a_now_masses_weights, .inl (cJ, 10, .inr (.inl v_now_masses_weights)))] [] [(0, .ref a_this), (2, .double k69_l2), (6, .int k69_l6), (7, .double k69_l7)] 69 [] := by
        intro k69_l2 k69_l6 k69_l7 hf
        unfold f_X7_far_c69 at hf
        refine x_dload 71 3 hC dX7_far_69 rfl rfl ?_
        refine x_goto 76 hC dX7_far_71 (by decide) ?_
        refine x_lv [(0, .ref a_this), (2, .double k69_l2), (6, .int k69_l6)] [0, 1, 2] rfl ?_
        exact J_76 k69_l2 k69_l6 k69_l7 hf
      have J_56 : ∀ (k56_l1 : Int32) (k56_l4 : UInt64) (k56_l6 : Int32) (k56_l7 : UInt64) (k56_s0 : UInt64), f_X7_far_c56 (fun k10_l1 k10_l2 k10_l4 k10_l6 => f_X7_far_c10 v_now_members v_now_here v_now_masses_sums v_now_masses_weights n_10 k10_l1 k10_l2 k10_l4 k10_l6) v_now_members v_now_here v_now_masses_sums v_now_masses_weights k56_l1 k56_l4 k56_l6 k56_l7 k56_s0 = some R0 → XW p l e ({ frames := 4, cells := 0, slots := 0, locals := 129 } : Room) s m args below meth c D A 9 0 0 Q [(a_this, .inr (7, [.ref a_now, r_history, r_open, r_search, r_planned, .int v_plannedTalks])), (a_now, .inr (5, [.int v_now_members, .int v_now_here, .int v_now_seed, .int v_now_talks, r_now_values, r_now_greatest, r_now_least, r_now_heard, r_now_joined, r_now_tickets, .ref a_now_masses, r_now_books, r_now_owed, r_now_letters])), (a_now_masses, .inr (3, [.ref a_now_masses_sums, .ref a_now_masses_weights])), (a_now_masses_sums, .inl (cJ, 10, .inr (.inl v_now_masses_sums))), (a_now_masses_weights, .inl (cJ, 10, .inr (.inl v_now_masses_weights)))] [] [(0, .ref a_this), (1, .int k56_l1), (4, .double k56_l4), (6, .int k56_l6), (7, .double k56_l7)] 56 [.double k56_s0] := by
        intro k56_l1 k56_l4 k56_l6 k56_l7 k56_s0 hf
        unfold f_X7_far_c56 at hf
        refine x_dstore_n 57 [(2, .double k56_s0), (0, .ref a_this), (1, .int k56_l1), (4, .double k56_l4), (6, .int k56_l6), (7, .double k56_l7)] hC dX7_far_56 rfl rfl rfl (by decide) rfl ?_
        refine x_iload_n 58 2 hC dX7_far_57 rfl rfl rfl ?_
        refine x_if_eq 69 61 hC dX7_far_58 (by decide) rfl (fun c_2 => ?_) (fun c_2 => ?_)
        · have hf := if_t hf c_2
          refine x_lv [(0, .ref a_this), (2, .double k56_s0), (6, .int k56_l6), (7, .double k56_l7)] [1, 0, 4, 5] rfl ?_
          exact J_69 k56_s0 k56_l6 k56_l7 hf
        · have hf := if_f hf c_2
          refine x_dload 63 5 hC dX7_far_61 rfl rfl ?_
          refine x_dload 65 3 hC dX7_far_63 rfl rfl ?_
          refine x_dcmp 66 hC dX7_far_65 rfl ?_
          refine x_if_ge 74 69 hC dX7_far_66 (by decide) rfl (fun c_3 => ?_) (fun c_3 => ?_)
          · have hf := if_t hf c_3
            refine x_dload 76 3 hC dX7_far_74 rfl rfl ?_
            refine x_lv [(0, .ref a_this), (2, .double k56_s0), (6, .int k56_l6)] [1, 0, 4] rfl ?_
            exact J_76 k56_s0 k56_l6 k56_l4 hf
          · have hf := if_f hf c_3
            refine x_lv [(0, .ref a_this), (2, .double k56_s0), (6, .int k56_l6), (7, .double k56_l7)] [1, 0, 4, 5] rfl ?_
            exact J_69 k56_s0 k56_l6 k56_l7 hf
      have J_50 : ∀ (k50_l1 : Int32) (k50_l4 : UInt64) (k50_l6 : Int32) (k50_l7 : UInt64), f_X7_far_c50 (fun k10_l1 k10_l2 k10_l4 k10_l6 => f_X7_far_c10 v_now_members v_now_here v_now_masses_sums v_now_masses_weights n_10 k10_l1 k10_l2 k10_l4 k10_l6) v_now_members v_now_here v_now_masses_sums v_now_masses_weights k50_l1 k50_l4 k50_l6 k50_l7 = some R0 → XW p l e ({ frames := 4, cells := 0, slots := 0, locals := 129 } : Room) s m args below meth c D A 9 0 0 Q [(a_this, .inr (7, [.ref a_now, r_history, r_open, r_search, r_planned, .int v_plannedTalks])), (a_now, .inr (5, [.int v_now_members, .int v_now_here, .int v_now_seed, .int v_now_talks, r_now_values, r_now_greatest, r_now_least, r_now_heard, r_now_joined, r_now_tickets, .ref a_now_masses, r_now_books, r_now_owed, r_now_letters])), (a_now_masses, .inr (3, [.ref a_now_masses_sums, .ref a_now_masses_weights])), (a_now_masses_sums, .inl (cJ, 10, .inr (.inl v_now_masses_sums))), (a_now_masses_weights, .inl (cJ, 10, .inr (.inl v_now_masses_weights)))] [] [(0, .ref a_this), (1, .int k50_l1), (4, .double k50_l4), (6, .int k50_l6), (7, .double k50_l7)] 50 [] := by
        intro k50_l1 k50_l4 k50_l6 k50_l7 hf
        unfold f_X7_far_c50 at hf
        refine x_dload 52 4 hC dX7_far_50 rfl rfl ?_
        refine x_goto 56 hC dX7_far_52 (by decide) ?_
        refine x_lv [(0, .ref a_this), (1, .int k50_l1), (4, .double k50_l4), (6, .int k50_l6), (7, .double k50_l7)] [0, 1, 2, 3, 4] rfl ?_
        exact J_56 k50_l1 k50_l4 k50_l6 k50_l7 k50_l7 hf
      intro k10_l1 k10_l2 k10_l4 k10_l6 hf
      unfold f_X7_far_c10 at hf
      refine x_iload 12 4 hC dX7_far_10 rfl rfl ?_
      refine x_aload_n 13 0 hC dX7_far_12 rfl rfl rfl ?_
      refine x_get 16 0 0 hC in_X7_far_X7 rfl rfl (by decide) (List.mem_of_getElem? (i := 1) (by decide +kernel)) rfl rfl dX7_far_13 rfl ?_
      refine x_get 19 1 0 hC in_X7_far_X5 rfl rfl (by decide) (List.mem_of_getElem? (i := 2) (by decide +kernel)) rfl rfl dX7_far_16 rfl ?_
      refine x_icmp_ge 86 22 hC dX7_far_19 (by decide) rfl (fun c_4 => ?_) (fun c_4 => ?_)
      · have hf := if_t hf c_4
        refine x_iload_n 87 1 hC dX7_far_86 rfl rfl rfl ?_
        refine x_if_eq 100 90 hC dX7_far_87 (by decide) rfl (fun c_5 => ?_) (fun c_5 => ?_)
        · have hf := if_t hf c_5
          refine x_ldc2 103 hC (v := (-1 : Int64)) (List.mem_of_getElem? (i := 3) (by decide +kernel)) dX7_far_100 rfl ?_
          cases hf
          exact x_lret hC dX7_far_103 hQ rfl rfl
        · have hf := if_f hf c_5
          refine x_dload_n 91 2 hC dX7_far_90 rfl rfl rfl ?_
          refine x_dload 93 3 hC dX7_far_91 rfl rfl ?_
          obtain ⟨h_6, hf⟩ := ckp_e hf
          refine x_dsub 94 hC dX7_far_93 rfl h_6 ?_
          obtain ⟨R_7, h_R_7, hf⟩ := bd_e hf
          refine x_callSl 97 1 [] [(a_this, .inr (7, [.ref a_now, r_history, r_open, r_search, r_planned, .int v_plannedTalks])), (a_now, .inr (5, [.int v_now_members, .int v_now_here, .int v_now_seed, .int v_now_talks, r_now_values, r_now_greatest, r_now_least, r_now_heard, r_now_joined, r_now_tickets, .ref a_now_masses, r_now_books, r_now_owed, r_now_letters])), (a_now_masses, .inr (3, [.ref a_now_masses_sums, .ref a_now_masses_weights])), (a_now_masses_sums, .inl (cJ, 10, .inr (.inl v_now_masses_sums))), (a_now_masses_weights, .inl (cJ, 10, .inr (.inl v_now_masses_weights)))] hC (As := [.double (FP.dsub k10_l2 k10_l4)]) (c_X7_bitsOf l D cI cJ cQ (FP.dsub k10_l2 k10_l4) R_7 h_R_7) gX7_far_X7_bitsOf rfl ⟨rfl, rfl⟩ hd_X7_bitsOf ⟨Nat.le_of_ble_eq_true rfl, Nat.le_of_ble_eq_true rfl⟩ rfl rfl rfl rfl rfl rfl (Nat.le_of_ble_eq_true rfl) ⟨Nat.le_of_ble_eq_true rfl, Nat.le_of_ble_eq_true rfl⟩ dX7_far_94 rfl ?_
          refine x_goto 103 hC dX7_far_97 (by decide) ?_
          cases hf
          exact x_lret hC dX7_far_103 hQ rfl rfl
      · have hf := if_f hf c_4
        refine x_aload_n 23 0 hC dX7_far_22 rfl rfl rfl ?_
        refine x_iload 25 4 hC dX7_far_23 rfl rfl ?_
        obtain ⟨R_8, h_R_8, hf⟩ := bd_e hf
        refine x_callVi 28 0 1 [0, 1, 2, 3, 4] [(a_this, .inr (7, [.ref a_now, r_history, r_open, r_search, r_planned, .int v_plannedTalks])), (a_now, .inr (5, [.int v_now_members, .int v_now_here, .int v_now_seed, .int v_now_talks, r_now_values, r_now_greatest, r_now_least, r_now_heard, r_now_joined, r_now_tickets, .ref a_now_masses, r_now_books, r_now_owed, r_now_letters])), (a_now_masses, .inr (3, [.ref a_now_masses_sums, .ref a_now_masses_weights])), (a_now_masses_sums, .inl (cJ, 10, .inr (.inl v_now_masses_sums))), (a_now_masses_weights, .inl (cJ, 10, .inr (.inl v_now_masses_weights)))] hC (As := [.int k10_l6]) (c_X7_hasGuess l D cI cJ cQ a_this a_now a_now_masses a_now_masses_sums a_now_masses_weights r_history r_open r_search r_planned r_now_values r_now_greatest r_now_least r_now_heard r_now_joined r_now_tickets r_now_books r_now_owed r_now_letters v_plannedTalks v_now_members v_now_here v_now_seed v_now_talks v_now_masses_sums v_now_masses_weights k10_l6 R_8 h_R_8) rfl rfl gX7_far_X7_hasGuess rfl ⟨rfl, rfl⟩ hd_X7_hasGuess ⟨Nat.le_of_ble_eq_true rfl, Nat.le_of_ble_eq_true rfl⟩ rfl rfl rfl rfl rfl rfl (Nat.le_of_ble_eq_true rfl) ⟨Nat.le_of_ble_eq_true rfl, Nat.le_of_ble_eq_true rfl⟩ dX7_far_25 rfl ?_
        refine x_if_eq 80 31 hC dX7_far_28 (by decide) rfl (fun c_9 => ?_) (fun c_9 => ?_)
        · have hf := if_t hf c_9
          refine x_lv [(0, .ref a_this), (1, .int k10_l1), (2, .double k10_l2), (4, .double k10_l4), (6, .int k10_l6)] [0, 1, 2, 3, 4] rfl ?_
          exact J_80 k10_l1 k10_l2 k10_l4 k10_l6 hf
        · have hf := if_f hf c_9
          refine x_aload_n 32 0 hC dX7_far_31 rfl rfl rfl ?_
          refine x_iload 34 4 hC dX7_far_32 rfl rfl ?_
          obtain ⟨R_10, h_R_10, hf⟩ := bd_e hf
          refine x_callVd 37 0 1 [0, 1, 2, 3, 4] [(a_this, .inr (7, [.ref a_now, r_history, r_open, r_search, r_planned, .int v_plannedTalks])), (a_now, .inr (5, [.int v_now_members, .int v_now_here, .int v_now_seed, .int v_now_talks, r_now_values, r_now_greatest, r_now_least, r_now_heard, r_now_joined, r_now_tickets, .ref a_now_masses, r_now_books, r_now_owed, r_now_letters])), (a_now_masses, .inr (3, [.ref a_now_masses_sums, .ref a_now_masses_weights])), (a_now_masses_sums, .inl (cJ, 10, .inr (.inl v_now_masses_sums))), (a_now_masses_weights, .inl (cJ, 10, .inr (.inl v_now_masses_weights)))] hC (As := [.int k10_l6]) (c_X7_guessOf l D cI cJ cQ a_this a_now a_now_masses a_now_masses_sums a_now_masses_weights r_history r_open r_search r_planned r_now_values r_now_greatest r_now_least r_now_heard r_now_joined r_now_tickets r_now_books r_now_owed r_now_letters v_plannedTalks v_now_members v_now_here v_now_seed v_now_talks v_now_masses_sums v_now_masses_weights k10_l6 R_10 h_R_10) rfl rfl gX7_far_X7_guessOf rfl ⟨rfl, rfl⟩ hd_X7_guessOf ⟨Nat.le_of_ble_eq_true rfl, Nat.le_of_ble_eq_true rfl⟩ rfl rfl rfl rfl rfl rfl (Nat.le_of_ble_eq_true rfl) ⟨Nat.le_of_ble_eq_true rfl, Nat.le_of_ble_eq_true rfl⟩ dX7_far_34 rfl ?_
          refine x_dstore 39 [(7, .double R_10), (0, .ref a_this), (1, .int k10_l1), (2, .double k10_l2), (4, .double k10_l4), (6, .int k10_l6)] hC dX7_far_37 rfl rfl (by decide) rfl ?_
          refine x_iload_n 40 2 hC dX7_far_39 rfl rfl rfl ?_
          refine x_if_eq 50 43 hC dX7_far_40 (by decide) rfl (fun c_11 => ?_) (fun c_11 => ?_)
          · have hf := if_t hf c_11
            refine x_lv [(0, .ref a_this), (1, .int k10_l1), (4, .double k10_l4), (6, .int k10_l6), (7, .double R_10)] [1, 2, 4, 5, 0] rfl ?_
            exact J_50 k10_l1 k10_l4 k10_l6 R_10 hf
          · have hf := if_f hf c_11
            refine x_dload 45 0 hC dX7_far_43 rfl rfl ?_
            refine x_dload_n 46 3 hC dX7_far_45 rfl rfl rfl ?_
            refine x_dcmp 47 hC dX7_far_46 rfl ?_
            refine x_if_le 55 50 hC dX7_far_47 (by decide) rfl (fun c_12 => ?_) (fun c_12 => ?_)
            · have hf := if_t hf c_12
              refine x_dload_n 56 3 hC dX7_far_55 rfl rfl rfl ?_
              refine x_lv [(0, .ref a_this), (1, .int k10_l1), (4, .double k10_l4), (6, .int k10_l6), (7, .double R_10)] [1, 2, 4, 5, 0] rfl ?_
              exact J_56 k10_l1 k10_l4 k10_l6 R_10 k10_l2 hf
            · have hf := if_f hf c_12
              refine x_lv [(0, .ref a_this), (1, .int k10_l1), (4, .double k10_l4), (6, .int k10_l6), (7, .double R_10)] [1, 2, 4, 5, 0] rfl ?_
              exact J_50 k10_l1 k10_l4 k10_l6 R_10 hf
  unfold f_X7_far at hf
  refine x_iconst 1 hC (0 : Int32) dX7_far_0 rfl (by decide) ?_
  refine x_istore_n 2 [(1, .int (0 : Int32)), (0, .ref a_this)] hC dX7_far_1 rfl rfl rfl (by decide) rfl ?_
  refine x_dconst0 3 hC dX7_far_2 rfl ?_
  refine x_dstore_n 4 [(2, .double FP.dconst0), (1, .int (0 : Int32)), (0, .ref a_this)] hC dX7_far_3 rfl rfl rfl (by decide) rfl ?_
  refine x_dconst0 5 hC dX7_far_4 rfl ?_
  refine x_dstore 7 [(4, .double FP.dconst0), (2, .double FP.dconst0), (1, .int (0 : Int32)), (0, .ref a_this)] hC dX7_far_5 rfl rfl (by decide) rfl ?_
  refine x_iconst 8 hC (0 : Int32) dX7_far_7 rfl (by decide) ?_
  refine x_istore 10 [(6, .int (0 : Int32)), (4, .double FP.dconst0), (2, .double FP.dconst0), (1, .int (0 : Int32)), (0, .ref a_this)] hC dX7_far_8 rfl rfl (by decide) rfl ?_
  refine x_lv [(0, .ref a_this), (1, .int (0 : Int32)), (2, .double FP.dconst0), (4, .double FP.dconst0), (6, .int (0 : Int32))] [4, 3, 2, 1, 0] rfl ?_
  exact J_10 fu (0 : Int32) FP.dconst0 FP.dconst0 (0 : Int32) hf

theorem hd_X7_unsure : yX7_unsure.cls = RX7 ∧ yX7_unsure.cls ≠ "java/lang/invoke/MethodHandle" ∧ yX7_unsure.cls ≠ "java/lang/invoke/VarHandle" ∧ (parseMethodDescriptor yX7_unsure.desc).map (fun d => d.parameters.length) = some 0 := by decide +kernel
theorem in_X7_unsure_X7 : ∀ w ∈ u_ws RX7 TX7 6, w ∈ wsX7_unsure := fun w h => List.mem_cons_of_mem _ (List.mem_append_left _ (List.mem_append_right _ h))
theorem in_X7_unsure_X5 : ∀ w ∈ u_ws RX5 TX5 14, w ∈ wsX7_unsure := fun w h => List.mem_cons_of_mem _ (List.mem_append_right _ h)
noncomputable def f_X7_unsure_c48 (k2 : Int32 → Option (Int32)) (v_now_members : Int32) (v_now_here : Int32) (v_now_heard : Nat → Int32) (k48_l1 : Int32) : Option (Int32) := nm (k48_l1 + (1 : Int32)) fun x_1 => k2 x_1
noncomputable def f_X7_unsure_c2 (v_now_members : Int32) (v_now_here : Int32) (v_now_heard : Nat → Int32) : Nat → Int32 → Option (Int32)
  | 0, _ => none
  | n + 1, k2_l1 => if v_now_members ≤ k2_l1 then (some ((-4 : Int32))) else (bd (f_X5_isHere v_now_here k2_l1) fun R_3 => if R_3 = 0 then (f_X7_unsure_c48 (fun k2_l1 => f_X7_unsure_c2 v_now_members v_now_here v_now_heard n k2_l1) v_now_members v_now_here v_now_heard k2_l1) else (ck k2_l1 10 <| if (v_now_here &&& ((v_now_heard k2_l1.toNatClampNeg) ^^^ (-1 : Int32))) = 0 then (f_X7_unsure_c48 (fun k2_l1 => f_X7_unsure_c2 v_now_members v_now_here v_now_heard n k2_l1) v_now_members v_now_here v_now_heard k2_l1) else (some (k2_l1))))
noncomputable def f_X7_unsure (v_now_members : Int32) (v_now_here : Int32) (v_now_heard : Nat → Int32) : Option (Int32) := f_X7_unsure_c2 v_now_members v_now_here v_now_heard fu (0 : Int32)
set_option maxHeartbeats 4000000 in
set_option maxRecDepth 100000 in
theorem c_X7_unsure (l : Launch) (D : va_G) (cI cJ cQ : ClassId) (a_this : Nat) (a_now : Nat) (a_now_heard : Nat) (r_history : Value) (r_open : Value) (r_search : Value) (r_planned : Value) (r_now_values : Value) (r_now_greatest : Value) (r_now_least : Value) (r_now_joined : Value) (r_now_tickets : Value) (r_now_masses : Value) (r_now_books : Value) (r_now_owed : Value) (r_now_letters : Value) (v_plannedTalks : Int32) (v_now_members : Int32) (v_now_here : Int32) (v_now_seed : Int32) (v_now_talks : Int32) (v_now_heard : Nat → Int32) (R0 : Int32) (hf : f_X7_unsure v_now_members v_now_here v_now_heard = some R0) : Ci l yX7_unsure wsX7_unsure ({ frames := 2, cells := 0, slots := 0, locals := 83 } : Room) D [(cI, .int), (cJ, .long), (cQ, .object "WhisperCrowd$State")] [.ref a_this] [(a_this, .inr (7, [.ref a_now, r_history, r_open, r_search, r_planned, .int v_plannedTalks])), (a_now, .inr (5, [.int v_now_members, .int v_now_here, .int v_now_seed, .int v_now_talks, r_now_values, r_now_greatest, r_now_least, .ref a_now_heard, r_now_joined, r_now_tickets, r_now_masses, r_now_books, r_now_owed, r_now_letters])), (a_now_heard, .inl (cI, 10, .inl v_now_heard))] [(a_this, .inr (7, [.ref a_now, r_history, r_open, r_search, r_planned, .int v_plannedTalks])), (a_now, .inr (5, [.int v_now_members, .int v_now_here, .int v_now_seed, .int v_now_talks, r_now_values, r_now_greatest, r_now_least, .ref a_now_heard, r_now_joined, r_now_tickets, r_now_masses, r_now_books, r_now_owed, r_now_letters])), (a_now_heard, .inl (cI, 10, .inl v_now_heard))] R0 := by
  refine x_enti (cc := cX7_unsure) (maxL := 2) (rt := (some .int)) (lv := [(0, .ref a_this)]) (by decide) rfl (Nat.le_of_ble_eq_true rfl) rfl ?_
  intro p e s m args below meth c A Q hQ hC
  have J_2 : ∀ (n : Nat) (k2_l1 : Int32), f_X7_unsure_c2 v_now_members v_now_here v_now_heard n k2_l1 = some R0 → XW p l e ({ frames := 2, cells := 0, slots := 0, locals := 83 } : Room) s m args below meth c D A 2 0 0 Q [(a_this, .inr (7, [.ref a_now, r_history, r_open, r_search, r_planned, .int v_plannedTalks])), (a_now, .inr (5, [.int v_now_members, .int v_now_here, .int v_now_seed, .int v_now_talks, r_now_values, r_now_greatest, r_now_least, .ref a_now_heard, r_now_joined, r_now_tickets, r_now_masses, r_now_books, r_now_owed, r_now_letters])), (a_now_heard, .inl (cI, 10, .inl v_now_heard))] [] [(0, .ref a_this), (1, .int k2_l1)] 2 [] := by
    intro n
    induction n with
    | zero => intro k2_l1 hf; exact nomatch (show (none : Option (Int32)) = some R0 from hf)
    | succ n_2 ih_2 =>
      have J_48 : ∀ (k48_l1 : Int32), f_X7_unsure_c48 (fun k2_l1 => f_X7_unsure_c2 v_now_members v_now_here v_now_heard n_2 k2_l1) v_now_members v_now_here v_now_heard k48_l1 = some R0 → XW p l e ({ frames := 2, cells := 0, slots := 0, locals := 83 } : Room) s m args below meth c D A 2 0 0 Q [(a_this, .inr (7, [.ref a_now, r_history, r_open, r_search, r_planned, .int v_plannedTalks])), (a_now, .inr (5, [.int v_now_members, .int v_now_here, .int v_now_seed, .int v_now_talks, r_now_values, r_now_greatest, r_now_least, .ref a_now_heard, r_now_joined, r_now_tickets, r_now_masses, r_now_books, r_now_owed, r_now_letters])), (a_now_heard, .inl (cI, 10, .inl v_now_heard))] [] [(0, .ref a_this), (1, .int k48_l1)] 48 [] := by
        intro k48_l1 hf
        unfold f_X7_unsure_c48 at hf
        obtain ⟨x_1, e_x_1, hf⟩ := nmx_e hf
        refine x_iinc 51 1 [(1, .int x_1), (0, .ref a_this)] hC dX7_unsure_48 rfl rfl e_x_1 (by decide) (by decide) rfl ?_
        refine x_goto 2 hC dX7_unsure_51 (by decide) ?_
        refine x_lv [(0, .ref a_this), (1, .int x_1)] [1, 0] rfl ?_
        exact ih_2 x_1 hf
      intro k2_l1 hf
      unfold f_X7_unsure_c2 at hf
      refine x_iload_n 3 1 hC dX7_unsure_2 rfl rfl rfl ?_
      refine x_aload_n 4 0 hC dX7_unsure_3 rfl rfl rfl ?_
      refine x_get 7 0 0 hC in_X7_unsure_X7 rfl rfl (by decide) (List.mem_of_getElem? (i := 1) (by decide +kernel)) rfl rfl dX7_unsure_4 rfl ?_
      refine x_get 10 1 0 hC in_X7_unsure_X5 rfl rfl (by decide) (List.mem_of_getElem? (i := 2) (by decide +kernel)) rfl rfl dX7_unsure_7 rfl ?_
      refine x_icmp_ge 54 13 hC dX7_unsure_10 (by decide) rfl (fun c_2 => ?_) (fun c_2 => ?_)
      · have hf := if_t hf c_2
        refine x_bipush 56 hC (-4 : Int32) dX7_unsure_54 rfl (by decide) ?_
        cases hf
        exact x_iret hC dX7_unsure_56 hQ rfl rfl
      · have hf := if_f hf c_2
        refine x_aload_n 14 0 hC dX7_unsure_13 rfl rfl rfl ?_
        refine x_get 17 0 0 hC in_X7_unsure_X7 rfl rfl (by decide) (List.mem_of_getElem? (i := 1) (by decide +kernel)) rfl rfl dX7_unsure_14 rfl ?_
        refine x_iload_n 18 1 hC dX7_unsure_17 rfl rfl rfl ?_
        obtain ⟨R_3, h_R_3, hf⟩ := bd_e hf
        refine x_callVi 21 0 1 [1] [(a_this, .inr (7, [.ref a_now, r_history, r_open, r_search, r_planned, .int v_plannedTalks])), (a_now, .inr (5, [.int v_now_members, .int v_now_here, .int v_now_seed, .int v_now_talks, r_now_values, r_now_greatest, r_now_least, .ref a_now_heard, r_now_joined, r_now_tickets, r_now_masses, r_now_books, r_now_owed, r_now_letters])), (a_now_heard, .inl (cI, 10, .inl v_now_heard))] hC (As := [.int k2_l1]) (c_X5_isHere l D cI cJ cQ a_now r_now_values r_now_greatest r_now_least (.ref a_now_heard) r_now_joined r_now_tickets r_now_masses r_now_books r_now_owed r_now_letters v_now_members v_now_here v_now_seed v_now_talks k2_l1 R_3 h_R_3) rfl rfl gX7_unsure_X5_isHere rfl ⟨rfl, rfl⟩ hd_X5_isHere ⟨Nat.le_of_ble_eq_true rfl, Nat.le_of_ble_eq_true rfl⟩ rfl rfl rfl rfl rfl rfl (Nat.le_of_ble_eq_true rfl) ⟨Nat.le_of_ble_eq_true rfl, Nat.le_of_ble_eq_true rfl⟩ dX7_unsure_18 rfl ?_
        refine x_if_eq 48 24 hC dX7_unsure_21 (by decide) rfl (fun c_4 => ?_) (fun c_4 => ?_)
        · have hf := if_t hf c_4
          refine x_lv [(0, .ref a_this), (1, .int k2_l1)] [0, 1] rfl ?_
          exact J_48 k2_l1 hf
        · have hf := if_f hf c_4
          refine x_aload_n 25 0 hC dX7_unsure_24 rfl rfl rfl ?_
          refine x_get 28 0 0 hC in_X7_unsure_X7 rfl rfl (by decide) (List.mem_of_getElem? (i := 1) (by decide +kernel)) rfl rfl dX7_unsure_25 rfl ?_
          refine x_get 31 1 1 hC in_X7_unsure_X5 rfl rfl (by decide) (List.mem_of_getElem? (i := 3) (by decide +kernel)) rfl rfl dX7_unsure_28 rfl ?_
          refine x_aload_n 32 0 hC dX7_unsure_31 rfl rfl rfl ?_
          refine x_get 35 0 0 hC in_X7_unsure_X7 rfl rfl (by decide) (List.mem_of_getElem? (i := 1) (by decide +kernel)) rfl rfl dX7_unsure_32 rfl ?_
          refine x_get 38 1 7 hC in_X7_unsure_X5 rfl rfl (by decide) (List.mem_of_getElem? (i := 4) (by decide +kernel)) rfl rfl dX7_unsure_35 rfl ?_
          refine x_iload_n 39 1 hC dX7_unsure_38 rfl rfl rfl ?_
          obtain ⟨h_5, hf⟩ := ck_e hf
          refine x_iald 40 2 0 hC rfl rfl h_5 dX7_unsure_39 rfl ?_
          refine x_iconst 41 hC (-1 : Int32) dX7_unsure_40 rfl (by decide) ?_
          refine x_ixor 42 hC dX7_unsure_41 rfl ?_
          refine x_iand 43 hC dX7_unsure_42 rfl ?_
          refine x_if_eq 48 46 hC dX7_unsure_43 (by decide) rfl (fun c_6 => ?_) (fun c_6 => ?_)
          · have hf := if_t hf c_6
            refine x_lv [(0, .ref a_this), (1, .int k2_l1)] [0, 1] rfl ?_
            exact J_48 k2_l1 hf
          · have hf := if_f hf c_6
            refine x_iload_n 47 1 hC dX7_unsure_46 rfl rfl rfl ?_
            cases hf
            exact x_iret hC dX7_unsure_47 hQ rfl rfl
  unfold f_X7_unsure at hf
  refine x_iconst 1 hC (0 : Int32) dX7_unsure_0 rfl (by decide) ?_
  refine x_istore_n 2 [(1, .int (0 : Int32)), (0, .ref a_this)] hC dX7_unsure_1 rfl rfl rfl (by decide) rfl ?_
  refine x_lv [(0, .ref a_this), (1, .int (0 : Int32))] [1, 0] rfl ?_
  exact J_2 fu (0 : Int32) hf

theorem hd_X7_many : yX7_many.cls = RX7 ∧ yX7_many.cls ≠ "java/lang/invoke/MethodHandle" ∧ yX7_many.cls ≠ "java/lang/invoke/VarHandle" ∧ (parseMethodDescriptor yX7_many.desc).map (fun d => d.parameters.length) = some 1 := by decide +kernel
theorem in_X7_many_X7 : ∀ w ∈ u_ws RX7 TX7 6, w ∈ wsX7_many := fun w h => List.mem_cons_of_mem _ (List.mem_append_left _ (List.mem_append_left _ (List.mem_append_right _ h)))
theorem in_X7_many_X5 : ∀ w ∈ u_ws RX5 TX5 14, w ∈ wsX7_many := fun w h => List.mem_cons_of_mem _ (List.mem_append_left _ (List.mem_append_right _ h))
theorem in_X7_many_X6 : ∀ w ∈ u_ws RX6 TX6 3, w ∈ wsX7_many := fun w h => List.mem_cons_of_mem _ (List.mem_append_right _ h)
noncomputable def f_X7_many (v_now_members : Int32) (v_now_here : Int32) (v_now_tickets_known : Nat → Int32) (v_now_tickets_numbers : Nat → Int32) (p1 : Int32) : Option (Int64) := bd (f_X7_isHere v_now_members v_now_here p1) fun R_1 => if ¬ R_1 = 0 then (ck p1 11 <| nm (v_now_tickets_known p1.toNatClampNeg) fun x_4 => if (4 : Int32) ≤ x_4 then (bd (f_X6_numberAt v_now_tickets_numbers p1 (3 : Int32)) fun R_6 => if ¬ R_6 = 0 then (ckp (FP.ddiv (4753549406689558528 : UInt64) (FP.i2d R_6) &&& 0x7fffffffffffffff ≤ 0x7ff0000000000000) (Classical.propDecidable _) <| bd (f_X7_bitsOf (FP.ddiv (4753549406689558528 : UInt64) (FP.i2d R_6))) fun R_9 => some (R_9)) else (some ((9218868437227405312 : Int64)))) else (bd (f_X7_bitsOf (FP.i2d x_4)) fun R_10 => some (R_10))) else (some ((-1 : Int64)))
set_option maxHeartbeats 4000000 in
set_option maxRecDepth 100000 in
theorem c_X7_many (l : Launch) (D : va_G) (cI cJ cQ : ClassId) (a_this : Nat) (a_now : Nat) (a_now_tickets : Nat) (a_now_tickets_known : Nat) (a_now_tickets_numbers : Nat) (r_history : Value) (r_open : Value) (r_search : Value) (r_planned : Value) (r_now_values : Value) (r_now_greatest : Value) (r_now_least : Value) (r_now_heard : Value) (r_now_joined : Value) (r_now_masses : Value) (r_now_books : Value) (r_now_owed : Value) (r_now_letters : Value) (r_now_tickets_owners : Value) (v_plannedTalks : Int32) (v_now_members : Int32) (v_now_here : Int32) (v_now_seed : Int32) (v_now_talks : Int32) (v_now_tickets_known : Nat → Int32) (v_now_tickets_numbers : Nat → Int32) (p1 : Int32) (R0 : Int64) (hf : f_X7_many v_now_members v_now_here v_now_tickets_known v_now_tickets_numbers p1 = some R0) : Cl l yX7_many wsX7_many ({ frames := 3, cells := 0, slots := 0, locals := 106 } : Room) D [(cI, .int), (cJ, .long), (cQ, .object "WhisperCrowd$State")] [.ref a_this, .int p1] [(a_this, .inr (7, [.ref a_now, r_history, r_open, r_search, r_planned, .int v_plannedTalks])), (a_now, .inr (5, [.int v_now_members, .int v_now_here, .int v_now_seed, .int v_now_talks, r_now_values, r_now_greatest, r_now_least, r_now_heard, r_now_joined, .ref a_now_tickets, r_now_masses, r_now_books, r_now_owed, r_now_letters])), (a_now_tickets, .inr (6, [.ref a_now_tickets_known, .ref a_now_tickets_numbers, r_now_tickets_owners])), (a_now_tickets_known, .inl (cI, 11, .inl v_now_tickets_known)), (a_now_tickets_numbers, .inl (cI, 44, .inl v_now_tickets_numbers))] [(a_this, .inr (7, [.ref a_now, r_history, r_open, r_search, r_planned, .int v_plannedTalks])), (a_now, .inr (5, [.int v_now_members, .int v_now_here, .int v_now_seed, .int v_now_talks, r_now_values, r_now_greatest, r_now_least, r_now_heard, r_now_joined, .ref a_now_tickets, r_now_masses, r_now_books, r_now_owed, r_now_letters])), (a_now_tickets, .inr (6, [.ref a_now_tickets_known, .ref a_now_tickets_numbers, r_now_tickets_owners])), (a_now_tickets_known, .inl (cI, 11, .inl v_now_tickets_known)), (a_now_tickets_numbers, .inl (cI, 44, .inl v_now_tickets_numbers))] R0 := by
  refine x_entl (cc := cX7_many) (maxL := 4) (rt := (some .long)) (lv := [(0, .ref a_this), (1, .int p1)]) (by decide) rfl (Nat.le_of_ble_eq_true rfl) rfl ?_
  intro p e s m args below meth c A Q hQ hC
  unfold f_X7_many at hf
  refine x_aload_n 1 0 hC dX7_many_0 rfl rfl rfl ?_
  refine x_iload_n 2 1 hC dX7_many_1 rfl rfl rfl ?_
  obtain ⟨R_1, h_R_1, hf⟩ := bd_e hf
  refine x_callVi 5 0 1 [0, 1] [(a_this, .inr (7, [.ref a_now, r_history, r_open, r_search, r_planned, .int v_plannedTalks])), (a_now, .inr (5, [.int v_now_members, .int v_now_here, .int v_now_seed, .int v_now_talks, r_now_values, r_now_greatest, r_now_least, r_now_heard, r_now_joined, .ref a_now_tickets, r_now_masses, r_now_books, r_now_owed, r_now_letters])), (a_now_tickets, .inr (6, [.ref a_now_tickets_known, .ref a_now_tickets_numbers, r_now_tickets_owners])), (a_now_tickets_known, .inl (cI, 11, .inl v_now_tickets_known)), (a_now_tickets_numbers, .inl (cI, 44, .inl v_now_tickets_numbers))] hC (As := [.int p1]) (c_X7_isHere l D cI cJ cQ a_this a_now r_history r_open r_search r_planned r_now_values r_now_greatest r_now_least r_now_heard r_now_joined (.ref a_now_tickets) r_now_masses r_now_books r_now_owed r_now_letters v_plannedTalks v_now_members v_now_here v_now_seed v_now_talks p1 R_1 h_R_1) rfl rfl gX7_many_X7_isHere rfl ⟨rfl, rfl⟩ hd_X7_isHere ⟨Nat.le_of_ble_eq_true rfl, Nat.le_of_ble_eq_true rfl⟩ rfl rfl rfl rfl rfl rfl (Nat.le_of_ble_eq_true rfl) ⟨Nat.le_of_ble_eq_true rfl, Nat.le_of_ble_eq_true rfl⟩ dX7_many_2 rfl ?_
  refine x_if_ne 12 8 hC dX7_many_5 (by decide) rfl (fun c_2 => ?_) (fun c_2 => ?_)
  · have hf := if_t hf c_2
    refine x_aload_n 13 0 hC dX7_many_12 rfl rfl rfl ?_
    refine x_get 16 0 0 hC in_X7_many_X7 rfl rfl (by decide) (List.mem_of_getElem? (i := 2) (by decide +kernel)) rfl rfl dX7_many_13 rfl ?_
    refine x_get 19 1 9 hC in_X7_many_X5 rfl rfl (by decide) (List.mem_of_getElem? (i := 3) (by decide +kernel)) rfl rfl dX7_many_16 rfl ?_
    refine x_get 22 2 0 hC in_X7_many_X6 rfl rfl (by decide) (List.mem_of_getElem? (i := 4) (by decide +kernel)) rfl rfl dX7_many_19 rfl ?_
    refine x_iload_n 23 1 hC dX7_many_22 rfl rfl rfl ?_
    obtain ⟨h_3, hf⟩ := ck_e hf
    refine x_iald 24 3 0 hC rfl rfl h_3 dX7_many_23 rfl ?_
    obtain ⟨x_4, e_x_4, hf⟩ := nmx_e hf
    refine x_istore_n 25 [(2, .int x_4), (0, .ref a_this), (1, .int p1)] hC dX7_many_24 rfl rfl e_x_4 (by decide) rfl ?_
    refine x_iload_n 26 0 hC dX7_many_25 rfl rfl rfl ?_
    refine x_iconst 27 hC (4 : Int32) dX7_many_26 rfl (by decide) ?_
    refine x_icmp_ge 36 30 hC dX7_many_27 (by decide) rfl (fun c_5 => ?_) (fun c_5 => ?_)
    · have hf := if_t hf c_5
      refine x_aload_n 37 1 hC dX7_many_36 rfl rfl rfl ?_
      refine x_get 40 0 0 hC in_X7_many_X7 rfl rfl (by decide) (List.mem_of_getElem? (i := 2) (by decide +kernel)) rfl rfl dX7_many_37 rfl ?_
      refine x_get 43 1 9 hC in_X7_many_X5 rfl rfl (by decide) (List.mem_of_getElem? (i := 3) (by decide +kernel)) rfl rfl dX7_many_40 rfl ?_
      refine x_iload_n 44 2 hC dX7_many_43 rfl rfl rfl ?_
      refine x_iconst 45 hC (3 : Int32) dX7_many_44 rfl (by decide) ?_
      obtain ⟨R_6, h_R_6, hf⟩ := bd_e hf
      refine x_callVi 48 0 2 [2, 4] [(a_this, .inr (7, [.ref a_now, r_history, r_open, r_search, r_planned, .int v_plannedTalks])), (a_now, .inr (5, [.int v_now_members, .int v_now_here, .int v_now_seed, .int v_now_talks, r_now_values, r_now_greatest, r_now_least, r_now_heard, r_now_joined, .ref a_now_tickets, r_now_masses, r_now_books, r_now_owed, r_now_letters])), (a_now_tickets, .inr (6, [.ref a_now_tickets_known, .ref a_now_tickets_numbers, r_now_tickets_owners])), (a_now_tickets_known, .inl (cI, 11, .inl v_now_tickets_known)), (a_now_tickets_numbers, .inl (cI, 44, .inl v_now_tickets_numbers))] hC (As := [.int p1, .int (3 : Int32)]) (c_X6_numberAt l D cI cJ cQ a_now_tickets a_now_tickets_numbers (.ref a_now_tickets_known) r_now_tickets_owners v_now_tickets_numbers p1 (3 : Int32) R_6 h_R_6) rfl rfl gX7_many_X6_numberAt rfl ⟨rfl, rfl⟩ hd_X6_numberAt ⟨Nat.le_of_ble_eq_true rfl, Nat.le_of_ble_eq_true rfl⟩ rfl rfl rfl rfl rfl rfl (Nat.le_of_ble_eq_true rfl) ⟨Nat.le_of_ble_eq_true rfl, Nat.le_of_ble_eq_true rfl⟩ dX7_many_45 rfl ?_
      refine x_istore_n 49 [(3, .int R_6), (2, .int x_4), (0, .ref a_this), (1, .int p1)] hC dX7_many_48 rfl rfl rfl (by decide) rfl ?_
      refine x_iload_n 50 0 hC dX7_many_49 rfl rfl rfl ?_
      refine x_if_ne 59 53 hC dX7_many_50 (by decide) rfl (fun c_7 => ?_) (fun c_7 => ?_)
      · have hf := if_t hf c_7
        refine x_ldc2d 62 hC (v := (4753549406689558528 : UInt64)) (List.mem_of_getElem? (i := 6) (by decide +kernel)) dX7_many_59 rfl ?_
        refine x_iload_n 63 0 hC dX7_many_62 rfl rfl rfl ?_
        refine x_i2d 64 hC dX7_many_63 rfl ?_
        obtain ⟨h_8, hf⟩ := ckp_e hf
        refine x_ddiv 65 hC dX7_many_64 rfl h_8 ?_
        obtain ⟨R_9, h_R_9, hf⟩ := bd_e hf
        refine x_callSl 68 1 [] [(a_this, .inr (7, [.ref a_now, r_history, r_open, r_search, r_planned, .int v_plannedTalks])), (a_now, .inr (5, [.int v_now_members, .int v_now_here, .int v_now_seed, .int v_now_talks, r_now_values, r_now_greatest, r_now_least, r_now_heard, r_now_joined, .ref a_now_tickets, r_now_masses, r_now_books, r_now_owed, r_now_letters])), (a_now_tickets, .inr (6, [.ref a_now_tickets_known, .ref a_now_tickets_numbers, r_now_tickets_owners])), (a_now_tickets_known, .inl (cI, 11, .inl v_now_tickets_known)), (a_now_tickets_numbers, .inl (cI, 44, .inl v_now_tickets_numbers))] hC (As := [.double (FP.ddiv (4753549406689558528 : UInt64) (FP.i2d R_6))]) (c_X7_bitsOf l D cI cJ cQ (FP.ddiv (4753549406689558528 : UInt64) (FP.i2d R_6)) R_9 h_R_9) gX7_many_X7_bitsOf rfl ⟨rfl, rfl⟩ hd_X7_bitsOf ⟨Nat.le_of_ble_eq_true rfl, Nat.le_of_ble_eq_true rfl⟩ rfl rfl rfl rfl rfl rfl (Nat.le_of_ble_eq_true rfl) ⟨Nat.le_of_ble_eq_true rfl, Nat.le_of_ble_eq_true rfl⟩ dX7_many_65 rfl ?_
        cases hf
        exact x_lret hC dX7_many_68 hQ rfl rfl
      · have hf := if_f hf c_7
        refine x_ldc2 56 hC (v := (9218868437227405312 : Int64)) (List.mem_of_getElem? (i := 5) (by decide +kernel)) dX7_many_53 rfl ?_
        refine x_goto 68 hC dX7_many_56 (by decide) ?_
        cases hf
        exact x_lret hC dX7_many_68 hQ rfl rfl
    · have hf := if_f hf c_5
      refine x_iload_n 31 0 hC dX7_many_30 rfl rfl rfl ?_
      refine x_i2d 32 hC dX7_many_31 rfl ?_
      obtain ⟨R_10, h_R_10, hf⟩ := bd_e hf
      refine x_callSl 35 1 [] [(a_this, .inr (7, [.ref a_now, r_history, r_open, r_search, r_planned, .int v_plannedTalks])), (a_now, .inr (5, [.int v_now_members, .int v_now_here, .int v_now_seed, .int v_now_talks, r_now_values, r_now_greatest, r_now_least, r_now_heard, r_now_joined, .ref a_now_tickets, r_now_masses, r_now_books, r_now_owed, r_now_letters])), (a_now_tickets, .inr (6, [.ref a_now_tickets_known, .ref a_now_tickets_numbers, r_now_tickets_owners])), (a_now_tickets_known, .inl (cI, 11, .inl v_now_tickets_known)), (a_now_tickets_numbers, .inl (cI, 44, .inl v_now_tickets_numbers))] hC (As := [.double (FP.i2d x_4)]) (c_X7_bitsOf l D cI cJ cQ (FP.i2d x_4) R_10 h_R_10) gX7_many_X7_bitsOf rfl ⟨rfl, rfl⟩ hd_X7_bitsOf ⟨Nat.le_of_ble_eq_true rfl, Nat.le_of_ble_eq_true rfl⟩ rfl rfl rfl rfl rfl rfl (Nat.le_of_ble_eq_true rfl) ⟨Nat.le_of_ble_eq_true rfl, Nat.le_of_ble_eq_true rfl⟩ dX7_many_32 rfl ?_
      cases hf
      exact x_lret hC dX7_many_35 hQ rfl rfl
  · have hf := if_f hf c_2
    refine x_ldc2 11 hC (v := (-1 : Int64)) (List.mem_of_getElem? (i := 1) (by decide +kernel)) dX7_many_8 rfl ?_
    cases hf
    exact x_lret hC dX7_many_11 hQ rfl rfl

theorem hd_X7_ticket : yX7_ticket.cls = RX7 ∧ yX7_ticket.cls ≠ "java/lang/invoke/MethodHandle" ∧ yX7_ticket.cls ≠ "java/lang/invoke/VarHandle" ∧ (parseMethodDescriptor yX7_ticket.desc).map (fun d => d.parameters.length) = some 2 := by decide +kernel
theorem in_X7_ticket_X7 : ∀ w ∈ u_ws RX7 TX7 6, w ∈ wsX7_ticket := fun w h => List.mem_cons_of_mem _ (List.mem_append_left _ (List.mem_append_left _ (List.mem_append_right _ h)))
theorem in_X7_ticket_X5 : ∀ w ∈ u_ws RX5 TX5 14, w ∈ wsX7_ticket := fun w h => List.mem_cons_of_mem _ (List.mem_append_left _ (List.mem_append_right _ h))
theorem in_X7_ticket_X6 : ∀ w ∈ u_ws RX6 TX6 3, w ∈ wsX7_ticket := fun w h => List.mem_cons_of_mem _ (List.mem_append_right _ h)
noncomputable def f_X7_ticket (v_now_members : Int32) (v_now_here : Int32) (v_now_tickets_known : Nat → Int32) (v_now_tickets_numbers : Nat → Int32) (p1 : Int32) (p2 : Int32) : Option (Int32) := bd (f_X7_isMember v_now_members p1) fun R_1 => if ¬ R_1 = 0 then (bd (f_X5_isHere v_now_here p1) fun R_3 => if ¬ R_3 = 0 then (if p2 < 0 then (some ((-4 : Int32))) else (ck p1 11 <| if (v_now_tickets_known p1.toNatClampNeg) ≤ p2 then (some ((-4 : Int32))) else (bd (f_X6_numberAt v_now_tickets_numbers p1 p2) fun R_8 => some (R_8)))) else (some ((-2 : Int32)))) else (some ((-1 : Int32)))
set_option maxHeartbeats 4000000 in
set_option maxRecDepth 100000 in
theorem c_X7_ticket (l : Launch) (D : va_G) (cI cJ cQ : ClassId) (a_this : Nat) (a_now : Nat) (a_now_tickets : Nat) (a_now_tickets_known : Nat) (a_now_tickets_numbers : Nat) (r_history : Value) (r_open : Value) (r_search : Value) (r_planned : Value) (r_now_values : Value) (r_now_greatest : Value) (r_now_least : Value) (r_now_heard : Value) (r_now_joined : Value) (r_now_masses : Value) (r_now_books : Value) (r_now_owed : Value) (r_now_letters : Value) (r_now_tickets_owners : Value) (v_plannedTalks : Int32) (v_now_members : Int32) (v_now_here : Int32) (v_now_seed : Int32) (v_now_talks : Int32) (v_now_tickets_known : Nat → Int32) (v_now_tickets_numbers : Nat → Int32) (p1 : Int32) (p2 : Int32) (R0 : Int32) (hf : f_X7_ticket v_now_members v_now_here v_now_tickets_known v_now_tickets_numbers p1 p2 = some R0) : Ci l yX7_ticket wsX7_ticket ({ frames := 2, cells := 0, slots := 0, locals := 84 } : Room) D [(cI, .int), (cJ, .long), (cQ, .object "WhisperCrowd$State")] [.ref a_this, .int p1, .int p2] [(a_this, .inr (7, [.ref a_now, r_history, r_open, r_search, r_planned, .int v_plannedTalks])), (a_now, .inr (5, [.int v_now_members, .int v_now_here, .int v_now_seed, .int v_now_talks, r_now_values, r_now_greatest, r_now_least, r_now_heard, r_now_joined, .ref a_now_tickets, r_now_masses, r_now_books, r_now_owed, r_now_letters])), (a_now_tickets, .inr (6, [.ref a_now_tickets_known, .ref a_now_tickets_numbers, r_now_tickets_owners])), (a_now_tickets_known, .inl (cI, 11, .inl v_now_tickets_known)), (a_now_tickets_numbers, .inl (cI, 44, .inl v_now_tickets_numbers))] [(a_this, .inr (7, [.ref a_now, r_history, r_open, r_search, r_planned, .int v_plannedTalks])), (a_now, .inr (5, [.int v_now_members, .int v_now_here, .int v_now_seed, .int v_now_talks, r_now_values, r_now_greatest, r_now_least, r_now_heard, r_now_joined, .ref a_now_tickets, r_now_masses, r_now_books, r_now_owed, r_now_letters])), (a_now_tickets, .inr (6, [.ref a_now_tickets_known, .ref a_now_tickets_numbers, r_now_tickets_owners])), (a_now_tickets_known, .inl (cI, 11, .inl v_now_tickets_known)), (a_now_tickets_numbers, .inl (cI, 44, .inl v_now_tickets_numbers))] R0 := by
  refine x_enti (cc := cX7_ticket) (maxL := 3) (rt := (some .int)) (lv := [(0, .ref a_this), (1, .int p1), (2, .int p2)]) (by decide) rfl (Nat.le_of_ble_eq_true rfl) rfl ?_
  intro p e s m args below meth c A Q hQ hC
  unfold f_X7_ticket at hf
  refine x_aload_n 1 0 hC dX7_ticket_0 rfl rfl rfl ?_
  refine x_iload_n 2 1 hC dX7_ticket_1 rfl rfl rfl ?_
  obtain ⟨R_1, h_R_1, hf⟩ := bd_e hf
  refine x_callVi 5 0 1 [0, 1] [(a_this, .inr (7, [.ref a_now, r_history, r_open, r_search, r_planned, .int v_plannedTalks])), (a_now, .inr (5, [.int v_now_members, .int v_now_here, .int v_now_seed, .int v_now_talks, r_now_values, r_now_greatest, r_now_least, r_now_heard, r_now_joined, .ref a_now_tickets, r_now_masses, r_now_books, r_now_owed, r_now_letters])), (a_now_tickets, .inr (6, [.ref a_now_tickets_known, .ref a_now_tickets_numbers, r_now_tickets_owners])), (a_now_tickets_known, .inl (cI, 11, .inl v_now_tickets_known)), (a_now_tickets_numbers, .inl (cI, 44, .inl v_now_tickets_numbers))] hC (As := [.int p1]) (c_X7_isMember l D cI cJ cQ a_this a_now r_history r_open r_search r_planned r_now_values r_now_greatest r_now_least r_now_heard r_now_joined (.ref a_now_tickets) r_now_masses r_now_books r_now_owed r_now_letters v_plannedTalks v_now_members v_now_here v_now_seed v_now_talks p1 R_1 h_R_1) rfl rfl gX7_ticket_X7_isMember rfl ⟨rfl, rfl⟩ hd_X7_isMember ⟨Nat.le_of_ble_eq_true rfl, Nat.le_of_ble_eq_true rfl⟩ rfl rfl rfl rfl rfl rfl (Nat.le_of_ble_eq_true rfl) ⟨Nat.le_of_ble_eq_true rfl, Nat.le_of_ble_eq_true rfl⟩ dX7_ticket_2 rfl ?_
  refine x_if_ne 10 8 hC dX7_ticket_5 (by decide) rfl (fun c_2 => ?_) (fun c_2 => ?_)
  · have hf := if_t hf c_2
    refine x_aload_n 11 0 hC dX7_ticket_10 rfl rfl rfl ?_
    refine x_get 14 0 0 hC in_X7_ticket_X7 rfl rfl (by decide) (List.mem_of_getElem? (i := 1) (by decide +kernel)) rfl rfl dX7_ticket_11 rfl ?_
    refine x_iload_n 15 1 hC dX7_ticket_14 rfl rfl rfl ?_
    obtain ⟨R_3, h_R_3, hf⟩ := bd_e hf
    refine x_callVi 18 0 1 [1] [(a_this, .inr (7, [.ref a_now, r_history, r_open, r_search, r_planned, .int v_plannedTalks])), (a_now, .inr (5, [.int v_now_members, .int v_now_here, .int v_now_seed, .int v_now_talks, r_now_values, r_now_greatest, r_now_least, r_now_heard, r_now_joined, .ref a_now_tickets, r_now_masses, r_now_books, r_now_owed, r_now_letters])), (a_now_tickets, .inr (6, [.ref a_now_tickets_known, .ref a_now_tickets_numbers, r_now_tickets_owners])), (a_now_tickets_known, .inl (cI, 11, .inl v_now_tickets_known)), (a_now_tickets_numbers, .inl (cI, 44, .inl v_now_tickets_numbers))] hC (As := [.int p1]) (c_X5_isHere l D cI cJ cQ a_now r_now_values r_now_greatest r_now_least r_now_heard r_now_joined (.ref a_now_tickets) r_now_masses r_now_books r_now_owed r_now_letters v_now_members v_now_here v_now_seed v_now_talks p1 R_3 h_R_3) rfl rfl gX7_ticket_X5_isHere rfl ⟨rfl, rfl⟩ hd_X5_isHere ⟨Nat.le_of_ble_eq_true rfl, Nat.le_of_ble_eq_true rfl⟩ rfl rfl rfl rfl rfl rfl (Nat.le_of_ble_eq_true rfl) ⟨Nat.le_of_ble_eq_true rfl, Nat.le_of_ble_eq_true rfl⟩ dX7_ticket_15 rfl ?_
    refine x_if_ne 24 21 hC dX7_ticket_18 (by decide) rfl (fun c_4 => ?_) (fun c_4 => ?_)
    · have hf := if_t hf c_4
      refine x_iload_n 25 2 hC dX7_ticket_24 rfl rfl rfl ?_
      refine x_if_lt 59 28 hC dX7_ticket_25 (by decide) rfl (fun c_5 => ?_) (fun c_5 => ?_)
      · have hf := if_t hf c_5
        refine x_bipush 61 hC (-4 : Int32) dX7_ticket_59 rfl (by decide) ?_
        cases hf
        exact x_iret hC dX7_ticket_61 hQ rfl rfl
      · have hf := if_f hf c_5
        refine x_iload_n 29 2 hC dX7_ticket_28 rfl rfl rfl ?_
        refine x_aload_n 30 0 hC dX7_ticket_29 rfl rfl rfl ?_
        refine x_get 33 0 0 hC in_X7_ticket_X7 rfl rfl (by decide) (List.mem_of_getElem? (i := 1) (by decide +kernel)) rfl rfl dX7_ticket_30 rfl ?_
        refine x_get 36 1 9 hC in_X7_ticket_X5 rfl rfl (by decide) (List.mem_of_getElem? (i := 2) (by decide +kernel)) rfl rfl dX7_ticket_33 rfl ?_
        refine x_get 39 2 0 hC in_X7_ticket_X6 rfl rfl (by decide) (List.mem_of_getElem? (i := 3) (by decide +kernel)) rfl rfl dX7_ticket_36 rfl ?_
        refine x_iload_n 40 1 hC dX7_ticket_39 rfl rfl rfl ?_
        obtain ⟨h_6, hf⟩ := ck_e hf
        refine x_iald 41 3 0 hC rfl rfl h_6 dX7_ticket_40 rfl ?_
        refine x_icmp_ge 59 44 hC dX7_ticket_41 (by decide) rfl (fun c_7 => ?_) (fun c_7 => ?_)
        · have hf := if_t hf c_7
          refine x_bipush 61 hC (-4 : Int32) dX7_ticket_59 rfl (by decide) ?_
          cases hf
          exact x_iret hC dX7_ticket_61 hQ rfl rfl
        · have hf := if_f hf c_7
          refine x_aload_n 45 0 hC dX7_ticket_44 rfl rfl rfl ?_
          refine x_get 48 0 0 hC in_X7_ticket_X7 rfl rfl (by decide) (List.mem_of_getElem? (i := 1) (by decide +kernel)) rfl rfl dX7_ticket_45 rfl ?_
          refine x_get 51 1 9 hC in_X7_ticket_X5 rfl rfl (by decide) (List.mem_of_getElem? (i := 2) (by decide +kernel)) rfl rfl dX7_ticket_48 rfl ?_
          refine x_iload_n 52 1 hC dX7_ticket_51 rfl rfl rfl ?_
          refine x_iload_n 53 2 hC dX7_ticket_52 rfl rfl rfl ?_
          obtain ⟨R_8, h_R_8, hf⟩ := bd_e hf
          refine x_callVi 56 0 2 [2, 4] [(a_this, .inr (7, [.ref a_now, r_history, r_open, r_search, r_planned, .int v_plannedTalks])), (a_now, .inr (5, [.int v_now_members, .int v_now_here, .int v_now_seed, .int v_now_talks, r_now_values, r_now_greatest, r_now_least, r_now_heard, r_now_joined, .ref a_now_tickets, r_now_masses, r_now_books, r_now_owed, r_now_letters])), (a_now_tickets, .inr (6, [.ref a_now_tickets_known, .ref a_now_tickets_numbers, r_now_tickets_owners])), (a_now_tickets_known, .inl (cI, 11, .inl v_now_tickets_known)), (a_now_tickets_numbers, .inl (cI, 44, .inl v_now_tickets_numbers))] hC (As := [.int p1, .int p2]) (c_X6_numberAt l D cI cJ cQ a_now_tickets a_now_tickets_numbers (.ref a_now_tickets_known) r_now_tickets_owners v_now_tickets_numbers p1 p2 R_8 h_R_8) rfl rfl gX7_ticket_X6_numberAt rfl ⟨rfl, rfl⟩ hd_X6_numberAt ⟨Nat.le_of_ble_eq_true rfl, Nat.le_of_ble_eq_true rfl⟩ rfl rfl rfl rfl rfl rfl (Nat.le_of_ble_eq_true rfl) ⟨Nat.le_of_ble_eq_true rfl, Nat.le_of_ble_eq_true rfl⟩ dX7_ticket_53 rfl ?_
          refine x_goto 61 hC dX7_ticket_56 (by decide) ?_
          cases hf
          exact x_iret hC dX7_ticket_61 hQ rfl rfl
    · have hf := if_f hf c_4
      refine x_bipush 23 hC (-2 : Int32) dX7_ticket_21 rfl (by decide) ?_
      cases hf
      exact x_iret hC dX7_ticket_23 hQ rfl rfl
  · have hf := if_f hf c_2
    refine x_iconst 9 hC (-1 : Int32) dX7_ticket_8 rfl (by decide) ?_
    cases hf
    exact x_iret hC dX7_ticket_9 hQ rfl rfl

theorem hd_X7_plan : yX7_plan.cls = RX7 ∧ yX7_plan.cls ≠ "java/lang/invoke/MethodHandle" ∧ yX7_plan.cls ≠ "java/lang/invoke/VarHandle" ∧ (parseMethodDescriptor yX7_plan.desc).map (fun d => d.parameters.length) = some 1 := by decide +kernel
theorem in_X7_plan_X7 : ∀ w ∈ u_ws RX7 TX7 6, w ∈ wsX7_plan := fun w h => List.mem_cons_of_mem _ (List.mem_append_right _ h)
noncomputable def f_X7_plan (v_plannedTalks : Int32) (v_planned : Nat → Int32) (p1 : Int32) : Option (Int32) := if p1 < 0 then (some ((-4 : Int32))) else (if v_plannedTalks ≤ p1 then (some ((-4 : Int32))) else (ck p1 3 <| some ((v_planned p1.toNatClampNeg))))
set_option maxHeartbeats 4000000 in
set_option maxRecDepth 100000 in
theorem c_X7_plan (l : Launch) (D : va_G) (cI cJ cQ : ClassId) (a_this : Nat) (a_planned : Nat) (r_now : Value) (r_history : Value) (r_open : Value) (r_search : Value) (v_plannedTalks : Int32) (v_planned : Nat → Int32) (p1 : Int32) (R0 : Int32) (hf : f_X7_plan v_plannedTalks v_planned p1 = some R0) : Ci l yX7_plan wsX7_plan ({ frames := 1, cells := 0, slots := 0, locals := 60 } : Room) D [(cI, .int), (cJ, .long), (cQ, .object "WhisperCrowd$State")] [.ref a_this, .int p1] [(a_this, .inr (7, [r_now, r_history, r_open, r_search, .ref a_planned, .int v_plannedTalks])), (a_planned, .inl (cI, 3, .inl v_planned))] [(a_this, .inr (7, [r_now, r_history, r_open, r_search, .ref a_planned, .int v_plannedTalks])), (a_planned, .inl (cI, 3, .inl v_planned))] R0 := by
  refine x_enti (cc := cX7_plan) (maxL := 2) (rt := (some .int)) (lv := [(0, .ref a_this), (1, .int p1)]) (by decide) rfl (Nat.le_of_ble_eq_true rfl) rfl ?_
  intro p e s m args below meth c A Q hQ hC
  unfold f_X7_plan at hf
  refine x_iload_n 1 1 hC dX7_plan_0 rfl rfl rfl ?_
  refine x_if_lt 21 4 hC dX7_plan_1 (by decide) rfl (fun c_1 => ?_) (fun c_1 => ?_)
  · have hf := if_t hf c_1
    refine x_bipush 23 hC (-4 : Int32) dX7_plan_21 rfl (by decide) ?_
    cases hf
    exact x_iret hC dX7_plan_23 hQ rfl rfl
  · have hf := if_f hf c_1
    refine x_iload_n 5 1 hC dX7_plan_4 rfl rfl rfl ?_
    refine x_aload_n 6 0 hC dX7_plan_5 rfl rfl rfl ?_
    refine x_get 9 0 5 hC in_X7_plan_X7 rfl rfl (by decide) (List.mem_of_getElem? (i := 1) (by decide +kernel)) rfl rfl dX7_plan_6 rfl ?_
    refine x_icmp_ge 21 12 hC dX7_plan_9 (by decide) rfl (fun c_2 => ?_) (fun c_2 => ?_)
    · have hf := if_t hf c_2
      refine x_bipush 23 hC (-4 : Int32) dX7_plan_21 rfl (by decide) ?_
      cases hf
      exact x_iret hC dX7_plan_23 hQ rfl rfl
    · have hf := if_f hf c_2
      refine x_aload_n 13 0 hC dX7_plan_12 rfl rfl rfl ?_
      refine x_get 16 0 4 hC in_X7_plan_X7 rfl rfl (by decide) (List.mem_of_getElem? (i := 2) (by decide +kernel)) rfl rfl dX7_plan_13 rfl ?_
      refine x_iload_n 17 1 hC dX7_plan_16 rfl rfl rfl ?_
      obtain ⟨h_3, hf⟩ := ck_e hf
      refine x_iald 18 1 0 hC rfl rfl h_3 dX7_plan_17 rfl ?_
      refine x_goto 23 hC dX7_plan_18 (by decide) ?_
      cases hf
      exact x_iret hC dX7_plan_23 hQ rfl rfl

theorem hd_X7_count : yX7_count.cls = RX7 ∧ yX7_count.cls ≠ "java/lang/invoke/MethodHandle" ∧ yX7_count.cls ≠ "java/lang/invoke/VarHandle" ∧ (parseMethodDescriptor yX7_count.desc).map (fun d => d.parameters.length) = some 1 := by decide +kernel
theorem in_X7_count_X7 : ∀ w ∈ u_ws RX7 TX7 6, w ∈ wsX7_count := fun w h => List.mem_cons_of_mem _ (List.mem_append_left _ (List.mem_append_left _ (List.mem_append_left _ (List.mem_append_right _ h))))
theorem in_X7_count_X5 : ∀ w ∈ u_ws RX5 TX5 14, w ∈ wsX7_count := fun w h => List.mem_cons_of_mem _ (List.mem_append_left _ (List.mem_append_left _ (List.mem_append_right _ h)))
theorem in_X7_count_X0 : ∀ w ∈ u_ws RX0 TX0 3, w ∈ wsX7_count := fun w h => List.mem_cons_of_mem _ (List.mem_append_left _ (List.mem_append_right _ h))
noncomputable def f_X7_count (v_history_size : Int32) (v_now_members : Int32) (v_now_here : Int32) (v_now_seed : Int32) (v_now_talks : Int32) (v_now_joined : Nat → Int32) (v_now_letters_from : Nat → Int32) (p1 : Int32) : Option (Int32) := if p1 = (0 : Int32) then (some (v_now_members)) else (if p1 = (1 : Int32) then (bd (f_X5_hereCount v_now_here) fun R_3 => some (R_3)) else (if p1 = (2 : Int32) then (bd (f_X5_lineCount v_now_members v_now_joined) fun R_5 => some (R_5)) else (if p1 = (3 : Int32) then (bd (f_X1_underWayCount v_now_letters_from) fun R_7 => some (R_7)) else (if p1 = (4 : Int32) then (some (v_now_talks)) else (if p1 = (5 : Int32) then (some (v_history_size)) else (if p1 = (6 : Int32) then (some (v_now_seed)) else (some ((-1 : Int32)))))))))
set_option maxHeartbeats 4000000 in
set_option maxRecDepth 100000 in
theorem c_X7_count (l : Launch) (D : va_G) (cI cJ cQ : ClassId) (a_this : Nat) (a_history : Nat) (a_now : Nat) (a_now_joined : Nat) (a_now_letters : Nat) (a_now_letters_from : Nat) (r_open : Value) (r_search : Value) (r_planned : Value) (r_history_kept : Value) (r_now_values : Value) (r_now_greatest : Value) (r_now_least : Value) (r_now_heard : Value) (r_now_tickets : Value) (r_now_masses : Value) (r_now_books : Value) (r_now_owed : Value) (r_now_letters_to : Value) (r_now_letters_contents : Value) (v_plannedTalks : Int32) (v_history_next : Int32) (v_history_size : Int32) (v_now_members : Int32) (v_now_here : Int32) (v_now_seed : Int32) (v_now_talks : Int32) (v_now_joined : Nat → Int32) (v_now_letters_from : Nat → Int32) (p1 : Int32) (R0 : Int32) (hf : f_X7_count v_history_size v_now_members v_now_here v_now_seed v_now_talks v_now_joined v_now_letters_from p1 = some R0) : Ci l yX7_count wsX7_count ({ frames := 3, cells := 0, slots := 0, locals := 107 } : Room) D [(cI, .int), (cJ, .long), (cQ, .object "WhisperCrowd$State")] [.ref a_this, .int p1] [(a_this, .inr (7, [.ref a_now, .ref a_history, r_open, r_search, r_planned, .int v_plannedTalks])), (a_history, .inr (0, [r_history_kept, .int v_history_next, .int v_history_size])), (a_now, .inr (5, [.int v_now_members, .int v_now_here, .int v_now_seed, .int v_now_talks, r_now_values, r_now_greatest, r_now_least, r_now_heard, .ref a_now_joined, r_now_tickets, r_now_masses, r_now_books, r_now_owed, .ref a_now_letters])), (a_now_joined, .inl (cI, 10, .inl v_now_joined)), (a_now_letters, .inr (1, [.ref a_now_letters_from, r_now_letters_to, r_now_letters_contents])), (a_now_letters_from, .inl (cI, 8, .inl v_now_letters_from))] [(a_this, .inr (7, [.ref a_now, .ref a_history, r_open, r_search, r_planned, .int v_plannedTalks])), (a_history, .inr (0, [r_history_kept, .int v_history_next, .int v_history_size])), (a_now, .inr (5, [.int v_now_members, .int v_now_here, .int v_now_seed, .int v_now_talks, r_now_values, r_now_greatest, r_now_least, r_now_heard, .ref a_now_joined, r_now_tickets, r_now_masses, r_now_books, r_now_owed, .ref a_now_letters])), (a_now_joined, .inl (cI, 10, .inl v_now_joined)), (a_now_letters, .inr (1, [.ref a_now_letters_from, r_now_letters_to, r_now_letters_contents])), (a_now_letters_from, .inl (cI, 8, .inl v_now_letters_from))] R0 := by
  refine x_enti (cc := cX7_count) (maxL := 2) (rt := (some .int)) (lv := [(0, .ref a_this), (1, .int p1)]) (by decide) rfl (Nat.le_of_ble_eq_true rfl) rfl ?_
  intro p e s m args below meth c A Q hQ hC
  unfold f_X7_count at hf
  refine x_iload_n 1 1 hC dX7_count_0 rfl rfl rfl ?_
  by_cases c_1 : p1 = (0 : Int32)
  · have hf := if_t hf c_1
    refine x_tabIn 44 hC (0 : Int32) c_1 43 dX7_count_1 (by decide) (by decide) rfl (by decide) ?_
    refine x_aload_n 45 0 hC dX7_count_44 rfl rfl rfl ?_
    refine x_get 48 0 0 hC in_X7_count_X7 rfl rfl (by decide) (List.mem_of_getElem? (i := 1) (by decide +kernel)) rfl rfl dX7_count_45 rfl ?_
    refine x_get 51 2 0 hC in_X7_count_X5 rfl rfl (by decide) (List.mem_of_getElem? (i := 2) (by decide +kernel)) rfl rfl dX7_count_48 rfl ?_
    cases hf
    exact x_iret hC dX7_count_51 hQ rfl rfl
  · have hf := if_f hf c_1
    by_cases c_2 : p1 = (1 : Int32)
    · have hf := if_t hf c_2
      refine x_tabIn 52 hC (1 : Int32) c_2 51 dX7_count_1 (by decide) (by decide) rfl (by decide) ?_
      refine x_aload_n 53 0 hC dX7_count_52 rfl rfl rfl ?_
      refine x_get 56 0 0 hC in_X7_count_X7 rfl rfl (by decide) (List.mem_of_getElem? (i := 1) (by decide +kernel)) rfl rfl dX7_count_53 rfl ?_
      obtain ⟨R_3, h_R_3, hf⟩ := bd_e hf
      refine x_callVi 59 0 0 [2] [(a_this, .inr (7, [.ref a_now, .ref a_history, r_open, r_search, r_planned, .int v_plannedTalks])), (a_history, .inr (0, [r_history_kept, .int v_history_next, .int v_history_size])), (a_now, .inr (5, [.int v_now_members, .int v_now_here, .int v_now_seed, .int v_now_talks, r_now_values, r_now_greatest, r_now_least, r_now_heard, .ref a_now_joined, r_now_tickets, r_now_masses, r_now_books, r_now_owed, .ref a_now_letters])), (a_now_joined, .inl (cI, 10, .inl v_now_joined)), (a_now_letters, .inr (1, [.ref a_now_letters_from, r_now_letters_to, r_now_letters_contents])), (a_now_letters_from, .inl (cI, 8, .inl v_now_letters_from))] hC (As := []) (c_X5_hereCount l D cI cJ cQ a_now r_now_values r_now_greatest r_now_least r_now_heard (.ref a_now_joined) r_now_tickets r_now_masses r_now_books r_now_owed (.ref a_now_letters) v_now_members v_now_here v_now_seed v_now_talks R_3 h_R_3) rfl rfl gX7_count_X5_hereCount rfl ⟨rfl, rfl⟩ hd_X5_hereCount ⟨Nat.le_of_ble_eq_true rfl, Nat.le_of_ble_eq_true rfl⟩ rfl rfl rfl rfl rfl rfl (Nat.le_of_ble_eq_true rfl) ⟨Nat.le_of_ble_eq_true rfl, Nat.le_of_ble_eq_true rfl⟩ dX7_count_56 rfl ?_
      cases hf
      exact x_iret hC dX7_count_59 hQ rfl rfl
    · have hf := if_f hf c_2
      by_cases c_4 : p1 = (2 : Int32)
      · have hf := if_t hf c_4
        refine x_tabIn 60 hC (2 : Int32) c_4 59 dX7_count_1 (by decide) (by decide) rfl (by decide) ?_
        refine x_aload_n 61 0 hC dX7_count_60 rfl rfl rfl ?_
        refine x_get 64 0 0 hC in_X7_count_X7 rfl rfl (by decide) (List.mem_of_getElem? (i := 1) (by decide +kernel)) rfl rfl dX7_count_61 rfl ?_
        obtain ⟨R_5, h_R_5, hf⟩ := bd_e hf
        refine x_callVi 67 0 0 [2, 3] [(a_this, .inr (7, [.ref a_now, .ref a_history, r_open, r_search, r_planned, .int v_plannedTalks])), (a_history, .inr (0, [r_history_kept, .int v_history_next, .int v_history_size])), (a_now, .inr (5, [.int v_now_members, .int v_now_here, .int v_now_seed, .int v_now_talks, r_now_values, r_now_greatest, r_now_least, r_now_heard, .ref a_now_joined, r_now_tickets, r_now_masses, r_now_books, r_now_owed, .ref a_now_letters])), (a_now_joined, .inl (cI, 10, .inl v_now_joined)), (a_now_letters, .inr (1, [.ref a_now_letters_from, r_now_letters_to, r_now_letters_contents])), (a_now_letters_from, .inl (cI, 8, .inl v_now_letters_from))] hC (As := []) (c_X5_lineCount l D cI cJ cQ a_now a_now_joined r_now_values r_now_greatest r_now_least r_now_heard r_now_tickets r_now_masses r_now_books r_now_owed (.ref a_now_letters) v_now_members v_now_here v_now_seed v_now_talks v_now_joined R_5 h_R_5) rfl rfl gX7_count_X5_lineCount rfl ⟨rfl, rfl⟩ hd_X5_lineCount ⟨Nat.le_of_ble_eq_true rfl, Nat.le_of_ble_eq_true rfl⟩ rfl rfl rfl rfl rfl rfl (Nat.le_of_ble_eq_true rfl) ⟨Nat.le_of_ble_eq_true rfl, Nat.le_of_ble_eq_true rfl⟩ dX7_count_64 rfl ?_
        cases hf
        exact x_iret hC dX7_count_67 hQ rfl rfl
      · have hf := if_f hf c_4
        by_cases c_6 : p1 = (3 : Int32)
        · have hf := if_t hf c_6
          refine x_tabIn 68 hC (3 : Int32) c_6 67 dX7_count_1 (by decide) (by decide) rfl (by decide) ?_
          refine x_aload_n 69 0 hC dX7_count_68 rfl rfl rfl ?_
          refine x_get 72 0 0 hC in_X7_count_X7 rfl rfl (by decide) (List.mem_of_getElem? (i := 1) (by decide +kernel)) rfl rfl dX7_count_69 rfl ?_
          refine x_get 75 2 13 hC in_X7_count_X5 rfl rfl (by decide) (List.mem_of_getElem? (i := 3) (by decide +kernel)) rfl rfl dX7_count_72 rfl ?_
          obtain ⟨R_7, h_R_7, hf⟩ := bd_e hf
          refine x_callVi 78 0 0 [4, 5] [(a_this, .inr (7, [.ref a_now, .ref a_history, r_open, r_search, r_planned, .int v_plannedTalks])), (a_history, .inr (0, [r_history_kept, .int v_history_next, .int v_history_size])), (a_now, .inr (5, [.int v_now_members, .int v_now_here, .int v_now_seed, .int v_now_talks, r_now_values, r_now_greatest, r_now_least, r_now_heard, .ref a_now_joined, r_now_tickets, r_now_masses, r_now_books, r_now_owed, .ref a_now_letters])), (a_now_joined, .inl (cI, 10, .inl v_now_joined)), (a_now_letters, .inr (1, [.ref a_now_letters_from, r_now_letters_to, r_now_letters_contents])), (a_now_letters_from, .inl (cI, 8, .inl v_now_letters_from))] hC (As := []) (c_X1_underWayCount l D cI cJ cQ a_now_letters a_now_letters_from r_now_letters_to r_now_letters_contents v_now_letters_from R_7 h_R_7) rfl rfl gX7_count_X1_underWayCount rfl ⟨rfl, rfl⟩ hd_X1_underWayCount ⟨Nat.le_of_ble_eq_true rfl, Nat.le_of_ble_eq_true rfl⟩ rfl rfl rfl rfl rfl rfl (Nat.le_of_ble_eq_true rfl) ⟨Nat.le_of_ble_eq_true rfl, Nat.le_of_ble_eq_true rfl⟩ dX7_count_75 rfl ?_
          cases hf
          exact x_iret hC dX7_count_78 hQ rfl rfl
        · have hf := if_f hf c_6
          by_cases c_8 : p1 = (4 : Int32)
          · have hf := if_t hf c_8
            refine x_tabIn 79 hC (4 : Int32) c_8 78 dX7_count_1 (by decide) (by decide) rfl (by decide) ?_
            refine x_aload_n 80 0 hC dX7_count_79 rfl rfl rfl ?_
            refine x_get 83 0 0 hC in_X7_count_X7 rfl rfl (by decide) (List.mem_of_getElem? (i := 1) (by decide +kernel)) rfl rfl dX7_count_80 rfl ?_
            refine x_get 86 2 3 hC in_X7_count_X5 rfl rfl (by decide) (List.mem_of_getElem? (i := 4) (by decide +kernel)) rfl rfl dX7_count_83 rfl ?_
            cases hf
            exact x_iret hC dX7_count_86 hQ rfl rfl
          · have hf := if_f hf c_8
            by_cases c_9 : p1 = (5 : Int32)
            · have hf := if_t hf c_9
              refine x_tabIn 87 hC (5 : Int32) c_9 86 dX7_count_1 (by decide) (by decide) rfl (by decide) ?_
              refine x_aload_n 88 0 hC dX7_count_87 rfl rfl rfl ?_
              refine x_get 91 0 1 hC in_X7_count_X7 rfl rfl (by decide) (List.mem_of_getElem? (i := 5) (by decide +kernel)) rfl rfl dX7_count_88 rfl ?_
              refine x_get 94 1 2 hC in_X7_count_X0 rfl rfl (by decide) (List.mem_of_getElem? (i := 6) (by decide +kernel)) rfl rfl dX7_count_91 rfl ?_
              cases hf
              exact x_iret hC dX7_count_94 hQ rfl rfl
            · have hf := if_f hf c_9
              by_cases c_10 : p1 = (6 : Int32)
              · have hf := if_t hf c_10
                refine x_tabIn 95 hC (6 : Int32) c_10 94 dX7_count_1 (by decide) (by decide) rfl (by decide) ?_
                refine x_aload_n 96 0 hC dX7_count_95 rfl rfl rfl ?_
                refine x_get 99 0 0 hC in_X7_count_X7 rfl rfl (by decide) (List.mem_of_getElem? (i := 1) (by decide +kernel)) rfl rfl dX7_count_96 rfl ?_
                refine x_get 102 2 2 hC in_X7_count_X5 rfl rfl (by decide) (List.mem_of_getElem? (i := 7) (by decide +kernel)) rfl rfl dX7_count_99 rfl ?_
                cases hf
                exact x_iret hC dX7_count_102 hQ rfl rfl
              · have hf := if_f hf c_10
                have t_c_1 : p1.toInt ≠ 0 := x_neI c_1 (by decide)
                have t_c_2 : p1.toInt ≠ 1 := x_neI c_2 (by decide)
                have t_c_4 : p1.toInt ≠ 2 := x_neI c_4 (by decide)
                have t_c_6 : p1.toInt ≠ 3 := x_neI c_6 (by decide)
                have t_c_8 : p1.toInt ≠ 4 := x_neI c_8 (by decide)
                have t_c_9 : p1.toInt ≠ 5 := x_neI c_9 (by decide)
                have t_c_10 : p1.toInt ≠ 6 := x_neI c_10 (by decide)
                refine x_tabOut 103 hC dX7_count_1 (by omega) (by decide) ?_
                refine x_iconst 104 hC (-1 : Int32) dX7_count_103 rfl (by decide) ?_
                cases hf
                exact x_iret hC dX7_count_104 hQ rfl rfl

theorem hd_X7_isValue : yX7_isValue.cls ≠ "java/lang/invoke/MethodHandle" ∧ yX7_isValue.cls ≠ "java/lang/invoke/VarHandle" ∧ (parseMethodDescriptor yX7_isValue.desc).map (fun d => d.parameters.length) = some 1 := by decide +kernel
noncomputable def f_X7_isValue (p1 : Int32) : Option (Int32) := if p1 < (-1073741824 : Int32) then (some ((0 : Int32))) else (if (1073741824 : Int32) < p1 then (some ((0 : Int32))) else (some ((1 : Int32))))
set_option maxHeartbeats 4000000 in
set_option maxRecDepth 100000 in
theorem c_X7_isValue (l : Launch) (D : va_G) (cI cJ cQ : ClassId) (p1 : Int32) (R0 : Int32) (hf : f_X7_isValue p1 = some R0) : Ci l yX7_isValue wsX7_isValue ({ frames := 1, cells := 0, slots := 0, locals := 60 } : Room) D [(cI, .int), (cJ, .long), (cQ, .object "WhisperCrowd$State")] [.int p1] [] [] R0 := by
  refine x_enti (cc := cX7_isValue) (maxL := 1) (rt := (some .boolean)) (lv := [(0, .int p1)]) (by decide) rfl (Nat.le_of_ble_eq_true rfl) rfl ?_
  intro p e s m args below meth c A Q hQ hC
  unfold f_X7_isValue at hf
  refine x_iload_n 1 0 hC dX7_isValue_0 rfl rfl rfl ?_
  refine x_ldcw 4 hC (v := (-1073741824 : Int32)) (List.mem_of_getElem? (i := 1) (by decide +kernel)) dX7_isValue_1 rfl ?_
  refine x_icmp_lt 18 7 hC dX7_isValue_4 (by decide) rfl (fun c_1 => ?_) (fun c_1 => ?_)
  · have hf := if_t hf c_1
    refine x_iconst 19 hC (0 : Int32) dX7_isValue_18 rfl (by decide) ?_
    cases hf
    exact x_zret hC rfl dX7_isValue_19 hQ rfl rfl
  · have hf := if_f hf c_1
    refine x_iload_n 8 0 hC dX7_isValue_7 rfl rfl rfl ?_
    refine x_ldcw 11 hC (v := (1073741824 : Int32)) (List.mem_of_getElem? (i := 2) (by decide +kernel)) dX7_isValue_8 rfl ?_
    refine x_icmp_gt 18 14 hC dX7_isValue_11 (by decide) rfl (fun c_2 => ?_) (fun c_2 => ?_)
    · have hf := if_t hf c_2
      refine x_iconst 19 hC (0 : Int32) dX7_isValue_18 rfl (by decide) ?_
      cases hf
      exact x_zret hC rfl dX7_isValue_19 hQ rfl rfl
    · have hf := if_f hf c_2
      refine x_iconst 15 hC (1 : Int32) dX7_isValue_14 rfl (by decide) ?_
      refine x_goto 19 hC dX7_isValue_15 (by decide) ?_
      cases hf
      exact x_zret hC rfl dX7_isValue_19 hQ rfl rfl

theorem hd_X7_isKind : yX7_isKind.cls ≠ "java/lang/invoke/MethodHandle" ∧ yX7_isKind.cls ≠ "java/lang/invoke/VarHandle" ∧ (parseMethodDescriptor yX7_isKind.desc).map (fun d => d.parameters.length) = some 1 := by decide +kernel
noncomputable def f_X7_isKind (p1 : Int32) : Option (Int32) := if p1 = 0 then (some ((1 : Int32))) else (if p1 = (1 : Int32) then (some ((1 : Int32))) else (if ¬ p1 = (2 : Int32) then (some ((0 : Int32))) else (some ((1 : Int32)))))
set_option maxHeartbeats 4000000 in
set_option maxRecDepth 100000 in
theorem c_X7_isKind (l : Launch) (D : va_G) (cI cJ cQ : ClassId) (p1 : Int32) (R0 : Int32) (hf : f_X7_isKind p1 = some R0) : Ci l yX7_isKind wsX7_isKind ({ frames := 1, cells := 0, slots := 0, locals := 60 } : Room) D [(cI, .int), (cJ, .long), (cQ, .object "WhisperCrowd$State")] [.int p1] [] [] R0 := by
  refine x_enti (cc := cX7_isKind) (maxL := 1) (rt := (some .boolean)) (lv := [(0, .int p1)]) (by decide) rfl (Nat.le_of_ble_eq_true rfl) rfl ?_
  intro p e s m args below meth c A Q hQ hC
  unfold f_X7_isKind at hf
  refine x_iload_n 1 0 hC dX7_isKind_0 rfl rfl rfl ?_
  refine x_if_eq 14 4 hC dX7_isKind_1 (by decide) rfl (fun c_1 => ?_) (fun c_1 => ?_)
  · have hf := if_t hf c_1
    refine x_iconst 15 hC (1 : Int32) dX7_isKind_14 rfl (by decide) ?_
    refine x_goto 19 hC dX7_isKind_15 (by decide) ?_
    cases hf
    exact x_zret hC rfl dX7_isKind_19 hQ rfl rfl
  · have hf := if_f hf c_1
    refine x_iload_n 5 0 hC dX7_isKind_4 rfl rfl rfl ?_
    refine x_iconst 6 hC (1 : Int32) dX7_isKind_5 rfl (by decide) ?_
    refine x_icmp_eq 14 9 hC dX7_isKind_6 (by decide) rfl (fun c_2 => ?_) (fun c_2 => ?_)
    · have hf := if_t hf c_2
      refine x_iconst 15 hC (1 : Int32) dX7_isKind_14 rfl (by decide) ?_
      refine x_goto 19 hC dX7_isKind_15 (by decide) ?_
      cases hf
      exact x_zret hC rfl dX7_isKind_19 hQ rfl rfl
    · have hf := if_f hf c_2
      refine x_iload_n 10 0 hC dX7_isKind_9 rfl rfl rfl ?_
      refine x_iconst 11 hC (2 : Int32) dX7_isKind_10 rfl (by decide) ?_
      refine x_icmp_ne 18 14 hC dX7_isKind_11 (by decide) rfl (fun c_3 => ?_) (fun c_3 => ?_)
      · have hf := if_t hf c_3
        refine x_iconst 19 hC (0 : Int32) dX7_isKind_18 rfl (by decide) ?_
        cases hf
        exact x_zret hC rfl dX7_isKind_19 hQ rfl rfl
      · have hf := if_f hf c_3
        refine x_iconst 15 hC (1 : Int32) dX7_isKind_14 rfl (by decide) ?_
        refine x_goto 19 hC dX7_isKind_15 (by decide) ?_
        cases hf
        exact x_zret hC rfl dX7_isKind_19 hQ rfl rfl

theorem hd_X7_areTwo : yX7_areTwo.cls = RX7 ∧ yX7_areTwo.cls ≠ "java/lang/invoke/MethodHandle" ∧ yX7_areTwo.cls ≠ "java/lang/invoke/VarHandle" ∧ (parseMethodDescriptor yX7_areTwo.desc).map (fun d => d.parameters.length) = some 2 := by decide +kernel
noncomputable def f_X7_areTwo (v_now_members : Int32) (p1 : Int32) (p2 : Int32) : Option (Int32) := bd (f_X7_isMember v_now_members p1) fun R_1 => if R_1 = 0 then (some ((0 : Int32))) else (bd (f_X7_isMember v_now_members p2) fun R_3 => if R_3 = 0 then (some ((0 : Int32))) else (if p1 = p2 then (some ((0 : Int32))) else (some ((1 : Int32)))))
set_option maxHeartbeats 4000000 in
set_option maxRecDepth 100000 in
theorem c_X7_areTwo (l : Launch) (D : va_G) (cI cJ cQ : ClassId) (a_this : Nat) (a_now : Nat) (r_history : Value) (r_open : Value) (r_search : Value) (r_planned : Value) (r_now_values : Value) (r_now_greatest : Value) (r_now_least : Value) (r_now_heard : Value) (r_now_joined : Value) (r_now_tickets : Value) (r_now_masses : Value) (r_now_books : Value) (r_now_owed : Value) (r_now_letters : Value) (v_plannedTalks : Int32) (v_now_members : Int32) (v_now_here : Int32) (v_now_seed : Int32) (v_now_talks : Int32) (p1 : Int32) (p2 : Int32) (R0 : Int32) (hf : f_X7_areTwo v_now_members p1 p2 = some R0) : Ci l yX7_areTwo wsX7_areTwo ({ frames := 2, cells := 0, slots := 0, locals := 83 } : Room) D [(cI, .int), (cJ, .long), (cQ, .object "WhisperCrowd$State")] [.ref a_this, .int p1, .int p2] [(a_this, .inr (7, [.ref a_now, r_history, r_open, r_search, r_planned, .int v_plannedTalks])), (a_now, .inr (5, [.int v_now_members, .int v_now_here, .int v_now_seed, .int v_now_talks, r_now_values, r_now_greatest, r_now_least, r_now_heard, r_now_joined, r_now_tickets, r_now_masses, r_now_books, r_now_owed, r_now_letters]))] [(a_this, .inr (7, [.ref a_now, r_history, r_open, r_search, r_planned, .int v_plannedTalks])), (a_now, .inr (5, [.int v_now_members, .int v_now_here, .int v_now_seed, .int v_now_talks, r_now_values, r_now_greatest, r_now_least, r_now_heard, r_now_joined, r_now_tickets, r_now_masses, r_now_books, r_now_owed, r_now_letters]))] R0 := by
  refine x_enti (cc := cX7_areTwo) (maxL := 3) (rt := (some .boolean)) (lv := [(0, .ref a_this), (1, .int p1), (2, .int p2)]) (by decide) rfl (Nat.le_of_ble_eq_true rfl) rfl ?_
  intro p e s m args below meth c A Q hQ hC
  unfold f_X7_areTwo at hf
  refine x_aload_n 1 0 hC dX7_areTwo_0 rfl rfl rfl ?_
  refine x_iload_n 2 1 hC dX7_areTwo_1 rfl rfl rfl ?_
  obtain ⟨R_1, h_R_1, hf⟩ := bd_e hf
  refine x_callVi 5 0 1 [0, 1] [(a_this, .inr (7, [.ref a_now, r_history, r_open, r_search, r_planned, .int v_plannedTalks])), (a_now, .inr (5, [.int v_now_members, .int v_now_here, .int v_now_seed, .int v_now_talks, r_now_values, r_now_greatest, r_now_least, r_now_heard, r_now_joined, r_now_tickets, r_now_masses, r_now_books, r_now_owed, r_now_letters]))] hC (As := [.int p1]) (c_X7_isMember l D cI cJ cQ a_this a_now r_history r_open r_search r_planned r_now_values r_now_greatest r_now_least r_now_heard r_now_joined r_now_tickets r_now_masses r_now_books r_now_owed r_now_letters v_plannedTalks v_now_members v_now_here v_now_seed v_now_talks p1 R_1 h_R_1) rfl rfl gX7_areTwo_X7_isMember rfl ⟨rfl, rfl⟩ hd_X7_isMember ⟨Nat.le_of_ble_eq_true rfl, Nat.le_of_ble_eq_true rfl⟩ rfl rfl rfl rfl rfl rfl (Nat.le_of_ble_eq_true rfl) ⟨Nat.le_of_ble_eq_true rfl, Nat.le_of_ble_eq_true rfl⟩ dX7_areTwo_2 rfl ?_
  refine x_if_eq 25 8 hC dX7_areTwo_5 (by decide) rfl (fun c_2 => ?_) (fun c_2 => ?_)
  · have hf := if_t hf c_2
    refine x_iconst 26 hC (0 : Int32) dX7_areTwo_25 rfl (by decide) ?_
    cases hf
    exact x_zret hC rfl dX7_areTwo_26 hQ rfl rfl
  · have hf := if_f hf c_2
    refine x_aload_n 9 0 hC dX7_areTwo_8 rfl rfl rfl ?_
    refine x_iload_n 10 2 hC dX7_areTwo_9 rfl rfl rfl ?_
    obtain ⟨R_3, h_R_3, hf⟩ := bd_e hf
    refine x_callVi 13 0 1 [0, 1] [(a_this, .inr (7, [.ref a_now, r_history, r_open, r_search, r_planned, .int v_plannedTalks])), (a_now, .inr (5, [.int v_now_members, .int v_now_here, .int v_now_seed, .int v_now_talks, r_now_values, r_now_greatest, r_now_least, r_now_heard, r_now_joined, r_now_tickets, r_now_masses, r_now_books, r_now_owed, r_now_letters]))] hC (As := [.int p2]) (c_X7_isMember l D cI cJ cQ a_this a_now r_history r_open r_search r_planned r_now_values r_now_greatest r_now_least r_now_heard r_now_joined r_now_tickets r_now_masses r_now_books r_now_owed r_now_letters v_plannedTalks v_now_members v_now_here v_now_seed v_now_talks p2 R_3 h_R_3) rfl rfl gX7_areTwo_X7_isMember rfl ⟨rfl, rfl⟩ hd_X7_isMember ⟨Nat.le_of_ble_eq_true rfl, Nat.le_of_ble_eq_true rfl⟩ rfl rfl rfl rfl rfl rfl (Nat.le_of_ble_eq_true rfl) ⟨Nat.le_of_ble_eq_true rfl, Nat.le_of_ble_eq_true rfl⟩ dX7_areTwo_10 rfl ?_
    refine x_if_eq 25 16 hC dX7_areTwo_13 (by decide) rfl (fun c_4 => ?_) (fun c_4 => ?_)
    · have hf := if_t hf c_4
      refine x_iconst 26 hC (0 : Int32) dX7_areTwo_25 rfl (by decide) ?_
      cases hf
      exact x_zret hC rfl dX7_areTwo_26 hQ rfl rfl
    · have hf := if_f hf c_4
      refine x_iload_n 17 1 hC dX7_areTwo_16 rfl rfl rfl ?_
      refine x_iload_n 18 2 hC dX7_areTwo_17 rfl rfl rfl ?_
      refine x_icmp_eq 25 21 hC dX7_areTwo_18 (by decide) rfl (fun c_5 => ?_) (fun c_5 => ?_)
      · have hf := if_t hf c_5
        refine x_iconst 26 hC (0 : Int32) dX7_areTwo_25 rfl (by decide) ?_
        cases hf
        exact x_zret hC rfl dX7_areTwo_26 hQ rfl rfl
      · have hf := if_f hf c_5
        refine x_iconst 22 hC (1 : Int32) dX7_areTwo_21 rfl (by decide) ?_
        refine x_goto 26 hC dX7_areTwo_22 (by decide) ?_
        cases hf
        exact x_zret hC rfl dX7_areTwo_26 hQ rfl rfl
