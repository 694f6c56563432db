theorem hd_X8_far : yX8_far.cls = RX8 ∧ yX8_far.cls ≠ "java/lang/invoke/MethodHandle" ∧ yX8_far.cls ≠ "java/lang/invoke/VarHandle" ∧ (parseMethodDescriptor yX8_far.desc).map (fun d => d.parameters.length) = some 0 := by decide +kernel
noncomputable def f_X8_far_c75 (k10 : Int32 → UInt64 → UInt64 → Int32 → Option (Int64)) (v_s : Nat → Int64) (k75_l1 : Int32) (k75_l2 : UInt64) (k75_l4 : UInt64) (k75_l6 : Int32) : Option (Int64) := nm (k75_l6 + (1 : Int32)) fun x_1 => k10 k75_l1 k75_l2 k75_l4 x_1
noncomputable def f_X8_far_c71 (k10 : Int32 → UInt64 → UInt64 → Int32 → Option (Int64)) (v_s : Nat → Int64) (k71_l2 : UInt64) (k71_l6 : Int32) (k71_s0 : UInt64) : Option (Int64) := f_X8_far_c75 k10 v_s (1 : Int32) k71_l2 k71_s0 k71_l6
noncomputable def f_X8_far_c64 (k10 : Int32 → UInt64 → UInt64 → Int32 → Option (Int64)) (v_s : Nat → Int64) (k64_l2 : UInt64) (k64_l6 : Int32) (k64_l7 : UInt64) : Option (Int64) := f_X8_far_c71 k10 v_s k64_l2 k64_l6 k64_l7
noncomputable def f_X8_far_c51 (k10 : Int32 → UInt64 → UInt64 → Int32 → Option (Int64)) (v_s : Nat → Int64) (k51_l1 : Int32) (k51_l4 : UInt64) (k51_l6 : Int32) (k51_l7 : UInt64) (k51_s0 : UInt64) : Option (Int64) := if k51_l1 = 0 then (f_X8_far_c64 k10 v_s k51_s0 k51_l6 k51_l7) else (if 0 ≤ (Op.cmpValue (FP.dcmp k51_l7 k51_l4) .g) then (f_X8_far_c71 k10 v_s k51_s0 k51_l6 k51_l4) else (f_X8_far_c64 k10 v_s k51_s0 k51_l6 k51_l7))
noncomputable def f_X8_far_c45 (k10 : Int32 → UInt64 → UInt64 → Int32 → Option (Int64)) (v_s : Nat → Int64) (k45_l1 : Int32) (k45_l4 : UInt64) (k45_l6 : Int32) (k45_l7 : UInt64) : Option (Int64) := f_X8_far_c51 k10 v_s k45_l1 k45_l4 k45_l6 k45_l7 k45_l7
noncomputable def f_X8_far_c10 (v_s : Nat → Int64) : Nat → Int32 → UInt64 → UInt64 → Int32 → Option (Int64)
  | 0, _, _, _, _ => none
  | n + 1, k10_l1, k10_l2, k10_l4, k10_l6 => if (10 : Int32) ≤ k10_l6 then (if k10_l1 = 0 then (some ((-1 : Int64))) else (ckp (FP.dsub k10_l2 k10_l4 &&& 0x7fffffffffffffff ≤ 0x7ff0000000000000) (Classical.propDecidable _) <| bd (f_Jxe99ae_doubleToLongBits_ccdee (FP.dsub k10_l2 k10_l4)) fun R_7 => some (R_7))) else (bd (f_X8_hasGuess v_s k10_l6) fun R_8 => if R_8 = 0 then (f_X8_far_c75 (fun k10_l1 k10_l2 k10_l4 k10_l6 => f_X8_far_c10 v_s n k10_l1 k10_l2 k10_l4 k10_l6) v_s k10_l1 k10_l2 k10_l4 k10_l6) else (bd (f_X8_guessed v_s k10_l6) fun R_10 => if k10_l1 = 0 then (f_X8_far_c45 (fun k10_l1 k10_l2 k10_l4 k10_l6 => f_X8_far_c10 v_s n k10_l1 k10_l2 k10_l4 k10_l6) v_s k10_l1 k10_l4 k10_l6 R_10) else (if (Op.cmpValue (FP.dcmp R_10 k10_l2) .l) ≤ 0 then (f_X8_far_c51 (fun k10_l1 k10_l2 k10_l4 k10_l6 => f_X8_far_c10 v_s n k10_l1 k10_l2 k10_l4 k10_l6) v_s k10_l1 k10_l4 k10_l6 R_10 k10_l2) else (f_X8_far_c45 (fun k10_l1 k10_l2 k10_l4 k10_l6 => f_X8_far_c10 v_s n k10_l1 k10_l2 k10_l4 k10_l6) v_s k10_l1 k10_l4 k10_l6 R_10))))
noncomputable def f_X8_far (v_s : Nat → Int64) : Option (Int64) := f_X8_far_c10 v_s fu (0 : Int32) FP.dconst0 FP.dconst0 (0 : Int32)
set_option maxHeartbeats 4000000 in
set_option maxRecDepth 100000 in
theorem c_X8_far (l : Launch) (D : va_G) (cI cJ cQ : ClassId) (a_this : Nat) (a_s : Nat) (r_kept : Value) (r_known : Value) (r_whose : Value) (r_lesser : Value) (r_other : Value) (r_sums : Value) (r_weights : Value) (r_row : Value) (r_plan : Value) (v_undos : Int32) (v_open : Int32) (v_planned : Int32) (v_s : Nat → Int64) (R0 : Int64) (hf : f_X8_far v_s = some R0) : Cl l yX8_far wsX8_far ({ frames := 5, cells := 0, slots := 0, locals := 156 } : Room) D [(cI, .int), (cJ, .long), (cQ, .object "WhisperCrowd$State")] [.ref a_this] [(a_this, .inr (8, [.ref a_s, r_kept, .int v_undos, r_known, r_whose, r_lesser, r_other, .int v_open, r_sums, r_weights, r_row, r_plan, .int v_planned])), (a_s, .inl (cJ, 613, .inr (.inl v_s)))] [(a_this, .inr (8, [.ref a_s, r_kept, .int v_undos, r_known, r_whose, r_lesser, r_other, .int v_open, r_sums, r_weights, r_row, r_plan, .int v_planned])), (a_s, .inl (cJ, 613, .inr (.inl v_s)))] R0 := by
  refine x_entl (cc := cX8_far) (maxL := 9) (rt := (some .long)) (lv := [(0, .ref a_this)]) (by decide) rfl (Nat.le_of_ble_eq_true rfl) rfl ?_
  intro p e s m args below meth c A Q hQ hC
  have J_10 : ∀ (n : Nat) (k10_l1 : Int32) (k10_l2 : UInt64) (k10_l4 : UInt64) (k10_l6 : Int32), f_X8_far_c10 v_s n k10_l1 k10_l2 k10_l4 k10_l6 = some R0 → XW p l e ({ frames := 5, cells := 0, slots := 0, locals := 156 } : Room) s m args below meth c D A 9 0 0 Q [(a_this, .inr (8, [.ref a_s, r_kept, .int v_undos, r_known, r_whose, r_lesser, r_other, .int v_open, r_sums, r_weights, r_row, r_plan, .int v_planned])), (a_s, .inl (cJ, 613, .inr (.inl v_s)))] [] [(0, .ref a_this), (1, .int k10_l1), (2, .double k10_l2), (4, .double k10_l4), (6, .int k10_l6)] 10 [] := by
    intro n
    induction n with
    | zero => intro k10_l1 k10_l2 k10_l4 k10_l6 hf; exact nomatch (show (none : Option (Int64)) = some R0 from hf)
    | succ n_10 ih_10 =>
      have J_75 : ∀ (k75_l1 : Int32) (k75_l2 : UInt64) (k75_l4 : UInt64) (k75_l6 : Int32), f_X8_far_c75 (fun k10_l1 k10_l2 k10_l4 k10_l6 => f_X8_far_c10 v_s n_10 k10_l1 k10_l2 k10_l4 k10_l6) v_s k75_l1 k75_l2 k75_l4 k75_l6 = some R0 → XW p l e ({ frames := 5, cells := 0, slots := 0, locals := 156 } : Room) s m args below meth c D A 9 0 0 Q [(a_this, .inr (8, [.ref a_s, r_kept, .int v_undos, r_known, r_whose, r_lesser, r_other, .int v_open, r_sums, r_weights, r_row, r_plan, .int v_planned])), (a_s, .inl (cJ, 613, .inr (.inl v_s)))] [] [(0, .ref a_this), (1, .int k75_l1), (2, .double k75_l2), (4, .double k75_l4), (6, .int k75_l6)] 75 [] := by
        intro k75_l1 k75_l2 k75_l4 k75_l6 hf
        unfold f_X8_far_c75 at hf
        obtain ⟨x_1, e_x_1, hf⟩ := nmx_e hf
        refine x_iinc 78 4 [(6, .int x_1), (0, .ref a_this), (1, .int k75_l1), (2, .double k75_l2), (4, .double k75_l4)] hC dX8_far_75 rfl rfl e_x_1 (by decide) (by decide) rfl ?_
        refine x_goto 10 hC dX8_far_78 (by decide) ?_
        refine x_lv [(0, .ref a_this), (1, .int k75_l1), (2, .double k75_l2), (4, .double k75_l4), (6, .int x_1)] [1, 2, 3, 4, 0] rfl ?_
        exact ih_10 k75_l1 k75_l2 k75_l4 x_1 hf
      have J_71 : ∀ (k71_l2 : UInt64) (k71_l6 : Int32) (k71_s0 : UInt64), f_X8_far_c71 (fun k10_l1 k10_l2 k10_l4 k10_l6 => f_X8_far_c10 v_s n_10 k10_l1 k10_l2 k10_l4 k10_l6) v_s k71_l2 k71_l6 k71_s0 = some R0 → XW p l e ({ frames := 5, cells := 0, slots := 0, locals := 156 } : Room) s m args below meth c D A 9 0 0 Q [(a_this, .inr (8, [.ref a_s, r_kept, .int v_undos, r_known, r_whose, r_lesser, r_other, .int v_open, r_sums, r_weights, r_row, r_plan, .int v_planned])), (a_s, .inl (cJ, 613, .inr (.inl v_s)))] [] [(0, .ref a_this), (2, .double k71_l2), (6, .int k71_l6)] 71 [.double k71_s0] := by
        intro k71_l2 k71_l6 k71_s0 hf
        unfold f_X8_far_c71 at hf
        refine x_dstore 73 [(4, .double k71_s0), (0, .ref a_this), (2, .double k71_l2), (6, .int k71_l6)] hC dX8_far_71 rfl rfl (by decide) rfl ?_
        refine x_iconst 74 hC (1 : Int32) dX8_far_73 rfl (by decide) ?_
        refine x_istore_n 75 [(1, .int (1 : Int32)), (4, .double k71_s0), (0, .ref a_this), (2, .double k71_l2), (6, .int k71_l6)] hC dX8_far_74 rfl rfl rfl (by decide) rfl ?_
        refine x_lv [(0, .ref a_this), (1, .int (1 : Int32)), (2, .double k71_l2), (4, .double k71_s0), (6, .int k71_l6)] [2, 0, 3, 1, 4] rfl ?_
        exact J_75 (1 : Int32) k71_l2 k71_s0 k71_l6 hf
      have J_64 : ∀ (k64_l2 : UInt64) (k64_l6 : Int32) (k64_l7 : UInt64), f_X8_far_c64 (fun k10_l1 k10_l2 k10_l4 k10_l6 => f_X8_far_c10 v_s n_10 k10_l1 k10_l2 k10_l4 k10_l6) v_s k64_l2 k64_l6 k64_l7 = some R0 → XW p l e ({ frames := 5, cells := 0, slots := 0, locals := 156 } : Room) s m args below meth c D A 9 0 0 Q [(a_this, .inr (8, [.ref a_s, r_kept, .int v_undos, r_known, r_whose, r_lesser, r_other, .int v_open, r_sums, r_weights, r_row, r_plan, .int v_planned])), (a_s, .inl (cJ, 613, .inr (.inl v_s)))] [] [(0, .ref a_this), (2, .double k64_l2), (6, .int k64_l6), (7, .double k64_l7)] 64 [] := by
        intro k64_l2 k64_l6 k64_l7 hf
        unfold f_X8_far_c64 at hf
        refine x_dload 66 3 hC dX8_far_64 rfl rfl ?_
        refine x_goto 71 hC dX8_far_66 (by decide) ?_
        refine x_lv [(0, .ref a_this), (2, .double k64_l2), (6, .int k64_l6)] [0, 1, 2] rfl ?_
        exact J_71 k64_l2 k64_l6 k64_l7 hf
      have J_51 : ∀ (k51_l1 : Int32) (k51_l4 : UInt64) (k51_l6 : Int32) (k51_l7 : UInt64) (k51_s0 : UInt64), f_X8_far_c51 (fun k10_l1 k10_l2 k10_l4 k10_l6 => f_X8_far_c10 v_s n_10 k10_l1 k10_l2 k10_l4 k10_l6) v_s k51_l1 k51_l4 k51_l6 k51_l7 k51_s0 = some R0 → XW p l e ({ frames := 5, cells := 0, slots := 0, locals := 156 } : Room) s m args below meth c D A 9 0 0 Q [(a_this, .inr (8, [.ref a_s, r_kept, .int v_undos, r_known, r_whose, r_lesser, r_other, .int v_open, r_sums, r_weights, r_row, r_plan, .int v_planned])), (a_s, .inl (cJ, 613, .inr (.inl v_s)))] [] [(0, .ref a_this), (1, .int k51_l1), (4, .double k51_l4), (6, .int k51_l6), (7, .double k51_l7)] 51 [.double k51_s0] := by
        intro k51_l1 k51_l4 k51_l6 k51_l7 k51_s0 hf
        unfold f_X8_far_c51 at hf
        refine x_dstore_n 52 [(2, .double k51_s0), (0, .ref a_this), (1, .int k51_l1), (4, .double k51_l4), (6, .int k51_l6), (7, .double k51_l7)] hC dX8_far_51 rfl rfl rfl (by decide) rfl ?_
        refine x_iload_n 53 2 hC dX8_far_52 rfl rfl rfl ?_
        refine x_if_eq 64 56 hC dX8_far_53 (by decide) rfl (fun c_2 => ?_) (fun c_2 => ?_)
        · have hf := if_t hf c_2
          refine x_lv [(0, .ref a_this), (2, .double k51_s0), (6, .int k51_l6), (7, .double k51_l7)] [1, 0, 4, 5] rfl ?_
          exact J_64 k51_s0 k51_l6 k51_l7 hf
        · have hf := if_f hf c_2
          refine x_dload 58 5 hC dX8_far_56 rfl rfl ?_
          refine x_dload 60 3 hC dX8_far_58 rfl rfl ?_
          refine x_dcmp 61 hC dX8_far_60 rfl ?_
          refine x_if_ge 69 64 hC dX8_far_61 (by decide) rfl (fun c_3 => ?_) (fun c_3 => ?_)
          · have hf := if_t hf c_3
            refine x_dload 71 3 hC dX8_far_69 rfl rfl ?_
            refine x_lv [(0, .ref a_this), (2, .double k51_s0), (6, .int k51_l6)] [1, 0, 4] rfl ?_
            exact J_71 k51_s0 k51_l6 k51_l4 hf
          · have hf := if_f hf c_3
            refine x_lv [(0, .ref a_this), (2, .double k51_s0), (6, .int k51_l6), (7, .double k51_l7)] [1, 0, 4, 5] rfl ?_
            exact J_64 k51_s0 k51_l6 k51_l7 hf
      have J_45 : ∀ (k45_l1 : Int32) (k45_l4 : UInt64) (k45_l6 : Int32) (k45_l7 : UInt64), f_X8_far_c45 (fun k10_l1 k10_l2 k10_l4 k10_l6 => f_X8_far_c10 v_s n_10 k10_l1 k10_l2 k10_l4 k10_l6) v_s k45_l1 k45_l4 k45_l6 k45_l7 = some R0 → XW p l e ({ frames := 5, cells := 0, slots := 0, locals := 156 } : Room) s m args below meth c D A 9 0 0 Q [(a_this, .inr (8, [.ref a_s, r_kept, .int v_undos, r_known, r_whose, r_lesser, r_other, .int v_open, r_sums, r_weights, r_row, r_plan, .int v_planned])), (a_s, .inl (cJ, 613, .inr (.inl v_s)))] [] [(0, .ref a_this), (1, .int k45_l1), (4, .double k45_l4), (6, .int k45_l6), (7, .double k45_l7)] 45 [] := by
        intro k45_l1 k45_l4 k45_l6 k45_l7 hf
        unfold f_X8_far_c45 at hf
        refine x_dload 47 4 hC dX8_far_45 rfl rfl ?_
        refine x_goto 51 hC dX8_far_47 (by decide) ?_
        refine x_lv [(0, .ref a_this), (1, .int k45_l1), (4, .double k45_l4), (6, .int k45_l6), (7, .double k45_l7)] [0, 1, 2, 3, 4] rfl ?_
        exact J_51 k45_l1 k45_l4 k45_l6 k45_l7 k45_l7 hf
      intro k10_l1 k10_l2 k10_l4 k10_l6 hf
      unfold f_X8_far_c10 at hf
      refine x_iload 12 4 hC dX8_far_10 rfl rfl ?_
      refine x_bipush 14 hC (10 : Int32) dX8_far_12 rfl (by decide) ?_
      refine x_icmp_ge 81 17 hC dX8_far_14 (by decide) rfl (fun c_4 => ?_) (fun c_4 => ?_)
      · have hf := if_t hf c_4
        refine x_iload_n 82 1 hC dX8_far_81 rfl rfl rfl ?_
        refine x_if_eq 95 85 hC dX8_far_82 (by decide) rfl (fun c_5 => ?_) (fun c_5 => ?_)
        · have hf := if_t hf c_5
          refine x_ldc2 98 hC (v := (-1 : Int64)) (List.mem_of_getElem? (i := 1) (by decide +kernel)) dX8_far_95 rfl ?_
          cases hf
          exact x_lret hC dX8_far_98 hQ rfl rfl
        · have hf := if_f hf c_5
          refine x_dload_n 86 2 hC dX8_far_85 rfl rfl rfl ?_
          refine x_dload 88 3 hC dX8_far_86 rfl rfl ?_
          obtain ⟨h_6, hf⟩ := ckp_e hf
          refine x_dsub 89 hC dX8_far_88 rfl h_6 ?_
          obtain ⟨R_7, h_R_7, hf⟩ := bd_e hf
          refine x_callSl 92 1 [] [(a_this, .inr (8, [.ref a_s, r_kept, .int v_undos, r_known, r_whose, r_lesser, r_other, .int v_open, r_sums, r_weights, r_row, r_plan, .int v_planned])), (a_s, .inl (cJ, 613, .inr (.inl v_s)))] hC (As := [.double (FP.dsub k10_l2 k10_l4)]) (c_Jxe99ae_doubleToLongBits_ccdee l D cI cJ cQ (FP.dsub k10_l2 k10_l4) R_7 h_R_7) gX8_far_Jxe99ae_doubleToLongBits_ccdee rfl ⟨rfl, rfl⟩ hd_Jxe99ae_doubleToLongBits_ccdee ⟨Nat.le_of_ble_eq_true rfl, Nat.le_of_ble_eq_true rfl⟩ rfl rfl rfl rfl rfl rfl (Nat.le_of_ble_eq_true rfl) ⟨Nat.le_of_ble_eq_true rfl, Nat.le_of_ble_eq_true rfl⟩ dX8_far_89 rfl ?_
          refine x_goto 98 hC dX8_far_92 (by decide) ?_
          cases hf
          exact x_lret hC dX8_far_98 hQ rfl rfl
      · have hf := if_f hf c_4
        refine x_aload_n 18 0 hC dX8_far_17 rfl rfl rfl ?_
        refine x_iload 20 4 hC dX8_far_18 rfl rfl ?_
        obtain ⟨R_8, h_R_8, hf⟩ := bd_e hf
        refine x_callVi 23 0 1 [0, 1] [(a_this, .inr (8, [.ref a_s, r_kept, .int v_undos, r_known, r_whose, r_lesser, r_other, .int v_open, r_sums, r_weights, r_row, r_plan, .int v_planned])), (a_s, .inl (cJ, 613, .inr (.inl v_s)))] hC (As := [.int k10_l6]) (c_X8_hasGuess l D cI cJ cQ a_this a_s r_kept r_known r_whose r_lesser r_other r_sums r_weights r_row r_plan v_undos v_open v_planned v_s k10_l6 R_8 h_R_8) rfl rfl gX8_far_X8_hasGuess rfl ⟨rfl, rfl⟩ hd_X8_hasGuess ⟨Nat.le_of_ble_eq_true rfl, Nat.le_of_ble_eq_true rfl⟩ rfl rfl rfl rfl rfl rfl (Nat.le_of_ble_eq_true rfl) ⟨Nat.le_of_ble_eq_true rfl, Nat.le_of_ble_eq_true rfl⟩ dX8_far_20 rfl ?_
        refine x_if_eq 75 26 hC dX8_far_23 (by decide) rfl (fun c_9 => ?_) (fun c_9 => ?_)
        · have hf := if_t hf c_9
          refine x_lv [(0, .ref a_this), (1, .int k10_l1), (2, .double k10_l2), (4, .double k10_l4), (6, .int k10_l6)] [0, 1, 2, 3, 4] rfl ?_
          exact J_75 k10_l1 k10_l2 k10_l4 k10_l6 hf
        · have hf := if_f hf c_9
          refine x_aload_n 27 0 hC dX8_far_26 rfl rfl rfl ?_
          refine x_iload 29 4 hC dX8_far_27 rfl rfl ?_
          obtain ⟨R_10, h_R_10, hf⟩ := bd_e hf
          refine x_callVd 32 0 1 [0, 1] [(a_this, .inr (8, [.ref a_s, r_kept, .int v_undos, r_known, r_whose, r_lesser, r_other, .int v_open, r_sums, r_weights, r_row, r_plan, .int v_planned])), (a_s, .inl (cJ, 613, .inr (.inl v_s)))] hC (As := [.int k10_l6]) (c_X8_guessed l D cI cJ cQ a_this a_s r_kept r_known r_whose r_lesser r_other r_sums r_weights r_row r_plan v_undos v_open v_planned v_s k10_l6 R_10 h_R_10) rfl rfl gX8_far_X8_guessed rfl ⟨rfl, rfl⟩ hd_X8_guessed ⟨Nat.le_of_ble_eq_true rfl, Nat.le_of_ble_eq_true rfl⟩ rfl rfl rfl rfl rfl rfl (Nat.le_of_ble_eq_true rfl) ⟨Nat.le_of_ble_eq_true rfl, Nat.le_of_ble_eq_true rfl⟩ dX8_far_29 rfl ?_
          refine x_dstore 34 [(7, .double R_10), (0, .ref a_this), (1, .int k10_l1), (2, .double k10_l2), (4, .double k10_l4), (6, .int k10_l6)] hC dX8_far_32 rfl rfl (by decide) rfl ?_
          refine x_iload_n 35 2 hC dX8_far_34 rfl rfl rfl ?_
          refine x_if_eq 45 38 hC dX8_far_35 (by decide) rfl (fun c_11 => ?_) (fun c_11 => ?_)
          · have hf := if_t hf c_11
            refine x_lv [(0, .ref a_this), (1, .int k10_l1), (4, .double k10_l4), (6, .int k10_l6), (7, .double R_10)] [1, 2, 4, 5, 0] rfl ?_
            exact J_45 k10_l1 k10_l4 k10_l6 R_10 hf
          · have hf := if_f hf c_11
            refine x_dload 40 0 hC dX8_far_38 rfl rfl ?_
            refine x_dload_n 41 3 hC dX8_far_40 rfl rfl rfl ?_
            refine x_dcmp 42 hC dX8_far_41 rfl ?_
            refine x_if_le 50 45 hC dX8_far_42 (by decide) rfl (fun c_12 => ?_) (fun c_12 => ?_)
            · have hf := if_t hf c_12
              refine x_dload_n 51 3 hC dX8_far_50 rfl rfl rfl ?_
              refine x_lv [(0, .ref a_this), (1, .int k10_l1), (4, .double k10_l4), (6, .int k10_l6), (7, .double R_10)] [1, 2, 4, 5, 0] rfl ?_
              exact J_51 k10_l1 k10_l4 k10_l6 R_10 k10_l2 hf
            · have hf := if_f hf c_12
              refine x_lv [(0, .ref a_this), (1, .int k10_l1), (4, .double k10_l4), (6, .int k10_l6), (7, .double R_10)] [1, 2, 4, 5, 0] rfl ?_
              exact J_45 k10_l1 k10_l4 k10_l6 R_10 hf
  unfold f_X8_far at hf
  refine x_iconst 1 hC (0 : Int32) dX8_far_0 rfl (by decide) ?_
  refine x_istore_n 2 [(1, .int (0 : Int32)), (0, .ref a_this)] hC dX8_far_1 rfl rfl rfl (by decide) rfl ?_
  refine x_dconst0 3 hC dX8_far_2 rfl ?_
  refine x_dstore_n 4 [(2, .double FP.dconst0), (1, .int (0 : Int32)), (0, .ref a_this)] hC dX8_far_3 rfl rfl rfl (by decide) rfl ?_
  refine x_dconst0 5 hC dX8_far_4 rfl ?_
  refine x_dstore 7 [(4, .double FP.dconst0), (2, .double FP.dconst0), (1, .int (0 : Int32)), (0, .ref a_this)] hC dX8_far_5 rfl rfl (by decide) rfl ?_
  refine x_iconst 8 hC (0 : Int32) dX8_far_7 rfl (by decide) ?_
  refine x_istore 10 [(6, .int (0 : Int32)), (4, .double FP.dconst0), (2, .double FP.dconst0), (1, .int (0 : Int32)), (0, .ref a_this)] hC dX8_far_8 rfl rfl (by decide) rfl ?_
  refine x_lv [(0, .ref a_this), (1, .int (0 : Int32)), (2, .double FP.dconst0), (4, .double FP.dconst0), (6, .int (0 : Int32))] [4, 3, 2, 1, 0] rfl ?_
  exact J_10 fu (0 : Int32) FP.dconst0 FP.dconst0 (0 : Int32) hf

theorem hd_X8_unsure : yX8_unsure.cls = RX8 ∧ yX8_unsure.cls ≠ "java/lang/invoke/MethodHandle" ∧ yX8_unsure.cls ≠ "java/lang/invoke/VarHandle" ∧ (parseMethodDescriptor yX8_unsure.desc).map (fun d => d.parameters.length) = some 0 := by decide +kernel
theorem in_X8_unsure_X8 : ∀ w ∈ u_ws RX8 TX8 13, w ∈ wsX8_unsure := fun w h => List.mem_cons_of_mem _ (List.mem_append_right _ h)
noncomputable def f_X8_unsure_c72 (k36 : Int64 → Int32 → Option (Int32)) (v_s : Nat → Int64) (k72_l1 : Int64) (k72_l3 : Int32) : Option (Int32) := nm (k72_l3 + (1 : Int32)) fun x_1 => k36 k72_l1 x_1
noncomputable def f_X8_unsure_c36 (v_s : Nat → Int64) : Nat → Int64 → Int32 → Option (Int32)
  | 0, _, _ => none
  | n + 1, k36_l1, k36_l3 => if (10 : Int32) ≤ k36_l3 then (some ((-4 : Int32))) else (bd (f_X8_isHere v_s k36_l3) fun R_3 => if R_3 = 0 then (f_X8_unsure_c72 (fun k36_l1 k36_l3 => f_X8_unsure_c36 v_s n k36_l1 k36_l3) v_s k36_l1 k36_l3) else (ck ((73 : Int32) + k36_l3) 613 <| if (k36_l1 &&& ((v_s ((73 : Int32) + k36_l3).toNatClampNeg) ^^^ (-1 : Int64))) = (0 : Int64) then (f_X8_unsure_c72 (fun k36_l1 k36_l3 => f_X8_unsure_c36 v_s n k36_l1 k36_l3) v_s k36_l1 k36_l3) else (some (k36_l3))))
noncomputable def f_X8_unsure_c26 (k4 : Int64 → Int32 → Option (Int32)) (v_s : Nat → Int64) (k26_l3 : Int32) (k26_s0 : Int64) (k26_s1 : Int64) : Option (Int32) := nm (k26_s1 ||| k26_s0) fun x_7 => nm (k26_l3 + (1 : Int32)) fun x_8 => k4 x_7 x_8
noncomputable def f_X8_unsure_c4 (v_s : Nat → Int64) : Nat → Int64 → Int32 → Option (Int32)
  | 0, _, _ => none
  | n + 1, k4_l1, k4_l3 => if (10 : Int32) ≤ k4_l3 then (f_X8_unsure_c36 v_s fu k4_l1 (0 : Int32)) else (bd (f_X8_isHere v_s k4_l3) fun R_10 => if R_10 = 0 then (f_X8_unsure_c26 (fun k4_l1 k4_l3 => f_X8_unsure_c4 v_s n k4_l1 k4_l3) v_s k4_l3 (0 : Int64) k4_l1) else (f_X8_unsure_c26 (fun k4_l1 k4_l3 => f_X8_unsure_c4 v_s n k4_l1 k4_l3) v_s k4_l3 ((1 : Int64) <<< (k4_l3.toInt64 &&& 63)) k4_l1))
noncomputable def f_X8_unsure (v_s : Nat → Int64) : Option (Int32) := f_X8_unsure_c4 v_s fu (0 : Int64) (0 : Int32)
set_option maxHeartbeats 4000000 in
set_option maxRecDepth 100000 in
theorem c_X8_unsure (l : Launch) (D : va_G) (cI cJ cQ : ClassId) (a_this : Nat) (a_s : Nat) (r_kept : Value) (r_known : Value) (r_whose : Value) (r_lesser : Value) (r_other : Value) (r_sums : Value) (r_weights : Value) (r_row : Value) (r_plan : Value) (v_undos : Int32) (v_open : Int32) (v_planned : Int32) (v_s : Nat → Int64) (R0 : Int32) (hf : f_X8_unsure v_s = some R0) : Ci l yX8_unsure wsX8_unsure ({ frames := 4, cells := 0, slots := 0, locals := 133 } : Room) D [(cI, .int), (cJ, .long), (cQ, .object "WhisperCrowd$State")] [.ref a_this] [(a_this, .inr (8, [.ref a_s, r_kept, .int v_undos, r_known, r_whose, r_lesser, r_other, .int v_open, r_sums, r_weights, r_row, r_plan, .int v_planned])), (a_s, .inl (cJ, 613, .inr (.inl v_s)))] [(a_this, .inr (8, [.ref a_s, r_kept, .int v_undos, r_known, r_whose, r_lesser, r_other, .int v_open, r_sums, r_weights, r_row, r_plan, .int v_planned])), (a_s, .inl (cJ, 613, .inr (.inl v_s)))] R0 := by
  refine x_enti (cc := cX8_unsure) (maxL := 4) (rt := (some .int)) (lv := [(0, .ref a_this)]) (by decide) rfl (Nat.le_of_ble_eq_true rfl) rfl ?_
  intro p e s m args below meth c A Q hQ hC
  have J_36 : ∀ (n : Nat) (k36_l1 : Int64) (k36_l3 : Int32), f_X8_unsure_c36 v_s n k36_l1 k36_l3 = some R0 → XW p l e ({ frames := 4, cells := 0, slots := 0, locals := 133 } : Room) s m args below meth c D A 4 0 0 Q [(a_this, .inr (8, [.ref a_s, r_kept, .int v_undos, r_known, r_whose, r_lesser, r_other, .int v_open, r_sums, r_weights, r_row, r_plan, .int v_planned])), (a_s, .inl (cJ, 613, .inr (.inl v_s)))] [] [(0, .ref a_this), (1, .long k36_l1), (3, .int k36_l3)] 36 [] := by
    intro n
    induction n with
    | zero => intro k36_l1 k36_l3 hf; exact nomatch (show (none : Option (Int32)) = some R0 from hf)
    | succ n_36 ih_36 =>
      have J_72 : ∀ (k72_l1 : Int64) (k72_l3 : Int32), f_X8_unsure_c72 (fun k36_l1 k36_l3 => f_X8_unsure_c36 v_s n_36 k36_l1 k36_l3) v_s k72_l1 k72_l3 = some R0 → XW p l e ({ frames := 4, cells := 0, slots := 0, locals := 133 } : Room) s m args below meth c D A 4 0 0 Q [(a_this, .inr (8, [.ref a_s, r_kept, .int v_undos, r_known, r_whose, r_lesser, r_other, .int v_open, r_sums, r_weights, r_row, r_plan, .int v_planned])), (a_s, .inl (cJ, 613, .inr (.inl v_s)))] [] [(0, .ref a_this), (1, .long k72_l1), (3, .int k72_l3)] 72 [] := by
        intro k72_l1 k72_l3 hf
        unfold f_X8_unsure_c72 at hf
        obtain ⟨x_1, e_x_1, hf⟩ := nmx_e hf
        refine x_iinc 75 2 [(3, .int x_1), (0, .ref a_this), (1, .long k72_l1)] hC dX8_unsure_72 rfl rfl e_x_1 (by decide) (by decide) rfl ?_
        refine x_goto 36 hC dX8_unsure_75 (by decide) ?_
        refine x_lv [(0, .ref a_this), (1, .long k72_l1), (3, .int x_1)] [1, 2, 0] rfl ?_
        exact ih_36 k72_l1 x_1 hf
      intro k36_l1 k36_l3 hf
      unfold f_X8_unsure_c36 at hf
      refine x_iload_n 37 2 hC dX8_unsure_36 rfl rfl rfl ?_
      refine x_bipush 39 hC (10 : Int32) dX8_unsure_37 rfl (by decide) ?_
      refine x_icmp_ge 78 42 hC dX8_unsure_39 (by decide) rfl (fun c_2 => ?_) (fun c_2 => ?_)
      · have hf := if_t hf c_2
        refine x_bipush 80 hC (-4 : Int32) dX8_unsure_78 rfl (by decide) ?_
        cases hf
        exact x_iret hC dX8_unsure_80 hQ rfl rfl
      · have hf := if_f hf c_2
        refine x_aload_n 43 0 hC dX8_unsure_42 rfl rfl rfl ?_
        refine x_iload_n 44 2 hC dX8_unsure_43 rfl rfl rfl ?_
        obtain ⟨R_3, h_R_3, hf⟩ := bd_e hf
        refine x_callVi 47 0 1 [0, 1] [(a_this, .inr (8, [.ref a_s, r_kept, .int v_undos, r_known, r_whose, r_lesser, r_other, .int v_open, r_sums, r_weights, r_row, r_plan, .int v_planned])), (a_s, .inl (cJ, 613, .inr (.inl v_s)))] hC (As := [.int k36_l3]) (c_X8_isHere l D cI cJ cQ a_this a_s r_kept r_known r_whose r_lesser r_other r_sums r_weights r_row r_plan v_undos v_open v_planned v_s k36_l3 R_3 h_R_3) rfl rfl gX8_unsure_X8_isHere rfl ⟨rfl, rfl⟩ hd_X8_isHere ⟨Nat.le_of_ble_eq_true rfl, Nat.le_of_ble_eq_true rfl⟩ rfl rfl rfl rfl rfl rfl (Nat.le_of_ble_eq_true rfl) ⟨Nat.le_of_ble_eq_true rfl, Nat.le_of_ble_eq_true rfl⟩ dX8_unsure_44 rfl ?_
        refine x_if_eq 72 50 hC dX8_unsure_47 (by decide) rfl (fun c_4 => ?_) (fun c_4 => ?_)
        · have hf := if_t hf c_4
          refine x_lv [(0, .ref a_this), (1, .long k36_l1), (3, .int k36_l3)] [0, 1, 2] rfl ?_
          exact J_72 k36_l1 k36_l3 hf
        · have hf := if_f hf c_4
          refine x_lload_n 51 1 hC dX8_unsure_50 rfl rfl rfl ?_
          refine x_aload_n 52 0 hC dX8_unsure_51 rfl rfl rfl ?_
          refine x_get 55 0 0 hC in_X8_unsure_X8 rfl rfl (by decide) (List.mem_of_getElem? (i := 1) (by decide +kernel)) rfl rfl dX8_unsure_52 rfl ?_
          refine x_bipush 57 hC (73 : Int32) dX8_unsure_55 rfl (by decide) ?_
          refine x_iload_n 58 2 hC dX8_unsure_57 rfl rfl rfl ?_
          refine x_iadd 59 hC dX8_unsure_58 rfl ?_
          obtain ⟨h_5, hf⟩ := ck_e hf
          refine x_lald 60 1 1 hC rfl rfl h_5 dX8_unsure_59 rfl ?_
          refine x_ldc2 63 hC (v := (-1 : Int64)) (List.mem_of_getElem? (i := 2) (by decide +kernel)) dX8_unsure_60 rfl ?_
          refine x_lxor 64 hC dX8_unsure_63 rfl ?_
          refine x_land 65 hC dX8_unsure_64 rfl ?_
          refine x_lconst 66 hC (0 : Int64) dX8_unsure_65 rfl (by decide) ?_
          refine x_lcmp_eq 72 70 hC dX8_unsure_66 dX8_unsure_67 (by decide) rfl (fun c_6 => ?_) (fun c_6 => ?_)
          · have hf := if_t hf c_6
            refine x_lv [(0, .ref a_this), (1, .long k36_l1), (3, .int k36_l3)] [0, 1, 2] rfl ?_
            exact J_72 k36_l1 k36_l3 hf
          · have hf := if_f hf c_6
            refine x_iload_n 71 2 hC dX8_unsure_70 rfl rfl rfl ?_
            cases hf
            exact x_iret hC dX8_unsure_71 hQ rfl rfl
  have J_4 : ∀ (n : Nat) (k4_l1 : Int64) (k4_l3 : Int32), f_X8_unsure_c4 v_s n k4_l1 k4_l3 = some R0 → XW p l e ({ frames := 4, cells := 0, slots := 0, locals := 133 } : Room) s m args below meth c D A 4 0 0 Q [(a_this, .inr (8, [.ref a_s, r_kept, .int v_undos, r_known, r_whose, r_lesser, r_other, .int v_open, r_sums, r_weights, r_row, r_plan, .int v_planned])), (a_s, .inl (cJ, 613, .inr (.inl v_s)))] [] [(0, .ref a_this), (1, .long k4_l1), (3, .int k4_l3)] 4 [] := by
    intro n
    induction n with
    | zero => intro k4_l1 k4_l3 hf; exact nomatch (show (none : Option (Int32)) = some R0 from hf)
    | succ n_4 ih_4 =>
      have J_26 : ∀ (k26_l3 : Int32) (k26_s0 : Int64) (k26_s1 : Int64), f_X8_unsure_c26 (fun k4_l1 k4_l3 => f_X8_unsure_c4 v_s n_4 k4_l1 k4_l3) v_s k26_l3 k26_s0 k26_s1 = some R0 → XW p l e ({ frames := 4, cells := 0, slots := 0, locals := 133 } : Room) s m args below meth c D A 4 0 0 Q [(a_this, .inr (8, [.ref a_s, r_kept, .int v_undos, r_known, r_whose, r_lesser, r_other, .int v_open, r_sums, r_weights, r_row, r_plan, .int v_planned])), (a_s, .inl (cJ, 613, .inr (.inl v_s)))] [] [(0, .ref a_this), (3, .int k26_l3)] 26 [.long k26_s0, .long k26_s1] := by
        intro k26_l3 k26_s0 k26_s1 hf
        unfold f_X8_unsure_c26 at hf
        refine x_lor 27 hC dX8_unsure_26 rfl ?_
        obtain ⟨x_7, e_x_7, hf⟩ := nmx_e hf
        refine x_lstore_n 28 [(1, .long x_7), (0, .ref a_this), (3, .int k26_l3)] hC dX8_unsure_27 rfl rfl e_x_7 (by decide) rfl ?_
        obtain ⟨x_8, e_x_8, hf⟩ := nmx_e hf
        refine x_iinc 31 2 [(3, .int x_8), (1, .long x_7), (0, .ref a_this)] hC dX8_unsure_28 rfl rfl e_x_8 (by decide) (by decide) rfl ?_
        refine x_goto 4 hC dX8_unsure_31 (by decide) ?_
        refine x_lv [(0, .ref a_this), (1, .long x_7), (3, .int x_8)] [2, 1, 0] rfl ?_
        exact ih_4 x_7 x_8 hf
      intro k4_l1 k4_l3 hf
      unfold f_X8_unsure_c4 at hf
      refine x_iload_n 5 2 hC dX8_unsure_4 rfl rfl rfl ?_
      refine x_bipush 7 hC (10 : Int32) dX8_unsure_5 rfl (by decide) ?_
      refine x_icmp_ge 34 10 hC dX8_unsure_7 (by decide) rfl (fun c_9 => ?_) (fun c_9 => ?_)
      · have hf := if_t hf c_9
        refine x_iconst 35 hC (0 : Int32) dX8_unsure_34 rfl (by decide) ?_
        refine x_istore_n 36 [(3, .int (0 : Int32)), (0, .ref a_this), (1, .long k4_l1)] hC dX8_unsure_35 rfl rfl rfl (by decide) rfl ?_
        refine x_lv [(0, .ref a_this), (1, .long k4_l1), (3, .int (0 : Int32))] [1, 2, 0] rfl ?_
        exact J_36 fu k4_l1 (0 : Int32) hf
      · have hf := if_f hf c_9
        refine x_lload_n 11 1 hC dX8_unsure_10 rfl rfl rfl ?_
        refine x_aload_n 12 0 hC dX8_unsure_11 rfl rfl rfl ?_
        refine x_iload_n 13 2 hC dX8_unsure_12 rfl rfl rfl ?_
        obtain ⟨R_10, h_R_10, hf⟩ := bd_e hf
        refine x_callVi 16 0 1 [0, 1] [(a_this, .inr (8, [.ref a_s, r_kept, .int v_undos, r_known, r_whose, r_lesser, r_other, .int v_open, r_sums, r_weights, r_row, r_plan, .int v_planned])), (a_s, .inl (cJ, 613, .inr (.inl v_s)))] hC (As := [.int k4_l3]) (c_X8_isHere l D cI cJ cQ a_this a_s r_kept r_known r_whose r_lesser r_other r_sums r_weights r_row r_plan v_undos v_open v_planned v_s k4_l3 R_10 h_R_10) rfl rfl gX8_unsure_X8_isHere rfl ⟨rfl, rfl⟩ hd_X8_isHere ⟨Nat.le_of_ble_eq_true rfl, Nat.le_of_ble_eq_true rfl⟩ rfl rfl rfl rfl rfl rfl (Nat.le_of_ble_eq_true rfl) ⟨Nat.le_of_ble_eq_true rfl, Nat.le_of_ble_eq_true rfl⟩ dX8_unsure_13 rfl ?_
        refine x_if_eq 25 19 hC dX8_unsure_16 (by decide) rfl (fun c_11 => ?_) (fun c_11 => ?_)
        · have hf := if_t hf c_11
          refine x_lconst 26 hC (0 : Int64) dX8_unsure_25 rfl (by decide) ?_
          refine x_lv [(0, .ref a_this), (3, .int k4_l3)] [0, 2] rfl ?_
          exact J_26 k4_l3 (0 : Int64) k4_l1 hf
        · have hf := if_f hf c_11
          refine x_lconst 20 hC (1 : Int64) dX8_unsure_19 rfl (by decide) ?_
          refine x_iload_n 21 2 hC dX8_unsure_20 rfl rfl rfl ?_
          refine x_lshl 22 hC dX8_unsure_21 rfl ?_
          refine x_goto 26 hC dX8_unsure_22 (by decide) ?_
          refine x_lv [(0, .ref a_this), (3, .int k4_l3)] [0, 2] rfl ?_
          exact J_26 k4_l3 ((1 : Int64) <<< (k4_l3.toInt64 &&& 63)) k4_l1 hf
  unfold f_X8_unsure at hf
  refine x_lconst 1 hC (0 : Int64) dX8_unsure_0 rfl (by decide) ?_
  refine x_lstore_n 2 [(1, .long (0 : Int64)), (0, .ref a_this)] hC dX8_unsure_1 rfl rfl rfl (by decide) rfl ?_
  refine x_iconst 3 hC (0 : Int32) dX8_unsure_2 rfl (by decide) ?_
  refine x_istore_n 4 [(3, .int (0 : Int32)), (1, .long (0 : Int64)), (0, .ref a_this)] hC dX8_unsure_3 rfl rfl rfl (by decide) rfl ?_
  refine x_lv [(0, .ref a_this), (1, .long (0 : Int64)), (3, .int (0 : Int32))] [2, 1, 0] rfl ?_
  exact J_4 fu (0 : Int64) (0 : Int32) hf

theorem hd_X8_many : yX8_many.cls = RX8 ∧ yX8_many.cls ≠ "java/lang/invoke/MethodHandle" ∧ yX8_many.cls ≠ "java/lang/invoke/VarHandle" ∧ (parseMethodDescriptor yX8_many.desc).map (fun d => d.parameters.length) = some 1 := by decide +kernel
theorem in_X8_many_X8 : ∀ w ∈ u_ws RX8 TX8 13, w ∈ wsX8_many := fun w h => List.mem_cons_of_mem _ (List.mem_append_right _ h)
noncomputable def f_X8_many (v_s : Nat → Int64) (p1 : Int32) : Option (Int64) := bd (f_X8_isHere v_s p1) fun R_1 => if ¬ R_1 = 0 then (ck ((83 : Int32) + p1) 613 <| if (4 : Int64) ≤ (v_s ((83 : Int32) + p1).toNatClampNeg) then (ck (((93 : Int32) + ((4 : Int32) * p1)) + (3 : Int32)) 613 <| ckp (FP.ddiv (4753549406689558528 : UInt64) (FP.l2d (v_s (((93 : Int32) + ((4 : Int32) * p1)) + (3 : Int32)).toNatClampNeg)) &&& 0x7fffffffffffffff ≤ 0x7ff0000000000000) (Classical.propDecidable _) <| bd (f_Jxe99ae_doubleToLongBits_ccdee (FP.ddiv (4753549406689558528 : UInt64) (FP.l2d (v_s (((93 : Int32) + ((4 : Int32) * p1)) + (3 : Int32)).toNatClampNeg)))) fun R_7 => some (R_7)) else (ck ((83 : Int32) + p1) 613 <| bd (f_Jxe99ae_doubleToLongBits_ccdee (FP.l2d (v_s ((83 : Int32) + p1).toNatClampNeg))) fun R_9 => some (R_9))) else (some ((-1 : Int64)))
set_option maxHeartbeats 4000000 in
set_option maxRecDepth 100000 in
theorem c_X8_many (l : Launch) (D : va_G) (cI cJ cQ : ClassId) (a_this : Nat) (a_s : Nat) (r_kept : Value) (r_known : Value) (r_whose : Value) (r_lesser : Value) (r_other : Value) (r_sums : Value) (r_weights : Value) (r_row : Value) (r_plan : Value) (v_undos : Int32) (v_open : Int32) (v_planned : Int32) (v_s : Nat → Int64) (p1 : Int32) (R0 : Int64) (hf : f_X8_many v_s p1 = some R0) : Cl l yX8_many wsX8_many ({ frames := 4, cells := 0, slots := 0, locals := 133 } : Room) D [(cI, .int), (cJ, .long), (cQ, .object "WhisperCrowd$State")] [.ref a_this, .int p1] [(a_this, .inr (8, [.ref a_s, r_kept, .int v_undos, r_known, r_whose, r_lesser, r_other, .int v_open, r_sums, r_weights, r_row, r_plan, .int v_planned])), (a_s, .inl (cJ, 613, .inr (.inl v_s)))] [(a_this, .inr (8, [.ref a_s, r_kept, .int v_undos, r_known, r_whose, r_lesser, r_other, .int v_open, r_sums, r_weights, r_row, r_plan, .int v_planned])), (a_s, .inl (cJ, 613, .inr (.inl v_s)))] R0 := by
  refine x_entl (cc := cX8_many) (maxL := 2) (rt := (some .long)) (lv := [(0, .ref a_this), (1, .int p1)]) (by decide) rfl (Nat.le_of_ble_eq_true rfl) rfl ?_
  intro p e s m args below meth c A Q hQ hC
  unfold f_X8_many at hf
  refine x_aload_n 1 0 hC dX8_many_0 rfl rfl rfl ?_
  refine x_iload_n 2 1 hC dX8_many_1 rfl rfl rfl ?_
  obtain ⟨R_1, h_R_1, hf⟩ := bd_e hf
  refine x_callVi 5 0 1 [0, 1] [(a_this, .inr (8, [.ref a_s, r_kept, .int v_undos, r_known, r_whose, r_lesser, r_other, .int v_open, r_sums, r_weights, r_row, r_plan, .int v_planned])), (a_s, .inl (cJ, 613, .inr (.inl v_s)))] hC (As := [.int p1]) (c_X8_isHere l D cI cJ cQ a_this a_s r_kept r_known r_whose r_lesser r_other r_sums r_weights r_row r_plan v_undos v_open v_planned v_s p1 R_1 h_R_1) rfl rfl gX8_many_X8_isHere rfl ⟨rfl, rfl⟩ hd_X8_isHere ⟨Nat.le_of_ble_eq_true rfl, Nat.le_of_ble_eq_true rfl⟩ rfl rfl rfl rfl rfl rfl (Nat.le_of_ble_eq_true rfl) ⟨Nat.le_of_ble_eq_true rfl, Nat.le_of_ble_eq_true rfl⟩ dX8_many_2 rfl ?_
  refine x_if_ne 12 8 hC dX8_many_5 (by decide) rfl (fun c_2 => ?_) (fun c_2 => ?_)
  · have hf := if_t hf c_2
    refine x_aload_n 13 0 hC dX8_many_12 rfl rfl rfl ?_
    refine x_get 16 0 0 hC in_X8_many_X8 rfl rfl (by decide) (List.mem_of_getElem? (i := 2) (by decide +kernel)) rfl rfl dX8_many_13 rfl ?_
    refine x_bipush 18 hC (83 : Int32) dX8_many_16 rfl (by decide) ?_
    refine x_iload_n 19 1 hC dX8_many_18 rfl rfl rfl ?_
    refine x_iadd 20 hC dX8_many_19 rfl ?_
    obtain ⟨h_3, hf⟩ := ck_e hf
    refine x_lald 21 1 1 hC rfl rfl h_3 dX8_many_20 rfl ?_
    refine x_ldc2 24 hC (v := (4 : Int64)) (List.mem_of_getElem? (i := 3) (by decide +kernel)) dX8_many_21 rfl ?_
    refine x_lcmp_ge 42 28 hC dX8_many_24 dX8_many_25 (by decide) rfl (fun c_4 => ?_) (fun c_4 => ?_)
    · have hf := if_t hf c_4
      refine x_ldc2d 45 hC (v := (4753549406689558528 : UInt64)) (List.mem_of_getElem? (i := 4) (by decide +kernel)) dX8_many_42 rfl ?_
      refine x_aload_n 46 0 hC dX8_many_45 rfl rfl rfl ?_
      refine x_get 49 0 0 hC in_X8_many_X8 rfl rfl (by decide) (List.mem_of_getElem? (i := 2) (by decide +kernel)) rfl rfl dX8_many_46 rfl ?_
      refine x_bipush 51 hC (93 : Int32) dX8_many_49 rfl (by decide) ?_
      refine x_iconst 52 hC (4 : Int32) dX8_many_51 rfl (by decide) ?_
      refine x_iload_n 53 1 hC dX8_many_52 rfl rfl rfl ?_
      refine x_imul 54 hC dX8_many_53 rfl ?_
      refine x_iadd 55 hC dX8_many_54 rfl ?_
      refine x_iconst 56 hC (3 : Int32) dX8_many_55 rfl (by decide) ?_
      refine x_iadd 57 hC dX8_many_56 rfl ?_
      obtain ⟨h_5, hf⟩ := ck_e hf
      refine x_lald 58 1 1 hC rfl rfl h_5 dX8_many_57 rfl ?_
      refine x_l2d 59 hC dX8_many_58 rfl ?_
      obtain ⟨h_6, hf⟩ := ckp_e hf
      refine x_ddiv 60 hC dX8_many_59 rfl h_6 ?_
      obtain ⟨R_7, h_R_7, hf⟩ := bd_e hf
      refine x_callSl 63 1 [] [(a_this, .inr (8, [.ref a_s, r_kept, .int v_undos, r_known, r_whose, r_lesser, r_other, .int v_open, r_sums, r_weights, r_row, r_plan, .int v_planned])), (a_s, .inl (cJ, 613, .inr (.inl v_s)))] hC (As := [.double (FP.ddiv (4753549406689558528 : UInt64) (FP.l2d (v_s (((93 : Int32) + ((4 : Int32) * p1)) + (3 : Int32)).toNatClampNeg)))]) (c_Jxe99ae_doubleToLongBits_ccdee l D cI cJ cQ (FP.ddiv (4753549406689558528 : UInt64) (FP.l2d (v_s (((93 : Int32) + ((4 : Int32) * p1)) + (3 : Int32)).toNatClampNeg))) R_7 h_R_7) gX8_many_Jxe99ae_doubleToLongBits_ccdee rfl ⟨rfl, rfl⟩ hd_Jxe99ae_doubleToLongBits_ccdee ⟨Nat.le_of_ble_eq_true rfl, Nat.le_of_ble_eq_true rfl⟩ rfl rfl rfl rfl rfl rfl (Nat.le_of_ble_eq_true rfl) ⟨Nat.le_of_ble_eq_true rfl, Nat.le_of_ble_eq_true rfl⟩ dX8_many_60 rfl ?_
      cases hf
      exact x_lret hC dX8_many_63 hQ rfl rfl
    · have hf := if_f hf c_4
      refine x_aload_n 29 0 hC dX8_many_28 rfl rfl rfl ?_
      refine x_get 32 0 0 hC in_X8_many_X8 rfl rfl (by decide) (List.mem_of_getElem? (i := 2) (by decide +kernel)) rfl rfl dX8_many_29 rfl ?_
      refine x_bipush 34 hC (83 : Int32) dX8_many_32 rfl (by decide) ?_
      refine x_iload_n 35 1 hC dX8_many_34 rfl rfl rfl ?_
      refine x_iadd 36 hC dX8_many_35 rfl ?_
      obtain ⟨h_8, hf⟩ := ck_e hf
      refine x_lald 37 1 1 hC rfl rfl h_8 dX8_many_36 rfl ?_
      refine x_l2d 38 hC dX8_many_37 rfl ?_
      obtain ⟨R_9, h_R_9, hf⟩ := bd_e hf
      refine x_callSl 41 1 [] [(a_this, .inr (8, [.ref a_s, r_kept, .int v_undos, r_known, r_whose, r_lesser, r_other, .int v_open, r_sums, r_weights, r_row, r_plan, .int v_planned])), (a_s, .inl (cJ, 613, .inr (.inl v_s)))] hC (As := [.double (FP.l2d (v_s ((83 : Int32) + p1).toNatClampNeg))]) (c_Jxe99ae_doubleToLongBits_ccdee l D cI cJ cQ (FP.l2d (v_s ((83 : Int32) + p1).toNatClampNeg)) R_9 h_R_9) gX8_many_Jxe99ae_doubleToLongBits_ccdee rfl ⟨rfl, rfl⟩ hd_Jxe99ae_doubleToLongBits_ccdee ⟨Nat.le_of_ble_eq_true rfl, Nat.le_of_ble_eq_true rfl⟩ rfl rfl rfl rfl rfl rfl (Nat.le_of_ble_eq_true rfl) ⟨Nat.le_of_ble_eq_true rfl, Nat.le_of_ble_eq_true rfl⟩ dX8_many_38 rfl ?_
      cases hf
      exact x_lret hC dX8_many_41 hQ rfl rfl
  · have hf := if_f hf c_2
    refine x_ldc2 11 hC (v := (-1 : Int64)) (List.mem_of_getElem? (i := 1) (by decide +kernel)) dX8_many_8 rfl ?_
    cases hf
    exact x_lret hC dX8_many_11 hQ rfl rfl

theorem hd_X8_ticket : yX8_ticket.cls = RX8 ∧ yX8_ticket.cls ≠ "java/lang/invoke/MethodHandle" ∧ yX8_ticket.cls ≠ "java/lang/invoke/VarHandle" ∧ (parseMethodDescriptor yX8_ticket.desc).map (fun d => d.parameters.length) = some 2 := by decide +kernel
theorem in_X8_ticket_X8 : ∀ w ∈ u_ws RX8 TX8 13, w ∈ wsX8_ticket := fun w h => List.mem_cons_of_mem _ (List.mem_append_right _ h)
noncomputable def f_X8_ticket (v_s : Nat → Int64) (p1 : Int32) (p2 : Int32) : Option (Int32) := bd (f_X8_isMember v_s p1) fun R_1 => if ¬ R_1 = 0 then (bd (f_X8_isHere v_s p1) fun R_3 => if ¬ R_3 = 0 then (ck ((83 : Int32) + p1) 613 <| bd (f_X8_in (p2.toInt64) (0 : Int64) ((v_s ((83 : Int32) + p1).toNatClampNeg) - (1 : Int64))) fun R_6 => if R_6 = 0 then (some ((-4 : Int32))) else (ck (((93 : Int32) + ((4 : Int32) * p1)) + p2) 613 <| some (((v_s (((93 : Int32) + ((4 : Int32) * p1)) + p2).toNatClampNeg).toInt32)))) else (some ((-2 : Int32)))) else (some ((-1 : Int32)))
set_option maxHeartbeats 4000000 in
set_option maxRecDepth 100000 in
theorem c_X8_ticket (l : Launch) (D : va_G) (cI cJ cQ : ClassId) (a_this : Nat) (a_s : Nat) (r_kept : Value) (r_known : Value) (r_whose : Value) (r_lesser : Value) (r_other : Value) (r_sums : Value) (r_weights : Value) (r_row : Value) (r_plan : Value) (v_undos : Int32) (v_open : Int32) (v_planned : Int32) (v_s : Nat → Int64) (p1 : Int32) (p2 : Int32) (R0 : Int32) (hf : f_X8_ticket v_s p1 p2 = some R0) : Ci l yX8_ticket wsX8_ticket ({ frames := 4, cells := 0, slots := 0, locals := 133 } : Room) D [(cI, .int), (cJ, .long), (cQ, .object "WhisperCrowd$State")] [.ref a_this, .int p1, .int p2] [(a_this, .inr (8, [.ref a_s, r_kept, .int v_undos, r_known, r_whose, r_lesser, r_other, .int v_open, r_sums, r_weights, r_row, r_plan, .int v_planned])), (a_s, .inl (cJ, 613, .inr (.inl v_s)))] [(a_this, .inr (8, [.ref a_s, r_kept, .int v_undos, r_known, r_whose, r_lesser, r_other, .int v_open, r_sums, r_weights, r_row, r_plan, .int v_planned])), (a_s, .inl (cJ, 613, .inr (.inl v_s)))] R0 := by
  refine x_enti (cc := cX8_ticket) (maxL := 3) (rt := (some .int)) (lv := [(0, .ref a_this), (1, .int p1), (2, .int p2)]) (by decide) rfl (Nat.le_of_ble_eq_true rfl) rfl ?_
  intro p e s m args below meth c A Q hQ hC
  unfold f_X8_ticket at hf
  refine x_aload_n 1 0 hC dX8_ticket_0 rfl rfl rfl ?_
  refine x_iload_n 2 1 hC dX8_ticket_1 rfl rfl rfl ?_
  obtain ⟨R_1, h_R_1, hf⟩ := bd_e hf
  refine x_callVi 5 0 1 [0, 1] [(a_this, .inr (8, [.ref a_s, r_kept, .int v_undos, r_known, r_whose, r_lesser, r_other, .int v_open, r_sums, r_weights, r_row, r_plan, .int v_planned])), (a_s, .inl (cJ, 613, .inr (.inl v_s)))] hC (As := [.int p1]) (c_X8_isMember l D cI cJ cQ a_this a_s r_kept r_known r_whose r_lesser r_other r_sums r_weights r_row r_plan v_undos v_open v_planned v_s p1 R_1 h_R_1) rfl rfl gX8_ticket_X8_isMember rfl ⟨rfl, rfl⟩ hd_X8_isMember ⟨Nat.le_of_ble_eq_true rfl, Nat.le_of_ble_eq_true rfl⟩ rfl rfl rfl rfl rfl rfl (Nat.le_of_ble_eq_true rfl) ⟨Nat.le_of_ble_eq_true rfl, Nat.le_of_ble_eq_true rfl⟩ dX8_ticket_2 rfl ?_
  refine x_if_ne 10 8 hC dX8_ticket_5 (by decide) rfl (fun c_2 => ?_) (fun c_2 => ?_)
  · have hf := if_t hf c_2
    refine x_aload_n 11 0 hC dX8_ticket_10 rfl rfl rfl ?_
    refine x_iload_n 12 1 hC dX8_ticket_11 rfl rfl rfl ?_
    obtain ⟨R_3, h_R_3, hf⟩ := bd_e hf
    refine x_callVi 15 0 1 [0, 1] [(a_this, .inr (8, [.ref a_s, r_kept, .int v_undos, r_known, r_whose, r_lesser, r_other, .int v_open, r_sums, r_weights, r_row, r_plan, .int v_planned])), (a_s, .inl (cJ, 613, .inr (.inl v_s)))] hC (As := [.int p1]) (c_X8_isHere l D cI cJ cQ a_this a_s r_kept r_known r_whose r_lesser r_other r_sums r_weights r_row r_plan v_undos v_open v_planned v_s p1 R_3 h_R_3) rfl rfl gX8_ticket_X8_isHere rfl ⟨rfl, rfl⟩ hd_X8_isHere ⟨Nat.le_of_ble_eq_true rfl, Nat.le_of_ble_eq_true rfl⟩ rfl rfl rfl rfl rfl rfl (Nat.le_of_ble_eq_true rfl) ⟨Nat.le_of_ble_eq_true rfl, Nat.le_of_ble_eq_true rfl⟩ dX8_ticket_12 rfl ?_
    refine x_if_ne 21 18 hC dX8_ticket_15 (by decide) rfl (fun c_4 => ?_) (fun c_4 => ?_)
    · have hf := if_t hf c_4
      refine x_iload_n 22 2 hC dX8_ticket_21 rfl rfl rfl ?_
      refine x_i2l 23 hC dX8_ticket_22 rfl ?_
      refine x_lconst 24 hC (0 : Int64) dX8_ticket_23 rfl (by decide) ?_
      refine x_aload_n 25 0 hC dX8_ticket_24 rfl rfl rfl ?_
      refine x_get 28 0 0 hC in_X8_ticket_X8 rfl rfl (by decide) (List.mem_of_getElem? (i := 1) (by decide +kernel)) rfl rfl dX8_ticket_25 rfl ?_
      refine x_bipush 30 hC (83 : Int32) dX8_ticket_28 rfl (by decide) ?_
      refine x_iload_n 31 1 hC dX8_ticket_30 rfl rfl rfl ?_
      refine x_iadd 32 hC dX8_ticket_31 rfl ?_
      obtain ⟨h_5, hf⟩ := ck_e hf
      refine x_lald 33 1 1 hC rfl rfl h_5 dX8_ticket_32 rfl ?_
      refine x_lconst 34 hC (1 : Int64) dX8_ticket_33 rfl (by decide) ?_
      refine x_lsub 35 hC dX8_ticket_34 rfl ?_
      obtain ⟨R_6, h_R_6, hf⟩ := bd_e hf
      refine x_callSi 38 3 [] [(a_this, .inr (8, [.ref a_s, r_kept, .int v_undos, r_known, r_whose, r_lesser, r_other, .int v_open, r_sums, r_weights, r_row, r_plan, .int v_planned])), (a_s, .inl (cJ, 613, .inr (.inl v_s)))] hC (As := [.long (p2.toInt64), .long (0 : Int64), .long ((v_s ((83 : Int32) + p1).toNatClampNeg) - (1 : Int64))]) (c_X8_in l D cI cJ cQ (p2.toInt64) (0 : Int64) ((v_s ((83 : Int32) + p1).toNatClampNeg) - (1 : Int64)) R_6 h_R_6) gX8_ticket_X8_in rfl ⟨rfl, rfl⟩ hd_X8_in ⟨Nat.le_of_ble_eq_true rfl, Nat.le_of_ble_eq_true rfl⟩ rfl rfl rfl rfl rfl rfl (Nat.le_of_ble_eq_true rfl) ⟨Nat.le_of_ble_eq_true rfl, Nat.le_of_ble_eq_true rfl⟩ dX8_ticket_35 rfl ?_
      refine x_if_eq 58 41 hC dX8_ticket_38 (by decide) rfl (fun c_7 => ?_) (fun c_7 => ?_)
      · have hf := if_t hf c_7
        refine x_bipush 60 hC (-4 : Int32) dX8_ticket_58 rfl (by decide) ?_
        cases hf
        exact x_iret hC dX8_ticket_60 hQ rfl rfl
      · have hf := if_f hf c_7
        refine x_aload_n 42 0 hC dX8_ticket_41 rfl rfl rfl ?_
        refine x_get 45 0 0 hC in_X8_ticket_X8 rfl rfl (by decide) (List.mem_of_getElem? (i := 1) (by decide +kernel)) rfl rfl dX8_ticket_42 rfl ?_
        refine x_bipush 47 hC (93 : Int32) dX8_ticket_45 rfl (by decide) ?_
        refine x_iconst 48 hC (4 : Int32) dX8_ticket_47 rfl (by decide) ?_
        refine x_iload_n 49 1 hC dX8_ticket_48 rfl rfl rfl ?_
        refine x_imul 50 hC dX8_ticket_49 rfl ?_
        refine x_iadd 51 hC dX8_ticket_50 rfl ?_
        refine x_iload_n 52 2 hC dX8_ticket_51 rfl rfl rfl ?_
        refine x_iadd 53 hC dX8_ticket_52 rfl ?_
        obtain ⟨h_8, hf⟩ := ck_e hf
        refine x_lald 54 1 1 hC rfl rfl h_8 dX8_ticket_53 rfl ?_
        refine x_l2i 55 hC dX8_ticket_54 rfl ?_
        refine x_goto 60 hC dX8_ticket_55 (by decide) ?_
        cases hf
        exact x_iret hC dX8_ticket_60 hQ rfl rfl
    · have hf := if_f hf c_4
      refine x_bipush 20 hC (-2 : Int32) dX8_ticket_18 rfl (by decide) ?_
      cases hf
      exact x_iret hC dX8_ticket_20 hQ rfl rfl
  · have hf := if_f hf c_2
    refine x_iconst 9 hC (-1 : Int32) dX8_ticket_8 rfl (by decide) ?_
    cases hf
    exact x_iret hC dX8_ticket_9 hQ rfl rfl

theorem hd_X8_areLike : yX8_areLike.cls = RX8 ∧ yX8_areLike.cls ≠ "java/lang/invoke/MethodHandle" ∧ yX8_areLike.cls ≠ "java/lang/invoke/VarHandle" ∧ (parseMethodDescriptor yX8_areLike.desc).map (fun d => d.parameters.length) = some 1 := by decide +kernel
theorem in_X8_areLike_X8 : ∀ w ∈ u_ws RX8 TX8 13, w ∈ wsX8_areLike := fun w h => List.mem_cons_of_mem _ (List.mem_append_right _ h)
noncomputable def f_X8_areLike_c78 (k4 : Int32 → Int32 → Int32 → Option (Int32)) (v_s : Nat → Int64) (v_sums : Nat → Int64) (v_weights : Nat → Int64) (k78_l1 : Int32) (k78_l2 : Int32) (k78_l3 : Int32) : Option (Int32) := nm (k78_l3 + (1 : Int32)) fun x_1 => k4 k78_l1 k78_l2 x_1
noncomputable def f_X8_areLike_c76 (k4 : Int32 → Int32 → Int32 → Option (Int32)) (v_s : Nat → Int64) (v_sums : Nat → Int64) (v_weights : Nat → Int64) (k76_l1 : Int32) (k76_l3 : Int32) : Option (Int32) := f_X8_areLike_c78 k4 v_s v_sums v_weights k76_l1 k76_l3 k76_l3
noncomputable def f_X8_areLike_c4 (v_s : Nat → Int64) (v_sums : Nat → Int64) (v_weights : Nat → Int64) : Nat → Int32 → Int32 → Int32 → Option (Int32)
  | 0, _, _, _ => none
  | n + 1, k4_l1, k4_l2, k4_l3 => if (10 : Int32) ≤ k4_l3 then (some ((1 : Int32))) else (bd (f_X8_isHere v_s k4_l3) fun R_3 => if R_3 = 0 then (f_X8_areLike_c78 (fun k4_l1 k4_l2 k4_l3 => f_X8_areLike_c4 v_s v_sums v_weights n k4_l1 k4_l2 k4_l3) v_s v_sums v_weights k4_l1 k4_l2 k4_l3) else (if k4_l2 < 0 then (f_X8_areLike_c76 (fun k4_l1 k4_l2 k4_l3 => f_X8_areLike_c4 v_s v_sums v_weights n k4_l1 k4_l2 k4_l3) v_s v_sums v_weights k4_l1 k4_l3) else (ck (((10 : Int32) * k4_l1) + k4_l3) 50 <| ck (((10 : Int32) * k4_l1) + k4_l2) 50 <| if ¬ (v_sums (((10 : Int32) * k4_l1) + k4_l3).toNatClampNeg) = (v_sums (((10 : Int32) * k4_l1) + k4_l2).toNatClampNeg) then (some ((0 : Int32))) else (ck (((10 : Int32) * k4_l1) + k4_l3) 50 <| ck (((10 : Int32) * k4_l1) + k4_l2) 50 <| if (v_weights (((10 : Int32) * k4_l1) + k4_l3).toNatClampNeg) = (v_weights (((10 : Int32) * k4_l1) + k4_l2).toNatClampNeg) then (f_X8_areLike_c76 (fun k4_l1 k4_l2 k4_l3 => f_X8_areLike_c4 v_s v_sums v_weights n k4_l1 k4_l2 k4_l3) v_s v_sums v_weights k4_l1 k4_l3) else (some ((0 : Int32)))))))
noncomputable def f_X8_areLike (v_s : Nat → Int64) (v_sums : Nat → Int64) (v_weights : Nat → Int64) (p1 : Int32) : Option (Int32) := f_X8_areLike_c4 v_s v_sums v_weights fu p1 (-1 : Int32) (0 : Int32)
set_option maxHeartbeats 4000000 in
set_option maxRecDepth 100000 in
theorem c_X8_areLike (l : Launch) (D : va_G) (cI cJ cQ : ClassId) (a_this : Nat) (a_s : Nat) (a_sums : Nat) (a_weights : Nat) (r_kept : Value) (r_known : Value) (r_whose : Value) (r_lesser : Value) (r_other : Value) (r_row : Value) (r_plan : Value) (v_undos : Int32) (v_open : Int32) (v_planned : Int32) (v_s : Nat → Int64) (v_sums : Nat → Int64) (v_weights : Nat → Int64) (p1 : Int32) (R0 : Int32) (hf : f_X8_areLike v_s v_sums v_weights p1 = some R0) : Ci l yX8_areLike wsX8_areLike ({ frames := 4, cells := 0, slots := 0, locals := 133 } : Room) D [(cI, .int), (cJ, .long), (cQ, .object "WhisperCrowd$State")] [.ref a_this, .int p1] [(a_this, .inr (8, [.ref a_s, r_kept, .int v_undos, r_known, r_whose, r_lesser, r_other, .int v_open, .ref a_sums, .ref a_weights, r_row, r_plan, .int v_planned])), (a_s, .inl (cJ, 613, .inr (.inl v_s))), (a_sums, .inl (cJ, 50, .inr (.inl v_sums))), (a_weights, .inl (cJ, 50, .inr (.inl v_weights)))] [(a_this, .inr (8, [.ref a_s, r_kept, .int v_undos, r_known, r_whose, r_lesser, r_other, .int v_open, .ref a_sums, .ref a_weights, r_row, r_plan, .int v_planned])), (a_s, .inl (cJ, 613, .inr (.inl v_s))), (a_sums, .inl (cJ, 50, .inr (.inl v_sums))), (a_weights, .inl (cJ, 50, .inr (.inl v_weights)))] R0 := by
  refine x_enti (cc := cX8_areLike) (maxL := 4) (rt := (some .boolean)) (lv := [(0, .ref a_this), (1, .int p1)]) (by decide) rfl (Nat.le_of_ble_eq_true rfl) rfl ?_
  intro p e s m args below meth c A Q hQ hC
  have J_4 : ∀ (n : Nat) (k4_l1 : Int32) (k4_l2 : Int32) (k4_l3 : Int32), f_X8_areLike_c4 v_s v_sums v_weights n k4_l1 k4_l2 k4_l3 = some R0 → XW p l e ({ frames := 4, cells := 0, slots := 0, locals := 133 } : Room) s m args below meth c D A 4 0 0 Q [(a_this, .inr (8, [.ref a_s, r_kept, .int v_undos, r_known, r_whose, r_lesser, r_other, .int v_open, .ref a_sums, .ref a_weights, r_row, r_plan, .int v_planned])), (a_s, .inl (cJ, 613, .inr (.inl v_s))), (a_sums, .inl (cJ, 50, .inr (.inl v_sums))), (a_weights, .inl (cJ, 50, .inr (.inl v_weights)))] [] [(0, .ref a_this), (1, .int k4_l1), (2, .int k4_l2), (3, .int k4_l3)] 4 [] := by
    intro n
    induction n with
    | zero => intro k4_l1 k4_l2 k4_l3 hf; exact nomatch (show (none : Option (Int32)) = some R0 from hf)
    | succ n_4 ih_4 =>
      have J_78 : ∀ (k78_l1 : Int32) (k78_l2 : Int32) (k78_l3 : Int32), f_X8_areLike_c78 (fun k4_l1 k4_l2 k4_l3 => f_X8_areLike_c4 v_s v_sums v_weights n_4 k4_l1 k4_l2 k4_l3) v_s v_sums v_weights k78_l1 k78_l2 k78_l3 = some R0 → XW p l e ({ frames := 4, cells := 0, slots := 0, locals := 133 } : Room) s m args below meth c D A 4 0 0 Q [(a_this, .inr (8, [.ref a_s, r_kept, .int v_undos, r_known, r_whose, r_lesser, r_other, .int v_open, .ref a_sums, .ref a_weights, r_row, r_plan, .int v_planned])), (a_s, .inl (cJ, 613, .inr (.inl v_s))), (a_sums, .inl (cJ, 50, .inr (.inl v_sums))), (a_weights, .inl (cJ, 50, .inr (.inl v_weights)))] [] [(0, .ref a_this), (1, .int k78_l1), (2, .int k78_l2), (3, .int k78_l3)] 78 [] := by
        intro k78_l1 k78_l2 k78_l3 hf
        unfold f_X8_areLike_c78 at hf
        obtain ⟨x_1, e_x_1, hf⟩ := nmx_e hf
        refine x_iinc 81 3 [(3, .int x_1), (0, .ref a_this), (1, .int k78_l1), (2, .int k78_l2)] hC dX8_areLike_78 rfl rfl e_x_1 (by decide) (by decide) rfl ?_
        refine x_goto 4 hC dX8_areLike_81 (by decide) ?_
        refine x_lv [(0, .ref a_this), (1, .int k78_l1), (2, .int k78_l2), (3, .int x_1)] [1, 2, 3, 0] rfl ?_
        exact ih_4 k78_l1 k78_l2 x_1 hf
      have J_76 : ∀ (k76_l1 : Int32) (k76_l3 : Int32), f_X8_areLike_c76 (fun k4_l1 k4_l2 k4_l3 => f_X8_areLike_c4 v_s v_sums v_weights n_4 k4_l1 k4_l2 k4_l3) v_s v_sums v_weights k76_l1 k76_l3 = some R0 → XW p l e ({ frames := 4, cells := 0, slots := 0, locals := 133 } : Room) s m args below meth c D A 4 0 0 Q [(a_this, .inr (8, [.ref a_s, r_kept, .int v_undos, r_known, r_whose, r_lesser, r_other, .int v_open, .ref a_sums, .ref a_weights, r_row, r_plan, .int v_planned])), (a_s, .inl (cJ, 613, .inr (.inl v_s))), (a_sums, .inl (cJ, 50, .inr (.inl v_sums))), (a_weights, .inl (cJ, 50, .inr (.inl v_weights)))] [] [(0, .ref a_this), (1, .int k76_l1), (3, .int k76_l3)] 76 [] := by
        intro k76_l1 k76_l3 hf
        unfold f_X8_areLike_c76 at hf
        refine x_iload_n 77 2 hC dX8_areLike_76 rfl rfl rfl ?_
        refine x_istore_n 78 [(2, .int k76_l3), (0, .ref a_this), (1, .int k76_l1), (3, .int k76_l3)] hC dX8_areLike_77 rfl rfl rfl (by decide) rfl ?_
        refine x_lv [(0, .ref a_this), (1, .int k76_l1), (2, .int k76_l3), (3, .int k76_l3)] [1, 2, 0, 3] rfl ?_
        exact J_78 k76_l1 k76_l3 k76_l3 hf
      intro k4_l1 k4_l2 k4_l3 hf
      unfold f_X8_areLike_c4 at hf
      refine x_iload_n 5 3 hC dX8_areLike_4 rfl rfl rfl ?_
      refine x_bipush 7 hC (10 : Int32) dX8_areLike_5 rfl (by decide) ?_
      refine x_icmp_ge 84 10 hC dX8_areLike_7 (by decide) rfl (fun c_2 => ?_) (fun c_2 => ?_)
      · have hf := if_t hf c_2
        refine x_iconst 85 hC (1 : Int32) dX8_areLike_84 rfl (by decide) ?_
        cases hf
        exact x_zret hC rfl dX8_areLike_85 hQ rfl rfl
      · have hf := if_f hf c_2
        refine x_aload_n 11 0 hC dX8_areLike_10 rfl rfl rfl ?_
        refine x_iload_n 12 3 hC dX8_areLike_11 rfl rfl rfl ?_
        obtain ⟨R_3, h_R_3, hf⟩ := bd_e hf
        refine x_callVi 15 0 1 [0, 1] [(a_this, .inr (8, [.ref a_s, r_kept, .int v_undos, r_known, r_whose, r_lesser, r_other, .int v_open, .ref a_sums, .ref a_weights, r_row, r_plan, .int v_planned])), (a_s, .inl (cJ, 613, .inr (.inl v_s))), (a_sums, .inl (cJ, 50, .inr (.inl v_sums))), (a_weights, .inl (cJ, 50, .inr (.inl v_weights)))] hC (As := [.int k4_l3]) (c_X8_isHere l D cI cJ cQ a_this a_s r_kept r_known r_whose r_lesser r_other (.ref a_sums) (.ref a_weights) r_row r_plan v_undos v_open v_planned v_s k4_l3 R_3 h_R_3) rfl rfl gX8_areLike_X8_isHere rfl ⟨rfl, rfl⟩ hd_X8_isHere ⟨Nat.le_of_ble_eq_true rfl, Nat.le_of_ble_eq_true rfl⟩ rfl rfl rfl rfl rfl rfl (Nat.le_of_ble_eq_true rfl) ⟨Nat.le_of_ble_eq_true rfl, Nat.le_of_ble_eq_true rfl⟩ dX8_areLike_12 rfl ?_
        refine x_if_eq 78 18 hC dX8_areLike_15 (by decide) rfl (fun c_4 => ?_) (fun c_4 => ?_)
        · have hf := if_t hf c_4
          refine x_lv [(0, .ref a_this), (1, .int k4_l1), (2, .int k4_l2), (3, .int k4_l3)] [0, 1, 2, 3] rfl ?_
          exact J_78 k4_l1 k4_l2 k4_l3 hf
        · have hf := if_f hf c_4
          refine x_iload_n 19 2 hC dX8_areLike_18 rfl rfl rfl ?_
          refine x_if_lt 76 22 hC dX8_areLike_19 (by decide) rfl (fun c_5 => ?_) (fun c_5 => ?_)
          · have hf := if_t hf c_5
            refine x_lv [(0, .ref a_this), (1, .int k4_l1), (3, .int k4_l3)] [0, 1, 3] rfl ?_
            exact J_76 k4_l1 k4_l3 hf
          · have hf := if_f hf c_5
            refine x_aload_n 23 0 hC dX8_areLike_22 rfl rfl rfl ?_
            refine x_get 26 0 8 hC in_X8_areLike_X8 rfl rfl (by decide) (List.mem_of_getElem? (i := 1) (by decide +kernel)) rfl rfl dX8_areLike_23 rfl ?_
            refine x_bipush 28 hC (10 : Int32) dX8_areLike_26 rfl (by decide) ?_
            refine x_iload_n 29 1 hC dX8_areLike_28 rfl rfl rfl ?_
            refine x_imul 30 hC dX8_areLike_29 rfl ?_
            refine x_iload_n 31 3 hC dX8_areLike_30 rfl rfl rfl ?_
            refine x_iadd 32 hC dX8_areLike_31 rfl ?_
            obtain ⟨h_6, hf⟩ := ck_e hf
            refine x_lald 33 2 1 hC rfl rfl h_6 dX8_areLike_32 rfl ?_
            refine x_aload_n 34 0 hC dX8_areLike_33 rfl rfl rfl ?_
            refine x_get 37 0 8 hC in_X8_areLike_X8 rfl rfl (by decide) (List.mem_of_getElem? (i := 1) (by decide +kernel)) rfl rfl dX8_areLike_34 rfl ?_
            refine x_bipush 39 hC (10 : Int32) dX8_areLike_37 rfl (by decide) ?_
            refine x_iload_n 40 1 hC dX8_areLike_39 rfl rfl rfl ?_
            refine x_imul 41 hC dX8_areLike_40 rfl ?_
            refine x_iload_n 42 2 hC dX8_areLike_41 rfl rfl rfl ?_
            refine x_iadd 43 hC dX8_areLike_42 rfl ?_
            obtain ⟨h_7, hf⟩ := ck_e hf
            refine x_lald 44 2 1 hC rfl rfl h_7 dX8_areLike_43 rfl ?_
            refine x_lcmp_ne 74 48 hC dX8_areLike_44 dX8_areLike_45 (by decide) rfl (fun c_8 => ?_) (fun c_8 => ?_)
            · have hf := if_t hf c_8
              refine x_iconst 75 hC (0 : Int32) dX8_areLike_74 rfl (by decide) ?_
              cases hf
              exact x_zret hC rfl dX8_areLike_75 hQ rfl rfl
            · have hf := if_f hf c_8
              refine x_aload_n 49 0 hC dX8_areLike_48 rfl rfl rfl ?_
              refine x_get 52 0 9 hC in_X8_areLike_X8 rfl rfl (by decide) (List.mem_of_getElem? (i := 2) (by decide +kernel)) rfl rfl dX8_areLike_49 rfl ?_
              refine x_bipush 54 hC (10 : Int32) dX8_areLike_52 rfl (by decide) ?_
              refine x_iload_n 55 1 hC dX8_areLike_54 rfl rfl rfl ?_
              refine x_imul 56 hC dX8_areLike_55 rfl ?_
              refine x_iload_n 57 3 hC dX8_areLike_56 rfl rfl rfl ?_
              refine x_iadd 58 hC dX8_areLike_57 rfl ?_
              obtain ⟨h_9, hf⟩ := ck_e hf
              refine x_lald 59 3 1 hC rfl rfl h_9 dX8_areLike_58 rfl ?_
              refine x_aload_n 60 0 hC dX8_areLike_59 rfl rfl rfl ?_
              refine x_get 63 0 9 hC in_X8_areLike_X8 rfl rfl (by decide) (List.mem_of_getElem? (i := 2) (by decide +kernel)) rfl rfl dX8_areLike_60 rfl ?_
              refine x_bipush 65 hC (10 : Int32) dX8_areLike_63 rfl (by decide) ?_
              refine x_iload_n 66 1 hC dX8_areLike_65 rfl rfl rfl ?_
              refine x_imul 67 hC dX8_areLike_66 rfl ?_
              refine x_iload_n 68 2 hC dX8_areLike_67 rfl rfl rfl ?_
              refine x_iadd 69 hC dX8_areLike_68 rfl ?_
              obtain ⟨h_10, hf⟩ := ck_e hf
              refine x_lald 70 3 1 hC rfl rfl h_10 dX8_areLike_69 rfl ?_
              refine x_lcmp_eq 76 74 hC dX8_areLike_70 dX8_areLike_71 (by decide) rfl (fun c_11 => ?_) (fun c_11 => ?_)
              · have hf := if_t hf c_11
                refine x_lv [(0, .ref a_this), (1, .int k4_l1), (3, .int k4_l3)] [0, 1, 3] rfl ?_
                exact J_76 k4_l1 k4_l3 hf
              · have hf := if_f hf c_11
                refine x_iconst 75 hC (0 : Int32) dX8_areLike_74 rfl (by decide) ?_
                cases hf
                exact x_zret hC rfl dX8_areLike_75 hQ rfl rfl
  unfold f_X8_areLike at hf
  refine x_iconst 1 hC (-1 : Int32) dX8_areLike_0 rfl (by decide) ?_
  refine x_istore_n 2 [(2, .int (-1 : Int32)), (0, .ref a_this), (1, .int p1)] hC dX8_areLike_1 rfl rfl rfl (by decide) rfl ?_
  refine x_iconst 3 hC (0 : Int32) dX8_areLike_2 rfl (by decide) ?_
  refine x_istore_n 4 [(3, .int (0 : Int32)), (2, .int (-1 : Int32)), (0, .ref a_this), (1, .int p1)] hC dX8_areLike_3 rfl rfl rfl (by decide) rfl ?_
  refine x_lv [(0, .ref a_this), (1, .int p1), (2, .int (-1 : Int32)), (3, .int (0 : Int32))] [2, 3, 1, 0] rfl ?_
  exact J_4 fu p1 (-1 : Int32) (0 : Int32) hf

theorem hd_X8_evens : yX8_evens.cls = RX8 ∧ yX8_evens.cls ≠ "java/lang/invoke/MethodHandle" ∧ yX8_evens.cls ≠ "java/lang/invoke/VarHandle" ∧ (parseMethodDescriptor yX8_evens.desc).map (fun d => d.parameters.length) = some 2 := by decide +kernel
theorem in_X8_evens_X8 : ∀ w ∈ u_ws RX8 TX8 13, w ∈ wsX8_evens := fun w h => List.mem_cons_of_mem _ (List.mem_append_right _ h)
noncomputable def f_X8_evens_c2 (v_lesser : Nat → Int32) (v_other : Nat → Int32) : Nat → (Nat → Int64) → (Nat → Int64) → Int32 → Int32 → Int32 → Option ((Nat → Int64) × (Nat → Int64))
  | 0, _, _, _, _, _ => none
  | n + 1, k2_sums, k2_weights, k2_l1, k2_l2, k2_l3 => if (10 : Int32) ≤ k2_l3 then (nm (((10 : Int32) * k2_l1) + (10 : Int32)) fun x_2 => ck k2_l2 45 <| ck (x_2 + (v_lesser k2_l2.toNatClampNeg)) 50 <| ck k2_l2 45 <| ck (x_2 + (v_other k2_l2.toNatClampNeg)) 50 <| nm ((k2_sums (x_2 + (v_lesser k2_l2.toNatClampNeg)).toNatClampNeg) + (k2_sums (x_2 + (v_other k2_l2.toNatClampNeg)).toNatClampNeg)) fun x_7 => ck k2_l2 45 <| ck (x_2 + (v_lesser k2_l2.toNatClampNeg)) 50 <| ck k2_l2 45 <| ck (x_2 + (v_other k2_l2.toNatClampNeg)) 50 <| nm ((k2_weights (x_2 + (v_lesser k2_l2.toNatClampNeg)).toNatClampNeg) + (k2_weights (x_2 + (v_other k2_l2.toNatClampNeg)).toNatClampNeg)) fun x_12 => ck k2_l2 45 <| ck (x_2 + (v_other k2_l2.toNatClampNeg)) 50 <| nm (vp_updL k2_sums (x_2 + (v_other k2_l2.toNatClampNeg)).toNatClampNeg (x_7 >>> ((1 : Int32).toInt64 &&& 63))) fun g_15 => ck k2_l2 45 <| ck (x_2 + (v_lesser k2_l2.toNatClampNeg)) 50 <| nm (vp_updL g_15 (x_2 + (v_lesser k2_l2.toNatClampNeg)).toNatClampNeg (x_7 - (x_7 >>> ((1 : Int32).toInt64 &&& 63)))) fun g_18 => ck k2_l2 45 <| ck (x_2 + (v_other k2_l2.toNatClampNeg)) 50 <| nm (vp_updL k2_weights (x_2 + (v_other k2_l2.toNatClampNeg)).toNatClampNeg (x_12 >>> ((1 : Int32).toInt64 &&& 63))) fun g_21 => ck k2_l2 45 <| ck (x_2 + (v_lesser k2_l2.toNatClampNeg)) 50 <| nm (vp_updL g_21 (x_2 + (v_lesser k2_l2.toNatClampNeg)).toNatClampNeg (x_12 - (x_12 >>> ((1 : Int32).toInt64 &&& 63)))) fun g_24 => some (g_18, g_24)) else (ck (((10 : Int32) * k2_l1) + k2_l3) 50 <| ck ((((10 : Int32) * k2_l1) + (10 : Int32)) + k2_l3) 50 <| nm (vp_updL k2_sums ((((10 : Int32) * k2_l1) + (10 : Int32)) + k2_l3).toNatClampNeg (k2_sums (((10 : Int32) * k2_l1) + k2_l3).toNatClampNeg)) fun g_27 => ck (((10 : Int32) * k2_l1) + k2_l3) 50 <| ck ((((10 : Int32) * k2_l1) + (10 : Int32)) + k2_l3) 50 <| nm (vp_updL k2_weights ((((10 : Int32) * k2_l1) + (10 : Int32)) + k2_l3).toNatClampNeg (k2_weights (((10 : Int32) * k2_l1) + k2_l3).toNatClampNeg)) fun g_30 => nm (k2_l3 + (1 : Int32)) fun x_31 => (fun k2_sums k2_weights k2_l1 k2_l2 k2_l3 => f_X8_evens_c2 v_lesser v_other n k2_sums k2_weights k2_l1 k2_l2 k2_l3) g_27 g_30 k2_l1 k2_l2 x_31)
noncomputable def f_X8_evens (v_lesser : Nat → Int32) (v_other : Nat → Int32) (v_sums : Nat → Int64) (v_weights : Nat → Int64) (p1 : Int32) (p2 : Int32) : Option ((Nat → Int64) × (Nat → Int64)) := f_X8_evens_c2 v_lesser v_other fu v_sums v_weights p1 p2 (0 : Int32)
set_option maxHeartbeats 4000000 in
set_option maxRecDepth 100000 in
theorem c_X8_evens (l : Launch) (D : va_G) (cI cJ cQ : ClassId) (a_this : Nat) (a_lesser : Nat) (a_other : Nat) (a_sums : Nat) (a_weights : Nat) (r_s : Value) (r_kept : Value) (r_known : Value) (r_whose : Value) (r_row : Value) (r_plan : Value) (v_undos : Int32) (v_open : Int32) (v_planned : Int32) (v_lesser : Nat → Int32) (v_other : Nat → Int32) (v_sums : Nat → Int64) (v_weights : Nat → Int64) (p1 : Int32) (p2 : Int32) (R0 : (Nat → Int64) × (Nat → Int64)) (hf : f_X8_evens v_lesser v_other v_sums v_weights p1 p2 = some R0) : Cv l yX8_evens wsX8_evens ({ frames := 1, cells := 0, slots := 0, locals := 60 } : Room) D [(cI, .int), (cJ, .long), (cQ, .object "WhisperCrowd$State")] [.ref a_this, .int p1, .int p2] [(a_this, .inr (8, [r_s, r_kept, .int v_undos, r_known, r_whose, .ref a_lesser, .ref a_other, .int v_open, .ref a_sums, .ref a_weights, r_row, r_plan, .int v_planned])), (a_lesser, .inl (cI, 45, .inl v_lesser)), (a_other, .inl (cI, 45, .inl v_other)), (a_sums, .inl (cJ, 50, .inr (.inl v_sums))), (a_weights, .inl (cJ, 50, .inr (.inl v_weights)))] [(a_this, .inr (8, [r_s, r_kept, .int v_undos, r_known, r_whose, .ref a_lesser, .ref a_other, .int v_open, .ref a_sums, .ref a_weights, r_row, r_plan, .int v_planned])), (a_lesser, .inl (cI, 45, .inl v_lesser)), (a_other, .inl (cI, 45, .inl v_other)), (a_sums, .inl (cJ, 50, .inr (.inl R0.1))), (a_weights, .inl (cJ, 50, .inr (.inl R0.2)))] := by
  refine x_entv (cc := cX8_evens) (maxL := 8) (rt := none) (lv := [(0, .ref a_this), (1, .int p1), (2, .int p2)]) (by decide) rfl (Nat.le_of_ble_eq_true rfl) rfl ?_
  intro p e s m args below meth c A Q hQ hC
  have J_2 : ∀ (n : Nat) (k2_sums : Nat → Int64) (k2_weights : Nat → Int64) (k2_l1 : Int32) (k2_l2 : Int32) (k2_l3 : Int32), f_X8_evens_c2 v_lesser v_other n k2_sums k2_weights k2_l1 k2_l2 k2_l3 = some R0 → XW p l e ({ frames := 1, cells := 0, slots := 0, locals := 60 } : Room) s m args below meth c D A 8 0 0 Q [(a_this, .inr (8, [r_s, r_kept, .int v_undos, r_known, r_whose, .ref a_lesser, .ref a_other, .int v_open, .ref a_sums, .ref a_weights, r_row, r_plan, .int v_planned])), (a_lesser, .inl (cI, 45, .inl v_lesser)), (a_other, .inl (cI, 45, .inl v_other)), (a_sums, .inl (cJ, 50, .inr (.inl k2_sums))), (a_weights, .inl (cJ, 50, .inr (.inl k2_weights)))] [] [(0, .ref a_this), (1, .int k2_l1), (2, .int k2_l2), (3, .int k2_l3)] 2 [] := by
    intro n
    induction n with
    | zero => intro k2_sums k2_weights k2_l1 k2_l2 k2_l3 hf; exact nomatch (show (none : Option ((Nat → Int64) × (Nat → Int64))) = some R0 from hf)
    | succ n_2 ih_2 =>
      intro k2_sums k2_weights k2_l1 k2_l2 k2_l3 hf
      unfold f_X8_evens_c2 at hf
      refine x_iload_n 3 3 hC dX8_evens_2 rfl rfl rfl ?_
      refine x_bipush 5 hC (10 : Int32) dX8_evens_3 rfl (by decide) ?_
      refine x_icmp_ge 64 8 hC dX8_evens_5 (by decide) rfl (fun c_1 => ?_) (fun c_1 => ?_)
      · have hf := if_t hf c_1
        refine x_bipush 66 hC (10 : Int32) dX8_evens_64 rfl (by decide) ?_
        refine x_iload_n 67 1 hC dX8_evens_66 rfl rfl rfl ?_
        refine x_imul 68 hC dX8_evens_67 rfl ?_
        refine x_bipush 70 hC (10 : Int32) dX8_evens_68 rfl (by decide) ?_
        refine x_iadd 71 hC dX8_evens_70 rfl ?_
        obtain ⟨x_2, e_x_2, hf⟩ := nmx_e hf
        refine x_istore_n 72 [(3, .int x_2), (0, .ref a_this), (1, .int k2_l1), (2, .int k2_l2)] hC dX8_evens_71 rfl rfl e_x_2 (by decide) rfl ?_
        refine x_aload_n 73 1 hC dX8_evens_72 rfl rfl rfl ?_
        refine x_get 76 0 8 hC in_X8_evens_X8 rfl rfl (by decide) (List.mem_of_getElem? (i := 1) (by decide +kernel)) rfl rfl dX8_evens_73 rfl ?_
        refine x_iload_n 77 0 hC dX8_evens_76 rfl rfl rfl ?_
        refine x_aload_n 78 1 hC dX8_evens_77 rfl rfl rfl ?_
        refine x_get 81 0 5 hC in_X8_evens_X8 rfl rfl (by decide) (List.mem_of_getElem? (i := 3) (by decide +kernel)) rfl rfl dX8_evens_78 rfl ?_
        refine x_iload_n 82 3 hC dX8_evens_81 rfl rfl rfl ?_
        obtain ⟨h_3, hf⟩ := ck_e hf
        refine x_iald 83 1 0 hC rfl rfl h_3 dX8_evens_82 rfl ?_
        refine x_iadd 84 hC dX8_evens_83 rfl ?_
        obtain ⟨h_4, hf⟩ := ck_e hf
        refine x_lald 85 3 1 hC rfl rfl h_4 dX8_evens_84 rfl ?_
        refine x_aload_n 86 1 hC dX8_evens_85 rfl rfl rfl ?_
        refine x_get 89 0 8 hC in_X8_evens_X8 rfl rfl (by decide) (List.mem_of_getElem? (i := 1) (by decide +kernel)) rfl rfl dX8_evens_86 rfl ?_
        refine x_iload_n 90 0 hC dX8_evens_89 rfl rfl rfl ?_
        refine x_aload_n 91 1 hC dX8_evens_90 rfl rfl rfl ?_
        refine x_get 94 0 6 hC in_X8_evens_X8 rfl rfl (by decide) (List.mem_of_getElem? (i := 4) (by decide +kernel)) rfl rfl dX8_evens_91 rfl ?_
        refine x_iload_n 95 3 hC dX8_evens_94 rfl rfl rfl ?_
        obtain ⟨h_5, hf⟩ := ck_e hf
        refine x_iald 96 2 0 hC rfl rfl h_5 dX8_evens_95 rfl ?_
        refine x_iadd 97 hC dX8_evens_96 rfl ?_
        obtain ⟨h_6, hf⟩ := ck_e hf
        refine x_lald 98 3 1 hC rfl rfl h_6 dX8_evens_97 rfl ?_
        refine x_ladd 99 hC dX8_evens_98 rfl ?_
        obtain ⟨x_7, e_x_7, hf⟩ := nmx_e hf
        refine x_lstore 101 [(4, .long x_7), (3, .int x_2), (0, .ref a_this), (1, .int k2_l1), (2, .int k2_l2)] hC dX8_evens_99 rfl e_x_7 (by decide) rfl ?_
        refine x_aload_n 102 2 hC dX8_evens_101 rfl rfl rfl ?_
        refine x_get 105 0 9 hC in_X8_evens_X8 rfl rfl (by decide) (List.mem_of_getElem? (i := 2) (by decide +kernel)) rfl rfl dX8_evens_102 rfl ?_
        refine x_iload_n 106 1 hC dX8_evens_105 rfl rfl rfl ?_
        refine x_aload_n 107 2 hC dX8_evens_106 rfl rfl rfl ?_
        refine x_get 110 0 5 hC in_X8_evens_X8 rfl rfl (by decide) (List.mem_of_getElem? (i := 3) (by decide +kernel)) rfl rfl dX8_evens_107 rfl ?_
        refine x_iload_n 111 4 hC dX8_evens_110 rfl rfl rfl ?_
        obtain ⟨h_8, hf⟩ := ck_e hf
        refine x_iald 112 1 0 hC rfl rfl h_8 dX8_evens_111 rfl ?_
        refine x_iadd 113 hC dX8_evens_112 rfl ?_
        obtain ⟨h_9, hf⟩ := ck_e hf
        refine x_lald 114 4 1 hC rfl rfl h_9 dX8_evens_113 rfl ?_
        refine x_aload_n 115 2 hC dX8_evens_114 rfl rfl rfl ?_
        refine x_get 118 0 9 hC in_X8_evens_X8 rfl rfl (by decide) (List.mem_of_getElem? (i := 2) (by decide +kernel)) rfl rfl dX8_evens_115 rfl ?_
        refine x_iload_n 119 1 hC dX8_evens_118 rfl rfl rfl ?_
        refine x_aload_n 120 2 hC dX8_evens_119 rfl rfl rfl ?_
        refine x_get 123 0 6 hC in_X8_evens_X8 rfl rfl (by decide) (List.mem_of_getElem? (i := 4) (by decide +kernel)) rfl rfl dX8_evens_120 rfl ?_
        refine x_iload_n 124 4 hC dX8_evens_123 rfl rfl rfl ?_
        obtain ⟨h_10, hf⟩ := ck_e hf
        refine x_iald 125 2 0 hC rfl rfl h_10 dX8_evens_124 rfl ?_
        refine x_iadd 126 hC dX8_evens_125 rfl ?_
        obtain ⟨h_11, hf⟩ := ck_e hf
        refine x_lald 127 4 1 hC rfl rfl h_11 dX8_evens_126 rfl ?_
        refine x_ladd 128 hC dX8_evens_127 rfl ?_
        obtain ⟨x_12, e_x_12, hf⟩ := nmx_e hf
        refine x_lstore 130 [(6, .long x_12), (4, .long x_7), (3, .int x_2), (0, .ref a_this), (1, .int k2_l1), (2, .int k2_l2)] hC dX8_evens_128 rfl e_x_12 (by decide) rfl ?_
        refine x_aload_n 131 3 hC dX8_evens_130 rfl rfl rfl ?_
        refine x_get 134 0 8 hC in_X8_evens_X8 rfl rfl (by decide) (List.mem_of_getElem? (i := 1) (by decide +kernel)) rfl rfl dX8_evens_131 rfl ?_
        refine x_iload_n 135 2 hC dX8_evens_134 rfl rfl rfl ?_
        refine x_aload_n 136 3 hC dX8_evens_135 rfl rfl rfl ?_
        refine x_get 139 0 6 hC in_X8_evens_X8 rfl rfl (by decide) (List.mem_of_getElem? (i := 4) (by decide +kernel)) rfl rfl dX8_evens_136 rfl ?_
        refine x_iload_n 140 5 hC dX8_evens_139 rfl rfl rfl ?_
        obtain ⟨h_13, hf⟩ := ck_e hf
        refine x_iald 141 2 0 hC rfl rfl h_13 dX8_evens_140 rfl ?_
        refine x_iadd 142 hC dX8_evens_141 rfl ?_
        refine x_lload 144 1 hC dX8_evens_142 rfl rfl ?_
        refine x_iconst 145 hC (1 : Int32) dX8_evens_144 rfl (by decide) ?_
        refine x_lshr 146 hC dX8_evens_145 rfl ?_
        obtain ⟨h_14, hf⟩ := ck_e hf
        obtain ⟨g_15, e_g_15, hf⟩ := nmx_e hf
        refine x_last 147 3 1 [(a_this, .inr (8, [r_s, r_kept, .int v_undos, r_known, r_whose, .ref a_lesser, .ref a_other, .int v_open, .ref a_sums, .ref a_weights, r_row, r_plan, .int v_planned])), (a_lesser, .inl (cI, 45, .inl v_lesser)), (a_other, .inl (cI, 45, .inl v_other)), (a_sums, .inl (cJ, 50, .inr (.inl g_15))), (a_weights, .inl (cJ, 50, .inr (.inl k2_weights)))] hC rfl rfl h_14 e_g_15 rfl dX8_evens_146 rfl ?_
        refine x_aload_n 148 3 hC dX8_evens_147 rfl rfl rfl ?_
        refine x_get 151 0 8 hC in_X8_evens_X8 rfl rfl (by decide) (List.mem_of_getElem? (i := 1) (by decide +kernel)) rfl rfl dX8_evens_148 rfl ?_
        refine x_iload_n 152 2 hC dX8_evens_151 rfl rfl rfl ?_
        refine x_aload_n 153 3 hC dX8_evens_152 rfl rfl rfl ?_
        refine x_get 156 0 5 hC in_X8_evens_X8 rfl rfl (by decide) (List.mem_of_getElem? (i := 3) (by decide +kernel)) rfl rfl dX8_evens_153 rfl ?_
        refine x_iload_n 157 5 hC dX8_evens_156 rfl rfl rfl ?_
        obtain ⟨h_16, hf⟩ := ck_e hf
        refine x_iald 158 1 0 hC rfl rfl h_16 dX8_evens_157 rfl ?_
        refine x_iadd 159 hC dX8_evens_158 rfl ?_
        refine x_lload 161 1 hC dX8_evens_159 rfl rfl ?_
        refine x_lload 163 1 hC dX8_evens_161 rfl rfl ?_
        refine x_iconst 164 hC (1 : Int32) dX8_evens_163 rfl (by decide) ?_
        refine x_lshr 165 hC dX8_evens_164 rfl ?_
        refine x_lsub 166 hC dX8_evens_165 rfl ?_
        obtain ⟨h_17, hf⟩ := ck_e hf
        obtain ⟨g_18, e_g_18, hf⟩ := nmx_e hf
        refine x_last 167 3 1 [(a_this, .inr (8, [r_s, r_kept, .int v_undos, r_known, r_whose, .ref a_lesser, .ref a_other, .int v_open, .ref a_sums, .ref a_weights, r_row, r_plan, .int v_planned])), (a_lesser, .inl (cI, 45, .inl v_lesser)), (a_other, .inl (cI, 45, .inl v_other)), (a_sums, .inl (cJ, 50, .inr (.inl g_18))), (a_weights, .inl (cJ, 50, .inr (.inl k2_weights)))] hC rfl rfl h_17 e_g_18 rfl dX8_evens_166 rfl ?_
        refine x_aload_n 168 3 hC dX8_evens_167 rfl rfl rfl ?_
        refine x_get 171 0 9 hC in_X8_evens_X8 rfl rfl (by decide) (List.mem_of_getElem? (i := 2) (by decide +kernel)) rfl rfl dX8_evens_168 rfl ?_
        refine x_iload_n 172 2 hC dX8_evens_171 rfl rfl rfl ?_
        refine x_aload_n 173 3 hC dX8_evens_172 rfl rfl rfl ?_
        refine x_get 176 0 6 hC in_X8_evens_X8 rfl rfl (by decide) (List.mem_of_getElem? (i := 4) (by decide +kernel)) rfl rfl dX8_evens_173 rfl ?_
        refine x_iload_n 177 5 hC dX8_evens_176 rfl rfl rfl ?_
        obtain ⟨h_19, hf⟩ := ck_e hf
        refine x_iald 178 2 0 hC rfl rfl h_19 dX8_evens_177 rfl ?_
        refine x_iadd 179 hC dX8_evens_178 rfl ?_
        refine x_lload 181 0 hC dX8_evens_179 rfl rfl ?_
        refine x_iconst 182 hC (1 : Int32) dX8_evens_181 rfl (by decide) ?_
        refine x_lshr 183 hC dX8_evens_182 rfl ?_
        obtain ⟨h_20, hf⟩ := ck_e hf
        obtain ⟨g_21, e_g_21, hf⟩ := nmx_e hf
        refine x_last 184 4 1 [(a_this, .inr (8, [r_s, r_kept, .int v_undos, r_known, r_whose, .ref a_lesser, .ref a_other, .int v_open, .ref a_sums, .ref a_weights, r_row, r_plan, .int v_planned])), (a_lesser, .inl (cI, 45, .inl v_lesser)), (a_other, .inl (cI, 45, .inl v_other)), (a_sums, .inl (cJ, 50, .inr (.inl g_18))), (a_weights, .inl (cJ, 50, .inr (.inl g_21)))] hC rfl rfl h_20 e_g_21 rfl dX8_evens_183 rfl ?_
        refine x_aload_n 185 3 hC dX8_evens_184 rfl rfl rfl ?_
        refine x_get 188 0 9 hC in_X8_evens_X8 rfl rfl (by decide) (List.mem_of_getElem? (i := 2) (by decide +kernel)) rfl rfl dX8_evens_185 rfl ?_
        refine x_iload_n 189 2 hC dX8_evens_188 rfl rfl rfl ?_
        refine x_aload_n 190 3 hC dX8_evens_189 rfl rfl rfl ?_
        refine x_get 193 0 5 hC in_X8_evens_X8 rfl rfl (by decide) (List.mem_of_getElem? (i := 3) (by decide +kernel)) rfl rfl dX8_evens_190 rfl ?_
        refine x_iload_n 194 5 hC dX8_evens_193 rfl rfl rfl ?_
        obtain ⟨h_22, hf⟩ := ck_e hf
        refine x_iald 195 1 0 hC rfl rfl h_22 dX8_evens_194 rfl ?_
        refine x_iadd 196 hC dX8_evens_195 rfl ?_
        refine x_lload 198 0 hC dX8_evens_196 rfl rfl ?_
        refine x_lload 200 0 hC dX8_evens_198 rfl rfl ?_
        refine x_iconst 201 hC (1 : Int32) dX8_evens_200 rfl (by decide) ?_
        refine x_lshr 202 hC dX8_evens_201 rfl ?_
        refine x_lsub 203 hC dX8_evens_202 rfl ?_
        obtain ⟨h_23, hf⟩ := ck_e hf
        obtain ⟨g_24, e_g_24, hf⟩ := nmx_e hf
        refine x_last 204 4 1 [(a_this, .inr (8, [r_s, r_kept, .int v_undos, r_known, r_whose, .ref a_lesser, .ref a_other, .int v_open, .ref a_sums, .ref a_weights, r_row, r_plan, .int v_planned])), (a_lesser, .inl (cI, 45, .inl v_lesser)), (a_other, .inl (cI, 45, .inl v_other)), (a_sums, .inl (cJ, 50, .inr (.inl g_18))), (a_weights, .inl (cJ, 50, .inr (.inl g_24)))] hC rfl rfl h_23 e_g_24 rfl dX8_evens_203 rfl ?_
        cases hf
        exact x_vret hC dX8_evens_204 hQ rfl
      · have hf := if_f hf c_1
        refine x_aload_n 9 0 hC dX8_evens_8 rfl rfl rfl ?_
        refine x_get 12 0 8 hC in_X8_evens_X8 rfl rfl (by decide) (List.mem_of_getElem? (i := 1) (by decide +kernel)) rfl rfl dX8_evens_9 rfl ?_
        refine x_bipush 14 hC (10 : Int32) dX8_evens_12 rfl (by decide) ?_
        refine x_iload_n 15 1 hC dX8_evens_14 rfl rfl rfl ?_
        refine x_imul 16 hC dX8_evens_15 rfl ?_
        refine x_bipush 18 hC (10 : Int32) dX8_evens_16 rfl (by decide) ?_
        refine x_iadd 19 hC dX8_evens_18 rfl ?_
        refine x_iload_n 20 3 hC dX8_evens_19 rfl rfl rfl ?_
        refine x_iadd 21 hC dX8_evens_20 rfl ?_
        refine x_aload_n 22 0 hC dX8_evens_21 rfl rfl rfl ?_
        refine x_get 25 0 8 hC in_X8_evens_X8 rfl rfl (by decide) (List.mem_of_getElem? (i := 1) (by decide +kernel)) rfl rfl dX8_evens_22 rfl ?_
        refine x_bipush 27 hC (10 : Int32) dX8_evens_25 rfl (by decide) ?_
        refine x_iload_n 28 1 hC dX8_evens_27 rfl rfl rfl ?_
        refine x_imul 29 hC dX8_evens_28 rfl ?_
        refine x_iload_n 30 3 hC dX8_evens_29 rfl rfl rfl ?_
        refine x_iadd 31 hC dX8_evens_30 rfl ?_
        obtain ⟨h_25, hf⟩ := ck_e hf
        refine x_lald 32 3 1 hC rfl rfl h_25 dX8_evens_31 rfl ?_
        obtain ⟨h_26, hf⟩ := ck_e hf
        obtain ⟨g_27, e_g_27, hf⟩ := nmx_e hf
        refine x_last 33 3 1 [(a_this, .inr (8, [r_s, r_kept, .int v_undos, r_known, r_whose, .ref a_lesser, .ref a_other, .int v_open, .ref a_sums, .ref a_weights, r_row, r_plan, .int v_planned])), (a_lesser, .inl (cI, 45, .inl v_lesser)), (a_other, .inl (cI, 45, .inl v_other)), (a_sums, .inl (cJ, 50, .inr (.inl g_27))), (a_weights, .inl (cJ, 50, .inr (.inl k2_weights)))] hC rfl rfl h_26 e_g_27 rfl dX8_evens_32 rfl ?_
        refine x_aload_n 34 0 hC dX8_evens_33 rfl rfl rfl ?_
        refine x_get 37 0 9 hC in_X8_evens_X8 rfl rfl (by decide) (List.mem_of_getElem? (i := 2) (by decide +kernel)) rfl rfl dX8_evens_34 rfl ?_
        refine x_bipush 39 hC (10 : Int32) dX8_evens_37 rfl (by decide) ?_
        refine x_iload_n 40 1 hC dX8_evens_39 rfl rfl rfl ?_
        refine x_imul 41 hC dX8_evens_40 rfl ?_
        refine x_bipush 43 hC (10 : Int32) dX8_evens_41 rfl (by decide) ?_
        refine x_iadd 44 hC dX8_evens_43 rfl ?_
        refine x_iload_n 45 3 hC dX8_evens_44 rfl rfl rfl ?_
        refine x_iadd 46 hC dX8_evens_45 rfl ?_
        refine x_aload_n 47 0 hC dX8_evens_46 rfl rfl rfl ?_
        refine x_get 50 0 9 hC in_X8_evens_X8 rfl rfl (by decide) (List.mem_of_getElem? (i := 2) (by decide +kernel)) rfl rfl dX8_evens_47 rfl ?_
        refine x_bipush 52 hC (10 : Int32) dX8_evens_50 rfl (by decide) ?_
        refine x_iload_n 53 1 hC dX8_evens_52 rfl rfl rfl ?_
        refine x_imul 54 hC dX8_evens_53 rfl ?_
        refine x_iload_n 55 3 hC dX8_evens_54 rfl rfl rfl ?_
        refine x_iadd 56 hC dX8_evens_55 rfl ?_
        obtain ⟨h_28, hf⟩ := ck_e hf
        refine x_lald 57 4 1 hC rfl rfl h_28 dX8_evens_56 rfl ?_
        obtain ⟨h_29, hf⟩ := ck_e hf
        obtain ⟨g_30, e_g_30, hf⟩ := nmx_e hf
        refine x_last 58 4 1 [(a_this, .inr (8, [r_s, r_kept, .int v_undos, r_known, r_whose, .ref a_lesser, .ref a_other, .int v_open, .ref a_sums, .ref a_weights, r_row, r_plan, .int v_planned])), (a_lesser, .inl (cI, 45, .inl v_lesser)), (a_other, .inl (cI, 45, .inl v_other)), (a_sums, .inl (cJ, 50, .inr (.inl g_27))), (a_weights, .inl (cJ, 50, .inr (.inl g_30)))] hC rfl rfl h_29 e_g_30 rfl dX8_evens_57 rfl ?_
        obtain ⟨x_31, e_x_31, hf⟩ := nmx_e hf
        refine x_iinc 61 3 [(3, .int x_31), (0, .ref a_this), (1, .int k2_l1), (2, .int k2_l2)] hC dX8_evens_58 rfl rfl e_x_31 (by decide) (by decide) rfl ?_
        refine x_goto 2 hC dX8_evens_61 (by decide) ?_
        refine x_lv [(0, .ref a_this), (1, .int k2_l1), (2, .int k2_l2), (3, .int x_31)] [1, 2, 3, 0] rfl ?_
        exact ih_2 g_27 g_30 k2_l1 k2_l2 x_31 hf
  unfold f_X8_evens at hf
  refine x_iconst 1 hC (0 : Int32) dX8_evens_0 rfl (by decide) ?_
  refine x_istore_n 2 [(3, .int (0 : Int32)), (0, .ref a_this), (1, .int p1), (2, .int p2)] hC dX8_evens_1 rfl rfl rfl (by decide) rfl ?_
  refine x_lv [(0, .ref a_this), (1, .int p1), (2, .int p2), (3, .int (0 : Int32))] [1, 2, 3, 0] rfl ?_
  exact J_2 fu v_sums v_weights p1 p2 (0 : Int32) hf

theorem hd_X8_does : yX8_does.cls = RX8 ∧ yX8_does.cls ≠ "java/lang/invoke/MethodHandle" ∧ yX8_does.cls ≠ "java/lang/invoke/VarHandle" ∧ (parseMethodDescriptor yX8_does.desc).map (fun d => d.parameters.length) = some 1 := by decide +kernel
theorem in_X8_does_X8 : ∀ w ∈ u_ws RX8 TX8 13, w ∈ wsX8_does := fun w h => List.mem_cons_of_mem _ (List.mem_append_right _ h)
noncomputable def f_X8_does_c19 (v_open : Int32) (v_lesser : Nat → Int32) (v_other : Nat → Int32) (v_s : Nat → Int64) : Nat → (Nat → Int32) → (Nat → Int64) → (Nat → Int64) → Int32 → Int32 → Option ((Nat → Int32) × (Nat → Int64) × (Nat → Int64) × Int32)
  | 0, _, _, _, _, _ => none
  | n + 1, k19_row, k19_sums, k19_weights, k19_l1, k19_l2 => if k19_l2 < 0 then (some (k19_row, k19_sums, k19_weights, (0 : Int32))) else (ck k19_l2 5 <| ck k19_l2 5 <| nm (upd k19_row k19_l2.toNatClampNeg ((k19_row k19_l2.toNatClampNeg) + (1 : Int32))) fun g_4 => ck k19_l2 5 <| if ¬ (g_4 k19_l2.toNatClampNeg) = v_open then (ck k19_l2 5 <| bd (f_X8_evens v_lesser v_other k19_sums k19_weights k19_l2 (g_4 k19_l2.toNatClampNeg)) fun R_8 => if k19_l1 ≤ (k19_l2 + (1 : Int32)) then (bd (f_X8_areLike v_s R_8.1 R_8.2 k19_l1) fun R_10 => if R_10 = 0 then ((fun k19_row k19_sums k19_weights k19_l1 k19_l2 => f_X8_does_c19 v_open v_lesser v_other v_s n k19_row k19_sums k19_weights k19_l1 k19_l2) g_4 R_8.1 R_8.2 k19_l1 k19_l2) else (some (g_4, R_8.1, R_8.2, (1 : Int32)))) else (nm (k19_l2 + (1 : Int32)) fun x_12 => ck x_12 5 <| nm (upd g_4 x_12.toNatClampNeg (-1 : Int32)) fun g_14 => (fun k19_row k19_sums k19_weights k19_l1 k19_l2 => f_X8_does_c19 v_open v_lesser v_other v_s n k19_row k19_sums k19_weights k19_l1 k19_l2) g_14 R_8.1 R_8.2 k19_l1 x_12)) else (nm (k19_l2 + (-1 : Int32)) fun x_15 => (fun k19_row k19_sums k19_weights k19_l1 k19_l2 => f_X8_does_c19 v_open v_lesser v_other v_s n k19_row k19_sums k19_weights k19_l1 k19_l2) g_4 k19_sums k19_weights k19_l1 x_15))
noncomputable def f_X8_does (v_open : Int32) (v_lesser : Nat → Int32) (v_other : Nat → Int32) (v_s : Nat → Int64) (v_row : Nat → Int32) (v_sums : Nat → Int64) (v_weights : Nat → Int64) (p1 : Int32) : Option ((Nat → Int32) × (Nat → Int64) × (Nat → Int64) × Int32) := ck (0 : Int32) 5 <| nm (upd v_row (0 : Int32).toNatClampNeg (-1 : Int32)) fun g_17 => if ¬ p1 = 0 then (f_X8_does_c19 v_open v_lesser v_other v_s fu g_17 v_sums v_weights p1 (0 : Int32)) else (bd (f_X8_areLike v_s v_sums v_weights (0 : Int32)) fun R_19 => ckp (narrow .boolean (.int R_19) = .int R_19) (Classical.propDecidable _) <| some (g_17, v_sums, v_weights, R_19))
set_option maxHeartbeats 4000000 in
set_option maxRecDepth 100000 in
theorem c_X8_does (l : Launch) (D : va_G) (cI cJ cQ : ClassId) (a_this : Nat) (a_lesser : Nat) (a_other : Nat) (a_row : Nat) (a_s : Nat) (a_sums : Nat) (a_weights : Nat) (r_kept : Value) (r_known : Value) (r_whose : Value) (r_plan : Value) (v_undos : Int32) (v_open : Int32) (v_planned : Int32) (v_lesser : Nat → Int32) (v_other : Nat → Int32) (v_row : Nat → Int32) (v_s : Nat → Int64) (v_sums : Nat → Int64) (v_weights : Nat → Int64) (p1 : Int32) (R0 : (Nat → Int32) × (Nat → Int64) × (Nat → Int64) × Int32) (hf : f_X8_does v_open v_lesser v_other v_s v_row v_sums v_weights p1 = some R0) : Ci l yX8_does wsX8_does ({ frames := 5, cells := 0, slots := 0, locals := 158 } : Room) D [(cI, .int), (cJ, .long), (cQ, .object "WhisperCrowd$State")] [.ref a_this, .int p1] [(a_this, .inr (8, [.ref a_s, r_kept, .int v_undos, r_known, r_whose, .ref a_lesser, .ref a_other, .int v_open, .ref a_sums, .ref a_weights, .ref a_row, r_plan, .int v_planned])), (a_lesser, .inl (cI, 45, .inl v_lesser)), (a_other, .inl (cI, 45, .inl v_other)), (a_row, .inl (cI, 5, .inl v_row)), (a_s, .inl (cJ, 613, .inr (.inl v_s))), (a_sums, .inl (cJ, 50, .inr (.inl v_sums))), (a_weights, .inl (cJ, 50, .inr (.inl v_weights)))] [(a_this, .inr (8, [.ref a_s, r_kept, .int v_undos, r_known, r_whose, .ref a_lesser, .ref a_other, .int v_open, .ref a_sums, .ref a_weights, .ref a_row, r_plan, .int v_planned])), (a_lesser, .inl (cI, 45, .inl v_lesser)), (a_other, .inl (cI, 45, .inl v_other)), (a_row, .inl (cI, 5, .inl R0.1)), (a_s, .inl (cJ, 613, .inr (.inl v_s))), (a_sums, .inl (cJ, 50, .inr (.inl R0.2.1))), (a_weights, .inl (cJ, 50, .inr (.inl R0.2.2.1)))] R0.2.2.2 := by
  refine x_enti (cc := cX8_does) (maxL := 3) (rt := (some .boolean)) (lv := [(0, .ref a_this), (1, .int p1)]) (by decide) rfl (Nat.le_of_ble_eq_true rfl) rfl ?_
  intro p e s m args below meth c A Q hQ hC
  have J_19 : ∀ (n : Nat) (k19_row : Nat → Int32) (k19_sums : Nat → Int64) (k19_weights : Nat → Int64) (k19_l1 : Int32) (k19_l2 : Int32), f_X8_does_c19 v_open v_lesser v_other v_s n k19_row k19_sums k19_weights k19_l1 k19_l2 = some R0 → XW p l e ({ frames := 5, cells := 0, slots := 0, locals := 158 } : Room) s m args below meth c D A 3 0 0 Q [(a_this, .inr (8, [.ref a_s, r_kept, .int v_undos, r_known, r_whose, .ref a_lesser, .ref a_other, .int v_open, .ref a_sums, .ref a_weights, .ref a_row, r_plan, .int v_planned])), (a_lesser, .inl (cI, 45, .inl v_lesser)), (a_other, .inl (cI, 45, .inl v_other)), (a_row, .inl (cI, 5, .inl k19_row)), (a_s, .inl (cJ, 613, .inr (.inl v_s))), (a_sums, .inl (cJ, 50, .inr (.inl k19_sums))), (a_weights, .inl (cJ, 50, .inr (.inl k19_weights)))] [] [(0, .ref a_this), (1, .int k19_l1), (2, .int k19_l2)] 19 [] := by
    intro n
    induction n with
    | zero => intro k19_row k19_sums k19_weights k19_l1 k19_l2 hf; exact nomatch (show (none : Option ((Nat → Int32) × (Nat → Int64) × (Nat → Int64) × Int32)) = some R0 from hf)
    | succ n_19 ih_19 =>
      intro k19_row k19_sums k19_weights k19_l1 k19_l2 hf
      unfold f_X8_does_c19 at hf
      refine x_iload_n 20 2 hC dX8_does_19 rfl rfl rfl ?_
      refine x_if_lt 93 23 hC dX8_does_20 (by decide) rfl (fun c_1 => ?_) (fun c_1 => ?_)
      · have hf := if_t hf c_1
        refine x_iconst 94 hC (0 : Int32) dX8_does_93 rfl (by decide) ?_
        cases hf
        exact x_zret hC rfl dX8_does_94 hQ rfl rfl
      · have hf := if_f hf c_1
        refine x_aload_n 24 0 hC dX8_does_23 rfl rfl rfl ?_
        refine x_get 27 0 10 hC in_X8_does_X8 rfl rfl (by decide) (List.mem_of_getElem? (i := 1) (by decide +kernel)) rfl rfl dX8_does_24 rfl ?_
        refine x_iload_n 28 2 hC dX8_does_27 rfl rfl rfl ?_
        refine x_dup2_11 29 hC dX8_does_28 rfl rfl rfl ?_
        obtain ⟨h_2, hf⟩ := ck_e hf
        refine x_iald 30 3 0 hC rfl rfl h_2 dX8_does_29 rfl ?_
        refine x_iconst 31 hC (1 : Int32) dX8_does_30 rfl (by decide) ?_
        refine x_iadd 32 hC dX8_does_31 rfl ?_
        obtain ⟨h_3, hf⟩ := ck_e hf
        obtain ⟨g_4, e_g_4, hf⟩ := nmx_e hf
        refine x_iast 33 3 0 [(a_this, .inr (8, [.ref a_s, r_kept, .int v_undos, r_known, r_whose, .ref a_lesser, .ref a_other, .int v_open, .ref a_sums, .ref a_weights, .ref a_row, r_plan, .int v_planned])), (a_lesser, .inl (cI, 45, .inl v_lesser)), (a_other, .inl (cI, 45, .inl v_other)), (a_row, .inl (cI, 5, .inl g_4)), (a_s, .inl (cJ, 613, .inr (.inl v_s))), (a_sums, .inl (cJ, 50, .inr (.inl k19_sums))), (a_weights, .inl (cJ, 50, .inr (.inl k19_weights)))] hC rfl rfl h_3 e_g_4 rfl dX8_does_32 rfl ?_
        refine x_aload_n 34 0 hC dX8_does_33 rfl rfl rfl ?_
        refine x_get 37 0 10 hC in_X8_does_X8 rfl rfl (by decide) (List.mem_of_getElem? (i := 1) (by decide +kernel)) rfl rfl dX8_does_34 rfl ?_
        refine x_iload_n 38 2 hC dX8_does_37 rfl rfl rfl ?_
        obtain ⟨h_5, hf⟩ := ck_e hf
        refine x_iald 39 3 0 hC rfl rfl h_5 dX8_does_38 rfl ?_
        refine x_aload_n 40 0 hC dX8_does_39 rfl rfl rfl ?_
        refine x_get 43 0 7 hC in_X8_does_X8 rfl rfl (by decide) (List.mem_of_getElem? (i := 2) (by decide +kernel)) rfl rfl dX8_does_40 rfl ?_
        refine x_icmp_ne 52 46 hC dX8_does_43 (by decide) rfl (fun c_6 => ?_) (fun c_6 => ?_)
        · have hf := if_t hf c_6
          refine x_aload_n 53 0 hC dX8_does_52 rfl rfl rfl ?_
          refine x_iload_n 54 2 hC dX8_does_53 rfl rfl rfl ?_
          refine x_aload_n 55 0 hC dX8_does_54 rfl rfl rfl ?_
          refine x_get 58 0 10 hC in_X8_does_X8 rfl rfl (by decide) (List.mem_of_getElem? (i := 1) (by decide +kernel)) rfl rfl dX8_does_55 rfl ?_
          refine x_iload_n 59 2 hC dX8_does_58 rfl rfl rfl ?_
          obtain ⟨h_7, hf⟩ := ck_e hf
          refine x_iald 60 3 0 hC rfl rfl h_7 dX8_does_59 rfl ?_
          obtain ⟨R_8, h_R_8, hf⟩ := bd_e hf
          refine x_callVv 63 0 2 [0, 1, 2, 5, 6] [(a_this, .inr (8, [.ref a_s, r_kept, .int v_undos, r_known, r_whose, .ref a_lesser, .ref a_other, .int v_open, .ref a_sums, .ref a_weights, .ref a_row, r_plan, .int v_planned])), (a_lesser, .inl (cI, 45, .inl v_lesser)), (a_other, .inl (cI, 45, .inl v_other)), (a_row, .inl (cI, 5, .inl g_4)), (a_s, .inl (cJ, 613, .inr (.inl v_s))), (a_sums, .inl (cJ, 50, .inr (.inl R_8.1))), (a_weights, .inl (cJ, 50, .inr (.inl R_8.2)))] hC (As := [.int k19_l2, .int (g_4 k19_l2.toNatClampNeg)]) (c_X8_evens l D cI cJ cQ a_this a_lesser a_other a_sums a_weights (.ref a_s) r_kept r_known r_whose (.ref a_row) r_plan v_undos v_open v_planned v_lesser v_other k19_sums k19_weights k19_l2 (g_4 k19_l2.toNatClampNeg) R_8 h_R_8) rfl rfl gX8_does_X8_evens rfl ⟨rfl, rfl⟩ hd_X8_evens ⟨Nat.le_of_ble_eq_true rfl, Nat.le_of_ble_eq_true rfl⟩ rfl rfl rfl rfl rfl rfl (Nat.le_of_ble_eq_true rfl) ⟨Nat.le_of_ble_eq_true rfl, Nat.le_of_ble_eq_true rfl⟩ dX8_does_60 rfl ?_
          refine x_iload_n 64 2 hC dX8_does_63 rfl rfl rfl ?_
          refine x_iconst 65 hC (1 : Int32) dX8_does_64 rfl (by decide) ?_
          refine x_iadd 66 hC dX8_does_65 rfl ?_
          refine x_iload_n 67 1 hC dX8_does_66 rfl rfl rfl ?_
          refine x_icmp_ge 83 70 hC dX8_does_67 (by decide) rfl (fun c_9 => ?_) (fun c_9 => ?_)
          · have hf := if_t hf c_9
            refine x_aload_n 84 0 hC dX8_does_83 rfl rfl rfl ?_
            refine x_iload_n 85 1 hC dX8_does_84 rfl rfl rfl ?_
            obtain ⟨R_10, h_R_10, hf⟩ := bd_e hf
            refine x_callVi 88 0 1 [0, 4, 5, 6] [(a_this, .inr (8, [.ref a_s, r_kept, .int v_undos, r_known, r_whose, .ref a_lesser, .ref a_other, .int v_open, .ref a_sums, .ref a_weights, .ref a_row, r_plan, .int v_planned])), (a_lesser, .inl (cI, 45, .inl v_lesser)), (a_other, .inl (cI, 45, .inl v_other)), (a_row, .inl (cI, 5, .inl g_4)), (a_s, .inl (cJ, 613, .inr (.inl v_s))), (a_sums, .inl (cJ, 50, .inr (.inl R_8.1))), (a_weights, .inl (cJ, 50, .inr (.inl R_8.2)))] hC (As := [.int k19_l1]) (c_X8_areLike l D cI cJ cQ a_this a_s a_sums a_weights r_kept r_known r_whose (.ref a_lesser) (.ref a_other) (.ref a_row) r_plan v_undos v_open v_planned v_s R_8.1 R_8.2 k19_l1 R_10 h_R_10) rfl rfl gX8_does_X8_areLike rfl ⟨rfl, rfl⟩ hd_X8_areLike ⟨Nat.le_of_ble_eq_true rfl, Nat.le_of_ble_eq_true rfl⟩ rfl rfl rfl rfl rfl rfl (Nat.le_of_ble_eq_true rfl) ⟨Nat.le_of_ble_eq_true rfl, Nat.le_of_ble_eq_true rfl⟩ dX8_does_85 rfl ?_
            refine x_if_eq 19 91 hC dX8_does_88 (by decide) rfl (fun c_11 => ?_) (fun c_11 => ?_)
            · have hf := if_t hf c_11
              refine x_lv [(0, .ref a_this), (1, .int k19_l1), (2, .int k19_l2)] [0, 1, 2] rfl ?_
              exact ih_19 g_4 R_8.1 R_8.2 k19_l1 k19_l2 hf
            · have hf := if_f hf c_11
              refine x_iconst 92 hC (1 : Int32) dX8_does_91 rfl (by decide) ?_
              cases hf
              exact x_zret hC rfl dX8_does_92 hQ rfl rfl
          · have hf := if_f hf c_9
            obtain ⟨x_12, e_x_12, hf⟩ := nmx_e hf
            refine x_iinc 73 2 [(2, .int x_12), (0, .ref a_this), (1, .int k19_l1)] hC dX8_does_70 rfl rfl e_x_12 (by decide) (by decide) rfl ?_
            refine x_aload_n 74 1 hC dX8_does_73 rfl rfl rfl ?_
            refine x_get 77 0 10 hC in_X8_does_X8 rfl rfl (by decide) (List.mem_of_getElem? (i := 1) (by decide +kernel)) rfl rfl dX8_does_74 rfl ?_
            refine x_iload_n 78 0 hC dX8_does_77 rfl rfl rfl ?_
            refine x_iconst 79 hC (-1 : Int32) dX8_does_78 rfl (by decide) ?_
            obtain ⟨h_13, hf⟩ := ck_e hf
            obtain ⟨g_14, e_g_14, hf⟩ := nmx_e hf
            refine x_iast 80 3 0 [(a_this, .inr (8, [.ref a_s, r_kept, .int v_undos, r_known, r_whose, .ref a_lesser, .ref a_other, .int v_open, .ref a_sums, .ref a_weights, .ref a_row, r_plan, .int v_planned])), (a_lesser, .inl (cI, 45, .inl v_lesser)), (a_other, .inl (cI, 45, .inl v_other)), (a_row, .inl (cI, 5, .inl g_14)), (a_s, .inl (cJ, 613, .inr (.inl v_s))), (a_sums, .inl (cJ, 50, .inr (.inl R_8.1))), (a_weights, .inl (cJ, 50, .inr (.inl R_8.2)))] hC rfl rfl h_13 e_g_14 rfl dX8_does_79 rfl ?_
            refine x_goto 19 hC dX8_does_80 (by decide) ?_
            refine x_lv [(0, .ref a_this), (1, .int k19_l1), (2, .int x_12)] [1, 2, 0] rfl ?_
            exact ih_19 g_14 R_8.1 R_8.2 k19_l1 x_12 hf
        · have hf := if_f hf c_6
          obtain ⟨x_15, e_x_15, hf⟩ := nmx_e hf
          refine x_iinc 49 2 [(2, .int x_15), (0, .ref a_this), (1, .int k19_l1)] hC dX8_does_46 rfl rfl e_x_15 (by decide) (by decide) rfl ?_
          refine x_goto 19 hC dX8_does_49 (by decide) ?_
          refine x_lv [(0, .ref a_this), (1, .int k19_l1), (2, .int x_15)] [1, 2, 0] rfl ?_
          exact ih_19 g_4 k19_sums k19_weights k19_l1 x_15 hf
  unfold f_X8_does at hf
  refine x_iconst 1 hC (0 : Int32) dX8_does_0 rfl (by decide) ?_
  refine x_istore_n 2 [(2, .int (0 : Int32)), (0, .ref a_this), (1, .int p1)] hC dX8_does_1 rfl rfl rfl (by decide) rfl ?_
  refine x_aload_n 3 1 hC dX8_does_2 rfl rfl rfl ?_
  refine x_get 6 0 10 hC in_X8_does_X8 rfl rfl (by decide) (List.mem_of_getElem? (i := 1) (by decide +kernel)) rfl rfl dX8_does_3 rfl ?_
  refine x_iconst 7 hC (0 : Int32) dX8_does_6 rfl (by decide) ?_
  refine x_iconst 8 hC (-1 : Int32) dX8_does_7 rfl (by decide) ?_
  obtain ⟨h_16, hf⟩ := ck_e hf
  obtain ⟨g_17, e_g_17, hf⟩ := nmx_e hf
  refine x_iast 9 3 0 [(a_this, .inr (8, [.ref a_s, r_kept, .int v_undos, r_known, r_whose, .ref a_lesser, .ref a_other, .int v_open, .ref a_sums, .ref a_weights, .ref a_row, r_plan, .int v_planned])), (a_lesser, .inl (cI, 45, .inl v_lesser)), (a_other, .inl (cI, 45, .inl v_other)), (a_row, .inl (cI, 5, .inl g_17)), (a_s, .inl (cJ, 613, .inr (.inl v_s))), (a_sums, .inl (cJ, 50, .inr (.inl v_sums))), (a_weights, .inl (cJ, 50, .inr (.inl v_weights)))] hC rfl rfl h_16 e_g_17 rfl dX8_does_8 rfl ?_
  refine x_iload_n 10 2 hC dX8_does_9 rfl rfl rfl ?_
  refine x_if_ne 19 13 hC dX8_does_10 (by decide) rfl (fun c_18 => ?_) (fun c_18 => ?_)
  · have hf := if_t hf c_18
    refine x_lv [(0, .ref a_this), (1, .int p1), (2, .int (0 : Int32))] [1, 2, 0] rfl ?_
    exact J_19 fu g_17 v_sums v_weights p1 (0 : Int32) hf
  · have hf := if_f hf c_18
    refine x_aload_n 14 1 hC dX8_does_13 rfl rfl rfl ?_
    refine x_iconst 15 hC (0 : Int32) dX8_does_14 rfl (by decide) ?_
    obtain ⟨R_19, h_R_19, hf⟩ := bd_e hf
    refine x_callVi 18 0 1 [0, 4, 5, 6] [(a_this, .inr (8, [.ref a_s, r_kept, .int v_undos, r_known, r_whose, .ref a_lesser, .ref a_other, .int v_open, .ref a_sums, .ref a_weights, .ref a_row, r_plan, .int v_planned])), (a_lesser, .inl (cI, 45, .inl v_lesser)), (a_other, .inl (cI, 45, .inl v_other)), (a_row, .inl (cI, 5, .inl g_17)), (a_s, .inl (cJ, 613, .inr (.inl v_s))), (a_sums, .inl (cJ, 50, .inr (.inl v_sums))), (a_weights, .inl (cJ, 50, .inr (.inl v_weights)))] hC (As := [.int (0 : Int32)]) (c_X8_areLike l D cI cJ cQ a_this a_s a_sums a_weights r_kept r_known r_whose (.ref a_lesser) (.ref a_other) (.ref a_row) r_plan v_undos v_open v_planned v_s v_sums v_weights (0 : Int32) R_19 h_R_19) rfl rfl gX8_does_X8_areLike rfl ⟨rfl, rfl⟩ hd_X8_areLike ⟨Nat.le_of_ble_eq_true rfl, Nat.le_of_ble_eq_true rfl⟩ rfl rfl rfl rfl rfl rfl (Nat.le_of_ble_eq_true rfl) ⟨Nat.le_of_ble_eq_true rfl, Nat.le_of_ble_eq_true rfl⟩ dX8_does_15 rfl ?_
    obtain ⟨h_20, hf⟩ := ckp_e hf
    cases hf
    exact x_zret hC h_20 dX8_does_18 hQ rfl rfl

theorem hd_X8_fewest : yX8_fewest.cls = RX8 ∧ yX8_fewest.cls ≠ "java/lang/invoke/MethodHandle" ∧ yX8_fewest.cls ≠ "java/lang/invoke/VarHandle" ∧ (parseMethodDescriptor yX8_fewest.desc).map (fun d => d.parameters.length) = some 1 := by decide +kernel
theorem in_X8_fewest_X8 : ∀ w ∈ u_ws RX8 TX8 13, w ∈ wsX8_fewest := fun w h => List.mem_cons_of_mem _ (List.mem_append_right _ h)
noncomputable def f_X8_fewest_c84 (k64 : Int32 → Int32 → (Nat → Int32) → (Nat → Int32) → (Nat → Int32) → (Nat → Int32) → (Nat → Int64) → (Nat → Int64) → Int32 → Int32 → Option (Int32 × Int32 × (Nat → Int32) × (Nat → Int32) × (Nat → Int32) × (Nat → Int32) × (Nat → Int64) × (Nat → Int64) × Int32)) (v_s : Nat → Int64) : Nat → Int32 → Int32 → (Nat → Int32) → (Nat → Int32) → (Nat → Int32) → (Nat → Int32) → (Nat → Int64) → (Nat → Int64) → Int32 → Int32 → Option (Int32 × Int32 × (Nat → Int32) × (Nat → Int32) × (Nat → Int32) × (Nat → Int32) × (Nat → Int64) × (Nat → Int64) × Int32)
  | 0, _, _, _, _, _, _, _, _, _, _ => none
  | n + 1, k84_open, k84_planned, k84_lesser, k84_other, k84_plan, k84_row, k84_sums, k84_weights, k84_l2, k84_l3 => if k84_l2 ≤ k84_l3 then (some (k84_open, k84_planned, k84_lesser, k84_other, k84_plan, k84_row, k84_sums, k84_weights, k84_l2)) else (ck k84_l3 5 <| ck k84_l3 4 <| nm (upd k84_plan k84_l3.toNatClampNeg (k84_row k84_l3.toNatClampNeg)) fun g_4 => nm (k84_l3 + (1 : Int32)) fun x_5 => (fun k84_open k84_planned k84_lesser k84_other k84_plan k84_row k84_sums k84_weights k84_l2 k84_l3 => f_X8_fewest_c84 k64 v_s n k84_open k84_planned k84_lesser k84_other k84_plan k84_row k84_sums k84_weights k84_l2 k84_l3) k84_open k84_planned k84_lesser k84_other g_4 k84_row k84_sums k84_weights k84_l2 x_5)
noncomputable def f_X8_fewest_c64 (v_s : Nat → Int64) : Nat → Int32 → Int32 → (Nat → Int32) → (Nat → Int32) → (Nat → Int32) → (Nat → Int32) → (Nat → Int64) → (Nat → Int64) → Int32 → Int32 → Option (Int32 × Int32 × (Nat → Int32) × (Nat → Int32) × (Nat → Int32) × (Nat → Int32) × (Nat → Int64) × (Nat → Int64) × Int32)
  | 0, _, _, _, _, _, _, _, _, _, _ => none
  | n + 1, k64_open, k64_planned, k64_lesser, k64_other, k64_plan, k64_row, k64_sums, k64_weights, k64_l1, k64_l2 => if k64_l1 < k64_l2 then (some (k64_open, k64_planned, k64_lesser, k64_other, k64_plan, k64_row, k64_sums, k64_weights, (-4 : Int32))) else (bd (f_X8_does k64_open k64_lesser k64_other v_s k64_row k64_sums k64_weights k64_l2) fun R_7 => if R_7.2.2.2 = 0 then (nm (k64_l2 + (1 : Int32)) fun x_9 => (fun k64_open k64_planned k64_lesser k64_other k64_plan k64_row k64_sums k64_weights k64_l1 k64_l2 => f_X8_fewest_c64 v_s n k64_open k64_planned k64_lesser k64_other k64_plan k64_row k64_sums k64_weights k64_l1 k64_l2) k64_open k64_planned k64_lesser k64_other k64_plan R_7.1 R_7.2.1 R_7.2.2.1 k64_l1 x_9) else (f_X8_fewest_c84 (fun k64_open k64_planned k64_lesser k64_other k64_plan k64_row k64_sums k64_weights k64_l1 k64_l2 => f_X8_fewest_c64 v_s n k64_open k64_planned k64_lesser k64_other k64_plan k64_row k64_sums k64_weights k64_l1 k64_l2) v_s fu k64_open k64_l2 k64_lesser k64_other k64_plan R_7.1 R_7.2.1 R_7.2.2.1 k64_l2 (0 : Int32)))
noncomputable def f_X8_fewest_c20 (v_s : Nat → Int64) : Nat → Int32 → Int32 → (Nat → Int32) → (Nat → Int32) → (Nat → Int32) → (Nat → Int32) → (Nat → Int64) → (Nat → Int64) → Int32 → Int32 → Option (Int32 × Int32 × (Nat → Int32) × (Nat → Int32) × (Nat → Int32) × (Nat → Int32) × (Nat → Int64) × (Nat → Int64) × Int32)
  | 0, _, _, _, _, _, _, _, _, _, _ => none
  | n + 1, k20_open, k20_planned, k20_lesser, k20_other, k20_plan, k20_row, k20_sums, k20_weights, k20_l1, k20_l2 => if (10 : Int32) ≤ k20_l2 then (f_X8_fewest_c64 v_s fu k20_open k20_planned k20_lesser k20_other k20_plan k20_row k20_sums k20_weights k20_l1 (0 : Int32)) else (ck ((33 : Int32) + k20_l2) 613 <| ck k20_l2 50 <| nm (vp_updL k20_sums k20_l2.toNatClampNeg (v_s ((33 : Int32) + k20_l2).toNatClampNeg)) fun g_13 => ck ((43 : Int32) + k20_l2) 613 <| ck k20_l2 50 <| nm (vp_updL k20_weights k20_l2.toNatClampNeg (v_s ((43 : Int32) + k20_l2).toNatClampNeg)) fun g_16 => nm (k20_l2 + (1 : Int32)) fun x_17 => (fun k20_open k20_planned k20_lesser k20_other k20_plan k20_row k20_sums k20_weights k20_l1 k20_l2 => f_X8_fewest_c20 v_s n k20_open k20_planned k20_lesser k20_other k20_plan k20_row k20_sums k20_weights k20_l1 k20_l2) k20_open k20_planned k20_lesser k20_other k20_plan k20_row g_13 g_16 k20_l1 x_17)
noncomputable def f_X8_fewest (v_s : Nat → Int64) (v_open : Int32) (v_planned : Int32) (v_lesser : Nat → Int32) (v_other : Nat → Int32) (v_plan : Nat → Int32) (v_row : Nat → Int32) (v_sums : Nat → Int64) (v_weights : Nat → Int64) (p1 : Int32) : Option (Int32 × Int32 × (Nat → Int32) × (Nat → Int32) × (Nat → Int32) × (Nat → Int32) × (Nat → Int64) × (Nat → Int64) × Int32) := bd (f_X8_in (p1.toInt64) (0 : Int64) (3 : Int64)) fun R_18 => if ¬ R_18 = 0 then (bd (f_X8_look v_s v_open v_lesser v_other) fun R_20 => f_X8_fewest_c20 v_s fu R_20.1 v_planned R_20.2.1 R_20.2.2 v_plan v_row v_sums v_weights p1 (0 : Int32)) else (some (v_open, v_planned, v_lesser, v_other, v_plan, v_row, v_sums, v_weights, (-1 : Int32)))
set_option maxHeartbeats 4000000 in
set_option maxRecDepth 100000 in
theorem c_X8_fewest (l : Launch) (D : va_G) (cI cJ cQ : ClassId) (a_this : Nat) (a_lesser : Nat) (a_other : Nat) (a_plan : Nat) (a_row : Nat) (a_s : Nat) (a_sums : Nat) (a_weights : Nat) (r_kept : Value) (r_known : Value) (r_whose : Value) (v_undos : Int32) (v_open : Int32) (v_planned : Int32) (v_lesser : Nat → Int32) (v_other : Nat → Int32) (v_plan : Nat → Int32) (v_row : Nat → Int32) (v_s : Nat → Int64) (v_sums : Nat → Int64) (v_weights : Nat → Int64) (p1 : Int32) (R0 : Int32 × Int32 × (Nat → Int32) × (Nat → Int32) × (Nat → Int32) × (Nat → Int32) × (Nat → Int64) × (Nat → Int64) × Int32) (hf : f_X8_fewest v_s v_open v_planned v_lesser v_other v_plan v_row v_sums v_weights p1 = some R0) : Ci l yX8_fewest wsX8_fewest ({ frames := 6, cells := 0, slots := 0, locals := 182 } : Room) D [(cI, .int), (cJ, .long), (cQ, .object "WhisperCrowd$State")] [.ref a_this, .int p1] [(a_this, .inr (8, [.ref a_s, r_kept, .int v_undos, r_known, r_whose, .ref a_lesser, .ref a_other, .int v_open, .ref a_sums, .ref a_weights, .ref a_row, .ref a_plan, .int v_planned])), (a_lesser, .inl (cI, 45, .inl v_lesser)), (a_other, .inl (cI, 45, .inl v_other)), (a_plan, .inl (cI, 4, .inl v_plan)), (a_row, .inl (cI, 5, .inl v_row)), (a_s, .inl (cJ, 613, .inr (.inl v_s))), (a_sums, .inl (cJ, 50, .inr (.inl v_sums))), (a_weights, .inl (cJ, 50, .inr (.inl v_weights)))] [(a_this, .inr (8, [.ref a_s, r_kept, .int v_undos, r_known, r_whose, .ref a_lesser, .ref a_other, .int R0.1, .ref a_sums, .ref a_weights, .ref a_row, .ref a_plan, .int R0.2.1])), (a_lesser, .inl (cI, 45, .inl R0.2.2.1)), (a_other, .inl (cI, 45, .inl R0.2.2.2.1)), (a_plan, .inl (cI, 4, .inl R0.2.2.2.2.1)), (a_row, .inl (cI, 5, .inl R0.2.2.2.2.2.1)), (a_s, .inl (cJ, 613, .inr (.inl v_s))), (a_sums, .inl (cJ, 50, .inr (.inl R0.2.2.2.2.2.2.1))), (a_weights, .inl (cJ, 50, .inr (.inl R0.2.2.2.2.2.2.2.1)))] R0.2.2.2.2.2.2.2.2 := by
  refine x_enti (cc := cX8_fewest) (maxL := 4) (rt := (some .int)) (lv := [(0, .ref a_this), (1, .int p1)]) (by decide) rfl (Nat.le_of_ble_eq_true rfl) rfl ?_
  intro p e s m args below meth c A Q hQ hC
  have J_64 : ∀ (n : Nat) (k64_open : Int32) (k64_planned : Int32) (k64_lesser : Nat → Int32) (k64_other : Nat → Int32) (k64_plan : Nat → Int32) (k64_row : Nat → Int32) (k64_sums : Nat → Int64) (k64_weights : Nat → Int64) (k64_l1 : Int32) (k64_l2 : Int32), f_X8_fewest_c64 v_s n k64_open k64_planned k64_lesser k64_other k64_plan k64_row k64_sums k64_weights k64_l1 k64_l2 = some R0 → XW p l e ({ frames := 6, cells := 0, slots := 0, locals := 182 } : Room) s m args below meth c D A 4 0 0 Q [(a_this, .inr (8, [.ref a_s, r_kept, .int v_undos, r_known, r_whose, .ref a_lesser, .ref a_other, .int k64_open, .ref a_sums, .ref a_weights, .ref a_row, .ref a_plan, .int k64_planned])), (a_lesser, .inl (cI, 45, .inl k64_lesser)), (a_other, .inl (cI, 45, .inl k64_other)), (a_plan, .inl (cI, 4, .inl k64_plan)), (a_row, .inl (cI, 5, .inl k64_row)), (a_s, .inl (cJ, 613, .inr (.inl v_s))), (a_sums, .inl (cJ, 50, .inr (.inl k64_sums))), (a_weights, .inl (cJ, 50, .inr (.inl k64_weights)))] [] [(0, .ref a_this), (1, .int k64_l1), (2, .int k64_l2)] 64 [] := by
    intro n
    induction n with
    | zero => intro k64_open k64_planned k64_lesser k64_other k64_plan k64_row k64_sums k64_weights k64_l1 k64_l2 hf; exact nomatch (show (none : Option (Int32 × Int32 × (Nat → Int32) × (Nat → Int32) × (Nat → Int32) × (Nat → Int32) × (Nat → Int64) × (Nat → Int64) × Int32)) = some R0 from hf)
    | succ n_64 ih_64 =>
      have J_84 : ∀ (n : Nat) (k84_open : Int32) (k84_planned : Int32) (k84_lesser : Nat → Int32) (k84_other : Nat → Int32) (k84_plan : Nat → Int32) (k84_row : Nat → Int32) (k84_sums : Nat → Int64) (k84_weights : Nat → Int64) (k84_l2 : Int32) (k84_l3 : Int32), f_X8_fewest_c84 (fun k64_open k64_planned k64_lesser k64_other k64_plan k64_row k64_sums k64_weights k64_l1 k64_l2 => f_X8_fewest_c64 v_s n_64 k64_open k64_planned k64_lesser k64_other k64_plan k64_row k64_sums k64_weights k64_l1 k64_l2) v_s n k84_open k84_planned k84_lesser k84_other k84_plan k84_row k84_sums k84_weights k84_l2 k84_l3 = some R0 → XW p l e ({ frames := 6, cells := 0, slots := 0, locals := 182 } : Room) s m args below meth c D A 4 0 0 Q [(a_this, .inr (8, [.ref a_s, r_kept, .int v_undos, r_known, r_whose, .ref a_lesser, .ref a_other, .int k84_open, .ref a_sums, .ref a_weights, .ref a_row, .ref a_plan, .int k84_planned])), (a_lesser, .inl (cI, 45, .inl k84_lesser)), (a_other, .inl (cI, 45, .inl k84_other)), (a_plan, .inl (cI, 4, .inl k84_plan)), (a_row, .inl (cI, 5, .inl k84_row)), (a_s, .inl (cJ, 613, .inr (.inl v_s))), (a_sums, .inl (cJ, 50, .inr (.inl k84_sums))), (a_weights, .inl (cJ, 50, .inr (.inl k84_weights)))] [] [(0, .ref a_this), (2, .int k84_l2), (3, .int k84_l3)] 84 [] := by
        intro n
        induction n with
        | zero => intro k84_open k84_planned k84_lesser k84_other k84_plan k84_row k84_sums k84_weights k84_l2 k84_l3 hf; exact nomatch (show (none : Option (Int32 × Int32 × (Nat → Int32) × (Nat → Int32) × (Nat → Int32) × (Nat → Int32) × (Nat → Int64) × (Nat → Int64) × Int32)) = some R0 from hf)
        | succ n_84 ih_84 =>
          intro k84_open k84_planned k84_lesser k84_other k84_plan k84_row k84_sums k84_weights k84_l2 k84_l3 hf
          unfold f_X8_fewest_c84 at hf
          refine x_iload_n 85 2 hC dX8_fewest_84 rfl rfl rfl ?_
          refine x_iload_n 86 1 hC dX8_fewest_85 rfl rfl rfl ?_
          refine x_icmp_ge 107 89 hC dX8_fewest_86 (by decide) rfl (fun c_1 => ?_) (fun c_1 => ?_)
          · have hf := if_t hf c_1
            refine x_iload_n 108 1 hC dX8_fewest_107 rfl rfl rfl ?_
            cases hf
            exact x_iret hC dX8_fewest_108 hQ rfl rfl
          · have hf := if_f hf c_1
            refine x_aload_n 90 0 hC dX8_fewest_89 rfl rfl rfl ?_
            refine x_get 93 0 11 hC in_X8_fewest_X8 rfl rfl (by decide) (List.mem_of_getElem? (i := 6) (by decide +kernel)) rfl rfl dX8_fewest_90 rfl ?_
            refine x_iload_n 94 2 hC dX8_fewest_93 rfl rfl rfl ?_
            refine x_aload_n 95 0 hC dX8_fewest_94 rfl rfl rfl ?_
            refine x_get 98 0 10 hC in_X8_fewest_X8 rfl rfl (by decide) (List.mem_of_getElem? (i := 7) (by decide +kernel)) rfl rfl dX8_fewest_95 rfl ?_
            refine x_iload_n 99 2 hC dX8_fewest_98 rfl rfl rfl ?_
            obtain ⟨h_2, hf⟩ := ck_e hf
            refine x_iald 100 4 0 hC rfl rfl h_2 dX8_fewest_99 rfl ?_
            obtain ⟨h_3, hf⟩ := ck_e hf
            obtain ⟨g_4, e_g_4, hf⟩ := nmx_e hf
            refine x_iast 101 3 0 [(a_this, .inr (8, [.ref a_s, r_kept, .int v_undos, r_known, r_whose, .ref a_lesser, .ref a_other, .int k84_open, .ref a_sums, .ref a_weights, .ref a_row, .ref a_plan, .int k84_planned])), (a_lesser, .inl (cI, 45, .inl k84_lesser)), (a_other, .inl (cI, 45, .inl k84_other)), (a_plan, .inl (cI, 4, .inl g_4)), (a_row, .inl (cI, 5, .inl k84_row)), (a_s, .inl (cJ, 613, .inr (.inl v_s))), (a_sums, .inl (cJ, 50, .inr (.inl k84_sums))), (a_weights, .inl (cJ, 50, .inr (.inl k84_weights)))] hC rfl rfl h_3 e_g_4 rfl dX8_fewest_100 rfl ?_
            obtain ⟨x_5, e_x_5, hf⟩ := nmx_e hf
            refine x_iinc 104 2 [(3, .int x_5), (0, .ref a_this), (2, .int k84_l2)] hC dX8_fewest_101 rfl rfl e_x_5 (by decide) (by decide) rfl ?_
            refine x_goto 84 hC dX8_fewest_104 (by decide) ?_
            refine x_lv [(0, .ref a_this), (2, .int k84_l2), (3, .int x_5)] [1, 2, 0] rfl ?_
            exact ih_84 k84_open k84_planned k84_lesser k84_other g_4 k84_row k84_sums k84_weights k84_l2 x_5 hf
      intro k64_open k64_planned k64_lesser k64_other k64_plan k64_row k64_sums k64_weights k64_l1 k64_l2 hf
      unfold f_X8_fewest_c64 at hf
      refine x_iload_n 65 2 hC dX8_fewest_64 rfl rfl rfl ?_
      refine x_iload_n 66 1 hC dX8_fewest_65 rfl rfl rfl ?_
      refine x_icmp_gt 115 69 hC dX8_fewest_66 (by decide) rfl (fun c_6 => ?_) (fun c_6 => ?_)
      · have hf := if_t hf c_6
        refine x_bipush 117 hC (-4 : Int32) dX8_fewest_115 rfl (by decide) ?_
        cases hf
        exact x_iret hC dX8_fewest_117 hQ rfl rfl
      · have hf := if_f hf c_6
        refine x_aload_n 70 0 hC dX8_fewest_69 rfl rfl rfl ?_
        refine x_iload_n 71 2 hC dX8_fewest_70 rfl rfl rfl ?_
        obtain ⟨R_7, h_R_7, hf⟩ := bd_e hf
        refine x_callVi 74 0 1 [0, 1, 2, 4, 5, 6, 7] [(a_this, .inr (8, [.ref a_s, r_kept, .int v_undos, r_known, r_whose, .ref a_lesser, .ref a_other, .int k64_open, .ref a_sums, .ref a_weights, .ref a_row, .ref a_plan, .int k64_planned])), (a_lesser, .inl (cI, 45, .inl k64_lesser)), (a_other, .inl (cI, 45, .inl k64_other)), (a_plan, .inl (cI, 4, .inl k64_plan)), (a_row, .inl (cI, 5, .inl R_7.1)), (a_s, .inl (cJ, 613, .inr (.inl v_s))), (a_sums, .inl (cJ, 50, .inr (.inl R_7.2.1))), (a_weights, .inl (cJ, 50, .inr (.inl R_7.2.2.1)))] hC (As := [.int k64_l2]) (c_X8_does l D cI cJ cQ a_this a_lesser a_other a_row a_s a_sums a_weights r_kept r_known r_whose (.ref a_plan) v_undos k64_open k64_planned k64_lesser k64_other k64_row v_s k64_sums k64_weights k64_l2 R_7 h_R_7) rfl rfl gX8_fewest_X8_does rfl ⟨rfl, rfl⟩ hd_X8_does ⟨Nat.le_of_ble_eq_true rfl, Nat.le_of_ble_eq_true rfl⟩ rfl rfl rfl rfl rfl rfl (Nat.le_of_ble_eq_true rfl) ⟨Nat.le_of_ble_eq_true rfl, Nat.le_of_ble_eq_true rfl⟩ dX8_fewest_71 rfl ?_
        refine x_if_eq 109 77 hC dX8_fewest_74 (by decide) rfl (fun c_8 => ?_) (fun c_8 => ?_)
        · have hf := if_t hf c_8
          obtain ⟨x_9, e_x_9, hf⟩ := nmx_e hf
          refine x_iinc 112 2 [(2, .int x_9), (0, .ref a_this), (1, .int k64_l1)] hC dX8_fewest_109 rfl rfl e_x_9 (by decide) (by decide) rfl ?_
          refine x_goto 64 hC dX8_fewest_112 (by decide) ?_
          refine x_lv [(0, .ref a_this), (1, .int k64_l1), (2, .int x_9)] [1, 2, 0] rfl ?_
          exact ih_64 k64_open k64_planned k64_lesser k64_other k64_plan R_7.1 R_7.2.1 R_7.2.2.1 k64_l1 x_9 hf
        · have hf := if_f hf c_8
          refine x_aload_n 78 0 hC dX8_fewest_77 rfl rfl rfl ?_
          refine x_iload_n 79 2 hC dX8_fewest_78 rfl rfl rfl ?_
          refine x_put 82 0 12 [(a_this, .inr (8, [.ref a_s, r_kept, .int v_undos, r_known, r_whose, .ref a_lesser, .ref a_other, .int k64_open, .ref a_sums, .ref a_weights, .ref a_row, .ref a_plan, .int k64_l2])), (a_lesser, .inl (cI, 45, .inl k64_lesser)), (a_other, .inl (cI, 45, .inl k64_other)), (a_plan, .inl (cI, 4, .inl k64_plan)), (a_row, .inl (cI, 5, .inl R_7.1)), (a_s, .inl (cJ, 613, .inr (.inl v_s))), (a_sums, .inl (cJ, 50, .inr (.inl R_7.2.1))), (a_weights, .inl (cJ, 50, .inr (.inl R_7.2.2.1)))] hC in_X8_fewest_X8 tyX8_ok nmX8 rfl rfl (by decide) (List.mem_of_getElem? (i := 5) (by decide +kernel)) rfl rfl rfl rfl rfl rfl (Nat.le_of_ble_eq_true rfl) rfl dX8_fewest_79 rfl ?_
          refine x_iconst 83 hC (0 : Int32) dX8_fewest_82 rfl (by decide) ?_
          refine x_istore_n 84 [(3, .int (0 : Int32)), (0, .ref a_this), (1, .int k64_l1), (2, .int k64_l2)] hC dX8_fewest_83 rfl rfl rfl (by decide) rfl ?_
          refine x_lv [(0, .ref a_this), (2, .int k64_l2), (3, .int (0 : Int32))] [1, 3, 0] rfl ?_
          exact J_84 fu k64_open k64_l2 k64_lesser k64_other k64_plan R_7.1 R_7.2.1 R_7.2.2.1 k64_l2 (0 : Int32) hf
  have J_20 : ∀ (n : Nat) (k20_open : Int32) (k20_planned : Int32) (k20_lesser : Nat → Int32) (k20_other : Nat → Int32) (k20_plan : Nat → Int32) (k20_row : Nat → Int32) (k20_sums : Nat → Int64) (k20_weights : Nat → Int64) (k20_l1 : Int32) (k20_l2 : Int32), f_X8_fewest_c20 v_s n k20_open k20_planned k20_lesser k20_other k20_plan k20_row k20_sums k20_weights k20_l1 k20_l2 = some R0 → XW p l e ({ frames := 6, cells := 0, slots := 0, locals := 182 } : Room) s m args below meth c D A 4 0 0 Q [(a_this, .inr (8, [.ref a_s, r_kept, .int v_undos, r_known, r_whose, .ref a_lesser, .ref a_other, .int k20_open, .ref a_sums, .ref a_weights, .ref a_row, .ref a_plan, .int k20_planned])), (a_lesser, .inl (cI, 45, .inl k20_lesser)), (a_other, .inl (cI, 45, .inl k20_other)), (a_plan, .inl (cI, 4, .inl k20_plan)), (a_row, .inl (cI, 5, .inl k20_row)), (a_s, .inl (cJ, 613, .inr (.inl v_s))), (a_sums, .inl (cJ, 50, .inr (.inl k20_sums))), (a_weights, .inl (cJ, 50, .inr (.inl k20_weights)))] [] [(0, .ref a_this), (1, .int k20_l1), (2, .int k20_l2)] 20 [] := by
    intro n
    induction n with
    | zero => intro k20_open k20_planned k20_lesser k20_other k20_plan k20_row k20_sums k20_weights k20_l1 k20_l2 hf; exact nomatch (show (none : Option (Int32 × Int32 × (Nat → Int32) × (Nat → Int32) × (Nat → Int32) × (Nat → Int32) × (Nat → Int64) × (Nat → Int64) × Int32)) = some R0 from hf)
    | succ n_20 ih_20 =>
      intro k20_open k20_planned k20_lesser k20_other k20_plan k20_row k20_sums k20_weights k20_l1 k20_l2 hf
      unfold f_X8_fewest_c20 at hf
      refine x_iload_n 21 2 hC dX8_fewest_20 rfl rfl rfl ?_
      refine x_bipush 23 hC (10 : Int32) dX8_fewest_21 rfl (by decide) ?_
      refine x_icmp_ge 62 26 hC dX8_fewest_23 (by decide) rfl (fun c_10 => ?_) (fun c_10 => ?_)
      · have hf := if_t hf c_10
        refine x_iconst 63 hC (0 : Int32) dX8_fewest_62 rfl (by decide) ?_
        refine x_istore_n 64 [(2, .int (0 : Int32)), (0, .ref a_this), (1, .int k20_l1)] hC dX8_fewest_63 rfl rfl rfl (by decide) rfl ?_
        refine x_lv [(0, .ref a_this), (1, .int k20_l1), (2, .int (0 : Int32))] [1, 2, 0] rfl ?_
        exact J_64 fu k20_open k20_planned k20_lesser k20_other k20_plan k20_row k20_sums k20_weights k20_l1 (0 : Int32) hf
      · have hf := if_f hf c_10
        refine x_aload_n 27 0 hC dX8_fewest_26 rfl rfl rfl ?_
        refine x_get 30 0 8 hC in_X8_fewest_X8 rfl rfl (by decide) (List.mem_of_getElem? (i := 2) (by decide +kernel)) rfl rfl dX8_fewest_27 rfl ?_
        refine x_iload_n 31 2 hC dX8_fewest_30 rfl rfl rfl ?_
        refine x_aload_n 32 0 hC dX8_fewest_31 rfl rfl rfl ?_
        refine x_get 35 0 0 hC in_X8_fewest_X8 rfl rfl (by decide) (List.mem_of_getElem? (i := 3) (by decide +kernel)) rfl rfl dX8_fewest_32 rfl ?_
        refine x_bipush 37 hC (33 : Int32) dX8_fewest_35 rfl (by decide) ?_
        refine x_iload_n 38 2 hC dX8_fewest_37 rfl rfl rfl ?_
        refine x_iadd 39 hC dX8_fewest_38 rfl ?_
        obtain ⟨h_11, hf⟩ := ck_e hf
        refine x_lald 40 5 1 hC rfl rfl h_11 dX8_fewest_39 rfl ?_
        obtain ⟨h_12, hf⟩ := ck_e hf
        obtain ⟨g_13, e_g_13, hf⟩ := nmx_e hf
        refine x_last 41 6 1 [(a_this, .inr (8, [.ref a_s, r_kept, .int v_undos, r_known, r_whose, .ref a_lesser, .ref a_other, .int k20_open, .ref a_sums, .ref a_weights, .ref a_row, .ref a_plan, .int k20_planned])), (a_lesser, .inl (cI, 45, .inl k20_lesser)), (a_other, .inl (cI, 45, .inl k20_other)), (a_plan, .inl (cI, 4, .inl k20_plan)), (a_row, .inl (cI, 5, .inl k20_row)), (a_s, .inl (cJ, 613, .inr (.inl v_s))), (a_sums, .inl (cJ, 50, .inr (.inl g_13))), (a_weights, .inl (cJ, 50, .inr (.inl k20_weights)))] hC rfl rfl h_12 e_g_13 rfl dX8_fewest_40 rfl ?_
        refine x_aload_n 42 0 hC dX8_fewest_41 rfl rfl rfl ?_
        refine x_get 45 0 9 hC in_X8_fewest_X8 rfl rfl (by decide) (List.mem_of_getElem? (i := 4) (by decide +kernel)) rfl rfl dX8_fewest_42 rfl ?_
        refine x_iload_n 46 2 hC dX8_fewest_45 rfl rfl rfl ?_
        refine x_aload_n 47 0 hC dX8_fewest_46 rfl rfl rfl ?_
        refine x_get 50 0 0 hC in_X8_fewest_X8 rfl rfl (by decide) (List.mem_of_getElem? (i := 3) (by decide +kernel)) rfl rfl dX8_fewest_47 rfl ?_
        refine x_bipush 52 hC (43 : Int32) dX8_fewest_50 rfl (by decide) ?_
        refine x_iload_n 53 2 hC dX8_fewest_52 rfl rfl rfl ?_
        refine x_iadd 54 hC dX8_fewest_53 rfl ?_
        obtain ⟨h_14, hf⟩ := ck_e hf
        refine x_lald 55 5 1 hC rfl rfl h_14 dX8_fewest_54 rfl ?_
        obtain ⟨h_15, hf⟩ := ck_e hf
        obtain ⟨g_16, e_g_16, hf⟩ := nmx_e hf
        refine x_last 56 7 1 [(a_this, .inr (8, [.ref a_s, r_kept, .int v_undos, r_known, r_whose, .ref a_lesser, .ref a_other, .int k20_open, .ref a_sums, .ref a_weights, .ref a_row, .ref a_plan, .int k20_planned])), (a_lesser, .inl (cI, 45, .inl k20_lesser)), (a_other, .inl (cI, 45, .inl k20_other)), (a_plan, .inl (cI, 4, .inl k20_plan)), (a_row, .inl (cI, 5, .inl k20_row)), (a_s, .inl (cJ, 613, .inr (.inl v_s))), (a_sums, .inl (cJ, 50, .inr (.inl g_13))), (a_weights, .inl (cJ, 50, .inr (.inl g_16)))] hC rfl rfl h_15 e_g_16 rfl dX8_fewest_55 rfl ?_
        obtain ⟨x_17, e_x_17, hf⟩ := nmx_e hf
        refine x_iinc 59 2 [(2, .int x_17), (0, .ref a_this), (1, .int k20_l1)] hC dX8_fewest_56 rfl rfl e_x_17 (by decide) (by decide) rfl ?_
        refine x_goto 20 hC dX8_fewest_59 (by decide) ?_
        refine x_lv [(0, .ref a_this), (1, .int k20_l1), (2, .int x_17)] [1, 2, 0] rfl ?_
        exact ih_20 k20_open k20_planned k20_lesser k20_other k20_plan k20_row g_13 g_16 k20_l1 x_17 hf
  unfold f_X8_fewest at hf
  refine x_iload_n 1 1 hC dX8_fewest_0 rfl rfl rfl ?_
  refine x_i2l 2 hC dX8_fewest_1 rfl ?_
  refine x_lconst 3 hC (0 : Int64) dX8_fewest_2 rfl (by decide) ?_
  refine x_ldc2 6 hC (v := (3 : Int64)) (List.mem_of_getElem? (i := 1) (by decide +kernel)) dX8_fewest_3 rfl ?_
  obtain ⟨R_18, h_R_18, hf⟩ := bd_e hf
  refine x_callSi 9 3 [] [(a_this, .inr (8, [.ref a_s, r_kept, .int v_undos, r_known, r_whose, .ref a_lesser, .ref a_other, .int v_open, .ref a_sums, .ref a_weights, .ref a_row, .ref a_plan, .int v_planned])), (a_lesser, .inl (cI, 45, .inl v_lesser)), (a_other, .inl (cI, 45, .inl v_other)), (a_plan, .inl (cI, 4, .inl v_plan)), (a_row, .inl (cI, 5, .inl v_row)), (a_s, .inl (cJ, 613, .inr (.inl v_s))), (a_sums, .inl (cJ, 50, .inr (.inl v_sums))), (a_weights, .inl (cJ, 50, .inr (.inl v_weights)))] hC (As := [.long (p1.toInt64), .long (0 : Int64), .long (3 : Int64)]) (c_X8_in l D cI cJ cQ (p1.toInt64) (0 : Int64) (3 : Int64) R_18 h_R_18) gX8_fewest_X8_in rfl ⟨rfl, rfl⟩ hd_X8_in ⟨Nat.le_of_ble_eq_true rfl, Nat.le_of_ble_eq_true rfl⟩ rfl rfl rfl rfl rfl rfl (Nat.le_of_ble_eq_true rfl) ⟨Nat.le_of_ble_eq_true rfl, Nat.le_of_ble_eq_true rfl⟩ dX8_fewest_6 rfl ?_
  refine x_if_ne 14 12 hC dX8_fewest_9 (by decide) rfl (fun c_19 => ?_) (fun c_19 => ?_)
  · have hf := if_t hf c_19
    refine x_aload_n 15 0 hC dX8_fewest_14 rfl rfl rfl ?_
    obtain ⟨R_20, h_R_20, hf⟩ := bd_e hf
    refine x_callVv 18 0 0 [0, 1, 2, 5] [(a_this, .inr (8, [.ref a_s, r_kept, .int v_undos, r_known, r_whose, .ref a_lesser, .ref a_other, .int R_20.1, .ref a_sums, .ref a_weights, .ref a_row, .ref a_plan, .int v_planned])), (a_lesser, .inl (cI, 45, .inl R_20.2.1)), (a_other, .inl (cI, 45, .inl R_20.2.2)), (a_plan, .inl (cI, 4, .inl v_plan)), (a_row, .inl (cI, 5, .inl v_row)), (a_s, .inl (cJ, 613, .inr (.inl v_s))), (a_sums, .inl (cJ, 50, .inr (.inl v_sums))), (a_weights, .inl (cJ, 50, .inr (.inl v_weights)))] hC (As := []) (c_X8_look l D cI cJ cQ a_this a_lesser a_other a_s r_kept r_known r_whose (.ref a_sums) (.ref a_weights) (.ref a_row) (.ref a_plan) v_undos v_open v_planned v_lesser v_other v_s R_20 h_R_20) rfl rfl gX8_fewest_X8_look rfl ⟨rfl, rfl⟩ hd_X8_look ⟨Nat.le_of_ble_eq_true rfl, Nat.le_of_ble_eq_true rfl⟩ rfl rfl rfl rfl rfl rfl (Nat.le_of_ble_eq_true rfl) ⟨Nat.le_of_ble_eq_true rfl, Nat.le_of_ble_eq_true rfl⟩ dX8_fewest_15 rfl ?_
    refine x_iconst 19 hC (0 : Int32) dX8_fewest_18 rfl (by decide) ?_
    refine x_istore_n 20 [(2, .int (0 : Int32)), (0, .ref a_this), (1, .int p1)] hC dX8_fewest_19 rfl rfl rfl (by decide) rfl ?_
    refine x_lv [(0, .ref a_this), (1, .int p1), (2, .int (0 : Int32))] [1, 2, 0] rfl ?_
    exact J_20 fu R_20.1 v_planned R_20.2.1 R_20.2.2 v_plan v_row v_sums v_weights p1 (0 : Int32) hf
  · have hf := if_f hf c_19
    refine x_iconst 13 hC (-1 : Int32) dX8_fewest_12 rfl (by decide) ?_
    cases hf
    exact x_iret hC dX8_fewest_13 hQ rfl rfl

theorem hd_X8_plan : yX8_plan.cls = RX8 ∧ yX8_plan.cls ≠ "java/lang/invoke/MethodHandle" ∧ yX8_plan.cls ≠ "java/lang/invoke/VarHandle" ∧ (parseMethodDescriptor yX8_plan.desc).map (fun d => d.parameters.length) = some 1 := by decide +kernel
theorem in_X8_plan_X8 : ∀ w ∈ u_ws RX8 TX8 13, w ∈ wsX8_plan := fun w h => List.mem_cons_of_mem _ (List.mem_append_right _ h)
noncomputable def f_X8_plan (v_planned : Int32) (v_plan : Nat → Int32) (p1 : Int32) : Option (Int32) := bd (f_X8_in (p1.toInt64) (0 : Int64) ((v_planned - (1 : Int32)).toInt64)) fun R_1 => if R_1 = 0 then (some ((-4 : Int32))) else (ck p1 4 <| some ((v_plan p1.toNatClampNeg)))
set_option maxHeartbeats 4000000 in
set_option maxRecDepth 100000 in
theorem c_X8_plan (l : Launch) (D : va_G) (cI cJ cQ : ClassId) (a_this : Nat) (a_plan : Nat) (r_s : Value) (r_kept : Value) (r_known : Value) (r_whose : Value) (r_lesser : Value) (r_other : Value) (r_sums : Value) (r_weights : Value) (r_row : Value) (v_undos : Int32) (v_open : Int32) (v_planned : Int32) (v_plan : Nat → Int32) (p1 : Int32) (R0 : Int32) (hf : f_X8_plan v_planned v_plan p1 = some R0) : Ci l yX8_plan wsX8_plan ({ frames := 2, cells := 0, slots := 0, locals := 87 } : Room) D [(cI, .int), (cJ, .long), (cQ, .object "WhisperCrowd$State")] [.ref a_this, .int p1] [(a_this, .inr (8, [r_s, r_kept, .int v_undos, r_known, r_whose, r_lesser, r_other, .int v_open, r_sums, r_weights, r_row, .ref a_plan, .int v_planned])), (a_plan, .inl (cI, 4, .inl v_plan))] [(a_this, .inr (8, [r_s, r_kept, .int v_undos, r_known, r_whose, r_lesser, r_other, .int v_open, r_sums, r_weights, r_row, .ref a_plan, .int v_planned])), (a_plan, .inl (cI, 4, .inl v_plan))] R0 := by
  refine x_enti (cc := cX8_plan) (maxL := 2) (rt := (some .int)) (lv := [(0, .ref a_this), (1, .int p1)]) (by decide) rfl (Nat.le_of_ble_eq_true rfl) rfl ?_
  intro p e s m args below meth c A Q hQ hC
  unfold f_X8_plan at hf
  refine x_iload_n 1 1 hC dX8_plan_0 rfl rfl rfl ?_
  refine x_i2l 2 hC dX8_plan_1 rfl ?_
  refine x_lconst 3 hC (0 : Int64) dX8_plan_2 rfl (by decide) ?_
  refine x_aload_n 4 0 hC dX8_plan_3 rfl rfl rfl ?_
  refine x_get 7 0 12 hC in_X8_plan_X8 rfl rfl (by decide) (List.mem_of_getElem? (i := 1) (by decide +kernel)) rfl rfl dX8_plan_4 rfl ?_
  refine x_iconst 8 hC (1 : Int32) dX8_plan_7 rfl (by decide) ?_
  refine x_isub 9 hC dX8_plan_8 rfl ?_
  refine x_i2l 10 hC dX8_plan_9 rfl ?_
  obtain ⟨R_1, h_R_1, hf⟩ := bd_e hf
  refine x_callSi 13 3 [] [(a_this, .inr (8, [r_s, r_kept, .int v_undos, r_known, r_whose, r_lesser, r_other, .int v_open, r_sums, r_weights, r_row, .ref a_plan, .int v_planned])), (a_plan, .inl (cI, 4, .inl v_plan))] hC (As := [.long (p1.toInt64), .long (0 : Int64), .long ((v_planned - (1 : Int32)).toInt64)]) (c_X8_in l D cI cJ cQ (p1.toInt64) (0 : Int64) ((v_planned - (1 : Int32)).toInt64) R_1 h_R_1) gX8_plan_X8_in rfl ⟨rfl, rfl⟩ hd_X8_in ⟨Nat.le_of_ble_eq_true rfl, Nat.le_of_ble_eq_true rfl⟩ rfl rfl rfl rfl rfl rfl (Nat.le_of_ble_eq_true rfl) ⟨Nat.le_of_ble_eq_true rfl, Nat.le_of_ble_eq_true rfl⟩ dX8_plan_10 rfl ?_
  refine x_if_eq 25 16 hC dX8_plan_13 (by decide) rfl (fun c_2 => ?_) (fun c_2 => ?_)
  · have hf := if_t hf c_2
    refine x_bipush 27 hC (-4 : Int32) dX8_plan_25 rfl (by decide) ?_
    cases hf
    exact x_iret hC dX8_plan_27 hQ rfl rfl
  · have hf := if_f hf c_2
    refine x_aload_n 17 0 hC dX8_plan_16 rfl rfl rfl ?_
    refine x_get 20 0 11 hC in_X8_plan_X8 rfl rfl (by decide) (List.mem_of_getElem? (i := 2) (by decide +kernel)) rfl rfl dX8_plan_17 rfl ?_
    refine x_iload_n 21 1 hC dX8_plan_20 rfl rfl rfl ?_
    obtain ⟨h_3, hf⟩ := ck_e hf
    refine x_iald 22 1 0 hC rfl rfl h_3 dX8_plan_21 rfl ?_
    refine x_goto 27 hC dX8_plan_22 (by decide) ?_
    cases hf
    exact x_iret hC dX8_plan_27 hQ rfl rfl

theorem hd_X8_count : yX8_count.cls = RX8 ∧ yX8_count.cls ≠ "java/lang/invoke/MethodHandle" ∧ yX8_count.cls ≠ "java/lang/invoke/VarHandle" ∧ (parseMethodDescriptor yX8_count.desc).map (fun d => d.parameters.length) = some 1 := by decide +kernel
theorem in_X8_count_X8 : ∀ w ∈ u_ws RX8 TX8 13, w ∈ wsX8_count := fun w h => List.mem_cons_of_mem _ (List.mem_append_right _ h)
noncomputable def f_X8_count_c84 (k64 : Int32 → Int32 → Option (Int32)) (v_undos : Int32) (v_s : Nat → Int64) (k84_l3 : Int32) (k84_s0 : Int32) (k84_s1 : Int32) : Option (Int32) := nm (k84_s1 + k84_s0) fun x_1 => nm (k84_l3 + (1 : Int32)) fun x_2 => k64 x_1 x_2
noncomputable def f_X8_count_c64 (v_undos : Int32) (v_s : Nat → Int64) : Nat → Int32 → Int32 → Option (Int32)
  | 0, _, _ => none
  | n + 1, k64_l2, k64_l3 => if (8 : Int32) ≤ k64_l3 then (some (k64_l2)) else (bd (f_X8_isUnderWay v_s k64_l3) fun R_4 => if R_4 = 0 then (f_X8_count_c84 (fun k64_l2 k64_l3 => f_X8_count_c64 v_undos v_s n k64_l2 k64_l3) v_undos v_s k64_l3 (0 : Int32) k64_l2) else (f_X8_count_c84 (fun k64_l2 k64_l3 => f_X8_count_c64 v_undos v_s n k64_l2 k64_l3) v_undos v_s k64_l3 (1 : Int32) k64_l2))
noncomputable def f_X8_count (v_undos : Int32) (v_s : Nat → Int64) (p1 : Int32) : Option (Int32) := if p1 = (0 : Int32) then (ck (0 : Int32) 613 <| some (((v_s (0 : Int32).toNatClampNeg).toInt32))) else (if p1 = (1 : Int32) then (bd (f_X8_here v_s) fun R_9 => some (R_9)) else (if p1 = (2 : Int32) then (bd (f_X8_lines v_s) fun R_11 => some (R_11)) else (if p1 = (3 : Int32) then (f_X8_count_c64 v_undos v_s fu (0 : Int32) (0 : Int32)) else (if p1 = (4 : Int32) then (ck (2 : Int32) 613 <| some (((v_s (2 : Int32).toNatClampNeg).toInt32))) else (if p1 = (5 : Int32) then (some (v_undos)) else (if p1 = (6 : Int32) then (ck (1 : Int32) 613 <| some (((v_s (1 : Int32).toNatClampNeg).toInt32))) else (some ((-1 : Int32)))))))))
set_option maxHeartbeats 4000000 in
set_option maxRecDepth 100000 in
theorem c_X8_count (l : Launch) (D : va_G) (cI cJ cQ : ClassId) (a_this : Nat) (a_s : Nat) (r_kept : Value) (r_known : Value) (r_whose : Value) (r_lesser : Value) (r_other : Value) (r_sums : Value) (r_weights : Value) (r_row : Value) (r_plan : Value) (v_undos : Int32) (v_open : Int32) (v_planned : Int32) (v_s : Nat → Int64) (p1 : Int32) (R0 : Int32) (hf : f_X8_count v_undos v_s p1 = some R0) : Ci l yX8_count wsX8_count ({ frames := 5, cells := 0, slots := 0, locals := 157 } : Room) D [(cI, .int), (cJ, .long), (cQ, .object "WhisperCrowd$State")] [.ref a_this, .int p1] [(a_this, .inr (8, [.ref a_s, r_kept, .int v_undos, r_known, r_whose, r_lesser, r_other, .int v_open, r_sums, r_weights, r_row, r_plan, .int v_planned])), (a_s, .inl (cJ, 613, .inr (.inl v_s)))] [(a_this, .inr (8, [.ref a_s, r_kept, .int v_undos, r_known, r_whose, r_lesser, r_other, .int v_open, r_sums, r_weights, r_row, r_plan, .int v_planned])), (a_s, .inl (cJ, 613, .inr (.inl v_s)))] R0 := by
  refine x_enti (cc := cX8_count) (maxL := 4) (rt := (some .int)) (lv := [(0, .ref a_this), (1, .int p1)]) (by decide) rfl (Nat.le_of_ble_eq_true rfl) rfl ?_
  intro p e s m args below meth c A Q hQ hC
  have J_64 : ∀ (n : Nat) (k64_l2 : Int32) (k64_l3 : Int32), f_X8_count_c64 v_undos v_s n k64_l2 k64_l3 = some R0 → XW p l e ({ frames := 5, cells := 0, slots := 0, locals := 157 } : Room) s m args below meth c D A 4 0 0 Q [(a_this, .inr (8, [.ref a_s, r_kept, .int v_undos, r_known, r_whose, r_lesser, r_other, .int v_open, r_sums, r_weights, r_row, r_plan, .int v_planned])), (a_s, .inl (cJ, 613, .inr (.inl v_s)))] [] [(0, .ref a_this), (2, .int k64_l2), (3, .int k64_l3)] 64 [] := by
    intro n
    induction n with
    | zero => intro k64_l2 k64_l3 hf; exact nomatch (show (none : Option (Int32)) = some R0 from hf)
    | succ n_64 ih_64 =>
      have J_84 : ∀ (k84_l3 : Int32) (k84_s0 : Int32) (k84_s1 : Int32), f_X8_count_c84 (fun k64_l2 k64_l3 => f_X8_count_c64 v_undos v_s n_64 k64_l2 k64_l3) v_undos v_s k84_l3 k84_s0 k84_s1 = some R0 → XW p l e ({ frames := 5, cells := 0, slots := 0, locals := 157 } : Room) s m args below meth c D A 4 0 0 Q [(a_this, .inr (8, [.ref a_s, r_kept, .int v_undos, r_known, r_whose, r_lesser, r_other, .int v_open, r_sums, r_weights, r_row, r_plan, .int v_planned])), (a_s, .inl (cJ, 613, .inr (.inl v_s)))] [] [(0, .ref a_this), (3, .int k84_l3)] 84 [.int k84_s0, .int k84_s1] := by
        intro k84_l3 k84_s0 k84_s1 hf
        unfold f_X8_count_c84 at hf
        refine x_iadd 85 hC dX8_count_84 rfl ?_
        obtain ⟨x_1, e_x_1, hf⟩ := nmx_e hf
        refine x_istore_n 86 [(2, .int x_1), (0, .ref a_this), (3, .int k84_l3)] hC dX8_count_85 rfl rfl e_x_1 (by decide) rfl ?_
        obtain ⟨x_2, e_x_2, hf⟩ := nmx_e hf
        refine x_iinc 89 2 [(3, .int x_2), (2, .int x_1), (0, .ref a_this)] hC dX8_count_86 rfl rfl e_x_2 (by decide) (by decide) rfl ?_
        refine x_goto 64 hC dX8_count_89 (by decide) ?_
        refine x_lv [(0, .ref a_this), (2, .int x_1), (3, .int x_2)] [2, 1, 0] rfl ?_
        exact ih_64 x_1 x_2 hf
      intro k64_l2 k64_l3 hf
      unfold f_X8_count_c64 at hf
      refine x_iload_n 65 2 hC dX8_count_64 rfl rfl rfl ?_
      refine x_bipush 67 hC (8 : Int32) dX8_count_65 rfl (by decide) ?_
      refine x_icmp_ge 92 70 hC dX8_count_67 (by decide) rfl (fun c_3 => ?_) (fun c_3 => ?_)
      · have hf := if_t hf c_3
        refine x_iload_n 93 1 hC dX8_count_92 rfl rfl rfl ?_
        cases hf
        exact x_iret hC dX8_count_93 hQ rfl rfl
      · have hf := if_f hf c_3
        refine x_iload_n 71 1 hC dX8_count_70 rfl rfl rfl ?_
        refine x_aload_n 72 0 hC dX8_count_71 rfl rfl rfl ?_
        refine x_iload_n 73 2 hC dX8_count_72 rfl rfl rfl ?_
        obtain ⟨R_4, h_R_4, hf⟩ := bd_e hf
        refine x_callVi 76 0 1 [0, 1] [(a_this, .inr (8, [.ref a_s, r_kept, .int v_undos, r_known, r_whose, r_lesser, r_other, .int v_open, r_sums, r_weights, r_row, r_plan, .int v_planned])), (a_s, .inl (cJ, 613, .inr (.inl v_s)))] hC (As := [.int k64_l3]) (c_X8_isUnderWay l D cI cJ cQ a_this a_s r_kept r_known r_whose r_lesser r_other r_sums r_weights r_row r_plan v_undos v_open v_planned v_s k64_l3 R_4 h_R_4) rfl rfl gX8_count_X8_isUnderWay rfl ⟨rfl, rfl⟩ hd_X8_isUnderWay ⟨Nat.le_of_ble_eq_true rfl, Nat.le_of_ble_eq_true rfl⟩ rfl rfl rfl rfl rfl rfl (Nat.le_of_ble_eq_true rfl) ⟨Nat.le_of_ble_eq_true rfl, Nat.le_of_ble_eq_true rfl⟩ dX8_count_73 rfl ?_
        refine x_if_eq 83 79 hC dX8_count_76 (by decide) rfl (fun c_5 => ?_) (fun c_5 => ?_)
        · have hf := if_t hf c_5
          refine x_iconst 84 hC (0 : Int32) dX8_count_83 rfl (by decide) ?_
          refine x_lv [(0, .ref a_this), (3, .int k64_l3)] [0, 2] rfl ?_
          exact J_84 k64_l3 (0 : Int32) k64_l2 hf
        · have hf := if_f hf c_5
          refine x_iconst 80 hC (1 : Int32) dX8_count_79 rfl (by decide) ?_
          refine x_goto 84 hC dX8_count_80 (by decide) ?_
          refine x_lv [(0, .ref a_this), (3, .int k64_l3)] [0, 2] rfl ?_
          exact J_84 k64_l3 (1 : Int32) k64_l2 hf
  unfold f_X8_count at hf
  refine x_iconst 1 hC (0 : Int32) dX8_count_0 rfl (by decide) ?_
  refine x_istore_n 2 [(2, .int (0 : Int32)), (0, .ref a_this), (1, .int p1)] hC dX8_count_1 rfl rfl rfl (by decide) rfl ?_
  refine x_iload_n 3 2 hC dX8_count_2 rfl rfl rfl ?_
  by_cases c_6 : p1 = (0 : Int32)
  · have hf := if_t hf c_6
    refine x_tabIn 44 hC (0 : Int32) c_6 41 dX8_count_3 (by decide) (by decide) rfl (by decide) ?_
    refine x_aload_n 45 1 hC dX8_count_44 rfl rfl rfl ?_
    refine x_get 48 0 0 hC in_X8_count_X8 rfl rfl (by decide) (List.mem_of_getElem? (i := 1) (by decide +kernel)) rfl rfl dX8_count_45 rfl ?_
    refine x_iconst 49 hC (0 : Int32) dX8_count_48 rfl (by decide) ?_
    obtain ⟨h_7, hf⟩ := ck_e hf
    refine x_lald 50 1 1 hC rfl rfl h_7 dX8_count_49 rfl ?_
    refine x_l2i 51 hC dX8_count_50 rfl ?_
    cases hf
    exact x_iret hC dX8_count_51 hQ rfl rfl
  · have hf := if_f hf c_6
    by_cases c_8 : p1 = (1 : Int32)
    · have hf := if_t hf c_8
      refine x_tabIn 52 hC (1 : Int32) c_8 49 dX8_count_3 (by decide) (by decide) rfl (by decide) ?_
      refine x_aload_n 53 1 hC dX8_count_52 rfl rfl rfl ?_
      obtain ⟨R_9, h_R_9, hf⟩ := bd_e hf
      refine x_callVi 56 0 0 [0, 1] [(a_this, .inr (8, [.ref a_s, r_kept, .int v_undos, r_known, r_whose, r_lesser, r_other, .int v_open, r_sums, r_weights, r_row, r_plan, .int v_planned])), (a_s, .inl (cJ, 613, .inr (.inl v_s)))] hC (As := []) (c_X8_here l D cI cJ cQ a_this a_s r_kept r_known r_whose r_lesser r_other r_sums r_weights r_row r_plan v_undos v_open v_planned v_s R_9 h_R_9) rfl rfl gX8_count_X8_here rfl ⟨rfl, rfl⟩ hd_X8_here ⟨Nat.le_of_ble_eq_true rfl, Nat.le_of_ble_eq_true rfl⟩ rfl rfl rfl rfl rfl rfl (Nat.le_of_ble_eq_true rfl) ⟨Nat.le_of_ble_eq_true rfl, Nat.le_of_ble_eq_true rfl⟩ dX8_count_53 rfl ?_
      cases hf
      exact x_iret hC dX8_count_56 hQ rfl rfl
    · have hf := if_f hf c_8
      by_cases c_10 : p1 = (2 : Int32)
      · have hf := if_t hf c_10
        refine x_tabIn 57 hC (2 : Int32) c_10 54 dX8_count_3 (by decide) (by decide) rfl (by decide) ?_
        refine x_aload_n 58 1 hC dX8_count_57 rfl rfl rfl ?_
        obtain ⟨R_11, h_R_11, hf⟩ := bd_e hf
        refine x_callVi 61 0 0 [0, 1] [(a_this, .inr (8, [.ref a_s, r_kept, .int v_undos, r_known, r_whose, r_lesser, r_other, .int v_open, r_sums, r_weights, r_row, r_plan, .int v_planned])), (a_s, .inl (cJ, 613, .inr (.inl v_s)))] hC (As := []) (c_X8_lines l D cI cJ cQ a_this a_s r_kept r_known r_whose r_lesser r_other r_sums r_weights r_row r_plan v_undos v_open v_planned v_s R_11 h_R_11) rfl rfl gX8_count_X8_lines rfl ⟨rfl, rfl⟩ hd_X8_lines ⟨Nat.le_of_ble_eq_true rfl, Nat.le_of_ble_eq_true rfl⟩ rfl rfl rfl rfl rfl rfl (Nat.le_of_ble_eq_true rfl) ⟨Nat.le_of_ble_eq_true rfl, Nat.le_of_ble_eq_true rfl⟩ dX8_count_58 rfl ?_
        cases hf
        exact x_iret hC dX8_count_61 hQ rfl rfl
      · have hf := if_f hf c_10
        by_cases c_12 : p1 = (3 : Int32)
        · have hf := if_t hf c_12
          refine x_tabIn 62 hC (3 : Int32) c_12 59 dX8_count_3 (by decide) (by decide) rfl (by decide) ?_
          refine x_iconst 63 hC (0 : Int32) dX8_count_62 rfl (by decide) ?_
          refine x_istore_n 64 [(3, .int (0 : Int32)), (2, .int (0 : Int32)), (0, .ref a_this), (1, .int p1)] hC dX8_count_63 rfl rfl rfl (by decide) rfl ?_
          refine x_lv [(0, .ref a_this), (2, .int (0 : Int32)), (3, .int (0 : Int32))] [2, 1, 0] rfl ?_
          exact J_64 fu (0 : Int32) (0 : Int32) hf
        · have hf := if_f hf c_12
          by_cases c_13 : p1 = (4 : Int32)
          · have hf := if_t hf c_13
            refine x_tabIn 94 hC (4 : Int32) c_13 91 dX8_count_3 (by decide) (by decide) rfl (by decide) ?_
            refine x_aload_n 95 1 hC dX8_count_94 rfl rfl rfl ?_
            refine x_get 98 0 0 hC in_X8_count_X8 rfl rfl (by decide) (List.mem_of_getElem? (i := 1) (by decide +kernel)) rfl rfl dX8_count_95 rfl ?_
            refine x_iconst 99 hC (2 : Int32) dX8_count_98 rfl (by decide) ?_
            obtain ⟨h_14, hf⟩ := ck_e hf
            refine x_lald 100 1 1 hC rfl rfl h_14 dX8_count_99 rfl ?_
            refine x_l2i 101 hC dX8_count_100 rfl ?_
            cases hf
            exact x_iret hC dX8_count_101 hQ rfl rfl
          · have hf := if_f hf c_13
            by_cases c_15 : p1 = (5 : Int32)
            · have hf := if_t hf c_15
              refine x_tabIn 102 hC (5 : Int32) c_15 99 dX8_count_3 (by decide) (by decide) rfl (by decide) ?_
              refine x_aload_n 103 1 hC dX8_count_102 rfl rfl rfl ?_
              refine x_get 106 0 2 hC in_X8_count_X8 rfl rfl (by decide) (List.mem_of_getElem? (i := 2) (by decide +kernel)) rfl rfl dX8_count_103 rfl ?_
              cases hf
              exact x_iret hC dX8_count_106 hQ rfl rfl
            · have hf := if_f hf c_15
              by_cases c_16 : p1 = (6 : Int32)
              · have hf := if_t hf c_16
                refine x_tabIn 107 hC (6 : Int32) c_16 104 dX8_count_3 (by decide) (by decide) rfl (by decide) ?_
                refine x_aload_n 108 1 hC dX8_count_107 rfl rfl rfl ?_
                refine x_get 111 0 0 hC in_X8_count_X8 rfl rfl (by decide) (List.mem_of_getElem? (i := 1) (by decide +kernel)) rfl rfl dX8_count_108 rfl ?_
                refine x_iconst 112 hC (1 : Int32) dX8_count_111 rfl (by decide) ?_
                obtain ⟨h_17, hf⟩ := ck_e hf
                refine x_lald 113 1 1 hC rfl rfl h_17 dX8_count_112 rfl ?_
                refine x_l2i 114 hC dX8_count_113 rfl ?_
                cases hf
                exact x_iret hC dX8_count_114 hQ rfl rfl
              · have hf := if_f hf c_16
                have t_c_6 : p1.toInt ≠ 0 := x_neI c_6 (by decide)
                have t_c_8 : p1.toInt ≠ 1 := x_neI c_8 (by decide)
                have t_c_10 : p1.toInt ≠ 2 := x_neI c_10 (by decide)
                have t_c_12 : p1.toInt ≠ 3 := x_neI c_12 (by decide)
                have t_c_13 : p1.toInt ≠ 4 := x_neI c_13 (by decide)
                have t_c_15 : p1.toInt ≠ 5 := x_neI c_15 (by decide)
                have t_c_16 : p1.toInt ≠ 6 := x_neI c_16 (by decide)
                refine x_tabOut 115 hC dX8_count_3 (by omega) (by decide) ?_
                refine x_iconst 116 hC (-1 : Int32) dX8_count_115 rfl (by decide) ?_
                cases hf
                exact x_iret hC dX8_count_116 hQ rfl rfl
