theorem hd_X8_look : yX8_look.cls = RX8 ∧ yX8_look.cls ≠ "java/lang/invoke/MethodHandle" ∧ yX8_look.cls ≠ "java/lang/invoke/VarHandle" ∧ (parseMethodDescriptor yX8_look.desc).map (fun d => d.parameters.length) = some 0 := by decide +kernel
theorem in_X8_look_X8 : ∀ w ∈ u_ws RX8 TX8 13, w ∈ wsX8_look := fun w h => List.mem_cons_of_mem _ (List.mem_append_right _ h)
noncomputable def f_X8_look_c78 (k7 : Int32 → (Nat → Int32) → (Nat → Int32) → Int32 → Option (Int32 × (Nat → Int32) × (Nat → Int32))) (k17 : Int32 → (Nat → Int32) → (Nat → Int32) → Int32 → Int32 → Option (Int32 × (Nat → Int32) × (Nat → Int32))) (v_s : Nat → Int64) (k78_open : Int32) (k78_lesser : Nat → Int32) (k78_other : Nat → Int32) (k78_l1 : Int32) (k78_l2 : Int32) : Option (Int32 × (Nat → Int32) × (Nat → Int32)) := nm (k78_l2 + (1 : Int32)) fun x_1 => k17 k78_open k78_lesser k78_other k78_l1 x_1
noncomputable def f_X8_look_c17 (k7 : Int32 → (Nat → Int32) → (Nat → Int32) → Int32 → Option (Int32 × (Nat → Int32) × (Nat → Int32))) (v_s : Nat → Int64) : Nat → Int32 → (Nat → Int32) → (Nat → Int32) → Int32 → Int32 → Option (Int32 × (Nat → Int32) × (Nat → Int32))
  | 0, _, _, _, _, _ => none
  | n + 1, k17_open, k17_lesser, k17_other, k17_l1, k17_l2 => if (10 : Int32) ≤ k17_l2 then (nm (k17_l1 + (1 : Int32)) fun x_3 => k7 k17_open k17_lesser k17_other x_3) else (bd (f_X8_areJoined v_s k17_l1 k17_l2) fun R_4 => if R_4 = 0 then (f_X8_look_c78 k7 (fun k17_open k17_lesser k17_other k17_l1 k17_l2 => f_X8_look_c17 k7 v_s n k17_open k17_lesser k17_other k17_l1 k17_l2) v_s k17_open k17_lesser k17_other k17_l1 k17_l2) else (bd (f_X8_isHere v_s k17_l1) fun R_6 => if R_6 = 0 then (f_X8_look_c78 k7 (fun k17_open k17_lesser k17_other k17_l1 k17_l2 => f_X8_look_c17 k7 v_s n k17_open k17_lesser k17_other k17_l1 k17_l2) v_s k17_open k17_lesser k17_other k17_l1 k17_l2) else (bd (f_X8_isHere v_s k17_l2) fun R_8 => if R_8 = 0 then (f_X8_look_c78 k7 (fun k17_open k17_lesser k17_other k17_l1 k17_l2 => f_X8_look_c17 k7 v_s n k17_open k17_lesser k17_other k17_l1 k17_l2) v_s k17_open k17_lesser k17_other k17_l1 k17_l2) else (ck k17_open 45 <| nm (upd k17_lesser k17_open.toNatClampNeg k17_l1) fun g_11 => ck k17_open 45 <| nm (upd k17_other k17_open.toNatClampNeg k17_l2) fun g_13 => nm (k17_open + (1 : Int32)) fun x_14 => f_X8_look_c78 k7 (fun k17_open k17_lesser k17_other k17_l1 k17_l2 => f_X8_look_c17 k7 v_s n k17_open k17_lesser k17_other k17_l1 k17_l2) v_s x_14 g_11 g_13 k17_l1 k17_l2))))
noncomputable def f_X8_look_c7 (v_s : Nat → Int64) : Nat → Int32 → (Nat → Int32) → (Nat → Int32) → Int32 → Option (Int32 × (Nat → Int32) × (Nat → Int32))
  | 0, _, _, _, _ => none
  | n + 1, k7_open, k7_lesser, k7_other, k7_l1 => if (10 : Int32) ≤ k7_l1 then (some (k7_open, k7_lesser, k7_other)) else (nm (k7_l1 + (1 : Int32)) fun x_16 => f_X8_look_c17 (fun k7_open k7_lesser k7_other k7_l1 => f_X8_look_c7 v_s n k7_open k7_lesser k7_other k7_l1) v_s fu k7_open k7_lesser k7_other k7_l1 x_16)
noncomputable def f_X8_look (v_s : Nat → Int64) (v_open : Int32) (v_lesser : Nat → Int32) (v_other : Nat → Int32) : Option (Int32 × (Nat → Int32) × (Nat → Int32)) := f_X8_look_c7 v_s fu (0 : Int32) v_lesser v_other (0 : Int32)
set_option maxHeartbeats 4000000 in
set_option maxRecDepth 100000 in
theorem c_X8_look (l : Launch) (D : va_G) (cI cJ cQ : ClassId) (a_this : Nat) (a_lesser : Nat) (a_other : Nat) (a_s : Nat) (r_kept : Value) (r_known : Value) (r_whose : Value) (r_sums : Value) (r_weights : Value) (r_row : Value) (r_plan : Value) (v_undos : Int32) (v_open : Int32) (v_planned : Int32) (v_lesser : Nat → Int32) (v_other : Nat → Int32) (v_s : Nat → Int64) (R0 : Int32 × (Nat → Int32) × (Nat → Int32)) (hf : f_X8_look v_s v_open v_lesser v_other = some R0) : Cv l yX8_look wsX8_look ({ frames := 4, cells := 0, slots := 0, locals := 133 } : Room) D [(cI, .int), (cJ, .long), (cQ, .object "WhisperCrowd$State")] [.ref a_this] [(a_this, .inr (8, [.ref a_s, r_kept, .int v_undos, r_known, r_whose, .ref a_lesser, .ref a_other, .int v_open, r_sums, r_weights, r_row, r_plan, .int v_planned])), (a_lesser, .inl (cI, 45, .inl v_lesser)), (a_other, .inl (cI, 45, .inl v_other)), (a_s, .inl (cJ, 613, .inr (.inl v_s)))] [(a_this, .inr (8, [.ref a_s, r_kept, .int v_undos, r_known, r_whose, .ref a_lesser, .ref a_other, .int R0.1, r_sums, r_weights, r_row, r_plan, .int v_planned])), (a_lesser, .inl (cI, 45, .inl R0.2.1)), (a_other, .inl (cI, 45, .inl R0.2.2)), (a_s, .inl (cJ, 613, .inr (.inl v_s)))] := by
  refine x_entv (cc := cX8_look) (maxL := 3) (rt := none) (lv := [(0, .ref a_this)]) (by decide) rfl (Nat.le_of_ble_eq_true rfl) rfl ?_
  intro p e s m args below meth c A Q hQ hC
  have J_7 : ∀ (n : Nat) (k7_open : Int32) (k7_lesser : Nat → Int32) (k7_other : Nat → Int32) (k7_l1 : Int32), f_X8_look_c7 v_s n k7_open k7_lesser k7_other k7_l1 = some R0 → XW p l e ({ frames := 4, cells := 0, slots := 0, locals := 133 } : Room) s m args below meth c D A 3 0 0 Q [(a_this, .inr (8, [.ref a_s, r_kept, .int v_undos, r_known, r_whose, .ref a_lesser, .ref a_other, .int k7_open, r_sums, r_weights, r_row, r_plan, .int v_planned])), (a_lesser, .inl (cI, 45, .inl k7_lesser)), (a_other, .inl (cI, 45, .inl k7_other)), (a_s, .inl (cJ, 613, .inr (.inl v_s)))] [] [(0, .ref a_this), (1, .int k7_l1)] 7 [] := by
    intro n
    induction n with
    | zero => intro k7_open k7_lesser k7_other k7_l1 hf; exact nomatch (show (none : Option (Int32 × (Nat → Int32) × (Nat → Int32))) = some R0 from hf)
    | succ n_7 ih_7 =>
      have J_17 : ∀ (n : Nat) (k17_open : Int32) (k17_lesser : Nat → Int32) (k17_other : Nat → Int32) (k17_l1 : Int32) (k17_l2 : Int32), f_X8_look_c17 (fun k7_open k7_lesser k7_other k7_l1 => f_X8_look_c7 v_s n_7 k7_open k7_lesser k7_other k7_l1) v_s n k17_open k17_lesser k17_other k17_l1 k17_l2 = some R0 → XW p l e ({ frames := 4, cells := 0, slots := 0, locals := 133 } : Room) s m args below meth c D A 3 0 0 Q [(a_this, .inr (8, [.ref a_s, r_kept, .int v_undos, r_known, r_whose, .ref a_lesser, .ref a_other, .int k17_open, r_sums, r_weights, r_row, r_plan, .int v_planned])), (a_lesser, .inl (cI, 45, .inl k17_lesser)), (a_other, .inl (cI, 45, .inl k17_other)), (a_s, .inl (cJ, 613, .inr (.inl v_s)))] [] [(0, .ref a_this), (1, .int k17_l1), (2, .int k17_l2)] 17 [] := by
        intro n
        induction n with
        | zero => intro k17_open k17_lesser k17_other k17_l1 k17_l2 hf; exact nomatch (show (none : Option (Int32 × (Nat → Int32) × (Nat → Int32))) = some R0 from hf)
        | succ n_17 ih_17 =>
          have J_78 : ∀ (k78_open : Int32) (k78_lesser : Nat → Int32) (k78_other : Nat → Int32) (k78_l1 : Int32) (k78_l2 : Int32), f_X8_look_c78 (fun k7_open k7_lesser k7_other k7_l1 => f_X8_look_c7 v_s n_7 k7_open k7_lesser k7_other k7_l1) (fun k17_open k17_lesser k17_other k17_l1 k17_l2 => f_X8_look_c17 (fun k7_open k7_lesser k7_other k7_l1 => f_X8_look_c7 v_s n_7 k7_open k7_lesser k7_other k7_l1) v_s n_17 k17_open k17_lesser k17_other k17_l1 k17_l2) v_s k78_open k78_lesser k78_other k78_l1 k78_l2 = some R0 → XW p l e ({ frames := 4, cells := 0, slots := 0, locals := 133 } : Room) s m args below meth c D A 3 0 0 Q [(a_this, .inr (8, [.ref a_s, r_kept, .int v_undos, r_known, r_whose, .ref a_lesser, .ref a_other, .int k78_open, r_sums, r_weights, r_row, r_plan, .int v_planned])), (a_lesser, .inl (cI, 45, .inl k78_lesser)), (a_other, .inl (cI, 45, .inl k78_other)), (a_s, .inl (cJ, 613, .inr (.inl v_s)))] [] [(0, .ref a_this), (1, .int k78_l1), (2, .int k78_l2)] 78 [] := by
            intro k78_open k78_lesser k78_other k78_l1 k78_l2 hf
            unfold f_X8_look_c78 at hf
            obtain ⟨x_1, e_x_1, hf⟩ := nmx_e hf
            refine x_iinc 81 2 [(2, .int x_1), (0, .ref a_this), (1, .int k78_l1)] hC dX8_look_78 rfl rfl e_x_1 (by decide) (by decide) rfl ?_
            refine x_goto 17 hC dX8_look_81 (by decide) ?_
            refine x_lv [(0, .ref a_this), (1, .int k78_l1), (2, .int x_1)] [1, 2, 0] rfl ?_
            exact ih_17 k78_open k78_lesser k78_other k78_l1 x_1 hf
          intro k17_open k17_lesser k17_other k17_l1 k17_l2 hf
          unfold f_X8_look_c17 at hf
          refine x_iload_n 18 2 hC dX8_look_17 rfl rfl rfl ?_
          refine x_bipush 20 hC (10 : Int32) dX8_look_18 rfl (by decide) ?_
          refine x_icmp_ge 84 23 hC dX8_look_20 (by decide) rfl (fun c_2 => ?_) (fun c_2 => ?_)
          · have hf := if_t hf c_2
            obtain ⟨x_3, e_x_3, hf⟩ := nmx_e hf
            refine x_iinc 87 1 [(1, .int x_3), (0, .ref a_this), (2, .int k17_l2)] hC dX8_look_84 rfl rfl e_x_3 (by decide) (by decide) rfl ?_
            refine x_goto 7 hC dX8_look_87 (by decide) ?_
            refine x_lv [(0, .ref a_this), (1, .int x_3)] [1, 0] rfl ?_
            exact ih_7 k17_open k17_lesser k17_other x_3 hf
          · have hf := if_f hf c_2
            refine x_aload_n 24 0 hC dX8_look_23 rfl rfl rfl ?_
            refine x_iload_n 25 1 hC dX8_look_24 rfl rfl rfl ?_
            refine x_iload_n 26 2 hC dX8_look_25 rfl rfl rfl ?_
            obtain ⟨R_4, h_R_4, hf⟩ := bd_e hf
            refine x_callVi 29 0 2 [0, 3] [(a_this, .inr (8, [.ref a_s, r_kept, .int v_undos, r_known, r_whose, .ref a_lesser, .ref a_other, .int k17_open, r_sums, r_weights, r_row, r_plan, .int v_planned])), (a_lesser, .inl (cI, 45, .inl k17_lesser)), (a_other, .inl (cI, 45, .inl k17_other)), (a_s, .inl (cJ, 613, .inr (.inl v_s)))] hC (As := [.int k17_l1, .int k17_l2]) (c_X8_areJoined l D cI cJ cQ a_this a_s r_kept r_known r_whose (.ref a_lesser) (.ref a_other) r_sums r_weights r_row r_plan v_undos k17_open v_planned v_s k17_l1 k17_l2 R_4 h_R_4) rfl rfl gX8_look_X8_areJoined rfl ⟨rfl, rfl⟩ hd_X8_areJoined ⟨Nat.le_of_ble_eq_true rfl, Nat.le_of_ble_eq_true rfl⟩ rfl rfl rfl rfl rfl rfl (Nat.le_of_ble_eq_true rfl) ⟨Nat.le_of_ble_eq_true rfl, Nat.le_of_ble_eq_true rfl⟩ dX8_look_26 rfl ?_
            refine x_if_eq 78 32 hC dX8_look_29 (by decide) rfl (fun c_5 => ?_) (fun c_5 => ?_)
            · have hf := if_t hf c_5
              refine x_lv [(0, .ref a_this), (1, .int k17_l1), (2, .int k17_l2)] [0, 1, 2] rfl ?_
              exact J_78 k17_open k17_lesser k17_other k17_l1 k17_l2 hf
            · have hf := if_f hf c_5
              refine x_aload_n 33 0 hC dX8_look_32 rfl rfl rfl ?_
              refine x_iload_n 34 1 hC dX8_look_33 rfl rfl rfl ?_
              obtain ⟨R_6, h_R_6, hf⟩ := bd_e hf
              refine x_callVi 37 0 1 [0, 3] [(a_this, .inr (8, [.ref a_s, r_kept, .int v_undos, r_known, r_whose, .ref a_lesser, .ref a_other, .int k17_open, r_sums, r_weights, r_row, r_plan, .int v_planned])), (a_lesser, .inl (cI, 45, .inl k17_lesser)), (a_other, .inl (cI, 45, .inl k17_other)), (a_s, .inl (cJ, 613, .inr (.inl v_s)))] hC (As := [.int k17_l1]) (c_X8_isHere l D cI cJ cQ a_this a_s r_kept r_known r_whose (.ref a_lesser) (.ref a_other) r_sums r_weights r_row r_plan v_undos k17_open v_planned v_s k17_l1 R_6 h_R_6) rfl rfl gX8_look_X8_isHere rfl ⟨rfl, rfl⟩ hd_X8_isHere ⟨Nat.le_of_ble_eq_true rfl, Nat.le_of_ble_eq_true rfl⟩ rfl rfl rfl rfl rfl rfl (Nat.le_of_ble_eq_true rfl) ⟨Nat.le_of_ble_eq_true rfl, Nat.le_of_ble_eq_true rfl⟩ dX8_look_34 rfl ?_
              refine x_if_eq 78 40 hC dX8_look_37 (by decide) rfl (fun c_7 => ?_) (fun c_7 => ?_)
              · have hf := if_t hf c_7
                refine x_lv [(0, .ref a_this), (1, .int k17_l1), (2, .int k17_l2)] [0, 1, 2] rfl ?_
                exact J_78 k17_open k17_lesser k17_other k17_l1 k17_l2 hf
              · have hf := if_f hf c_7
                refine x_aload_n 41 0 hC dX8_look_40 rfl rfl rfl ?_
                refine x_iload_n 42 2 hC dX8_look_41 rfl rfl rfl ?_
                obtain ⟨R_8, h_R_8, hf⟩ := bd_e hf
                refine x_callVi 45 0 1 [0, 3] [(a_this, .inr (8, [.ref a_s, r_kept, .int v_undos, r_known, r_whose, .ref a_lesser, .ref a_other, .int k17_open, r_sums, r_weights, r_row, r_plan, .int v_planned])), (a_lesser, .inl (cI, 45, .inl k17_lesser)), (a_other, .inl (cI, 45, .inl k17_other)), (a_s, .inl (cJ, 613, .inr (.inl v_s)))] hC (As := [.int k17_l2]) (c_X8_isHere l D cI cJ cQ a_this a_s r_kept r_known r_whose (.ref a_lesser) (.ref a_other) r_sums r_weights r_row r_plan v_undos k17_open v_planned v_s k17_l2 R_8 h_R_8) rfl rfl gX8_look_X8_isHere rfl ⟨rfl, rfl⟩ hd_X8_isHere ⟨Nat.le_of_ble_eq_true rfl, Nat.le_of_ble_eq_true rfl⟩ rfl rfl rfl rfl rfl rfl (Nat.le_of_ble_eq_true rfl) ⟨Nat.le_of_ble_eq_true rfl, Nat.le_of_ble_eq_true rfl⟩ dX8_look_42 rfl ?_
                refine x_if_eq 78 48 hC dX8_look_45 (by decide) rfl (fun c_9 => ?_) (fun c_9 => ?_)
                · have hf := if_t hf c_9
                  refine x_lv [(0, .ref a_this), (1, .int k17_l1), (2, .int k17_l2)] [0, 1, 2] rfl ?_
                  exact J_78 k17_open k17_lesser k17_other k17_l1 k17_l2 hf
                · have hf := if_f hf c_9
                  refine x_aload_n 49 0 hC dX8_look_48 rfl rfl rfl ?_
                  refine x_get 52 0 5 hC in_X8_look_X8 rfl rfl (by decide) (List.mem_of_getElem? (i := 2) (by decide +kernel)) rfl rfl dX8_look_49 rfl ?_
                  refine x_aload_n 53 0 hC dX8_look_52 rfl rfl rfl ?_
                  refine x_get 56 0 7 hC in_X8_look_X8 rfl rfl (by decide) (List.mem_of_getElem? (i := 1) (by decide +kernel)) rfl rfl dX8_look_53 rfl ?_
                  refine x_iload_n 57 1 hC dX8_look_56 rfl rfl rfl ?_
                  obtain ⟨h_10, hf⟩ := ck_e hf
                  obtain ⟨g_11, e_g_11, hf⟩ := nmx_e hf
                  refine x_iast 58 1 0 [(a_this, .inr (8, [.ref a_s, r_kept, .int v_undos, r_known, r_whose, .ref a_lesser, .ref a_other, .int k17_open, r_sums, r_weights, r_row, r_plan, .int v_planned])), (a_lesser, .inl (cI, 45, .inl g_11)), (a_other, .inl (cI, 45, .inl k17_other)), (a_s, .inl (cJ, 613, .inr (.inl v_s)))] hC rfl rfl h_10 e_g_11 rfl dX8_look_57 rfl ?_
                  refine x_aload_n 59 0 hC dX8_look_58 rfl rfl rfl ?_
                  refine x_get 62 0 6 hC in_X8_look_X8 rfl rfl (by decide) (List.mem_of_getElem? (i := 3) (by decide +kernel)) rfl rfl dX8_look_59 rfl ?_
                  refine x_aload_n 63 0 hC dX8_look_62 rfl rfl rfl ?_
                  refine x_get 66 0 7 hC in_X8_look_X8 rfl rfl (by decide) (List.mem_of_getElem? (i := 1) (by decide +kernel)) rfl rfl dX8_look_63 rfl ?_
                  refine x_iload_n 67 2 hC dX8_look_66 rfl rfl rfl ?_
                  obtain ⟨h_12, hf⟩ := ck_e hf
                  obtain ⟨g_13, e_g_13, hf⟩ := nmx_e hf
                  refine x_iast 68 2 0 [(a_this, .inr (8, [.ref a_s, r_kept, .int v_undos, r_known, r_whose, .ref a_lesser, .ref a_other, .int k17_open, r_sums, r_weights, r_row, r_plan, .int v_planned])), (a_lesser, .inl (cI, 45, .inl g_11)), (a_other, .inl (cI, 45, .inl g_13)), (a_s, .inl (cJ, 613, .inr (.inl v_s)))] hC rfl rfl h_12 e_g_13 rfl dX8_look_67 rfl ?_
                  refine x_aload_n 69 0 hC dX8_look_68 rfl rfl rfl ?_
                  refine x_dup 70 hC dX8_look_69 rfl rfl ?_
                  refine x_get 73 0 7 hC in_X8_look_X8 rfl rfl (by decide) (List.mem_of_getElem? (i := 1) (by decide +kernel)) rfl rfl dX8_look_70 rfl ?_
                  refine x_iconst 74 hC (1 : Int32) dX8_look_73 rfl (by decide) ?_
                  refine x_iadd 75 hC dX8_look_74 rfl ?_
                  obtain ⟨x_14, e_x_14, hf⟩ := nmx_e hf
                  refine x_put 78 0 7 [(a_this, .inr (8, [.ref a_s, r_kept, .int v_undos, r_known, r_whose, .ref a_lesser, .ref a_other, .int x_14, r_sums, r_weights, r_row, r_plan, .int v_planned])), (a_lesser, .inl (cI, 45, .inl g_11)), (a_other, .inl (cI, 45, .inl g_13)), (a_s, .inl (cJ, 613, .inr (.inl v_s)))] hC in_X8_look_X8 tyX8_ok nmX8 rfl rfl (by decide) (List.mem_of_getElem? (i := 1) (by decide +kernel)) rfl rfl rfl (congrArg Value.int e_x_14) rfl rfl (Nat.le_of_ble_eq_true rfl) rfl dX8_look_75 rfl ?_
                  refine x_lv [(0, .ref a_this), (1, .int k17_l1), (2, .int k17_l2)] [0, 1, 2] rfl ?_
                  exact J_78 x_14 g_11 g_13 k17_l1 k17_l2 hf
      intro k7_open k7_lesser k7_other k7_l1 hf
      unfold f_X8_look_c7 at hf
      refine x_iload_n 8 1 hC dX8_look_7 rfl rfl rfl ?_
      refine x_bipush 10 hC (10 : Int32) dX8_look_8 rfl (by decide) ?_
      refine x_icmp_ge 90 13 hC dX8_look_10 (by decide) rfl (fun c_15 => ?_) (fun c_15 => ?_)
      · have hf := if_t hf c_15
        cases hf
        exact x_vret hC dX8_look_90 hQ rfl
      · have hf := if_f hf c_15
        refine x_iload_n 14 1 hC dX8_look_13 rfl rfl rfl ?_
        refine x_iconst 15 hC (1 : Int32) dX8_look_14 rfl (by decide) ?_
        refine x_iadd 16 hC dX8_look_15 rfl ?_
        obtain ⟨x_16, e_x_16, hf⟩ := nmx_e hf
        refine x_istore_n 17 [(2, .int x_16), (0, .ref a_this), (1, .int k7_l1)] hC dX8_look_16 rfl rfl e_x_16 (by decide) rfl ?_
        refine x_lv [(0, .ref a_this), (1, .int k7_l1), (2, .int x_16)] [1, 2, 0] rfl ?_
        exact J_17 fu k7_open k7_lesser k7_other k7_l1 x_16 hf
  unfold f_X8_look at hf
  refine x_aload_n 1 0 hC dX8_look_0 rfl rfl rfl ?_
  refine x_iconst 2 hC (0 : Int32) dX8_look_1 rfl (by decide) ?_
  refine x_put 5 0 7 [(a_this, .inr (8, [.ref a_s, r_kept, .int v_undos, r_known, r_whose, .ref a_lesser, .ref a_other, .int (0 : Int32), r_sums, r_weights, r_row, r_plan, .int v_planned])), (a_lesser, .inl (cI, 45, .inl v_lesser)), (a_other, .inl (cI, 45, .inl v_other)), (a_s, .inl (cJ, 613, .inr (.inl v_s)))] hC in_X8_look_X8 tyX8_ok nmX8 rfl rfl (by decide) (List.mem_of_getElem? (i := 1) (by decide +kernel)) rfl rfl rfl rfl rfl rfl (Nat.le_of_ble_eq_true rfl) rfl dX8_look_2 rfl ?_
  refine x_iconst 6 hC (0 : Int32) dX8_look_5 rfl (by decide) ?_
  refine x_istore_n 7 [(1, .int (0 : Int32)), (0, .ref a_this)] hC dX8_look_6 rfl rfl rfl (by decide) rfl ?_
  refine x_lv [(0, .ref a_this), (1, .int (0 : Int32))] [1, 0] rfl ?_
  exact J_7 fu (0 : Int32) v_lesser v_other (0 : Int32) hf

theorem hd_X8_draw : yX8_draw.cls = RX8 ∧ yX8_draw.cls ≠ "java/lang/invoke/MethodHandle" ∧ yX8_draw.cls ≠ "java/lang/invoke/VarHandle" ∧ (parseMethodDescriptor yX8_draw.desc).map (fun d => d.parameters.length) = some 2 := by decide +kernel
theorem in_X8_draw_X8 : ∀ w ∈ u_ws RX8 TX8 13, w ∈ wsX8_draw := fun w h => List.mem_cons_of_mem _ (List.mem_append_right _ h)
noncomputable def f_X8_draw_c124 (k46 : Int32 → Int32 → (Nat → Int64) → (Nat → Int64) → (Nat → Int32) → (Nat → Int32) → (Nat → Int64) → (Nat → Int64) → Int32 → Int32 → Int32 → Option (Int32 × Int32 × (Nat → Int64) × (Nat → Int64) × (Nat → Int32) × (Nat → Int32) × (Nat → Int64) × (Nat → Int64) × Int32)) (k124_undos : Int32) (k124_open : Int32) (k124_kept : Nat → Int64) (k124_known : Nat → Int64) (k124_lesser : Nat → Int32) (k124_other : Nat → Int32) (k124_s : Nat → Int64) (k124_whose : Nat → Int64) (k124_l1 : Int32) (k124_l2 : Int32) (k124_l3 : Int32) (k124_s0 : Int32) (k124_s1 : Int32) (k124_s2 : Int32) : Option (Int32 × Int32 × (Nat → Int64) × (Nat → Int64) × (Nat → Int32) × (Nat → Int32) × (Nat → Int64) × (Nat → Int64) × Int32) := bd (f_X8_talks k124_known k124_s k124_whose k124_s2 k124_s1 k124_s0) fun R_1 => nm (k124_l3 + (1 : Int32)) fun x_2 => k46 k124_undos k124_open k124_kept R_1.1 k124_lesser k124_other R_1.2.1 R_1.2.2 k124_l1 k124_l2 x_2
noncomputable def f_X8_draw_c102 (k46 : Int32 → Int32 → (Nat → Int64) → (Nat → Int64) → (Nat → Int32) → (Nat → Int32) → (Nat → Int64) → (Nat → Int64) → Int32 → Int32 → Int32 → Option (Int32 × Int32 × (Nat → Int64) × (Nat → Int64) × (Nat → Int32) × (Nat → Int32) × (Nat → Int64) × (Nat → Int64) × Int32)) (k102_undos : Int32) (k102_open : Int32) (k102_kept : Nat → Int64) (k102_known : Nat → Int64) (k102_lesser : Nat → Int32) (k102_other : Nat → Int32) (k102_s : Nat → Int64) (k102_whose : Nat → Int64) (k102_l1 : Int32) (k102_l2 : Int32) (k102_l3 : Int32) (k102_l4 : Int32) (k102_l5 : Int32) (k102_s0 : Int32) (k102_s1 : Int32) : Option (Int32 × Int32 × (Nat → Int64) × (Nat → Int64) × (Nat → Int32) × (Nat → Int32) × (Nat → Int64) × (Nat → Int64) × Int32) := if k102_l5 = 0 then (ck k102_l4 45 <| f_X8_draw_c124 k46 k102_undos k102_open k102_kept k102_known k102_lesser k102_other k102_s k102_whose k102_l1 k102_l2 k102_l3 (k102_lesser k102_l4.toNatClampNeg) k102_s0 k102_s1) else (ck k102_l4 45 <| f_X8_draw_c124 k46 k102_undos k102_open k102_kept k102_known k102_lesser k102_other k102_s k102_whose k102_l1 k102_l2 k102_l3 (k102_other k102_l4.toNatClampNeg) k102_s0 k102_s1)
noncomputable def f_X8_draw_c76 (k46 : Int32 → Int32 → (Nat → Int64) → (Nat → Int64) → (Nat → Int32) → (Nat → Int32) → (Nat → Int64) → (Nat → Int64) → Int32 → Int32 → Int32 → Option (Int32 × Int32 × (Nat → Int64) × (Nat → Int64) × (Nat → Int32) × (Nat → Int32) × (Nat → Int64) × (Nat → Int64) × Int32)) (k76_undos : Int32) (k76_open : Int32) (k76_kept : Nat → Int64) (k76_known : Nat → Int64) (k76_lesser : Nat → Int32) (k76_other : Nat → Int32) (k76_s : Nat → Int64) (k76_whose : Nat → Int64) (k76_l1 : Int32) (k76_l2 : Int32) (k76_l3 : Int32) (k76_l4 : Int32) (k76_s0 : Int32) : Option (Int32 × Int32 × (Nat → Int64) × (Nat → Int64) × (Nat → Int32) × (Nat → Int32) × (Nat → Int64) × (Nat → Int64) × Int32) := if k76_s0 = 0 then (ck k76_l4 45 <| f_X8_draw_c102 k46 k76_undos k76_open k76_kept k76_known k76_lesser k76_other k76_s k76_whose k76_l1 k76_l2 k76_l3 k76_l4 k76_s0 (k76_other k76_l4.toNatClampNeg) k76_l1) else (ck k76_l4 45 <| f_X8_draw_c102 k46 k76_undos k76_open k76_kept k76_known k76_lesser k76_other k76_s k76_whose k76_l1 k76_l2 k76_l3 k76_l4 k76_s0 (k76_lesser k76_l4.toNatClampNeg) k76_l1)
noncomputable def f_X8_draw_c46 : Nat → Int32 → Int32 → (Nat → Int64) → (Nat → Int64) → (Nat → Int32) → (Nat → Int32) → (Nat → Int64) → (Nat → Int64) → Int32 → Int32 → Int32 → Option (Int32 × Int32 × (Nat → Int64) × (Nat → Int64) × (Nat → Int32) × (Nat → Int32) × (Nat → Int64) × (Nat → Int64) × Int32)
  | 0, _, _, _, _, _, _, _, _, _, _, _ => none
  | n + 1, k46_undos, k46_open, k46_kept, k46_known, k46_lesser, k46_other, k46_s, k46_whose, k46_l1, k46_l2, k46_l3 => if k46_l2 ≤ k46_l3 then (some (k46_undos, k46_open, k46_kept, k46_known, k46_lesser, k46_other, k46_s, k46_whose, (1 : Int32))) else (bd (f_X8_drawn k46_s) fun R_10 => ckp (¬ k46_open = 0) (Classical.propDecidable _) <| nm (R_10.2 - R_10.2 / k46_open * k46_open) fun x_12 => bd (f_X8_drawn R_10.1) fun R_13 => ckp (¬ (2 : Int32) = 0) (Classical.propDecidable _) <| if ¬ (R_13.2 - R_13.2 / (2 : Int32) * (2 : Int32)) = 0 then (f_X8_draw_c76 (fun k46_undos k46_open k46_kept k46_known k46_lesser k46_other k46_s k46_whose k46_l1 k46_l2 k46_l3 => f_X8_draw_c46 n k46_undos k46_open k46_kept k46_known k46_lesser k46_other k46_s k46_whose k46_l1 k46_l2 k46_l3) k46_undos k46_open k46_kept k46_known k46_lesser k46_other R_13.1 k46_whose k46_l1 k46_l2 k46_l3 x_12 (0 : Int32)) else (f_X8_draw_c76 (fun k46_undos k46_open k46_kept k46_known k46_lesser k46_other k46_s k46_whose k46_l1 k46_l2 k46_l3 => f_X8_draw_c46 n k46_undos k46_open k46_kept k46_known k46_lesser k46_other k46_s k46_whose k46_l1 k46_l2 k46_l3) k46_undos k46_open k46_kept k46_known k46_lesser k46_other R_13.1 k46_whose k46_l1 k46_l2 k46_l3 x_12 (1 : Int32)))
noncomputable def f_X8_draw (v_undos : Int32) (v_open : Int32) (v_kept : Nat → Int64) (v_known : Nat → Int64) (v_lesser : Nat → Int32) (v_other : Nat → Int32) (v_s : Nat → Int64) (v_whose : Nat → Int64) (p1 : Int32) (p2 : Int32) : Option (Int32 × Int32 × (Nat → Int64) × (Nat → Int64) × (Nat → Int32) × (Nat → Int32) × (Nat → Int64) × (Nat → Int64) × Int32) := bd (f_X8_in (p1.toInt64) (0 : Int64) (2 : Int64)) fun R_16 => if R_16 = 0 then (some (v_undos, v_open, v_kept, v_known, v_lesser, v_other, v_s, v_whose, (-1 : Int32))) else (bd (f_X8_in (p2.toInt64) (1 : Int64) (60 : Int64)) fun R_18 => if ¬ R_18 = 0 then (bd (f_X8_look v_s v_open v_lesser v_other) fun R_20 => if ¬ R_20.1 = 0 then (bd (f_X8_keep v_s v_undos v_kept) fun R_22 => f_X8_draw_c46 fu R_22.1 R_20.1 R_22.2 v_known R_20.2.1 R_20.2.2 v_s v_whose p1 p2 (0 : Int32)) else (some (v_undos, R_20.1, v_kept, v_known, R_20.2.1, R_20.2.2, v_s, v_whose, (-2 : Int32)))) else (some (v_undos, v_open, v_kept, v_known, v_lesser, v_other, v_s, v_whose, (-1 : Int32))))
set_option maxHeartbeats 4000000 in
set_option maxRecDepth 100000 in
theorem c_X8_draw (l : Launch) (D : va_G) (cI cJ cQ : ClassId) (a_this : Nat) (a_kept : Nat) (a_known : Nat) (a_lesser : Nat) (a_other : Nat) (a_s : Nat) (a_whose : Nat) (r_sums : Value) (r_weights : Value) (r_row : Value) (r_plan : Value) (v_undos : Int32) (v_open : Int32) (v_planned : Int32) (v_kept : Nat → Int64) (v_known : Nat → Int64) (v_lesser : Nat → Int32) (v_other : Nat → Int32) (v_s : Nat → Int64) (v_whose : Nat → Int64) (p1 : Int32) (p2 : Int32) (R0 : Int32 × Int32 × (Nat → Int64) × (Nat → Int64) × (Nat → Int32) × (Nat → Int32) × (Nat → Int64) × (Nat → Int64) × Int32) (hf : f_X8_draw v_undos v_open v_kept v_known v_lesser v_other v_s v_whose p1 p2 = some R0) : Ci l yX8_draw wsX8_draw ({ frames := 5, cells := 0, slots := 0, locals := 157 } : Room) D [(cI, .int), (cJ, .long), (cQ, .object "WhisperCrowd$State")] [.ref a_this, .int p1, .int p2] [(a_this, .inr (8, [.ref a_s, .ref a_kept, .int v_undos, .ref a_known, .ref a_whose, .ref a_lesser, .ref a_other, .int v_open, r_sums, r_weights, r_row, r_plan, .int v_planned])), (a_kept, .inl (cJ, 12260, .inr (.inl v_kept))), (a_known, .inl (cJ, 8, .inr (.inl v_known))), (a_lesser, .inl (cI, 45, .inl v_lesser)), (a_other, .inl (cI, 45, .inl v_other)), (a_s, .inl (cJ, 613, .inr (.inl v_s))), (a_whose, .inl (cJ, 8, .inr (.inl v_whose)))] [(a_this, .inr (8, [.ref a_s, .ref a_kept, .int R0.1, .ref a_known, .ref a_whose, .ref a_lesser, .ref a_other, .int R0.2.1, r_sums, r_weights, r_row, r_plan, .int v_planned])), (a_kept, .inl (cJ, 12260, .inr (.inl R0.2.2.1))), (a_known, .inl (cJ, 8, .inr (.inl R0.2.2.2.1))), (a_lesser, .inl (cI, 45, .inl R0.2.2.2.2.1)), (a_other, .inl (cI, 45, .inl R0.2.2.2.2.2.1)), (a_s, .inl (cJ, 613, .inr (.inl R0.2.2.2.2.2.2.1))), (a_whose, .inl (cJ, 8, .inr (.inl R0.2.2.2.2.2.2.2.1)))] R0.2.2.2.2.2.2.2.2 := by
  refine x_enti (cc := cX8_draw) (maxL := 6) (rt := (some .int)) (lv := [(0, .ref a_this), (1, .int p1), (2, .int p2)]) (by decide) rfl (Nat.le_of_ble_eq_true rfl) rfl ?_
  intro p e s m args below meth c A Q hQ hC
  have J_46 : ∀ (n : Nat) (k46_undos : Int32) (k46_open : Int32) (k46_kept : Nat → Int64) (k46_known : Nat → Int64) (k46_lesser : Nat → Int32) (k46_other : Nat → Int32) (k46_s : Nat → Int64) (k46_whose : Nat → Int64) (k46_l1 : Int32) (k46_l2 : Int32) (k46_l3 : Int32), f_X8_draw_c46 n k46_undos k46_open k46_kept k46_known k46_lesser k46_other k46_s k46_whose k46_l1 k46_l2 k46_l3 = some R0 → XW p l e ({ frames := 5, cells := 0, slots := 0, locals := 157 } : Room) s m args below meth c D A 6 0 0 Q [(a_this, .inr (8, [.ref a_s, .ref a_kept, .int k46_undos, .ref a_known, .ref a_whose, .ref a_lesser, .ref a_other, .int k46_open, r_sums, r_weights, r_row, r_plan, .int v_planned])), (a_kept, .inl (cJ, 12260, .inr (.inl k46_kept))), (a_known, .inl (cJ, 8, .inr (.inl k46_known))), (a_lesser, .inl (cI, 45, .inl k46_lesser)), (a_other, .inl (cI, 45, .inl k46_other)), (a_s, .inl (cJ, 613, .inr (.inl k46_s))), (a_whose, .inl (cJ, 8, .inr (.inl k46_whose)))] [] [(0, .ref a_this), (1, .int k46_l1), (2, .int k46_l2), (3, .int k46_l3)] 46 [] := by
    intro n
    induction n with
    | zero => intro k46_undos k46_open k46_kept k46_known k46_lesser k46_other k46_s k46_whose k46_l1 k46_l2 k46_l3 hf; exact nomatch (show (none : Option (Int32 × Int32 × (Nat → Int64) × (Nat → Int64) × (Nat → Int32) × (Nat → Int32) × (Nat → Int64) × (Nat → Int64) × Int32)) = some R0 from hf)
    | succ n_46 ih_46 =>
      have J_124 : ∀ (k124_undos : Int32) (k124_open : Int32) (k124_kept : Nat → Int64) (k124_known : Nat → Int64) (k124_lesser : Nat → Int32) (k124_other : Nat → Int32) (k124_s : Nat → Int64) (k124_whose : Nat → Int64) (k124_l1 : Int32) (k124_l2 : Int32) (k124_l3 : Int32) (k124_s0 : Int32) (k124_s1 : Int32) (k124_s2 : Int32), f_X8_draw_c124 (fun k46_undos k46_open k46_kept k46_known k46_lesser k46_other k46_s k46_whose k46_l1 k46_l2 k46_l3 => f_X8_draw_c46 n_46 k46_undos k46_open k46_kept k46_known k46_lesser k46_other k46_s k46_whose k46_l1 k46_l2 k46_l3) k124_undos k124_open k124_kept k124_known k124_lesser k124_other k124_s k124_whose k124_l1 k124_l2 k124_l3 k124_s0 k124_s1 k124_s2 = some R0 → XW p l e ({ frames := 5, cells := 0, slots := 0, locals := 157 } : Room) s m args below meth c D A 6 0 0 Q [(a_this, .inr (8, [.ref a_s, .ref a_kept, .int k124_undos, .ref a_known, .ref a_whose, .ref a_lesser, .ref a_other, .int k124_open, r_sums, r_weights, r_row, r_plan, .int v_planned])), (a_kept, .inl (cJ, 12260, .inr (.inl k124_kept))), (a_known, .inl (cJ, 8, .inr (.inl k124_known))), (a_lesser, .inl (cI, 45, .inl k124_lesser)), (a_other, .inl (cI, 45, .inl k124_other)), (a_s, .inl (cJ, 613, .inr (.inl k124_s))), (a_whose, .inl (cJ, 8, .inr (.inl k124_whose)))] [] [(0, .ref a_this), (1, .int k124_l1), (2, .int k124_l2), (3, .int k124_l3)] 124 [.int k124_s0, .int k124_s1, .int k124_s2, .ref a_this] := by
        intro k124_undos k124_open k124_kept k124_known k124_lesser k124_other k124_s k124_whose k124_l1 k124_l2 k124_l3 k124_s0 k124_s1 k124_s2 hf
        unfold f_X8_draw_c124 at hf
        obtain ⟨R_1, h_R_1, hf⟩ := bd_e hf
        refine x_callVv 127 0 3 [0, 2, 5, 6] [(a_this, .inr (8, [.ref a_s, .ref a_kept, .int k124_undos, .ref a_known, .ref a_whose, .ref a_lesser, .ref a_other, .int k124_open, r_sums, r_weights, r_row, r_plan, .int v_planned])), (a_kept, .inl (cJ, 12260, .inr (.inl k124_kept))), (a_known, .inl (cJ, 8, .inr (.inl R_1.1))), (a_lesser, .inl (cI, 45, .inl k124_lesser)), (a_other, .inl (cI, 45, .inl k124_other)), (a_s, .inl (cJ, 613, .inr (.inl R_1.2.1))), (a_whose, .inl (cJ, 8, .inr (.inl R_1.2.2)))] hC (As := [.int k124_s2, .int k124_s1, .int k124_s0]) (c_X8_talks l D cI cJ cQ a_this a_known a_s a_whose (.ref a_kept) (.ref a_lesser) (.ref a_other) r_sums r_weights r_row r_plan k124_undos k124_open v_planned k124_known k124_s k124_whose k124_s2 k124_s1 k124_s0 R_1 h_R_1) rfl rfl gX8_draw_X8_talks rfl ⟨rfl, rfl⟩ hd_X8_talks ⟨Nat.le_of_ble_eq_true rfl, Nat.le_of_ble_eq_true rfl⟩ rfl rfl rfl rfl rfl rfl (Nat.le_of_ble_eq_true rfl) ⟨Nat.le_of_ble_eq_true rfl, Nat.le_of_ble_eq_true rfl⟩ dX8_draw_124 rfl ?_
        obtain ⟨x_2, e_x_2, hf⟩ := nmx_e hf
        refine x_iinc 130 3 [(3, .int x_2), (0, .ref a_this), (1, .int k124_l1), (2, .int k124_l2)] hC dX8_draw_127 rfl rfl e_x_2 (by decide) (by decide) rfl ?_
        refine x_goto 46 hC dX8_draw_130 (by decide) ?_
        refine x_lv [(0, .ref a_this), (1, .int k124_l1), (2, .int k124_l2), (3, .int x_2)] [1, 2, 3, 0] rfl ?_
        exact ih_46 k124_undos k124_open k124_kept R_1.1 k124_lesser k124_other R_1.2.1 R_1.2.2 k124_l1 k124_l2 x_2 hf
      have J_102 : ∀ (k102_undos : Int32) (k102_open : Int32) (k102_kept : Nat → Int64) (k102_known : Nat → Int64) (k102_lesser : Nat → Int32) (k102_other : Nat → Int32) (k102_s : Nat → Int64) (k102_whose : Nat → Int64) (k102_l1 : Int32) (k102_l2 : Int32) (k102_l3 : Int32) (k102_l4 : Int32) (k102_l5 : Int32) (k102_s0 : Int32) (k102_s1 : Int32), f_X8_draw_c102 (fun k46_undos k46_open k46_kept k46_known k46_lesser k46_other k46_s k46_whose k46_l1 k46_l2 k46_l3 => f_X8_draw_c46 n_46 k46_undos k46_open k46_kept k46_known k46_lesser k46_other k46_s k46_whose k46_l1 k46_l2 k46_l3) k102_undos k102_open k102_kept k102_known k102_lesser k102_other k102_s k102_whose k102_l1 k102_l2 k102_l3 k102_l4 k102_l5 k102_s0 k102_s1 = some R0 → XW p l e ({ frames := 5, cells := 0, slots := 0, locals := 157 } : Room) s m args below meth c D A 6 0 0 Q [(a_this, .inr (8, [.ref a_s, .ref a_kept, .int k102_undos, .ref a_known, .ref a_whose, .ref a_lesser, .ref a_other, .int k102_open, r_sums, r_weights, r_row, r_plan, .int v_planned])), (a_kept, .inl (cJ, 12260, .inr (.inl k102_kept))), (a_known, .inl (cJ, 8, .inr (.inl k102_known))), (a_lesser, .inl (cI, 45, .inl k102_lesser)), (a_other, .inl (cI, 45, .inl k102_other)), (a_s, .inl (cJ, 613, .inr (.inl k102_s))), (a_whose, .inl (cJ, 8, .inr (.inl k102_whose)))] [] [(0, .ref a_this), (1, .int k102_l1), (2, .int k102_l2), (3, .int k102_l3), (4, .int k102_l4), (5, .int k102_l5)] 102 [.int k102_s0, .int k102_s1, .ref a_this] := by
        intro k102_undos k102_open k102_kept k102_known k102_lesser k102_other k102_s k102_whose k102_l1 k102_l2 k102_l3 k102_l4 k102_l5 k102_s0 k102_s1 hf
        unfold f_X8_draw_c102 at hf
        refine x_iload 104 5 hC dX8_draw_102 rfl rfl ?_
        refine x_if_eq 117 107 hC dX8_draw_104 (by decide) rfl (fun c_3 => ?_) (fun c_3 => ?_)
        · have hf := if_t hf c_3
          refine x_aload_n 118 0 hC dX8_draw_117 rfl rfl rfl ?_
          refine x_get 121 0 5 hC in_X8_draw_X8 rfl rfl (by decide) (List.mem_of_getElem? (i := 4) (by decide +kernel)) rfl rfl dX8_draw_118 rfl ?_
          refine x_iload 123 4 hC dX8_draw_121 rfl rfl ?_
          obtain ⟨h_4, hf⟩ := ck_e hf
          refine x_iald 124 3 0 hC rfl rfl h_4 dX8_draw_123 rfl ?_
          refine x_lv [(0, .ref a_this), (1, .int k102_l1), (2, .int k102_l2), (3, .int k102_l3)] [0, 1, 2, 3] rfl ?_
          exact J_124 k102_undos k102_open k102_kept k102_known k102_lesser k102_other k102_s k102_whose k102_l1 k102_l2 k102_l3 (k102_lesser k102_l4.toNatClampNeg) k102_s0 k102_s1 hf
        · have hf := if_f hf c_3
          refine x_aload_n 108 0 hC dX8_draw_107 rfl rfl rfl ?_
          refine x_get 111 0 6 hC in_X8_draw_X8 rfl rfl (by decide) (List.mem_of_getElem? (i := 5) (by decide +kernel)) rfl rfl dX8_draw_108 rfl ?_
          refine x_iload 113 4 hC dX8_draw_111 rfl rfl ?_
          obtain ⟨h_5, hf⟩ := ck_e hf
          refine x_iald 114 4 0 hC rfl rfl h_5 dX8_draw_113 rfl ?_
          refine x_goto 124 hC dX8_draw_114 (by decide) ?_
          refine x_lv [(0, .ref a_this), (1, .int k102_l1), (2, .int k102_l2), (3, .int k102_l3)] [0, 1, 2, 3] rfl ?_
          exact J_124 k102_undos k102_open k102_kept k102_known k102_lesser k102_other k102_s k102_whose k102_l1 k102_l2 k102_l3 (k102_other k102_l4.toNatClampNeg) k102_s0 k102_s1 hf
      have J_76 : ∀ (k76_undos : Int32) (k76_open : Int32) (k76_kept : Nat → Int64) (k76_known : Nat → Int64) (k76_lesser : Nat → Int32) (k76_other : Nat → Int32) (k76_s : Nat → Int64) (k76_whose : Nat → Int64) (k76_l1 : Int32) (k76_l2 : Int32) (k76_l3 : Int32) (k76_l4 : Int32) (k76_s0 : Int32), f_X8_draw_c76 (fun k46_undos k46_open k46_kept k46_known k46_lesser k46_other k46_s k46_whose k46_l1 k46_l2 k46_l3 => f_X8_draw_c46 n_46 k46_undos k46_open k46_kept k46_known k46_lesser k46_other k46_s k46_whose k46_l1 k46_l2 k46_l3) k76_undos k76_open k76_kept k76_known k76_lesser k76_other k76_s k76_whose k76_l1 k76_l2 k76_l3 k76_l4 k76_s0 = some R0 → XW p l e ({ frames := 5, cells := 0, slots := 0, locals := 157 } : Room) s m args below meth c D A 6 0 0 Q [(a_this, .inr (8, [.ref a_s, .ref a_kept, .int k76_undos, .ref a_known, .ref a_whose, .ref a_lesser, .ref a_other, .int k76_open, r_sums, r_weights, r_row, r_plan, .int v_planned])), (a_kept, .inl (cJ, 12260, .inr (.inl k76_kept))), (a_known, .inl (cJ, 8, .inr (.inl k76_known))), (a_lesser, .inl (cI, 45, .inl k76_lesser)), (a_other, .inl (cI, 45, .inl k76_other)), (a_s, .inl (cJ, 613, .inr (.inl k76_s))), (a_whose, .inl (cJ, 8, .inr (.inl k76_whose)))] [] [(0, .ref a_this), (1, .int k76_l1), (2, .int k76_l2), (3, .int k76_l3), (4, .int k76_l4)] 76 [.int k76_s0] := by
        intro k76_undos k76_open k76_kept k76_known k76_lesser k76_other k76_s k76_whose k76_l1 k76_l2 k76_l3 k76_l4 k76_s0 hf
        unfold f_X8_draw_c76 at hf
        refine x_istore 78 [(5, .int k76_s0), (0, .ref a_this), (1, .int k76_l1), (2, .int k76_l2), (3, .int k76_l3), (4, .int k76_l4)] hC dX8_draw_76 rfl rfl (by decide) rfl ?_
        refine x_aload_n 79 1 hC dX8_draw_78 rfl rfl rfl ?_
        refine x_iload_n 80 2 hC dX8_draw_79 rfl rfl rfl ?_
        refine x_iload 82 0 hC dX8_draw_80 rfl rfl ?_
        refine x_if_eq 95 85 hC dX8_draw_82 (by decide) rfl (fun c_6 => ?_) (fun c_6 => ?_)
        · have hf := if_t hf c_6
          refine x_aload_n 96 1 hC dX8_draw_95 rfl rfl rfl ?_
          refine x_get 99 0 6 hC in_X8_draw_X8 rfl rfl (by decide) (List.mem_of_getElem? (i := 5) (by decide +kernel)) rfl rfl dX8_draw_96 rfl ?_
          refine x_iload 101 5 hC dX8_draw_99 rfl rfl ?_
          obtain ⟨h_7, hf⟩ := ck_e hf
          refine x_iald 102 4 0 hC rfl rfl h_7 dX8_draw_101 rfl ?_
          refine x_lv [(0, .ref a_this), (1, .int k76_l1), (2, .int k76_l2), (3, .int k76_l3), (4, .int k76_l4), (5, .int k76_s0)] [1, 2, 3, 4, 5, 0] rfl ?_
          exact J_102 k76_undos k76_open k76_kept k76_known k76_lesser k76_other k76_s k76_whose k76_l1 k76_l2 k76_l3 k76_l4 k76_s0 (k76_other k76_l4.toNatClampNeg) k76_l1 hf
        · have hf := if_f hf c_6
          refine x_aload_n 86 1 hC dX8_draw_85 rfl rfl rfl ?_
          refine x_get 89 0 5 hC in_X8_draw_X8 rfl rfl (by decide) (List.mem_of_getElem? (i := 4) (by decide +kernel)) rfl rfl dX8_draw_86 rfl ?_
          refine x_iload 91 5 hC dX8_draw_89 rfl rfl ?_
          obtain ⟨h_8, hf⟩ := ck_e hf
          refine x_iald 92 3 0 hC rfl rfl h_8 dX8_draw_91 rfl ?_
          refine x_goto 102 hC dX8_draw_92 (by decide) ?_
          refine x_lv [(0, .ref a_this), (1, .int k76_l1), (2, .int k76_l2), (3, .int k76_l3), (4, .int k76_l4), (5, .int k76_s0)] [1, 2, 3, 4, 5, 0] rfl ?_
          exact J_102 k76_undos k76_open k76_kept k76_known k76_lesser k76_other k76_s k76_whose k76_l1 k76_l2 k76_l3 k76_l4 k76_s0 (k76_lesser k76_l4.toNatClampNeg) k76_l1 hf
      intro k46_undos k46_open k46_kept k46_known k46_lesser k46_other k46_s k46_whose k46_l1 k46_l2 k46_l3 hf
      unfold f_X8_draw_c46 at hf
      refine x_iload_n 47 3 hC dX8_draw_46 rfl rfl rfl ?_
      refine x_iload_n 48 2 hC dX8_draw_47 rfl rfl rfl ?_
      refine x_icmp_ge 133 51 hC dX8_draw_48 (by decide) rfl (fun c_9 => ?_) (fun c_9 => ?_)
      · have hf := if_t hf c_9
        refine x_iconst 134 hC (1 : Int32) dX8_draw_133 rfl (by decide) ?_
        cases hf
        exact x_iret hC dX8_draw_134 hQ rfl rfl
      · have hf := if_f hf c_9
        refine x_aload_n 52 0 hC dX8_draw_51 rfl rfl rfl ?_
        obtain ⟨R_10, h_R_10, hf⟩ := bd_e hf
        refine x_callVi 55 0 0 [0, 5] [(a_this, .inr (8, [.ref a_s, .ref a_kept, .int k46_undos, .ref a_known, .ref a_whose, .ref a_lesser, .ref a_other, .int k46_open, r_sums, r_weights, r_row, r_plan, .int v_planned])), (a_kept, .inl (cJ, 12260, .inr (.inl k46_kept))), (a_known, .inl (cJ, 8, .inr (.inl k46_known))), (a_lesser, .inl (cI, 45, .inl k46_lesser)), (a_other, .inl (cI, 45, .inl k46_other)), (a_s, .inl (cJ, 613, .inr (.inl R_10.1))), (a_whose, .inl (cJ, 8, .inr (.inl k46_whose)))] hC (As := []) (c_X8_drawn l D cI cJ cQ a_this a_s (.ref a_kept) (.ref a_known) (.ref a_whose) (.ref a_lesser) (.ref a_other) r_sums r_weights r_row r_plan k46_undos k46_open v_planned k46_s R_10 h_R_10) rfl rfl gX8_draw_X8_drawn rfl ⟨rfl, rfl⟩ hd_X8_drawn ⟨Nat.le_of_ble_eq_true rfl, Nat.le_of_ble_eq_true rfl⟩ rfl rfl rfl rfl rfl rfl (Nat.le_of_ble_eq_true rfl) ⟨Nat.le_of_ble_eq_true rfl, Nat.le_of_ble_eq_true rfl⟩ dX8_draw_52 rfl ?_
        refine x_aload_n 56 0 hC dX8_draw_55 rfl rfl rfl ?_
        refine x_get 59 0 7 hC in_X8_draw_X8 rfl rfl (by decide) (List.mem_of_getElem? (i := 3) (by decide +kernel)) rfl rfl dX8_draw_56 rfl ?_
        obtain ⟨h_11, hf⟩ := ckp_e hf
        refine x_irem 60 hC dX8_draw_59 rfl h_11 ?_
        obtain ⟨x_12, e_x_12, hf⟩ := nmx_e hf
        refine x_istore 62 [(4, .int x_12), (0, .ref a_this), (1, .int k46_l1), (2, .int k46_l2), (3, .int k46_l3)] hC dX8_draw_60 rfl e_x_12 (by decide) rfl ?_
        refine x_aload_n 63 1 hC dX8_draw_62 rfl rfl rfl ?_
        obtain ⟨R_13, h_R_13, hf⟩ := bd_e hf
        refine x_callVi 66 0 0 [0, 5] [(a_this, .inr (8, [.ref a_s, .ref a_kept, .int k46_undos, .ref a_known, .ref a_whose, .ref a_lesser, .ref a_other, .int k46_open, r_sums, r_weights, r_row, r_plan, .int v_planned])), (a_kept, .inl (cJ, 12260, .inr (.inl k46_kept))), (a_known, .inl (cJ, 8, .inr (.inl k46_known))), (a_lesser, .inl (cI, 45, .inl k46_lesser)), (a_other, .inl (cI, 45, .inl k46_other)), (a_s, .inl (cJ, 613, .inr (.inl R_13.1))), (a_whose, .inl (cJ, 8, .inr (.inl k46_whose)))] hC (As := []) (c_X8_drawn l D cI cJ cQ a_this a_s (.ref a_kept) (.ref a_known) (.ref a_whose) (.ref a_lesser) (.ref a_other) r_sums r_weights r_row r_plan k46_undos k46_open v_planned R_10.1 R_13 h_R_13) rfl rfl gX8_draw_X8_drawn rfl ⟨rfl, rfl⟩ hd_X8_drawn ⟨Nat.le_of_ble_eq_true rfl, Nat.le_of_ble_eq_true rfl⟩ rfl rfl rfl rfl rfl rfl (Nat.le_of_ble_eq_true rfl) ⟨Nat.le_of_ble_eq_true rfl, Nat.le_of_ble_eq_true rfl⟩ dX8_draw_63 rfl ?_
        refine x_iconst 67 hC (2 : Int32) dX8_draw_66 rfl (by decide) ?_
        obtain ⟨h_14, hf⟩ := ckp_e hf
        refine x_irem 68 hC dX8_draw_67 rfl h_14 ?_
        refine x_if_ne 75 71 hC dX8_draw_68 (by decide) rfl (fun c_15 => ?_) (fun c_15 => ?_)
        · have hf := if_t hf c_15
          refine x_iconst 76 hC (0 : Int32) dX8_draw_75 rfl (by decide) ?_
          refine x_lv [(0, .ref a_this), (1, .int k46_l1), (2, .int k46_l2), (3, .int k46_l3), (4, .int x_12)] [1, 2, 3, 4, 0] rfl ?_
          exact J_76 k46_undos k46_open k46_kept k46_known k46_lesser k46_other R_13.1 k46_whose k46_l1 k46_l2 k46_l3 x_12 (0 : Int32) hf
        · have hf := if_f hf c_15
          refine x_iconst 72 hC (1 : Int32) dX8_draw_71 rfl (by decide) ?_
          refine x_goto 76 hC dX8_draw_72 (by decide) ?_
          refine x_lv [(0, .ref a_this), (1, .int k46_l1), (2, .int k46_l2), (3, .int k46_l3), (4, .int x_12)] [1, 2, 3, 4, 0] rfl ?_
          exact J_76 k46_undos k46_open k46_kept k46_known k46_lesser k46_other R_13.1 k46_whose k46_l1 k46_l2 k46_l3 x_12 (1 : Int32) hf
  unfold f_X8_draw at hf
  refine x_iload_n 1 1 hC dX8_draw_0 rfl rfl rfl ?_
  refine x_i2l 2 hC dX8_draw_1 rfl ?_
  refine x_lconst 3 hC (0 : Int64) dX8_draw_2 rfl (by decide) ?_
  refine x_ldc2 6 hC (v := (2 : Int64)) (List.mem_of_getElem? (i := 1) (by decide +kernel)) dX8_draw_3 rfl ?_
  obtain ⟨R_16, h_R_16, hf⟩ := bd_e hf
  refine x_callSi 9 3 [] [(a_this, .inr (8, [.ref a_s, .ref a_kept, .int v_undos, .ref a_known, .ref a_whose, .ref a_lesser, .ref a_other, .int v_open, r_sums, r_weights, r_row, r_plan, .int v_planned])), (a_kept, .inl (cJ, 12260, .inr (.inl v_kept))), (a_known, .inl (cJ, 8, .inr (.inl v_known))), (a_lesser, .inl (cI, 45, .inl v_lesser)), (a_other, .inl (cI, 45, .inl v_other)), (a_s, .inl (cJ, 613, .inr (.inl v_s))), (a_whose, .inl (cJ, 8, .inr (.inl v_whose)))] hC (As := [.long (p1.toInt64), .long (0 : Int64), .long (2 : Int64)]) (c_X8_in l D cI cJ cQ (p1.toInt64) (0 : Int64) (2 : Int64) R_16 h_R_16) gX8_draw_X8_in rfl ⟨rfl, rfl⟩ hd_X8_in ⟨Nat.le_of_ble_eq_true rfl, Nat.le_of_ble_eq_true rfl⟩ rfl rfl rfl rfl rfl rfl (Nat.le_of_ble_eq_true rfl) ⟨Nat.le_of_ble_eq_true rfl, Nat.le_of_ble_eq_true rfl⟩ dX8_draw_6 rfl ?_
  refine x_if_eq 24 12 hC dX8_draw_9 (by decide) rfl (fun c_17 => ?_) (fun c_17 => ?_)
  · have hf := if_t hf c_17
    refine x_iconst 25 hC (-1 : Int32) dX8_draw_24 rfl (by decide) ?_
    cases hf
    exact x_iret hC dX8_draw_25 hQ rfl rfl
  · have hf := if_f hf c_17
    refine x_iload_n 13 2 hC dX8_draw_12 rfl rfl rfl ?_
    refine x_i2l 14 hC dX8_draw_13 rfl ?_
    refine x_lconst 15 hC (1 : Int64) dX8_draw_14 rfl (by decide) ?_
    refine x_ldc2 18 hC (v := (60 : Int64)) (List.mem_of_getElem? (i := 2) (by decide +kernel)) dX8_draw_15 rfl ?_
    obtain ⟨R_18, h_R_18, hf⟩ := bd_e hf
    refine x_callSi 21 3 [] [(a_this, .inr (8, [.ref a_s, .ref a_kept, .int v_undos, .ref a_known, .ref a_whose, .ref a_lesser, .ref a_other, .int v_open, r_sums, r_weights, r_row, r_plan, .int v_planned])), (a_kept, .inl (cJ, 12260, .inr (.inl v_kept))), (a_known, .inl (cJ, 8, .inr (.inl v_known))), (a_lesser, .inl (cI, 45, .inl v_lesser)), (a_other, .inl (cI, 45, .inl v_other)), (a_s, .inl (cJ, 613, .inr (.inl v_s))), (a_whose, .inl (cJ, 8, .inr (.inl v_whose)))] hC (As := [.long (p2.toInt64), .long (1 : Int64), .long (60 : Int64)]) (c_X8_in l D cI cJ cQ (p2.toInt64) (1 : Int64) (60 : Int64) R_18 h_R_18) gX8_draw_X8_in rfl ⟨rfl, rfl⟩ hd_X8_in ⟨Nat.le_of_ble_eq_true rfl, Nat.le_of_ble_eq_true rfl⟩ rfl rfl rfl rfl rfl rfl (Nat.le_of_ble_eq_true rfl) ⟨Nat.le_of_ble_eq_true rfl, Nat.le_of_ble_eq_true rfl⟩ dX8_draw_18 rfl ?_
    refine x_if_ne 26 24 hC dX8_draw_21 (by decide) rfl (fun c_19 => ?_) (fun c_19 => ?_)
    · have hf := if_t hf c_19
      refine x_aload_n 27 0 hC dX8_draw_26 rfl rfl rfl ?_
      obtain ⟨R_20, h_R_20, hf⟩ := bd_e hf
      refine x_callVv 30 0 0 [0, 3, 4, 5] [(a_this, .inr (8, [.ref a_s, .ref a_kept, .int v_undos, .ref a_known, .ref a_whose, .ref a_lesser, .ref a_other, .int R_20.1, r_sums, r_weights, r_row, r_plan, .int v_planned])), (a_kept, .inl (cJ, 12260, .inr (.inl v_kept))), (a_known, .inl (cJ, 8, .inr (.inl v_known))), (a_lesser, .inl (cI, 45, .inl R_20.2.1)), (a_other, .inl (cI, 45, .inl R_20.2.2)), (a_s, .inl (cJ, 613, .inr (.inl v_s))), (a_whose, .inl (cJ, 8, .inr (.inl v_whose)))] hC (As := []) (c_X8_look l D cI cJ cQ a_this a_lesser a_other a_s (.ref a_kept) (.ref a_known) (.ref a_whose) r_sums r_weights r_row r_plan v_undos v_open v_planned v_lesser v_other v_s R_20 h_R_20) rfl rfl gX8_draw_X8_look rfl ⟨rfl, rfl⟩ hd_X8_look ⟨Nat.le_of_ble_eq_true rfl, Nat.le_of_ble_eq_true rfl⟩ rfl rfl rfl rfl rfl rfl (Nat.le_of_ble_eq_true rfl) ⟨Nat.le_of_ble_eq_true rfl, Nat.le_of_ble_eq_true rfl⟩ dX8_draw_27 rfl ?_
      refine x_aload_n 31 0 hC dX8_draw_30 rfl rfl rfl ?_
      refine x_get 34 0 7 hC in_X8_draw_X8 rfl rfl (by decide) (List.mem_of_getElem? (i := 3) (by decide +kernel)) rfl rfl dX8_draw_31 rfl ?_
      refine x_if_ne 40 37 hC dX8_draw_34 (by decide) rfl (fun c_21 => ?_) (fun c_21 => ?_)
      · have hf := if_t hf c_21
        refine x_aload_n 41 0 hC dX8_draw_40 rfl rfl rfl ?_
        obtain ⟨R_22, h_R_22, hf⟩ := bd_e hf
        refine x_callVv 44 0 0 [0, 1, 5] [(a_this, .inr (8, [.ref a_s, .ref a_kept, .int R_22.1, .ref a_known, .ref a_whose, .ref a_lesser, .ref a_other, .int R_20.1, r_sums, r_weights, r_row, r_plan, .int v_planned])), (a_kept, .inl (cJ, 12260, .inr (.inl R_22.2))), (a_known, .inl (cJ, 8, .inr (.inl v_known))), (a_lesser, .inl (cI, 45, .inl R_20.2.1)), (a_other, .inl (cI, 45, .inl R_20.2.2)), (a_s, .inl (cJ, 613, .inr (.inl v_s))), (a_whose, .inl (cJ, 8, .inr (.inl v_whose)))] hC (As := []) (c_X8_keep l D cI cJ cQ a_this a_kept a_s (.ref a_known) (.ref a_whose) (.ref a_lesser) (.ref a_other) r_sums r_weights r_row r_plan v_undos R_20.1 v_planned v_kept v_s R_22 h_R_22) rfl rfl gX8_draw_X8_keep rfl ⟨rfl, rfl⟩ hd_X8_keep ⟨Nat.le_of_ble_eq_true rfl, Nat.le_of_ble_eq_true rfl⟩ rfl rfl rfl rfl rfl rfl (Nat.le_of_ble_eq_true rfl) ⟨Nat.le_of_ble_eq_true rfl, Nat.le_of_ble_eq_true rfl⟩ dX8_draw_41 rfl ?_
        refine x_iconst 45 hC (0 : Int32) dX8_draw_44 rfl (by decide) ?_
        refine x_istore_n 46 [(3, .int (0 : Int32)), (0, .ref a_this), (1, .int p1), (2, .int p2)] hC dX8_draw_45 rfl rfl rfl (by decide) rfl ?_
        refine x_lv [(0, .ref a_this), (1, .int p1), (2, .int p2), (3, .int (0 : Int32))] [1, 2, 3, 0] rfl ?_
        exact J_46 fu R_22.1 R_20.1 R_22.2 v_known R_20.2.1 R_20.2.2 v_s v_whose p1 p2 (0 : Int32) hf
      · have hf := if_f hf c_21
        refine x_bipush 39 hC (-2 : Int32) dX8_draw_37 rfl (by decide) ?_
        cases hf
        exact x_iret hC dX8_draw_39 hQ rfl rfl
    · have hf := if_f hf c_19
      refine x_iconst 25 hC (-1 : Int32) dX8_draw_24 rfl (by decide) ?_
      cases hf
      exact x_iret hC dX8_draw_25 hQ rfl rfl

theorem hd_X8_round : yX8_round.cls = RX8 ∧ yX8_round.cls ≠ "java/lang/invoke/MethodHandle" ∧ yX8_round.cls ≠ "java/lang/invoke/VarHandle" ∧ (parseMethodDescriptor yX8_round.desc).map (fun d => d.parameters.length) = some 2 := by decide +kernel
theorem in_X8_round_X8 : ∀ w ∈ u_ws RX8 TX8 13, w ∈ wsX8_round := fun w h => List.mem_cons_of_mem _ (List.mem_append_right _ h)
noncomputable def f_X8_round_c46 : Nat → Int32 → Int32 → (Nat → Int64) → (Nat → Int64) → (Nat → Int32) → (Nat → Int32) → (Nat → Int64) → (Nat → Int64) → Int32 → Int32 → Int32 → Option (Int32 × Int32 × (Nat → Int64) × (Nat → Int64) × (Nat → Int32) × (Nat → Int32) × (Nat → Int64) × (Nat → Int64) × Int32)
  | 0, _, _, _, _, _, _, _, _, _, _, _ => none
  | n + 1, k46_undos, k46_open, k46_kept, k46_known, k46_lesser, k46_other, k46_s, k46_whose, k46_l1, k46_l2, k46_l3 => if (k46_l2 * k46_open) ≤ k46_l3 then (some (k46_undos, k46_open, k46_kept, k46_known, k46_lesser, k46_other, k46_s, k46_whose, (1 : Int32))) else (ckp (¬ k46_open = 0) (Classical.propDecidable _) <| ck (k46_l3 - k46_l3 / k46_open * k46_open) 45 <| ckp (¬ k46_open = 0) (Classical.propDecidable _) <| ck (k46_l3 - k46_l3 / k46_open * k46_open) 45 <| bd (f_X8_talks k46_known k46_s k46_whose k46_l1 (k46_lesser (k46_l3 - k46_l3 / k46_open * k46_open).toNatClampNeg) (k46_other (k46_l3 - k46_l3 / k46_open * k46_open).toNatClampNeg)) fun R_6 => nm (k46_l3 + (1 : Int32)) fun x_7 => (fun k46_undos k46_open k46_kept k46_known k46_lesser k46_other k46_s k46_whose k46_l1 k46_l2 k46_l3 => f_X8_round_c46 n k46_undos k46_open k46_kept k46_known k46_lesser k46_other k46_s k46_whose k46_l1 k46_l2 k46_l3) k46_undos k46_open k46_kept R_6.1 k46_lesser k46_other R_6.2.1 R_6.2.2 k46_l1 k46_l2 x_7)
noncomputable def f_X8_round (v_undos : Int32) (v_open : Int32) (v_kept : Nat → Int64) (v_known : Nat → Int64) (v_lesser : Nat → Int32) (v_other : Nat → Int32) (v_s : Nat → Int64) (v_whose : Nat → Int64) (p1 : Int32) (p2 : Int32) : Option (Int32 × Int32 × (Nat → Int64) × (Nat → Int64) × (Nat → Int32) × (Nat → Int32) × (Nat → Int64) × (Nat → Int64) × Int32) := bd (f_X8_in (p1.toInt64) (0 : Int64) (2 : Int64)) fun R_8 => if R_8 = 0 then (some (v_undos, v_open, v_kept, v_known, v_lesser, v_other, v_s, v_whose, (-1 : Int32))) else (bd (f_X8_in (p2.toInt64) (1 : Int64) (20 : Int64)) fun R_10 => if ¬ R_10 = 0 then (bd (f_X8_look v_s v_open v_lesser v_other) fun R_12 => if ¬ R_12.1 = 0 then (bd (f_X8_keep v_s v_undos v_kept) fun R_14 => f_X8_round_c46 fu R_14.1 R_12.1 R_14.2 v_known R_12.2.1 R_12.2.2 v_s v_whose p1 p2 (0 : Int32)) else (some (v_undos, R_12.1, v_kept, v_known, R_12.2.1, R_12.2.2, v_s, v_whose, (-2 : Int32)))) else (some (v_undos, v_open, v_kept, v_known, v_lesser, v_other, v_s, v_whose, (-1 : Int32))))
set_option maxHeartbeats 4000000 in
set_option maxRecDepth 100000 in
theorem c_X8_round (l : Launch) (D : va_G) (cI cJ cQ : ClassId) (a_this : Nat) (a_kept : Nat) (a_known : Nat) (a_lesser : Nat) (a_other : Nat) (a_s : Nat) (a_whose : Nat) (r_sums : Value) (r_weights : Value) (r_row : Value) (r_plan : Value) (v_undos : Int32) (v_open : Int32) (v_planned : Int32) (v_kept : Nat → Int64) (v_known : Nat → Int64) (v_lesser : Nat → Int32) (v_other : Nat → Int32) (v_s : Nat → Int64) (v_whose : Nat → Int64) (p1 : Int32) (p2 : Int32) (R0 : Int32 × Int32 × (Nat → Int64) × (Nat → Int64) × (Nat → Int32) × (Nat → Int32) × (Nat → Int64) × (Nat → Int64) × Int32) (hf : f_X8_round v_undos v_open v_kept v_known v_lesser v_other v_s v_whose p1 p2 = some R0) : Ci l yX8_round wsX8_round ({ frames := 5, cells := 0, slots := 0, locals := 157 } : Room) D [(cI, .int), (cJ, .long), (cQ, .object "WhisperCrowd$State")] [.ref a_this, .int p1, .int p2] [(a_this, .inr (8, [.ref a_s, .ref a_kept, .int v_undos, .ref a_known, .ref a_whose, .ref a_lesser, .ref a_other, .int v_open, r_sums, r_weights, r_row, r_plan, .int v_planned])), (a_kept, .inl (cJ, 12260, .inr (.inl v_kept))), (a_known, .inl (cJ, 8, .inr (.inl v_known))), (a_lesser, .inl (cI, 45, .inl v_lesser)), (a_other, .inl (cI, 45, .inl v_other)), (a_s, .inl (cJ, 613, .inr (.inl v_s))), (a_whose, .inl (cJ, 8, .inr (.inl v_whose)))] [(a_this, .inr (8, [.ref a_s, .ref a_kept, .int R0.1, .ref a_known, .ref a_whose, .ref a_lesser, .ref a_other, .int R0.2.1, r_sums, r_weights, r_row, r_plan, .int v_planned])), (a_kept, .inl (cJ, 12260, .inr (.inl R0.2.2.1))), (a_known, .inl (cJ, 8, .inr (.inl R0.2.2.2.1))), (a_lesser, .inl (cI, 45, .inl R0.2.2.2.2.1)), (a_other, .inl (cI, 45, .inl R0.2.2.2.2.2.1)), (a_s, .inl (cJ, 613, .inr (.inl R0.2.2.2.2.2.2.1))), (a_whose, .inl (cJ, 8, .inr (.inl R0.2.2.2.2.2.2.2.1)))] R0.2.2.2.2.2.2.2.2 := by
  refine x_enti (cc := cX8_round) (maxL := 4) (rt := (some .int)) (lv := [(0, .ref a_this), (1, .int p1), (2, .int p2)]) (by decide) rfl (Nat.le_of_ble_eq_true rfl) rfl ?_
  intro p e s m args below meth c A Q hQ hC
  have J_46 : ∀ (n : Nat) (k46_undos : Int32) (k46_open : Int32) (k46_kept : Nat → Int64) (k46_known : Nat → Int64) (k46_lesser : Nat → Int32) (k46_other : Nat → Int32) (k46_s : Nat → Int64) (k46_whose : Nat → Int64) (k46_l1 : Int32) (k46_l2 : Int32) (k46_l3 : Int32), f_X8_round_c46 n k46_undos k46_open k46_kept k46_known k46_lesser k46_other k46_s k46_whose k46_l1 k46_l2 k46_l3 = some R0 → XW p l e ({ frames := 5, cells := 0, slots := 0, locals := 157 } : Room) s m args below meth c D A 4 0 0 Q [(a_this, .inr (8, [.ref a_s, .ref a_kept, .int k46_undos, .ref a_known, .ref a_whose, .ref a_lesser, .ref a_other, .int k46_open, r_sums, r_weights, r_row, r_plan, .int v_planned])), (a_kept, .inl (cJ, 12260, .inr (.inl k46_kept))), (a_known, .inl (cJ, 8, .inr (.inl k46_known))), (a_lesser, .inl (cI, 45, .inl k46_lesser)), (a_other, .inl (cI, 45, .inl k46_other)), (a_s, .inl (cJ, 613, .inr (.inl k46_s))), (a_whose, .inl (cJ, 8, .inr (.inl k46_whose)))] [] [(0, .ref a_this), (1, .int k46_l1), (2, .int k46_l2), (3, .int k46_l3)] 46 [] := by
    intro n
    induction n with
    | zero => intro k46_undos k46_open k46_kept k46_known k46_lesser k46_other k46_s k46_whose k46_l1 k46_l2 k46_l3 hf; exact nomatch (show (none : Option (Int32 × Int32 × (Nat → Int64) × (Nat → Int64) × (Nat → Int32) × (Nat → Int32) × (Nat → Int64) × (Nat → Int64) × Int32)) = some R0 from hf)
    | succ n_46 ih_46 =>
      intro k46_undos k46_open k46_kept k46_known k46_lesser k46_other k46_s k46_whose k46_l1 k46_l2 k46_l3 hf
      unfold f_X8_round_c46 at hf
      refine x_iload_n 47 3 hC dX8_round_46 rfl rfl rfl ?_
      refine x_iload_n 48 2 hC dX8_round_47 rfl rfl rfl ?_
      refine x_aload_n 49 0 hC dX8_round_48 rfl rfl rfl ?_
      refine x_get 52 0 7 hC in_X8_round_X8 rfl rfl (by decide) (List.mem_of_getElem? (i := 3) (by decide +kernel)) rfl rfl dX8_round_49 rfl ?_
      refine x_imul 53 hC dX8_round_52 rfl ?_
      refine x_icmp_ge 89 56 hC dX8_round_53 (by decide) rfl (fun c_1 => ?_) (fun c_1 => ?_)
      · have hf := if_t hf c_1
        refine x_iconst 90 hC (1 : Int32) dX8_round_89 rfl (by decide) ?_
        cases hf
        exact x_iret hC dX8_round_90 hQ rfl rfl
      · have hf := if_f hf c_1
        refine x_aload_n 57 0 hC dX8_round_56 rfl rfl rfl ?_
        refine x_iload_n 58 1 hC dX8_round_57 rfl rfl rfl ?_
        refine x_aload_n 59 0 hC dX8_round_58 rfl rfl rfl ?_
        refine x_get 62 0 5 hC in_X8_round_X8 rfl rfl (by decide) (List.mem_of_getElem? (i := 4) (by decide +kernel)) rfl rfl dX8_round_59 rfl ?_
        refine x_iload_n 63 3 hC dX8_round_62 rfl rfl rfl ?_
        refine x_aload_n 64 0 hC dX8_round_63 rfl rfl rfl ?_
        refine x_get 67 0 7 hC in_X8_round_X8 rfl rfl (by decide) (List.mem_of_getElem? (i := 3) (by decide +kernel)) rfl rfl dX8_round_64 rfl ?_
        obtain ⟨h_2, hf⟩ := ckp_e hf
        refine x_irem 68 hC dX8_round_67 rfl h_2 ?_
        obtain ⟨h_3, hf⟩ := ck_e hf
        refine x_iald 69 3 0 hC rfl rfl h_3 dX8_round_68 rfl ?_
        refine x_aload_n 70 0 hC dX8_round_69 rfl rfl rfl ?_
        refine x_get 73 0 6 hC in_X8_round_X8 rfl rfl (by decide) (List.mem_of_getElem? (i := 5) (by decide +kernel)) rfl rfl dX8_round_70 rfl ?_
        refine x_iload_n 74 3 hC dX8_round_73 rfl rfl rfl ?_
        refine x_aload_n 75 0 hC dX8_round_74 rfl rfl rfl ?_
        refine x_get 78 0 7 hC in_X8_round_X8 rfl rfl (by decide) (List.mem_of_getElem? (i := 3) (by decide +kernel)) rfl rfl dX8_round_75 rfl ?_
        obtain ⟨h_4, hf⟩ := ckp_e hf
        refine x_irem 79 hC dX8_round_78 rfl h_4 ?_
        obtain ⟨h_5, hf⟩ := ck_e hf
        refine x_iald 80 4 0 hC rfl rfl h_5 dX8_round_79 rfl ?_
        obtain ⟨R_6, h_R_6, hf⟩ := bd_e hf
        refine x_callVv 83 0 3 [0, 2, 5, 6] [(a_this, .inr (8, [.ref a_s, .ref a_kept, .int k46_undos, .ref a_known, .ref a_whose, .ref a_lesser, .ref a_other, .int k46_open, r_sums, r_weights, r_row, r_plan, .int v_planned])), (a_kept, .inl (cJ, 12260, .inr (.inl k46_kept))), (a_known, .inl (cJ, 8, .inr (.inl R_6.1))), (a_lesser, .inl (cI, 45, .inl k46_lesser)), (a_other, .inl (cI, 45, .inl k46_other)), (a_s, .inl (cJ, 613, .inr (.inl R_6.2.1))), (a_whose, .inl (cJ, 8, .inr (.inl R_6.2.2)))] hC (As := [.int k46_l1, .int (k46_lesser (k46_l3 - k46_l3 / k46_open * k46_open).toNatClampNeg), .int (k46_other (k46_l3 - k46_l3 / k46_open * k46_open).toNatClampNeg)]) (c_X8_talks l D cI cJ cQ a_this a_known a_s a_whose (.ref a_kept) (.ref a_lesser) (.ref a_other) r_sums r_weights r_row r_plan k46_undos k46_open v_planned k46_known k46_s k46_whose k46_l1 (k46_lesser (k46_l3 - k46_l3 / k46_open * k46_open).toNatClampNeg) (k46_other (k46_l3 - k46_l3 / k46_open * k46_open).toNatClampNeg) R_6 h_R_6) rfl rfl gX8_round_X8_talks rfl ⟨rfl, rfl⟩ hd_X8_talks ⟨Nat.le_of_ble_eq_true rfl, Nat.le_of_ble_eq_true rfl⟩ rfl rfl rfl rfl rfl rfl (Nat.le_of_ble_eq_true rfl) ⟨Nat.le_of_ble_eq_true rfl, Nat.le_of_ble_eq_true rfl⟩ dX8_round_80 rfl ?_
        obtain ⟨x_7, e_x_7, hf⟩ := nmx_e hf
        refine x_iinc 86 3 [(3, .int x_7), (0, .ref a_this), (1, .int k46_l1), (2, .int k46_l2)] hC dX8_round_83 rfl rfl e_x_7 (by decide) (by decide) rfl ?_
        refine x_goto 46 hC dX8_round_86 (by decide) ?_
        refine x_lv [(0, .ref a_this), (1, .int k46_l1), (2, .int k46_l2), (3, .int x_7)] [1, 2, 3, 0] rfl ?_
        exact ih_46 k46_undos k46_open k46_kept R_6.1 k46_lesser k46_other R_6.2.1 R_6.2.2 k46_l1 k46_l2 x_7 hf
  unfold f_X8_round at hf
  refine x_iload_n 1 1 hC dX8_round_0 rfl rfl rfl ?_
  refine x_i2l 2 hC dX8_round_1 rfl ?_
  refine x_lconst 3 hC (0 : Int64) dX8_round_2 rfl (by decide) ?_
  refine x_ldc2 6 hC (v := (2 : Int64)) (List.mem_of_getElem? (i := 1) (by decide +kernel)) dX8_round_3 rfl ?_
  obtain ⟨R_8, h_R_8, hf⟩ := bd_e hf
  refine x_callSi 9 3 [] [(a_this, .inr (8, [.ref a_s, .ref a_kept, .int v_undos, .ref a_known, .ref a_whose, .ref a_lesser, .ref a_other, .int v_open, r_sums, r_weights, r_row, r_plan, .int v_planned])), (a_kept, .inl (cJ, 12260, .inr (.inl v_kept))), (a_known, .inl (cJ, 8, .inr (.inl v_known))), (a_lesser, .inl (cI, 45, .inl v_lesser)), (a_other, .inl (cI, 45, .inl v_other)), (a_s, .inl (cJ, 613, .inr (.inl v_s))), (a_whose, .inl (cJ, 8, .inr (.inl v_whose)))] hC (As := [.long (p1.toInt64), .long (0 : Int64), .long (2 : Int64)]) (c_X8_in l D cI cJ cQ (p1.toInt64) (0 : Int64) (2 : Int64) R_8 h_R_8) gX8_round_X8_in rfl ⟨rfl, rfl⟩ hd_X8_in ⟨Nat.le_of_ble_eq_true rfl, Nat.le_of_ble_eq_true rfl⟩ rfl rfl rfl rfl rfl rfl (Nat.le_of_ble_eq_true rfl) ⟨Nat.le_of_ble_eq_true rfl, Nat.le_of_ble_eq_true rfl⟩ dX8_round_6 rfl ?_
  refine x_if_eq 24 12 hC dX8_round_9 (by decide) rfl (fun c_9 => ?_) (fun c_9 => ?_)
  · have hf := if_t hf c_9
    refine x_iconst 25 hC (-1 : Int32) dX8_round_24 rfl (by decide) ?_
    cases hf
    exact x_iret hC dX8_round_25 hQ rfl rfl
  · have hf := if_f hf c_9
    refine x_iload_n 13 2 hC dX8_round_12 rfl rfl rfl ?_
    refine x_i2l 14 hC dX8_round_13 rfl ?_
    refine x_lconst 15 hC (1 : Int64) dX8_round_14 rfl (by decide) ?_
    refine x_ldc2 18 hC (v := (20 : Int64)) (List.mem_of_getElem? (i := 2) (by decide +kernel)) dX8_round_15 rfl ?_
    obtain ⟨R_10, h_R_10, hf⟩ := bd_e hf
    refine x_callSi 21 3 [] [(a_this, .inr (8, [.ref a_s, .ref a_kept, .int v_undos, .ref a_known, .ref a_whose, .ref a_lesser, .ref a_other, .int v_open, r_sums, r_weights, r_row, r_plan, .int v_planned])), (a_kept, .inl (cJ, 12260, .inr (.inl v_kept))), (a_known, .inl (cJ, 8, .inr (.inl v_known))), (a_lesser, .inl (cI, 45, .inl v_lesser)), (a_other, .inl (cI, 45, .inl v_other)), (a_s, .inl (cJ, 613, .inr (.inl v_s))), (a_whose, .inl (cJ, 8, .inr (.inl v_whose)))] hC (As := [.long (p2.toInt64), .long (1 : Int64), .long (20 : Int64)]) (c_X8_in l D cI cJ cQ (p2.toInt64) (1 : Int64) (20 : Int64) R_10 h_R_10) gX8_round_X8_in rfl ⟨rfl, rfl⟩ hd_X8_in ⟨Nat.le_of_ble_eq_true rfl, Nat.le_of_ble_eq_true rfl⟩ rfl rfl rfl rfl rfl rfl (Nat.le_of_ble_eq_true rfl) ⟨Nat.le_of_ble_eq_true rfl, Nat.le_of_ble_eq_true rfl⟩ dX8_round_18 rfl ?_
    refine x_if_ne 26 24 hC dX8_round_21 (by decide) rfl (fun c_11 => ?_) (fun c_11 => ?_)
    · have hf := if_t hf c_11
      refine x_aload_n 27 0 hC dX8_round_26 rfl rfl rfl ?_
      obtain ⟨R_12, h_R_12, hf⟩ := bd_e hf
      refine x_callVv 30 0 0 [0, 3, 4, 5] [(a_this, .inr (8, [.ref a_s, .ref a_kept, .int v_undos, .ref a_known, .ref a_whose, .ref a_lesser, .ref a_other, .int R_12.1, r_sums, r_weights, r_row, r_plan, .int v_planned])), (a_kept, .inl (cJ, 12260, .inr (.inl v_kept))), (a_known, .inl (cJ, 8, .inr (.inl v_known))), (a_lesser, .inl (cI, 45, .inl R_12.2.1)), (a_other, .inl (cI, 45, .inl R_12.2.2)), (a_s, .inl (cJ, 613, .inr (.inl v_s))), (a_whose, .inl (cJ, 8, .inr (.inl v_whose)))] hC (As := []) (c_X8_look l D cI cJ cQ a_this a_lesser a_other a_s (.ref a_kept) (.ref a_known) (.ref a_whose) r_sums r_weights r_row r_plan v_undos v_open v_planned v_lesser v_other v_s R_12 h_R_12) rfl rfl gX8_round_X8_look rfl ⟨rfl, rfl⟩ hd_X8_look ⟨Nat.le_of_ble_eq_true rfl, Nat.le_of_ble_eq_true rfl⟩ rfl rfl rfl rfl rfl rfl (Nat.le_of_ble_eq_true rfl) ⟨Nat.le_of_ble_eq_true rfl, Nat.le_of_ble_eq_true rfl⟩ dX8_round_27 rfl ?_
      refine x_aload_n 31 0 hC dX8_round_30 rfl rfl rfl ?_
      refine x_get 34 0 7 hC in_X8_round_X8 rfl rfl (by decide) (List.mem_of_getElem? (i := 3) (by decide +kernel)) rfl rfl dX8_round_31 rfl ?_
      refine x_if_ne 40 37 hC dX8_round_34 (by decide) rfl (fun c_13 => ?_) (fun c_13 => ?_)
      · have hf := if_t hf c_13
        refine x_aload_n 41 0 hC dX8_round_40 rfl rfl rfl ?_
        obtain ⟨R_14, h_R_14, hf⟩ := bd_e hf
        refine x_callVv 44 0 0 [0, 1, 5] [(a_this, .inr (8, [.ref a_s, .ref a_kept, .int R_14.1, .ref a_known, .ref a_whose, .ref a_lesser, .ref a_other, .int R_12.1, r_sums, r_weights, r_row, r_plan, .int v_planned])), (a_kept, .inl (cJ, 12260, .inr (.inl R_14.2))), (a_known, .inl (cJ, 8, .inr (.inl v_known))), (a_lesser, .inl (cI, 45, .inl R_12.2.1)), (a_other, .inl (cI, 45, .inl R_12.2.2)), (a_s, .inl (cJ, 613, .inr (.inl v_s))), (a_whose, .inl (cJ, 8, .inr (.inl v_whose)))] hC (As := []) (c_X8_keep l D cI cJ cQ a_this a_kept a_s (.ref a_known) (.ref a_whose) (.ref a_lesser) (.ref a_other) r_sums r_weights r_row r_plan v_undos R_12.1 v_planned v_kept v_s R_14 h_R_14) rfl rfl gX8_round_X8_keep rfl ⟨rfl, rfl⟩ hd_X8_keep ⟨Nat.le_of_ble_eq_true rfl, Nat.le_of_ble_eq_true rfl⟩ rfl rfl rfl rfl rfl rfl (Nat.le_of_ble_eq_true rfl) ⟨Nat.le_of_ble_eq_true rfl, Nat.le_of_ble_eq_true rfl⟩ dX8_round_41 rfl ?_
        refine x_iconst 45 hC (0 : Int32) dX8_round_44 rfl (by decide) ?_
        refine x_istore_n 46 [(3, .int (0 : Int32)), (0, .ref a_this), (1, .int p1), (2, .int p2)] hC dX8_round_45 rfl rfl rfl (by decide) rfl ?_
        refine x_lv [(0, .ref a_this), (1, .int p1), (2, .int p2), (3, .int (0 : Int32))] [1, 2, 3, 0] rfl ?_
        exact J_46 fu R_14.1 R_12.1 R_14.2 v_known R_12.2.1 R_12.2.2 v_s v_whose p1 p2 (0 : Int32) hf
      · have hf := if_f hf c_13
        refine x_bipush 39 hC (-2 : Int32) dX8_round_37 rfl (by decide) ?_
        cases hf
        exact x_iret hC dX8_round_39 hQ rfl rfl
    · have hf := if_f hf c_11
      refine x_iconst 25 hC (-1 : Int32) dX8_round_24 rfl (by decide) ?_
      cases hf
      exact x_iret hC dX8_round_25 hQ rfl rfl

theorem hd_X8_here : yX8_here.cls = RX8 ∧ yX8_here.cls ≠ "java/lang/invoke/MethodHandle" ∧ yX8_here.cls ≠ "java/lang/invoke/VarHandle" ∧ (parseMethodDescriptor yX8_here.desc).map (fun d => d.parameters.length) = some 0 := by decide +kernel
noncomputable def f_X8_here_c24 (k4 : Int32 → Int32 → Option (Int32)) (v_s : Nat → Int64) (k24_l2 : Int32) (k24_s0 : Int32) (k24_s1 : Int32) : Option (Int32) := nm (k24_s1 + k24_s0) fun x_1 => nm (k24_l2 + (1 : Int32)) fun x_2 => k4 x_1 x_2
noncomputable def f_X8_here_c4 (v_s : Nat → Int64) : Nat → Int32 → Int32 → Option (Int32)
  | 0, _, _ => none
  | n + 1, k4_l1, k4_l2 => if (10 : Int32) ≤ k4_l2 then (some (k4_l1)) else (bd (f_X8_isHere v_s k4_l2) fun R_4 => if R_4 = 0 then (f_X8_here_c24 (fun k4_l1 k4_l2 => f_X8_here_c4 v_s n k4_l1 k4_l2) v_s k4_l2 (0 : Int32) k4_l1) else (f_X8_here_c24 (fun k4_l1 k4_l2 => f_X8_here_c4 v_s n k4_l1 k4_l2) v_s k4_l2 (1 : Int32) k4_l1))
noncomputable def f_X8_here (v_s : Nat → Int64) : Option (Int32) := f_X8_here_c4 v_s fu (0 : Int32) (0 : Int32)
set_option maxHeartbeats 4000000 in
set_option maxRecDepth 100000 in
theorem c_X8_here (l : Launch) (D : va_G) (cI cJ cQ : ClassId) (a_this : Nat) (a_s : Nat) (r_kept : Value) (r_known : Value) (r_whose : Value) (r_lesser : Value) (r_other : Value) (r_sums : Value) (r_weights : Value) (r_row : Value) (r_plan : Value) (v_undos : Int32) (v_open : Int32) (v_planned : Int32) (v_s : Nat → Int64) (R0 : Int32) (hf : f_X8_here v_s = some R0) : Ci l yX8_here wsX8_here ({ frames := 4, cells := 0, slots := 0, locals := 133 } : Room) D [(cI, .int), (cJ, .long), (cQ, .object "WhisperCrowd$State")] [.ref a_this] [(a_this, .inr (8, [.ref a_s, r_kept, .int v_undos, r_known, r_whose, r_lesser, r_other, .int v_open, r_sums, r_weights, r_row, r_plan, .int v_planned])), (a_s, .inl (cJ, 613, .inr (.inl v_s)))] [(a_this, .inr (8, [.ref a_s, r_kept, .int v_undos, r_known, r_whose, r_lesser, r_other, .int v_open, r_sums, r_weights, r_row, r_plan, .int v_planned])), (a_s, .inl (cJ, 613, .inr (.inl v_s)))] R0 := by
  refine x_enti (cc := cX8_here) (maxL := 3) (rt := (some .int)) (lv := [(0, .ref a_this)]) (by decide) rfl (Nat.le_of_ble_eq_true rfl) rfl ?_
  intro p e s m args below meth c A Q hQ hC
  have J_4 : ∀ (n : Nat) (k4_l1 : Int32) (k4_l2 : Int32), f_X8_here_c4 v_s n k4_l1 k4_l2 = some R0 → XW p l e ({ frames := 4, cells := 0, slots := 0, locals := 133 } : Room) s m args below meth c D A 3 0 0 Q [(a_this, .inr (8, [.ref a_s, r_kept, .int v_undos, r_known, r_whose, r_lesser, r_other, .int v_open, r_sums, r_weights, r_row, r_plan, .int v_planned])), (a_s, .inl (cJ, 613, .inr (.inl v_s)))] [] [(0, .ref a_this), (1, .int k4_l1), (2, .int k4_l2)] 4 [] := by
    intro n
    induction n with
    | zero => intro k4_l1 k4_l2 hf; exact nomatch (show (none : Option (Int32)) = some R0 from hf)
    | succ n_4 ih_4 =>
      have J_24 : ∀ (k24_l2 : Int32) (k24_s0 : Int32) (k24_s1 : Int32), f_X8_here_c24 (fun k4_l1 k4_l2 => f_X8_here_c4 v_s n_4 k4_l1 k4_l2) v_s k24_l2 k24_s0 k24_s1 = some R0 → XW p l e ({ frames := 4, cells := 0, slots := 0, locals := 133 } : Room) s m args below meth c D A 3 0 0 Q [(a_this, .inr (8, [.ref a_s, r_kept, .int v_undos, r_known, r_whose, r_lesser, r_other, .int v_open, r_sums, r_weights, r_row, r_plan, .int v_planned])), (a_s, .inl (cJ, 613, .inr (.inl v_s)))] [] [(0, .ref a_this), (2, .int k24_l2)] 24 [.int k24_s0, .int k24_s1] := by
        intro k24_l2 k24_s0 k24_s1 hf
        unfold f_X8_here_c24 at hf
        refine x_iadd 25 hC dX8_here_24 rfl ?_
        obtain ⟨x_1, e_x_1, hf⟩ := nmx_e hf
        refine x_istore_n 26 [(1, .int x_1), (0, .ref a_this), (2, .int k24_l2)] hC dX8_here_25 rfl rfl e_x_1 (by decide) rfl ?_
        obtain ⟨x_2, e_x_2, hf⟩ := nmx_e hf
        refine x_iinc 29 2 [(2, .int x_2), (1, .int x_1), (0, .ref a_this)] hC dX8_here_26 rfl rfl e_x_2 (by decide) (by decide) rfl ?_
        refine x_goto 4 hC dX8_here_29 (by decide) ?_
        refine x_lv [(0, .ref a_this), (1, .int x_1), (2, .int x_2)] [2, 1, 0] rfl ?_
        exact ih_4 x_1 x_2 hf
      intro k4_l1 k4_l2 hf
      unfold f_X8_here_c4 at hf
      refine x_iload_n 5 2 hC dX8_here_4 rfl rfl rfl ?_
      refine x_bipush 7 hC (10 : Int32) dX8_here_5 rfl (by decide) ?_
      refine x_icmp_ge 32 10 hC dX8_here_7 (by decide) rfl (fun c_3 => ?_) (fun c_3 => ?_)
      · have hf := if_t hf c_3
        refine x_iload_n 33 1 hC dX8_here_32 rfl rfl rfl ?_
        cases hf
        exact x_iret hC dX8_here_33 hQ rfl rfl
      · have hf := if_f hf c_3
        refine x_iload_n 11 1 hC dX8_here_10 rfl rfl rfl ?_
        refine x_aload_n 12 0 hC dX8_here_11 rfl rfl rfl ?_
        refine x_iload_n 13 2 hC dX8_here_12 rfl rfl rfl ?_
        obtain ⟨R_4, h_R_4, hf⟩ := bd_e hf
        refine x_callVi 16 0 1 [0, 1] [(a_this, .inr (8, [.ref a_s, r_kept, .int v_undos, r_known, r_whose, r_lesser, r_other, .int v_open, r_sums, r_weights, r_row, r_plan, .int v_planned])), (a_s, .inl (cJ, 613, .inr (.inl v_s)))] hC (As := [.int k4_l2]) (c_X8_isHere l D cI cJ cQ a_this a_s r_kept r_known r_whose r_lesser r_other r_sums r_weights r_row r_plan v_undos v_open v_planned v_s k4_l2 R_4 h_R_4) rfl rfl gX8_here_X8_isHere rfl ⟨rfl, rfl⟩ hd_X8_isHere ⟨Nat.le_of_ble_eq_true rfl, Nat.le_of_ble_eq_true rfl⟩ rfl rfl rfl rfl rfl rfl (Nat.le_of_ble_eq_true rfl) ⟨Nat.le_of_ble_eq_true rfl, Nat.le_of_ble_eq_true rfl⟩ dX8_here_13 rfl ?_
        refine x_if_eq 23 19 hC dX8_here_16 (by decide) rfl (fun c_5 => ?_) (fun c_5 => ?_)
        · have hf := if_t hf c_5
          refine x_iconst 24 hC (0 : Int32) dX8_here_23 rfl (by decide) ?_
          refine x_lv [(0, .ref a_this), (2, .int k4_l2)] [0, 2] rfl ?_
          exact J_24 k4_l2 (0 : Int32) k4_l1 hf
        · have hf := if_f hf c_5
          refine x_iconst 20 hC (1 : Int32) dX8_here_19 rfl (by decide) ?_
          refine x_goto 24 hC dX8_here_20 (by decide) ?_
          refine x_lv [(0, .ref a_this), (2, .int k4_l2)] [0, 2] rfl ?_
          exact J_24 k4_l2 (1 : Int32) k4_l1 hf
  unfold f_X8_here at hf
  refine x_iconst 1 hC (0 : Int32) dX8_here_0 rfl (by decide) ?_
  refine x_istore_n 2 [(1, .int (0 : Int32)), (0, .ref a_this)] hC dX8_here_1 rfl rfl rfl (by decide) rfl ?_
  refine x_iconst 3 hC (0 : Int32) dX8_here_2 rfl (by decide) ?_
  refine x_istore_n 4 [(2, .int (0 : Int32)), (1, .int (0 : Int32)), (0, .ref a_this)] hC dX8_here_3 rfl rfl rfl (by decide) rfl ?_
  refine x_lv [(0, .ref a_this), (1, .int (0 : Int32)), (2, .int (0 : Int32))] [2, 1, 0] rfl ?_
  exact J_4 fu (0 : Int32) (0 : Int32) hf

theorem hd_X8_fresh : yX8_fresh.cls = RX8 ∧ yX8_fresh.cls ≠ "java/lang/invoke/MethodHandle" ∧ yX8_fresh.cls ≠ "java/lang/invoke/VarHandle" ∧ (parseMethodDescriptor yX8_fresh.desc).map (fun d => d.parameters.length) = some 0 := by decide +kernel
theorem in_X8_fresh_X8 : ∀ w ∈ u_ws RX8 TX8 13, w ∈ wsX8_fresh := fun w h => List.mem_cons_of_mem _ (List.mem_append_right _ h)
noncomputable def f_X8_fresh_c73 (k6 : Int32 → (Nat → Int64) → (Nat → Int64) → Int32 → Option (Int32 × (Nat → Int64) × (Nat → Int64) × Int32)) (k73_undos : Int32) (k73_kept : Nat → Int64) (k73_s : Nat → Int64) (k73_l1 : Int32) : Option (Int32 × (Nat → Int64) × (Nat → Int64) × Int32) := nm (k73_l1 + (1 : Int32)) fun x_1 => k6 k73_undos k73_kept k73_s x_1
noncomputable def f_X8_fresh_c6 : Nat → Int32 → (Nat → Int64) → (Nat → Int64) → Int32 → Option (Int32 × (Nat → Int64) × (Nat → Int64) × Int32)
  | 0, _, _, _, _ => none
  | n + 1, k6_undos, k6_kept, k6_s, k6_l1 => if (10 : Int32) ≤ k6_l1 then (bd (f_X8_here k6_s) fun R_3 => some (k6_undos, k6_kept, k6_s, R_3)) else (bd (f_X8_isHere k6_s k6_l1) fun R_4 => if R_4 = 0 then (f_X8_fresh_c73 (fun k6_undos k6_kept k6_s k6_l1 => f_X8_fresh_c6 n k6_undos k6_kept k6_s k6_l1) k6_undos k6_kept k6_s k6_l1) else (ck ((23 : Int32) + k6_l1) 613 <| ck ((53 : Int32) + k6_l1) 613 <| nm (vp_updL k6_s ((53 : Int32) + k6_l1).toNatClampNeg (k6_s ((23 : Int32) + k6_l1).toNatClampNeg)) fun g_8 => ck ((23 : Int32) + k6_l1) 613 <| ck ((63 : Int32) + k6_l1) 613 <| nm (vp_updL g_8 ((63 : Int32) + k6_l1).toNatClampNeg (g_8 ((23 : Int32) + k6_l1).toNatClampNeg)) fun g_11 => ck ((73 : Int32) + k6_l1) 613 <| nm (vp_updL g_11 ((73 : Int32) + k6_l1).toNatClampNeg ((1 : Int64) <<< (k6_l1.toInt64 &&& 63))) fun g_13 => bd (f_X8_drawsTicket g_13 k6_l1) fun R_14 => f_X8_fresh_c73 (fun k6_undos k6_kept k6_s k6_l1 => f_X8_fresh_c6 n k6_undos k6_kept k6_s k6_l1) k6_undos k6_kept R_14 k6_l1))
noncomputable def f_X8_fresh (v_undos : Int32) (v_kept : Nat → Int64) (v_s : Nat → Int64) : Option (Int32 × (Nat → Int64) × (Nat → Int64) × Int32) := bd (f_X8_keep v_s v_undos v_kept) fun R_15 => f_X8_fresh_c6 fu R_15.1 R_15.2 v_s (0 : Int32)
set_option maxHeartbeats 4000000 in
set_option maxRecDepth 100000 in
theorem c_X8_fresh (l : Launch) (D : va_G) (cI cJ cQ : ClassId) (a_this : Nat) (a_kept : Nat) (a_s : Nat) (r_known : Value) (r_whose : Value) (r_lesser : Value) (r_other : Value) (r_sums : Value) (r_weights : Value) (r_row : Value) (r_plan : Value) (v_undos : Int32) (v_open : Int32) (v_planned : Int32) (v_kept : Nat → Int64) (v_s : Nat → Int64) (R0 : Int32 × (Nat → Int64) × (Nat → Int64) × Int32) (hf : f_X8_fresh v_undos v_kept v_s = some R0) : Ci l yX8_fresh wsX8_fresh ({ frames := 5, cells := 0, slots := 0, locals := 157 } : Room) D [(cI, .int), (cJ, .long), (cQ, .object "WhisperCrowd$State")] [.ref a_this] [(a_this, .inr (8, [.ref a_s, .ref a_kept, .int v_undos, r_known, r_whose, r_lesser, r_other, .int v_open, r_sums, r_weights, r_row, r_plan, .int v_planned])), (a_kept, .inl (cJ, 12260, .inr (.inl v_kept))), (a_s, .inl (cJ, 613, .inr (.inl v_s)))] [(a_this, .inr (8, [.ref a_s, .ref a_kept, .int R0.1, r_known, r_whose, r_lesser, r_other, .int v_open, r_sums, r_weights, r_row, r_plan, .int v_planned])), (a_kept, .inl (cJ, 12260, .inr (.inl R0.2.1))), (a_s, .inl (cJ, 613, .inr (.inl R0.2.2.1)))] R0.2.2.2 := by
  refine x_enti (cc := cX8_fresh) (maxL := 2) (rt := (some .int)) (lv := [(0, .ref a_this)]) (by decide) rfl (Nat.le_of_ble_eq_true rfl) rfl ?_
  intro p e s m args below meth c A Q hQ hC
  have J_6 : ∀ (n : Nat) (k6_undos : Int32) (k6_kept : Nat → Int64) (k6_s : Nat → Int64) (k6_l1 : Int32), f_X8_fresh_c6 n k6_undos k6_kept k6_s k6_l1 = some R0 → XW p l e ({ frames := 5, cells := 0, slots := 0, locals := 157 } : Room) s m args below meth c D A 2 0 0 Q [(a_this, .inr (8, [.ref a_s, .ref a_kept, .int k6_undos, r_known, r_whose, r_lesser, r_other, .int v_open, r_sums, r_weights, r_row, r_plan, .int v_planned])), (a_kept, .inl (cJ, 12260, .inr (.inl k6_kept))), (a_s, .inl (cJ, 613, .inr (.inl k6_s)))] [] [(0, .ref a_this), (1, .int k6_l1)] 6 [] := by
    intro n
    induction n with
    | zero => intro k6_undos k6_kept k6_s k6_l1 hf; exact nomatch (show (none : Option (Int32 × (Nat → Int64) × (Nat → Int64) × Int32)) = some R0 from hf)
    | succ n_6 ih_6 =>
      have J_73 : ∀ (k73_undos : Int32) (k73_kept : Nat → Int64) (k73_s : Nat → Int64) (k73_l1 : Int32), f_X8_fresh_c73 (fun k6_undos k6_kept k6_s k6_l1 => f_X8_fresh_c6 n_6 k6_undos k6_kept k6_s k6_l1) k73_undos k73_kept k73_s k73_l1 = some R0 → XW p l e ({ frames := 5, cells := 0, slots := 0, locals := 157 } : Room) s m args below meth c D A 2 0 0 Q [(a_this, .inr (8, [.ref a_s, .ref a_kept, .int k73_undos, r_known, r_whose, r_lesser, r_other, .int v_open, r_sums, r_weights, r_row, r_plan, .int v_planned])), (a_kept, .inl (cJ, 12260, .inr (.inl k73_kept))), (a_s, .inl (cJ, 613, .inr (.inl k73_s)))] [] [(0, .ref a_this), (1, .int k73_l1)] 73 [] := by
        intro k73_undos k73_kept k73_s k73_l1 hf
        unfold f_X8_fresh_c73 at hf
        obtain ⟨x_1, e_x_1, hf⟩ := nmx_e hf
        refine x_iinc 76 1 [(1, .int x_1), (0, .ref a_this)] hC dX8_fresh_73 rfl rfl e_x_1 (by decide) (by decide) rfl ?_
        refine x_goto 6 hC dX8_fresh_76 (by decide) ?_
        refine x_lv [(0, .ref a_this), (1, .int x_1)] [1, 0] rfl ?_
        exact ih_6 k73_undos k73_kept k73_s x_1 hf
      intro k6_undos k6_kept k6_s k6_l1 hf
      unfold f_X8_fresh_c6 at hf
      refine x_iload_n 7 1 hC dX8_fresh_6 rfl rfl rfl ?_
      refine x_bipush 9 hC (10 : Int32) dX8_fresh_7 rfl (by decide) ?_
      refine x_icmp_ge 79 12 hC dX8_fresh_9 (by decide) rfl (fun c_2 => ?_) (fun c_2 => ?_)
      · have hf := if_t hf c_2
        refine x_aload_n 80 0 hC dX8_fresh_79 rfl rfl rfl ?_
        obtain ⟨R_3, h_R_3, hf⟩ := bd_e hf
        refine x_callVi 83 0 0 [0, 2] [(a_this, .inr (8, [.ref a_s, .ref a_kept, .int k6_undos, r_known, r_whose, r_lesser, r_other, .int v_open, r_sums, r_weights, r_row, r_plan, .int v_planned])), (a_kept, .inl (cJ, 12260, .inr (.inl k6_kept))), (a_s, .inl (cJ, 613, .inr (.inl k6_s)))] hC (As := []) (c_X8_here l D cI cJ cQ a_this a_s (.ref a_kept) r_known r_whose r_lesser r_other r_sums r_weights r_row r_plan k6_undos v_open v_planned k6_s R_3 h_R_3) rfl rfl gX8_fresh_X8_here rfl ⟨rfl, rfl⟩ hd_X8_here ⟨Nat.le_of_ble_eq_true rfl, Nat.le_of_ble_eq_true rfl⟩ rfl rfl rfl rfl rfl rfl (Nat.le_of_ble_eq_true rfl) ⟨Nat.le_of_ble_eq_true rfl, Nat.le_of_ble_eq_true rfl⟩ dX8_fresh_80 rfl ?_
        cases hf
        exact x_iret hC dX8_fresh_83 hQ rfl rfl
      · have hf := if_f hf c_2
        refine x_aload_n 13 0 hC dX8_fresh_12 rfl rfl rfl ?_
        refine x_iload_n 14 1 hC dX8_fresh_13 rfl rfl rfl ?_
        obtain ⟨R_4, h_R_4, hf⟩ := bd_e hf
        refine x_callVi 17 0 1 [0, 2] [(a_this, .inr (8, [.ref a_s, .ref a_kept, .int k6_undos, r_known, r_whose, r_lesser, r_other, .int v_open, r_sums, r_weights, r_row, r_plan, .int v_planned])), (a_kept, .inl (cJ, 12260, .inr (.inl k6_kept))), (a_s, .inl (cJ, 613, .inr (.inl k6_s)))] hC (As := [.int k6_l1]) (c_X8_isHere l D cI cJ cQ a_this a_s (.ref a_kept) r_known r_whose r_lesser r_other r_sums r_weights r_row r_plan k6_undos v_open v_planned k6_s k6_l1 R_4 h_R_4) rfl rfl gX8_fresh_X8_isHere rfl ⟨rfl, rfl⟩ hd_X8_isHere ⟨Nat.le_of_ble_eq_true rfl, Nat.le_of_ble_eq_true rfl⟩ rfl rfl rfl rfl rfl rfl (Nat.le_of_ble_eq_true rfl) ⟨Nat.le_of_ble_eq_true rfl, Nat.le_of_ble_eq_true rfl⟩ dX8_fresh_14 rfl ?_
        refine x_if_eq 73 20 hC dX8_fresh_17 (by decide) rfl (fun c_5 => ?_) (fun c_5 => ?_)
        · have hf := if_t hf c_5
          refine x_lv [(0, .ref a_this), (1, .int k6_l1)] [0, 1] rfl ?_
          exact J_73 k6_undos k6_kept k6_s k6_l1 hf
        · have hf := if_f hf c_5
          refine x_aload_n 21 0 hC dX8_fresh_20 rfl rfl rfl ?_
          refine x_get 24 0 0 hC in_X8_fresh_X8 rfl rfl (by decide) (List.mem_of_getElem? (i := 1) (by decide +kernel)) rfl rfl dX8_fresh_21 rfl ?_
          refine x_bipush 26 hC (53 : Int32) dX8_fresh_24 rfl (by decide) ?_
          refine x_iload_n 27 1 hC dX8_fresh_26 rfl rfl rfl ?_
          refine x_iadd 28 hC dX8_fresh_27 rfl ?_
          refine x_aload_n 29 0 hC dX8_fresh_28 rfl rfl rfl ?_
          refine x_get 32 0 0 hC in_X8_fresh_X8 rfl rfl (by decide) (List.mem_of_getElem? (i := 1) (by decide +kernel)) rfl rfl dX8_fresh_29 rfl ?_
          refine x_bipush 34 hC (23 : Int32) dX8_fresh_32 rfl (by decide) ?_
          refine x_iload_n 35 1 hC dX8_fresh_34 rfl rfl rfl ?_
          refine x_iadd 36 hC dX8_fresh_35 rfl ?_
          obtain ⟨h_6, hf⟩ := ck_e hf
          refine x_lald 37 2 1 hC rfl rfl h_6 dX8_fresh_36 rfl ?_
          obtain ⟨h_7, hf⟩ := ck_e hf
          obtain ⟨g_8, e_g_8, hf⟩ := nmx_e hf
          refine x_last 38 2 1 [(a_this, .inr (8, [.ref a_s, .ref a_kept, .int k6_undos, r_known, r_whose, r_lesser, r_other, .int v_open, r_sums, r_weights, r_row, r_plan, .int v_planned])), (a_kept, .inl (cJ, 12260, .inr (.inl k6_kept))), (a_s, .inl (cJ, 613, .inr (.inl g_8)))] hC rfl rfl h_7 e_g_8 rfl dX8_fresh_37 rfl ?_
          refine x_aload_n 39 0 hC dX8_fresh_38 rfl rfl rfl ?_
          refine x_get 42 0 0 hC in_X8_fresh_X8 rfl rfl (by decide) (List.mem_of_getElem? (i := 1) (by decide +kernel)) rfl rfl dX8_fresh_39 rfl ?_
          refine x_bipush 44 hC (63 : Int32) dX8_fresh_42 rfl (by decide) ?_
          refine x_iload_n 45 1 hC dX8_fresh_44 rfl rfl rfl ?_
          refine x_iadd 46 hC dX8_fresh_45 rfl ?_
          refine x_aload_n 47 0 hC dX8_fresh_46 rfl rfl rfl ?_
          refine x_get 50 0 0 hC in_X8_fresh_X8 rfl rfl (by decide) (List.mem_of_getElem? (i := 1) (by decide +kernel)) rfl rfl dX8_fresh_47 rfl ?_
          refine x_bipush 52 hC (23 : Int32) dX8_fresh_50 rfl (by decide) ?_
          refine x_iload_n 53 1 hC dX8_fresh_52 rfl rfl rfl ?_
          refine x_iadd 54 hC dX8_fresh_53 rfl ?_
          obtain ⟨h_9, hf⟩ := ck_e hf
          refine x_lald 55 2 1 hC rfl rfl h_9 dX8_fresh_54 rfl ?_
          obtain ⟨h_10, hf⟩ := ck_e hf
          obtain ⟨g_11, e_g_11, hf⟩ := nmx_e hf
          refine x_last 56 2 1 [(a_this, .inr (8, [.ref a_s, .ref a_kept, .int k6_undos, r_known, r_whose, r_lesser, r_other, .int v_open, r_sums, r_weights, r_row, r_plan, .int v_planned])), (a_kept, .inl (cJ, 12260, .inr (.inl k6_kept))), (a_s, .inl (cJ, 613, .inr (.inl g_11)))] hC rfl rfl h_10 e_g_11 rfl dX8_fresh_55 rfl ?_
          refine x_aload_n 57 0 hC dX8_fresh_56 rfl rfl rfl ?_
          refine x_get 60 0 0 hC in_X8_fresh_X8 rfl rfl (by decide) (List.mem_of_getElem? (i := 1) (by decide +kernel)) rfl rfl dX8_fresh_57 rfl ?_
          refine x_bipush 62 hC (73 : Int32) dX8_fresh_60 rfl (by decide) ?_
          refine x_iload_n 63 1 hC dX8_fresh_62 rfl rfl rfl ?_
          refine x_iadd 64 hC dX8_fresh_63 rfl ?_
          refine x_lconst 65 hC (1 : Int64) dX8_fresh_64 rfl (by decide) ?_
          refine x_iload_n 66 1 hC dX8_fresh_65 rfl rfl rfl ?_
          refine x_lshl 67 hC dX8_fresh_66 rfl ?_
          obtain ⟨h_12, hf⟩ := ck_e hf
          obtain ⟨g_13, e_g_13, hf⟩ := nmx_e hf
          refine x_last 68 2 1 [(a_this, .inr (8, [.ref a_s, .ref a_kept, .int k6_undos, r_known, r_whose, r_lesser, r_other, .int v_open, r_sums, r_weights, r_row, r_plan, .int v_planned])), (a_kept, .inl (cJ, 12260, .inr (.inl k6_kept))), (a_s, .inl (cJ, 613, .inr (.inl g_13)))] hC rfl rfl h_12 e_g_13 rfl dX8_fresh_67 rfl ?_
          refine x_aload_n 69 0 hC dX8_fresh_68 rfl rfl rfl ?_
          refine x_iload_n 70 1 hC dX8_fresh_69 rfl rfl rfl ?_
          obtain ⟨R_14, h_R_14, hf⟩ := bd_e hf
          refine x_callVv 73 0 1 [0, 2] [(a_this, .inr (8, [.ref a_s, .ref a_kept, .int k6_undos, r_known, r_whose, r_lesser, r_other, .int v_open, r_sums, r_weights, r_row, r_plan, .int v_planned])), (a_kept, .inl (cJ, 12260, .inr (.inl k6_kept))), (a_s, .inl (cJ, 613, .inr (.inl R_14)))] hC (As := [.int k6_l1]) (c_X8_drawsTicket l D cI cJ cQ a_this a_s (.ref a_kept) r_known r_whose r_lesser r_other r_sums r_weights r_row r_plan k6_undos v_open v_planned g_13 k6_l1 R_14 h_R_14) rfl rfl gX8_fresh_X8_drawsTicket rfl ⟨rfl, rfl⟩ hd_X8_drawsTicket ⟨Nat.le_of_ble_eq_true rfl, Nat.le_of_ble_eq_true rfl⟩ rfl rfl rfl rfl rfl rfl (Nat.le_of_ble_eq_true rfl) ⟨Nat.le_of_ble_eq_true rfl, Nat.le_of_ble_eq_true rfl⟩ dX8_fresh_70 rfl ?_
          refine x_lv [(0, .ref a_this), (1, .int k6_l1)] [0, 1] rfl ?_
          exact J_73 k6_undos k6_kept R_14 k6_l1 hf
  unfold f_X8_fresh at hf
  refine x_aload_n 1 0 hC dX8_fresh_0 rfl rfl rfl ?_
  obtain ⟨R_15, h_R_15, hf⟩ := bd_e hf
  refine x_callVv 4 0 0 [0, 1, 2] [(a_this, .inr (8, [.ref a_s, .ref a_kept, .int R_15.1, r_known, r_whose, r_lesser, r_other, .int v_open, r_sums, r_weights, r_row, r_plan, .int v_planned])), (a_kept, .inl (cJ, 12260, .inr (.inl R_15.2))), (a_s, .inl (cJ, 613, .inr (.inl v_s)))] hC (As := []) (c_X8_keep l D cI cJ cQ a_this a_kept a_s r_known r_whose r_lesser r_other r_sums r_weights r_row r_plan v_undos v_open v_planned v_kept v_s R_15 h_R_15) rfl rfl gX8_fresh_X8_keep rfl ⟨rfl, rfl⟩ hd_X8_keep ⟨Nat.le_of_ble_eq_true rfl, Nat.le_of_ble_eq_true rfl⟩ rfl rfl rfl rfl rfl rfl (Nat.le_of_ble_eq_true rfl) ⟨Nat.le_of_ble_eq_true rfl, Nat.le_of_ble_eq_true rfl⟩ dX8_fresh_1 rfl ?_
  refine x_iconst 5 hC (0 : Int32) dX8_fresh_4 rfl (by decide) ?_
  refine x_istore_n 6 [(1, .int (0 : Int32)), (0, .ref a_this)] hC dX8_fresh_5 rfl rfl rfl (by decide) rfl ?_
  refine x_lv [(0, .ref a_this), (1, .int (0 : Int32))] [1, 0] rfl ?_
  exact J_6 fu R_15.1 R_15.2 v_s (0 : Int32) hf

theorem hd_X8_about : yX8_about.cls = RX8 ∧ yX8_about.cls ≠ "java/lang/invoke/MethodHandle" ∧ yX8_about.cls ≠ "java/lang/invoke/VarHandle" ∧ (parseMethodDescriptor yX8_about.desc).map (fun d => d.parameters.length) = some 2 := by decide +kernel
theorem in_X8_about_X8 : ∀ w ∈ u_ws RX8 TX8 13, w ∈ wsX8_about := fun w h => List.mem_cons_of_mem _ (List.mem_append_right _ h)
noncomputable def f_X8_about (v_s : Nat → Int64) (p1 : Int32) (p2 : Int32) : Option (Int32) := bd (f_X8_isMember v_s p1) fun R_1 => if R_1 = 0 then (some ((-1 : Int32))) else (bd (f_X8_in (p2.toInt64) (0 : Int64) (5 : Int64)) fun R_3 => if ¬ R_3 = 0 then (if ¬ p2 = 0 then (bd (f_X8_isHere v_s p1) fun R_6 => if ¬ R_6 = 0 then (if p2 = (1 : Int32) then (ck ((23 : Int32) + p1) 613 <| some (((v_s ((23 : Int32) + p1).toNatClampNeg).toInt32))) else (if p2 = (2 : Int32) then (ck ((53 : Int32) + p1) 613 <| some (((v_s ((53 : Int32) + p1).toNatClampNeg).toInt32))) else (if p2 = (3 : Int32) then (ck ((63 : Int32) + p1) 613 <| some (((v_s ((63 : Int32) + p1).toNatClampNeg).toInt32))) else (if p2 = (4 : Int32) then (ck ((73 : Int32) + p1) 613 <| some (((v_s ((73 : Int32) + p1).toNatClampNeg).toInt32))) else (ck ((83 : Int32) + p1) 613 <| some (((v_s ((83 : Int32) + p1).toNatClampNeg).toInt32))))))) else (some ((-2 : Int32)))) else (bd (f_X8_isHere v_s p1) fun R_17 => if R_17 = 0 then (some ((0 : Int32))) else (some ((1 : Int32))))) else (some ((-1 : Int32))))
set_option maxHeartbeats 4000000 in
set_option maxRecDepth 100000 in
theorem c_X8_about (l : Launch) (D : va_G) (cI cJ cQ : ClassId) (a_this : Nat) (a_s : Nat) (r_kept : Value) (r_known : Value) (r_whose : Value) (r_lesser : Value) (r_other : Value) (r_sums : Value) (r_weights : Value) (r_row : Value) (r_plan : Value) (v_undos : Int32) (v_open : Int32) (v_planned : Int32) (v_s : Nat → Int64) (p1 : Int32) (p2 : Int32) (R0 : Int32) (hf : f_X8_about v_s p1 p2 = some R0) : Ci l yX8_about wsX8_about ({ frames := 4, cells := 0, slots := 0, locals := 133 } : Room) D [(cI, .int), (cJ, .long), (cQ, .object "WhisperCrowd$State")] [.ref a_this, .int p1, .int p2] [(a_this, .inr (8, [.ref a_s, r_kept, .int v_undos, r_known, r_whose, r_lesser, r_other, .int v_open, r_sums, r_weights, r_row, r_plan, .int v_planned])), (a_s, .inl (cJ, 613, .inr (.inl v_s)))] [(a_this, .inr (8, [.ref a_s, r_kept, .int v_undos, r_known, r_whose, r_lesser, r_other, .int v_open, r_sums, r_weights, r_row, r_plan, .int v_planned])), (a_s, .inl (cJ, 613, .inr (.inl v_s)))] R0 := by
  refine x_enti (cc := cX8_about) (maxL := 3) (rt := (some .int)) (lv := [(0, .ref a_this), (1, .int p1), (2, .int p2)]) (by decide) rfl (Nat.le_of_ble_eq_true rfl) rfl ?_
  intro p e s m args below meth c A Q hQ hC
  unfold f_X8_about at hf
  refine x_aload_n 1 0 hC dX8_about_0 rfl rfl rfl ?_
  refine x_iload_n 2 1 hC dX8_about_1 rfl rfl rfl ?_
  obtain ⟨R_1, h_R_1, hf⟩ := bd_e hf
  refine x_callVi 5 0 1 [0, 1] [(a_this, .inr (8, [.ref a_s, r_kept, .int v_undos, r_known, r_whose, r_lesser, r_other, .int v_open, r_sums, r_weights, r_row, r_plan, .int v_planned])), (a_s, .inl (cJ, 613, .inr (.inl v_s)))] hC (As := [.int p1]) (c_X8_isMember l D cI cJ cQ a_this a_s r_kept r_known r_whose r_lesser r_other r_sums r_weights r_row r_plan v_undos v_open v_planned v_s p1 R_1 h_R_1) rfl rfl gX8_about_X8_isMember rfl ⟨rfl, rfl⟩ hd_X8_isMember ⟨Nat.le_of_ble_eq_true rfl, Nat.le_of_ble_eq_true rfl⟩ rfl rfl rfl rfl rfl rfl (Nat.le_of_ble_eq_true rfl) ⟨Nat.le_of_ble_eq_true rfl, Nat.le_of_ble_eq_true rfl⟩ dX8_about_2 rfl ?_
  refine x_if_eq 20 8 hC dX8_about_5 (by decide) rfl (fun c_2 => ?_) (fun c_2 => ?_)
  · have hf := if_t hf c_2
    refine x_iconst 21 hC (-1 : Int32) dX8_about_20 rfl (by decide) ?_
    cases hf
    exact x_iret hC dX8_about_21 hQ rfl rfl
  · have hf := if_f hf c_2
    refine x_iload_n 9 2 hC dX8_about_8 rfl rfl rfl ?_
    refine x_i2l 10 hC dX8_about_9 rfl ?_
    refine x_lconst 11 hC (0 : Int64) dX8_about_10 rfl (by decide) ?_
    refine x_ldc2 14 hC (v := (5 : Int64)) (List.mem_of_getElem? (i := 1) (by decide +kernel)) dX8_about_11 rfl ?_
    obtain ⟨R_3, h_R_3, hf⟩ := bd_e hf
    refine x_callSi 17 3 [] [(a_this, .inr (8, [.ref a_s, r_kept, .int v_undos, r_known, r_whose, r_lesser, r_other, .int v_open, r_sums, r_weights, r_row, r_plan, .int v_planned])), (a_s, .inl (cJ, 613, .inr (.inl v_s)))] hC (As := [.long (p2.toInt64), .long (0 : Int64), .long (5 : Int64)]) (c_X8_in l D cI cJ cQ (p2.toInt64) (0 : Int64) (5 : Int64) R_3 h_R_3) gX8_about_X8_in rfl ⟨rfl, rfl⟩ hd_X8_in ⟨Nat.le_of_ble_eq_true rfl, Nat.le_of_ble_eq_true rfl⟩ rfl rfl rfl rfl rfl rfl (Nat.le_of_ble_eq_true rfl) ⟨Nat.le_of_ble_eq_true rfl, Nat.le_of_ble_eq_true rfl⟩ dX8_about_14 rfl ?_
    refine x_if_ne 22 20 hC dX8_about_17 (by decide) rfl (fun c_4 => ?_) (fun c_4 => ?_)
    · have hf := if_t hf c_4
      refine x_iload_n 23 2 hC dX8_about_22 rfl rfl rfl ?_
      refine x_if_ne 40 26 hC dX8_about_23 (by decide) rfl (fun c_5 => ?_) (fun c_5 => ?_)
      · have hf := if_t hf c_5
        refine x_aload_n 41 0 hC dX8_about_40 rfl rfl rfl ?_
        refine x_iload_n 42 1 hC dX8_about_41 rfl rfl rfl ?_
        obtain ⟨R_6, h_R_6, hf⟩ := bd_e hf
        refine x_callVi 45 0 1 [0, 1] [(a_this, .inr (8, [.ref a_s, r_kept, .int v_undos, r_known, r_whose, r_lesser, r_other, .int v_open, r_sums, r_weights, r_row, r_plan, .int v_planned])), (a_s, .inl (cJ, 613, .inr (.inl v_s)))] hC (As := [.int p1]) (c_X8_isHere l D cI cJ cQ a_this a_s r_kept r_known r_whose r_lesser r_other r_sums r_weights r_row r_plan v_undos v_open v_planned v_s p1 R_6 h_R_6) rfl rfl gX8_about_X8_isHere rfl ⟨rfl, rfl⟩ hd_X8_isHere ⟨Nat.le_of_ble_eq_true rfl, Nat.le_of_ble_eq_true rfl⟩ rfl rfl rfl rfl rfl rfl (Nat.le_of_ble_eq_true rfl) ⟨Nat.le_of_ble_eq_true rfl, Nat.le_of_ble_eq_true rfl⟩ dX8_about_42 rfl ?_
        refine x_if_ne 51 48 hC dX8_about_45 (by decide) rfl (fun c_7 => ?_) (fun c_7 => ?_)
        · have hf := if_t hf c_7
          refine x_iload_n 52 2 hC dX8_about_51 rfl rfl rfl ?_
          by_cases c_8 : p2 = (1 : Int32)
          · have hf := if_t hf c_8
            refine x_tabIn 84 hC (1 : Int32) c_8 32 dX8_about_52 (by decide) (by decide) rfl (by decide) ?_
            refine x_aload_n 85 0 hC dX8_about_84 rfl rfl rfl ?_
            refine x_get 88 0 0 hC in_X8_about_X8 rfl rfl (by decide) (List.mem_of_getElem? (i := 2) (by decide +kernel)) rfl rfl dX8_about_85 rfl ?_
            refine x_bipush 90 hC (23 : Int32) dX8_about_88 rfl (by decide) ?_
            refine x_iload_n 91 1 hC dX8_about_90 rfl rfl rfl ?_
            refine x_iadd 92 hC dX8_about_91 rfl ?_
            obtain ⟨h_9, hf⟩ := ck_e hf
            refine x_lald 93 1 1 hC rfl rfl h_9 dX8_about_92 rfl ?_
            refine x_l2i 94 hC dX8_about_93 rfl ?_
            cases hf
            exact x_iret hC dX8_about_94 hQ rfl rfl
          · have hf := if_f hf c_8
            by_cases c_10 : p2 = (2 : Int32)
            · have hf := if_t hf c_10
              refine x_tabIn 95 hC (2 : Int32) c_10 43 dX8_about_52 (by decide) (by decide) rfl (by decide) ?_
              refine x_aload_n 96 0 hC dX8_about_95 rfl rfl rfl ?_
              refine x_get 99 0 0 hC in_X8_about_X8 rfl rfl (by decide) (List.mem_of_getElem? (i := 2) (by decide +kernel)) rfl rfl dX8_about_96 rfl ?_
              refine x_bipush 101 hC (53 : Int32) dX8_about_99 rfl (by decide) ?_
              refine x_iload_n 102 1 hC dX8_about_101 rfl rfl rfl ?_
              refine x_iadd 103 hC dX8_about_102 rfl ?_
              obtain ⟨h_11, hf⟩ := ck_e hf
              refine x_lald 104 1 1 hC rfl rfl h_11 dX8_about_103 rfl ?_
              refine x_l2i 105 hC dX8_about_104 rfl ?_
              cases hf
              exact x_iret hC dX8_about_105 hQ rfl rfl
            · have hf := if_f hf c_10
              by_cases c_12 : p2 = (3 : Int32)
              · have hf := if_t hf c_12
                refine x_tabIn 106 hC (3 : Int32) c_12 54 dX8_about_52 (by decide) (by decide) rfl (by decide) ?_
                refine x_aload_n 107 0 hC dX8_about_106 rfl rfl rfl ?_
                refine x_get 110 0 0 hC in_X8_about_X8 rfl rfl (by decide) (List.mem_of_getElem? (i := 2) (by decide +kernel)) rfl rfl dX8_about_107 rfl ?_
                refine x_bipush 112 hC (63 : Int32) dX8_about_110 rfl (by decide) ?_
                refine x_iload_n 113 1 hC dX8_about_112 rfl rfl rfl ?_
                refine x_iadd 114 hC dX8_about_113 rfl ?_
                obtain ⟨h_13, hf⟩ := ck_e hf
                refine x_lald 115 1 1 hC rfl rfl h_13 dX8_about_114 rfl ?_
                refine x_l2i 116 hC dX8_about_115 rfl ?_
                cases hf
                exact x_iret hC dX8_about_116 hQ rfl rfl
              · have hf := if_f hf c_12
                by_cases c_14 : p2 = (4 : Int32)
                · have hf := if_t hf c_14
                  refine x_tabIn 117 hC (4 : Int32) c_14 65 dX8_about_52 (by decide) (by decide) rfl (by decide) ?_
                  refine x_aload_n 118 0 hC dX8_about_117 rfl rfl rfl ?_
                  refine x_get 121 0 0 hC in_X8_about_X8 rfl rfl (by decide) (List.mem_of_getElem? (i := 2) (by decide +kernel)) rfl rfl dX8_about_118 rfl ?_
                  refine x_bipush 123 hC (73 : Int32) dX8_about_121 rfl (by decide) ?_
                  refine x_iload_n 124 1 hC dX8_about_123 rfl rfl rfl ?_
                  refine x_iadd 125 hC dX8_about_124 rfl ?_
                  obtain ⟨h_15, hf⟩ := ck_e hf
                  refine x_lald 126 1 1 hC rfl rfl h_15 dX8_about_125 rfl ?_
                  refine x_l2i 127 hC dX8_about_126 rfl ?_
                  cases hf
                  exact x_iret hC dX8_about_127 hQ rfl rfl
                · have hf := if_f hf c_14
                  have t_c_8 : p2.toInt ≠ 1 := x_neI c_8 (by decide)
                  have t_c_10 : p2.toInt ≠ 2 := x_neI c_10 (by decide)
                  have t_c_12 : p2.toInt ≠ 3 := x_neI c_12 (by decide)
                  have t_c_14 : p2.toInt ≠ 4 := x_neI c_14 (by decide)
                  refine x_tabOut 128 hC dX8_about_52 (by omega) (by decide) ?_
                  refine x_aload_n 129 0 hC dX8_about_128 rfl rfl rfl ?_
                  refine x_get 132 0 0 hC in_X8_about_X8 rfl rfl (by decide) (List.mem_of_getElem? (i := 2) (by decide +kernel)) rfl rfl dX8_about_129 rfl ?_
                  refine x_bipush 134 hC (83 : Int32) dX8_about_132 rfl (by decide) ?_
                  refine x_iload_n 135 1 hC dX8_about_134 rfl rfl rfl ?_
                  refine x_iadd 136 hC dX8_about_135 rfl ?_
                  obtain ⟨h_16, hf⟩ := ck_e hf
                  refine x_lald 137 1 1 hC rfl rfl h_16 dX8_about_136 rfl ?_
                  refine x_l2i 138 hC dX8_about_137 rfl ?_
                  cases hf
                  exact x_iret hC dX8_about_138 hQ rfl rfl
        · have hf := if_f hf c_7
          refine x_bipush 50 hC (-2 : Int32) dX8_about_48 rfl (by decide) ?_
          cases hf
          exact x_iret hC dX8_about_50 hQ rfl rfl
      · have hf := if_f hf c_5
        refine x_aload_n 27 0 hC dX8_about_26 rfl rfl rfl ?_
        refine x_iload_n 28 1 hC dX8_about_27 rfl rfl rfl ?_
        obtain ⟨R_17, h_R_17, hf⟩ := bd_e hf
        refine x_callVi 31 0 1 [0, 1] [(a_this, .inr (8, [.ref a_s, r_kept, .int v_undos, r_known, r_whose, r_lesser, r_other, .int v_open, r_sums, r_weights, r_row, r_plan, .int v_planned])), (a_s, .inl (cJ, 613, .inr (.inl v_s)))] hC (As := [.int p1]) (c_X8_isHere l D cI cJ cQ a_this a_s r_kept r_known r_whose r_lesser r_other r_sums r_weights r_row r_plan v_undos v_open v_planned v_s p1 R_17 h_R_17) rfl rfl gX8_about_X8_isHere rfl ⟨rfl, rfl⟩ hd_X8_isHere ⟨Nat.le_of_ble_eq_true rfl, Nat.le_of_ble_eq_true rfl⟩ rfl rfl rfl rfl rfl rfl (Nat.le_of_ble_eq_true rfl) ⟨Nat.le_of_ble_eq_true rfl, Nat.le_of_ble_eq_true rfl⟩ dX8_about_28 rfl ?_
        refine x_if_eq 38 34 hC dX8_about_31 (by decide) rfl (fun c_18 => ?_) (fun c_18 => ?_)
        · have hf := if_t hf c_18
          refine x_iconst 39 hC (0 : Int32) dX8_about_38 rfl (by decide) ?_
          cases hf
          exact x_iret hC dX8_about_39 hQ rfl rfl
        · have hf := if_f hf c_18
          refine x_iconst 35 hC (1 : Int32) dX8_about_34 rfl (by decide) ?_
          refine x_goto 39 hC dX8_about_35 (by decide) ?_
          cases hf
          exact x_iret hC dX8_about_39 hQ rfl rfl
    · have hf := if_f hf c_4
      refine x_iconst 21 hC (-1 : Int32) dX8_about_20 rfl (by decide) ?_
      cases hf
      exact x_iret hC dX8_about_21 hQ rfl rfl

theorem hd_X8_mass : yX8_mass.cls = RX8 ∧ yX8_mass.cls ≠ "java/lang/invoke/MethodHandle" ∧ yX8_mass.cls ≠ "java/lang/invoke/VarHandle" ∧ (parseMethodDescriptor yX8_mass.desc).map (fun d => d.parameters.length) = some 2 := by decide +kernel
theorem in_X8_mass_X8 : ∀ w ∈ u_ws RX8 TX8 13, w ∈ wsX8_mass := fun w h => List.mem_cons_of_mem _ (List.mem_append_right _ h)
noncomputable def f_X8_mass (v_s : Nat → Int64) (p1 : Int32) (p2 : Int32) : Option (Int64) := bd (f_X8_isHere v_s p1) fun R_1 => if ¬ R_1 = 0 then (if p2 = 0 then (ck ((33 : Int32) + p1) 613 <| some ((v_s ((33 : Int32) + p1).toNatClampNeg))) else (ck ((43 : Int32) + p1) 613 <| some ((v_s ((43 : Int32) + p1).toNatClampNeg)))) else (some ((0 : Int64)))
set_option maxHeartbeats 4000000 in
set_option maxRecDepth 100000 in
theorem c_X8_mass (l : Launch) (D : va_G) (cI cJ cQ : ClassId) (a_this : Nat) (a_s : Nat) (r_kept : Value) (r_known : Value) (r_whose : Value) (r_lesser : Value) (r_other : Value) (r_sums : Value) (r_weights : Value) (r_row : Value) (r_plan : Value) (v_undos : Int32) (v_open : Int32) (v_planned : Int32) (v_s : Nat → Int64) (p1 : Int32) (p2 : Int32) (R0 : Int64) (hf : f_X8_mass v_s p1 p2 = some R0) : Cl l yX8_mass wsX8_mass ({ frames := 4, cells := 0, slots := 0, locals := 133 } : Room) D [(cI, .int), (cJ, .long), (cQ, .object "WhisperCrowd$State")] [.ref a_this, .int p1, .int p2] [(a_this, .inr (8, [.ref a_s, r_kept, .int v_undos, r_known, r_whose, r_lesser, r_other, .int v_open, r_sums, r_weights, r_row, r_plan, .int v_planned])), (a_s, .inl (cJ, 613, .inr (.inl v_s)))] [(a_this, .inr (8, [.ref a_s, r_kept, .int v_undos, r_known, r_whose, r_lesser, r_other, .int v_open, r_sums, r_weights, r_row, r_plan, .int v_planned])), (a_s, .inl (cJ, 613, .inr (.inl v_s)))] R0 := by
  refine x_entl (cc := cX8_mass) (maxL := 3) (rt := (some .long)) (lv := [(0, .ref a_this), (1, .int p1), (2, .int p2)]) (by decide) rfl (Nat.le_of_ble_eq_true rfl) rfl ?_
  intro p e s m args below meth c A Q hQ hC
  unfold f_X8_mass at hf
  refine x_aload_n 1 0 hC dX8_mass_0 rfl rfl rfl ?_
  refine x_iload_n 2 1 hC dX8_mass_1 rfl rfl rfl ?_
  obtain ⟨R_1, h_R_1, hf⟩ := bd_e hf
  refine x_callVi 5 0 1 [0, 1] [(a_this, .inr (8, [.ref a_s, r_kept, .int v_undos, r_known, r_whose, r_lesser, r_other, .int v_open, r_sums, r_weights, r_row, r_plan, .int v_planned])), (a_s, .inl (cJ, 613, .inr (.inl v_s)))] hC (As := [.int p1]) (c_X8_isHere l D cI cJ cQ a_this a_s r_kept r_known r_whose r_lesser r_other r_sums r_weights r_row r_plan v_undos v_open v_planned v_s p1 R_1 h_R_1) rfl rfl gX8_mass_X8_isHere rfl ⟨rfl, rfl⟩ hd_X8_isHere ⟨Nat.le_of_ble_eq_true rfl, Nat.le_of_ble_eq_true rfl⟩ rfl rfl rfl rfl rfl rfl (Nat.le_of_ble_eq_true rfl) ⟨Nat.le_of_ble_eq_true rfl, Nat.le_of_ble_eq_true rfl⟩ dX8_mass_2 rfl ?_
  refine x_if_ne 12 8 hC dX8_mass_5 (by decide) rfl (fun c_2 => ?_) (fun c_2 => ?_)
  · have hf := if_t hf c_2
    refine x_iload_n 13 2 hC dX8_mass_12 rfl rfl rfl ?_
    refine x_if_eq 28 16 hC dX8_mass_13 (by decide) rfl (fun c_3 => ?_) (fun c_3 => ?_)
    · have hf := if_t hf c_3
      refine x_aload_n 29 0 hC dX8_mass_28 rfl rfl rfl ?_
      refine x_get 32 0 0 hC in_X8_mass_X8 rfl rfl (by decide) (List.mem_of_getElem? (i := 1) (by decide +kernel)) rfl rfl dX8_mass_29 rfl ?_
      refine x_bipush 34 hC (33 : Int32) dX8_mass_32 rfl (by decide) ?_
      refine x_iload_n 35 1 hC dX8_mass_34 rfl rfl rfl ?_
      refine x_iadd 36 hC dX8_mass_35 rfl ?_
      obtain ⟨h_4, hf⟩ := ck_e hf
      refine x_lald 37 1 1 hC rfl rfl h_4 dX8_mass_36 rfl ?_
      cases hf
      exact x_lret hC dX8_mass_37 hQ rfl rfl
    · have hf := if_f hf c_3
      refine x_aload_n 17 0 hC dX8_mass_16 rfl rfl rfl ?_
      refine x_get 20 0 0 hC in_X8_mass_X8 rfl rfl (by decide) (List.mem_of_getElem? (i := 1) (by decide +kernel)) rfl rfl dX8_mass_17 rfl ?_
      refine x_bipush 22 hC (43 : Int32) dX8_mass_20 rfl (by decide) ?_
      refine x_iload_n 23 1 hC dX8_mass_22 rfl rfl rfl ?_
      refine x_iadd 24 hC dX8_mass_23 rfl ?_
      obtain ⟨h_5, hf⟩ := ck_e hf
      refine x_lald 25 1 1 hC rfl rfl h_5 dX8_mass_24 rfl ?_
      refine x_goto 37 hC dX8_mass_25 (by decide) ?_
      cases hf
      exact x_lret hC dX8_mass_37 hQ rfl rfl
  · have hf := if_f hf c_2
    refine x_lconst 9 hC (0 : Int64) dX8_mass_8 rfl (by decide) ?_
    refine x_goto 37 hC dX8_mass_9 (by decide) ?_
    cases hf
    exact x_lret hC dX8_mass_37 hQ rfl rfl

theorem hd_X8_hasGuess : yX8_hasGuess.cls = RX8 ∧ yX8_hasGuess.cls ≠ "java/lang/invoke/MethodHandle" ∧ yX8_hasGuess.cls ≠ "java/lang/invoke/VarHandle" ∧ (parseMethodDescriptor yX8_hasGuess.desc).map (fun d => d.parameters.length) = some 1 := by decide +kernel
theorem in_X8_hasGuess_X8 : ∀ w ∈ u_ws RX8 TX8 13, w ∈ wsX8_hasGuess := fun w h => List.mem_cons_of_mem _ (List.mem_append_right _ h)
noncomputable def f_X8_hasGuess (v_s : Nat → Int64) (p1 : Int32) : Option (Int32) := bd (f_X8_isHere v_s p1) fun R_1 => if R_1 = 0 then (some ((0 : Int32))) else (ck ((43 : Int32) + p1) 613 <| if (v_s ((43 : Int32) + p1).toNatClampNeg) ≤ (0 : Int64) then (some ((0 : Int32))) else (some ((1 : Int32))))
set_option maxHeartbeats 4000000 in
set_option maxRecDepth 100000 in
theorem c_X8_hasGuess (l : Launch) (D : va_G) (cI cJ cQ : ClassId) (a_this : Nat) (a_s : Nat) (r_kept : Value) (r_known : Value) (r_whose : Value) (r_lesser : Value) (r_other : Value) (r_sums : Value) (r_weights : Value) (r_row : Value) (r_plan : Value) (v_undos : Int32) (v_open : Int32) (v_planned : Int32) (v_s : Nat → Int64) (p1 : Int32) (R0 : Int32) (hf : f_X8_hasGuess v_s p1 = some R0) : Ci l yX8_hasGuess wsX8_hasGuess ({ frames := 4, cells := 0, slots := 0, locals := 133 } : Room) D [(cI, .int), (cJ, .long), (cQ, .object "WhisperCrowd$State")] [.ref a_this, .int p1] [(a_this, .inr (8, [.ref a_s, r_kept, .int v_undos, r_known, r_whose, r_lesser, r_other, .int v_open, r_sums, r_weights, r_row, r_plan, .int v_planned])), (a_s, .inl (cJ, 613, .inr (.inl v_s)))] [(a_this, .inr (8, [.ref a_s, r_kept, .int v_undos, r_known, r_whose, r_lesser, r_other, .int v_open, r_sums, r_weights, r_row, r_plan, .int v_planned])), (a_s, .inl (cJ, 613, .inr (.inl v_s)))] R0 := by
  refine x_enti (cc := cX8_hasGuess) (maxL := 2) (rt := (some .boolean)) (lv := [(0, .ref a_this), (1, .int p1)]) (by decide) rfl (Nat.le_of_ble_eq_true rfl) rfl ?_
  intro p e s m args below meth c A Q hQ hC
  unfold f_X8_hasGuess at hf
  refine x_aload_n 1 0 hC dX8_hasGuess_0 rfl rfl rfl ?_
  refine x_iload_n 2 1 hC dX8_hasGuess_1 rfl rfl rfl ?_
  obtain ⟨R_1, h_R_1, hf⟩ := bd_e hf
  refine x_callVi 5 0 1 [0, 1] [(a_this, .inr (8, [.ref a_s, r_kept, .int v_undos, r_known, r_whose, r_lesser, r_other, .int v_open, r_sums, r_weights, r_row, r_plan, .int v_planned])), (a_s, .inl (cJ, 613, .inr (.inl v_s)))] hC (As := [.int p1]) (c_X8_isHere l D cI cJ cQ a_this a_s r_kept r_known r_whose r_lesser r_other r_sums r_weights r_row r_plan v_undos v_open v_planned v_s p1 R_1 h_R_1) rfl rfl gX8_hasGuess_X8_isHere rfl ⟨rfl, rfl⟩ hd_X8_isHere ⟨Nat.le_of_ble_eq_true rfl, Nat.le_of_ble_eq_true rfl⟩ rfl rfl rfl rfl rfl rfl (Nat.le_of_ble_eq_true rfl) ⟨Nat.le_of_ble_eq_true rfl, Nat.le_of_ble_eq_true rfl⟩ dX8_hasGuess_2 rfl ?_
  refine x_if_eq 26 8 hC dX8_hasGuess_5 (by decide) rfl (fun c_2 => ?_) (fun c_2 => ?_)
  · have hf := if_t hf c_2
    refine x_iconst 27 hC (0 : Int32) dX8_hasGuess_26 rfl (by decide) ?_
    cases hf
    exact x_zret hC rfl dX8_hasGuess_27 hQ rfl rfl
  · have hf := if_f hf c_2
    refine x_aload_n 9 0 hC dX8_hasGuess_8 rfl rfl rfl ?_
    refine x_get 12 0 0 hC in_X8_hasGuess_X8 rfl rfl (by decide) (List.mem_of_getElem? (i := 1) (by decide +kernel)) rfl rfl dX8_hasGuess_9 rfl ?_
    refine x_bipush 14 hC (43 : Int32) dX8_hasGuess_12 rfl (by decide) ?_
    refine x_iload_n 15 1 hC dX8_hasGuess_14 rfl rfl rfl ?_
    refine x_iadd 16 hC dX8_hasGuess_15 rfl ?_
    obtain ⟨h_3, hf⟩ := ck_e hf
    refine x_lald 17 1 1 hC rfl rfl h_3 dX8_hasGuess_16 rfl ?_
    refine x_lconst 18 hC (0 : Int64) dX8_hasGuess_17 rfl (by decide) ?_
    refine x_lcmp_le 26 22 hC dX8_hasGuess_18 dX8_hasGuess_19 (by decide) rfl (fun c_4 => ?_) (fun c_4 => ?_)
    · have hf := if_t hf c_4
      refine x_iconst 27 hC (0 : Int32) dX8_hasGuess_26 rfl (by decide) ?_
      cases hf
      exact x_zret hC rfl dX8_hasGuess_27 hQ rfl rfl
    · have hf := if_f hf c_4
      refine x_iconst 23 hC (1 : Int32) dX8_hasGuess_22 rfl (by decide) ?_
      refine x_goto 27 hC dX8_hasGuess_23 (by decide) ?_
      cases hf
      exact x_zret hC rfl dX8_hasGuess_27 hQ rfl rfl

theorem hd_X8_guessed : yX8_guessed.cls = RX8 ∧ yX8_guessed.cls ≠ "java/lang/invoke/MethodHandle" ∧ yX8_guessed.cls ≠ "java/lang/invoke/VarHandle" ∧ (parseMethodDescriptor yX8_guessed.desc).map (fun d => d.parameters.length) = some 1 := by decide +kernel
theorem in_X8_guessed_X8 : ∀ w ∈ u_ws RX8 TX8 13, w ∈ wsX8_guessed := fun w h => List.mem_cons_of_mem _ (List.mem_append_right _ h)
noncomputable def f_X8_guessed (v_s : Nat → Int64) (p1 : Int32) : Option (UInt64) := ck ((33 : Int32) + p1) 613 <| ck ((43 : Int32) + p1) 613 <| ckp (FP.ddiv (FP.l2d (v_s ((33 : Int32) + p1).toNatClampNeg)) (FP.l2d (v_s ((43 : Int32) + p1).toNatClampNeg)) &&& 0x7fffffffffffffff ≤ 0x7ff0000000000000) (Classical.propDecidable _) <| some ((FP.ddiv (FP.l2d (v_s ((33 : Int32) + p1).toNatClampNeg)) (FP.l2d (v_s ((43 : Int32) + p1).toNatClampNeg))))
set_option maxHeartbeats 4000000 in
set_option maxRecDepth 100000 in
theorem c_X8_guessed (l : Launch) (D : va_G) (cI cJ cQ : ClassId) (a_this : Nat) (a_s : Nat) (r_kept : Value) (r_known : Value) (r_whose : Value) (r_lesser : Value) (r_other : Value) (r_sums : Value) (r_weights : Value) (r_row : Value) (r_plan : Value) (v_undos : Int32) (v_open : Int32) (v_planned : Int32) (v_s : Nat → Int64) (p1 : Int32) (R0 : UInt64) (hf : f_X8_guessed v_s p1 = some R0) : Cd l yX8_guessed wsX8_guessed ({ frames := 1, cells := 0, slots := 0, locals := 60 } : Room) D [(cI, .int), (cJ, .long), (cQ, .object "WhisperCrowd$State")] [.ref a_this, .int p1] [(a_this, .inr (8, [.ref a_s, r_kept, .int v_undos, r_known, r_whose, r_lesser, r_other, .int v_open, r_sums, r_weights, r_row, r_plan, .int v_planned])), (a_s, .inl (cJ, 613, .inr (.inl v_s)))] [(a_this, .inr (8, [.ref a_s, r_kept, .int v_undos, r_known, r_whose, r_lesser, r_other, .int v_open, r_sums, r_weights, r_row, r_plan, .int v_planned])), (a_s, .inl (cJ, 613, .inr (.inl v_s)))] R0 := by
  refine x_entd (cc := cX8_guessed) (maxL := 2) (rt := (some .double)) (lv := [(0, .ref a_this), (1, .int p1)]) (by decide) rfl (Nat.le_of_ble_eq_true rfl) rfl ?_
  intro p e s m args below meth c A Q hQ hC
  unfold f_X8_guessed at hf
  refine x_aload_n 1 0 hC dX8_guessed_0 rfl rfl rfl ?_
  refine x_get 4 0 0 hC in_X8_guessed_X8 rfl rfl (by decide) (List.mem_of_getElem? (i := 1) (by decide +kernel)) rfl rfl dX8_guessed_1 rfl ?_
  refine x_bipush 6 hC (33 : Int32) dX8_guessed_4 rfl (by decide) ?_
  refine x_iload_n 7 1 hC dX8_guessed_6 rfl rfl rfl ?_
  refine x_iadd 8 hC dX8_guessed_7 rfl ?_
  obtain ⟨h_1, hf⟩ := ck_e hf
  refine x_lald 9 1 1 hC rfl rfl h_1 dX8_guessed_8 rfl ?_
  refine x_l2d 10 hC dX8_guessed_9 rfl ?_
  refine x_aload_n 11 0 hC dX8_guessed_10 rfl rfl rfl ?_
  refine x_get 14 0 0 hC in_X8_guessed_X8 rfl rfl (by decide) (List.mem_of_getElem? (i := 1) (by decide +kernel)) rfl rfl dX8_guessed_11 rfl ?_
  refine x_bipush 16 hC (43 : Int32) dX8_guessed_14 rfl (by decide) ?_
  refine x_iload_n 17 1 hC dX8_guessed_16 rfl rfl rfl ?_
  refine x_iadd 18 hC dX8_guessed_17 rfl ?_
  obtain ⟨h_2, hf⟩ := ck_e hf
  refine x_lald 19 1 1 hC rfl rfl h_2 dX8_guessed_18 rfl ?_
  refine x_l2d 20 hC dX8_guessed_19 rfl ?_
  obtain ⟨h_3, hf⟩ := ckp_e hf
  refine x_ddiv 21 hC dX8_guessed_20 rfl h_3 ?_
  cases hf
  exact x_dret hC dX8_guessed_21 hQ rfl rfl

theorem hd_Jxe99ae_isNaN_b9ae7 : yJxe99ae_isNaN_b9ae7.cls ≠ "java/lang/invoke/MethodHandle" ∧ yJxe99ae_isNaN_b9ae7.cls ≠ "java/lang/invoke/VarHandle" ∧ (parseMethodDescriptor yJxe99ae_isNaN_b9ae7.desc).map (fun d => d.parameters.length) = some 1 := by decide +kernel
noncomputable def f_Jxe99ae_isNaN_b9ae7 (p1 : UInt64) : Option (Int32) := if (Op.cmpValue (FP.dcmp p1 p1) .l) = 0 then (some ((0 : Int32))) else (some ((1 : Int32)))
set_option maxHeartbeats 4000000 in
set_option maxRecDepth 100000 in
theorem c_Jxe99ae_isNaN_b9ae7 (l : Launch) (D : va_G) (cI cJ cQ : ClassId) (p1 : UInt64) (R0 : Int32) (hf : f_Jxe99ae_isNaN_b9ae7 p1 = some R0) : Ci l yJxe99ae_isNaN_b9ae7 wsJxe99ae_isNaN_b9ae7 ({ frames := 1, cells := 0, slots := 0, locals := 60 } : Room) D [(cI, .int), (cJ, .long), (cQ, .object "WhisperCrowd$State")] [.double p1] [] [] R0 := by
  refine x_enti (cc := cJxe99ae_isNaN_b9ae7) (maxL := 2) (rt := (some .boolean)) (lv := [(0, .double p1)]) (by decide) rfl (Nat.le_of_ble_eq_true rfl) rfl ?_
  intro p e s m args below meth c A Q hQ hC
  unfold f_Jxe99ae_isNaN_b9ae7 at hf
  refine x_dload_n 1 0 hC dJxe99ae_isNaN_b9ae7_0 rfl rfl rfl ?_
  refine x_dload_n 2 0 hC dJxe99ae_isNaN_b9ae7_1 rfl rfl rfl ?_
  refine x_dcmp 3 hC dJxe99ae_isNaN_b9ae7_2 rfl ?_
  refine x_if_eq 10 6 hC dJxe99ae_isNaN_b9ae7_3 (by decide) rfl (fun c_1 => ?_) (fun c_1 => ?_)
  · have hf := if_t hf c_1
    refine x_iconst 11 hC (0 : Int32) dJxe99ae_isNaN_b9ae7_10 rfl (by decide) ?_
    cases hf
    exact x_zret hC rfl dJxe99ae_isNaN_b9ae7_11 hQ rfl rfl
  · have hf := if_f hf c_1
    refine x_iconst 7 hC (1 : Int32) dJxe99ae_isNaN_b9ae7_6 rfl (by decide) ?_
    refine x_goto 11 hC dJxe99ae_isNaN_b9ae7_7 (by decide) ?_
    cases hf
    exact x_zret hC rfl dJxe99ae_isNaN_b9ae7_11 hQ rfl rfl

theorem hd_Jxe99ae_doubleToLongBits_ccdee : yJxe99ae_doubleToLongBits_ccdee.cls ≠ "java/lang/invoke/MethodHandle" ∧ yJxe99ae_doubleToLongBits_ccdee.cls ≠ "java/lang/invoke/VarHandle" ∧ (parseMethodDescriptor yJxe99ae_doubleToLongBits_ccdee.desc).map (fun d => d.parameters.length) = some 1 := by decide +kernel
noncomputable def f_Jxe99ae_doubleToLongBits_ccdee (p1 : UInt64) : Option (Int64) := bd (f_Jxe99ae_isNaN_b9ae7 p1) fun R_1 => if ¬ R_1 = 0 then (some ((9221120237041090560 : Int64))) else (some ((p1.toInt64)))
set_option maxHeartbeats 4000000 in
set_option maxRecDepth 100000 in
theorem c_Jxe99ae_doubleToLongBits_ccdee (l : Launch) (D : va_G) (cI cJ cQ : ClassId) (p1 : UInt64) (R0 : Int64) (hf : f_Jxe99ae_doubleToLongBits_ccdee p1 = some R0) : Cl l yJxe99ae_doubleToLongBits_ccdee wsJxe99ae_doubleToLongBits_ccdee ({ frames := 2, cells := 0, slots := 0, locals := 83 } : Room) D [(cI, .int), (cJ, .long), (cQ, .object "WhisperCrowd$State")] [.double p1] [] [] R0 := by
  refine x_entl (cc := cJxe99ae_doubleToLongBits_ccdee) (maxL := 2) (rt := (some .long)) (lv := [(0, .double p1)]) (by decide) rfl (Nat.le_of_ble_eq_true rfl) rfl ?_
  intro p e s m args below meth c A Q hQ hC
  unfold f_Jxe99ae_doubleToLongBits_ccdee at hf
  refine x_dload_n 1 0 hC dJxe99ae_doubleToLongBits_ccdee_0 rfl rfl rfl ?_
  obtain ⟨R_1, h_R_1, hf⟩ := bd_e hf
  refine x_callSi 4 1 [] [] hC (As := [.double p1]) (c_Jxe99ae_isNaN_b9ae7 l D cI cJ cQ p1 R_1 h_R_1) gJxe99ae_doubleToLongBits_ccdee_Jxe99ae_isNaN_b9ae7 rfl ⟨rfl, rfl⟩ hd_Jxe99ae_isNaN_b9ae7 ⟨Nat.le_of_ble_eq_true rfl, Nat.le_of_ble_eq_true rfl⟩ rfl rfl rfl rfl rfl rfl (Nat.le_of_ble_eq_true rfl) ⟨Nat.le_of_ble_eq_true rfl, Nat.le_of_ble_eq_true rfl⟩ dJxe99ae_doubleToLongBits_ccdee_1 rfl ?_
  refine x_if_ne 12 7 hC dJxe99ae_doubleToLongBits_ccdee_4 (by decide) rfl (fun c_2 => ?_) (fun c_2 => ?_)
  · have hf := if_t hf c_2
    refine x_ldc2 15 hC (v := (9221120237041090560 : Int64)) (List.mem_of_getElem? (i := 5) (by decide +kernel)) dJxe99ae_doubleToLongBits_ccdee_12 rfl ?_
    cases hf
    exact x_lret hC dJxe99ae_doubleToLongBits_ccdee_15 hQ rfl rfl
  · have hf := if_f hf c_2
    refine x_dload_n 8 0 hC dJxe99ae_doubleToLongBits_ccdee_7 rfl rfl rfl ?_
    refine x_raw 11 hC (List.mem_of_getElem? (i := 1) (by decide +kernel)) (List.mem_of_getElem? (i := 2) (by decide +kernel)) (List.mem_of_getElem? (i := 3) (by decide +kernel)) (List.mem_of_getElem? (i := 4) (by decide +kernel)) (Nat.le_of_ble_eq_true rfl) (Nat.le_of_ble_eq_true rfl) dJxe99ae_doubleToLongBits_ccdee_8 rfl ?_
    cases hf
    exact x_lret hC dJxe99ae_doubleToLongBits_ccdee_11 hQ rfl rfl

theorem hd_X8_guess : yX8_guess.cls = RX8 ∧ yX8_guess.cls ≠ "java/lang/invoke/MethodHandle" ∧ yX8_guess.cls ≠ "java/lang/invoke/VarHandle" ∧ (parseMethodDescriptor yX8_guess.desc).map (fun d => d.parameters.length) = some 1 := by decide +kernel
noncomputable def f_X8_guess (v_s : Nat → Int64) (p1 : Int32) : Option (Int64) := bd (f_X8_hasGuess v_s p1) fun R_1 => if R_1 = 0 then (some ((-1 : Int64))) else (bd (f_X8_guessed v_s p1) fun R_3 => bd (f_Jxe99ae_doubleToLongBits_ccdee R_3) fun R_4 => some (R_4))
set_option maxHeartbeats 4000000 in
set_option maxRecDepth 100000 in
theorem c_X8_guess (l : Launch) (D : va_G) (cI cJ cQ : ClassId) (a_this : Nat) (a_s : Nat) (r_kept : Value) (r_known : Value) (r_whose : Value) (r_lesser : Value) (r_other : Value) (r_sums : Value) (r_weights : Value) (r_row : Value) (r_plan : Value) (v_undos : Int32) (v_open : Int32) (v_planned : Int32) (v_s : Nat → Int64) (p1 : Int32) (R0 : Int64) (hf : f_X8_guess v_s p1 = some R0) : Cl l yX8_guess wsX8_guess ({ frames := 5, cells := 0, slots := 0, locals := 156 } : Room) D [(cI, .int), (cJ, .long), (cQ, .object "WhisperCrowd$State")] [.ref a_this, .int p1] [(a_this, .inr (8, [.ref a_s, r_kept, .int v_undos, r_known, r_whose, r_lesser, r_other, .int v_open, r_sums, r_weights, r_row, r_plan, .int v_planned])), (a_s, .inl (cJ, 613, .inr (.inl v_s)))] [(a_this, .inr (8, [.ref a_s, r_kept, .int v_undos, r_known, r_whose, r_lesser, r_other, .int v_open, r_sums, r_weights, r_row, r_plan, .int v_planned])), (a_s, .inl (cJ, 613, .inr (.inl v_s)))] R0 := by
  refine x_entl (cc := cX8_guess) (maxL := 2) (rt := (some .long)) (lv := [(0, .ref a_this), (1, .int p1)]) (by decide) rfl (Nat.le_of_ble_eq_true rfl) rfl ?_
  intro p e s m args below meth c A Q hQ hC
  unfold f_X8_guess at hf
  refine x_aload_n 1 0 hC dX8_guess_0 rfl rfl rfl ?_
  refine x_iload_n 2 1 hC dX8_guess_1 rfl rfl rfl ?_
  obtain ⟨R_1, h_R_1, hf⟩ := bd_e hf
  refine x_callVi 5 0 1 [0, 1] [(a_this, .inr (8, [.ref a_s, r_kept, .int v_undos, r_known, r_whose, r_lesser, r_other, .int v_open, r_sums, r_weights, r_row, r_plan, .int v_planned])), (a_s, .inl (cJ, 613, .inr (.inl v_s)))] hC (As := [.int p1]) (c_X8_hasGuess l D cI cJ cQ a_this a_s r_kept r_known r_whose r_lesser r_other r_sums r_weights r_row r_plan v_undos v_open v_planned v_s p1 R_1 h_R_1) rfl rfl gX8_guess_X8_hasGuess rfl ⟨rfl, rfl⟩ hd_X8_hasGuess ⟨Nat.le_of_ble_eq_true rfl, Nat.le_of_ble_eq_true rfl⟩ rfl rfl rfl rfl rfl rfl (Nat.le_of_ble_eq_true rfl) ⟨Nat.le_of_ble_eq_true rfl, Nat.le_of_ble_eq_true rfl⟩ dX8_guess_2 rfl ?_
  refine x_if_eq 19 8 hC dX8_guess_5 (by decide) rfl (fun c_2 => ?_) (fun c_2 => ?_)
  · have hf := if_t hf c_2
    refine x_ldc2 22 hC (v := (-1 : Int64)) (List.mem_of_getElem? (i := 1) (by decide +kernel)) dX8_guess_19 rfl ?_
    cases hf
    exact x_lret hC dX8_guess_22 hQ rfl rfl
  · have hf := if_f hf c_2
    refine x_aload_n 9 0 hC dX8_guess_8 rfl rfl rfl ?_
    refine x_iload_n 10 1 hC dX8_guess_9 rfl rfl rfl ?_
    obtain ⟨R_3, h_R_3, hf⟩ := bd_e hf
    refine x_callVd 13 0 1 [0, 1] [(a_this, .inr (8, [.ref a_s, r_kept, .int v_undos, r_known, r_whose, r_lesser, r_other, .int v_open, r_sums, r_weights, r_row, r_plan, .int v_planned])), (a_s, .inl (cJ, 613, .inr (.inl v_s)))] hC (As := [.int p1]) (c_X8_guessed l D cI cJ cQ a_this a_s r_kept r_known r_whose r_lesser r_other r_sums r_weights r_row r_plan v_undos v_open v_planned v_s p1 R_3 h_R_3) rfl rfl gX8_guess_X8_guessed rfl ⟨rfl, rfl⟩ hd_X8_guessed ⟨Nat.le_of_ble_eq_true rfl, Nat.le_of_ble_eq_true rfl⟩ rfl rfl rfl rfl rfl rfl (Nat.le_of_ble_eq_true rfl) ⟨Nat.le_of_ble_eq_true rfl, Nat.le_of_ble_eq_true rfl⟩ dX8_guess_10 rfl ?_
    obtain ⟨R_4, h_R_4, hf⟩ := bd_e hf
    refine x_callSl 16 1 [] [(a_this, .inr (8, [.ref a_s, r_kept, .int v_undos, r_known, r_whose, r_lesser, r_other, .int v_open, r_sums, r_weights, r_row, r_plan, .int v_planned])), (a_s, .inl (cJ, 613, .inr (.inl v_s)))] hC (As := [.double R_3]) (c_Jxe99ae_doubleToLongBits_ccdee l D cI cJ cQ R_3 R_4 h_R_4) gX8_guess_Jxe99ae_doubleToLongBits_ccdee rfl ⟨rfl, rfl⟩ hd_Jxe99ae_doubleToLongBits_ccdee ⟨Nat.le_of_ble_eq_true rfl, Nat.le_of_ble_eq_true rfl⟩ rfl rfl rfl rfl rfl rfl (Nat.le_of_ble_eq_true rfl) ⟨Nat.le_of_ble_eq_true rfl, Nat.le_of_ble_eq_true rfl⟩ dX8_guess_13 rfl ?_
    refine x_goto 22 hC dX8_guess_16 (by decide) ?_
    cases hf
    exact x_lret hC dX8_guess_22 hQ rfl rfl

theorem hd_X8_book : yX8_book.cls = RX8 ∧ yX8_book.cls ≠ "java/lang/invoke/MethodHandle" ∧ yX8_book.cls ≠ "java/lang/invoke/VarHandle" ∧ (parseMethodDescriptor yX8_book.desc).map (fun d => d.parameters.length) = some 3 := by decide +kernel
theorem in_X8_book_X8 : ∀ w ∈ u_ws RX8 TX8 13, w ∈ wsX8_book := fun w h => List.mem_cons_of_mem _ (List.mem_append_right _ h)
noncomputable def f_X8_book_c37 (v_s : Nat → Int64) (k37_l1 : Int32) (k37_l2 : Int32) (k37_s0 : Int32) : Option (Int64) := ck ((k37_s0 + ((10 : Int32) * k37_l1)) + k37_l2) 613 <| some ((v_s ((k37_s0 + ((10 : Int32) * k37_l1)) + k37_l2).toNatClampNeg))
noncomputable def f_X8_book (v_s : Nat → Int64) (p1 : Int32) (p2 : Int32) (p3 : Int32) : Option (Int64) := bd (f_X8_isMember v_s p1) fun R_2 => if R_2 = 0 then (some ((0 : Int64))) else (bd (f_X8_isMember v_s p2) fun R_4 => if ¬ R_4 = 0 then (if p3 = 0 then (f_X8_book_c37 v_s p1 p2 (213 : Int32)) else (f_X8_book_c37 v_s p1 p2 (313 : Int32))) else (some ((0 : Int64))))
set_option maxHeartbeats 4000000 in
set_option maxRecDepth 100000 in
theorem c_X8_book (l : Launch) (D : va_G) (cI cJ cQ : ClassId) (a_this : Nat) (a_s : Nat) (r_kept : Value) (r_known : Value) (r_whose : Value) (r_lesser : Value) (r_other : Value) (r_sums : Value) (r_weights : Value) (r_row : Value) (r_plan : Value) (v_undos : Int32) (v_open : Int32) (v_planned : Int32) (v_s : Nat → Int64) (p1 : Int32) (p2 : Int32) (p3 : Int32) (R0 : Int64) (hf : f_X8_book v_s p1 p2 p3 = some R0) : Cl l yX8_book wsX8_book ({ frames := 3, cells := 0, slots := 0, locals := 110 } : Room) D [(cI, .int), (cJ, .long), (cQ, .object "WhisperCrowd$State")] [.ref a_this, .int p1, .int p2, .int p3] [(a_this, .inr (8, [.ref a_s, r_kept, .int v_undos, r_known, r_whose, r_lesser, r_other, .int v_open, r_sums, r_weights, r_row, r_plan, .int v_planned])), (a_s, .inl (cJ, 613, .inr (.inl v_s)))] [(a_this, .inr (8, [.ref a_s, r_kept, .int v_undos, r_known, r_whose, r_lesser, r_other, .int v_open, r_sums, r_weights, r_row, r_plan, .int v_planned])), (a_s, .inl (cJ, 613, .inr (.inl v_s)))] R0 := by
  refine x_entl (cc := cX8_book) (maxL := 4) (rt := (some .long)) (lv := [(0, .ref a_this), (1, .int p1), (2, .int p2), (3, .int p3)]) (by decide) rfl (Nat.le_of_ble_eq_true rfl) rfl ?_
  intro p e s m args below meth c A Q hQ hC
  have J_37 : ∀ (k37_l1 : Int32) (k37_l2 : Int32) (k37_s0 : Int32), f_X8_book_c37 v_s k37_l1 k37_l2 k37_s0 = some R0 → XW p l e ({ frames := 3, cells := 0, slots := 0, locals := 110 } : Room) s m args below meth c D A 4 0 0 Q [(a_this, .inr (8, [.ref a_s, r_kept, .int v_undos, r_known, r_whose, r_lesser, r_other, .int v_open, r_sums, r_weights, r_row, r_plan, .int v_planned])), (a_s, .inl (cJ, 613, .inr (.inl v_s)))] [] [(1, .int k37_l1), (2, .int k37_l2)] 37 [.int k37_s0, .ref a_s] := by
    intro k37_l1 k37_l2 k37_s0 hf
    unfold f_X8_book_c37 at hf
    refine x_bipush 39 hC (10 : Int32) dX8_book_37 rfl (by decide) ?_
    refine x_iload_n 40 0 hC dX8_book_39 rfl rfl rfl ?_
    refine x_imul 41 hC dX8_book_40 rfl ?_
    refine x_iadd 42 hC dX8_book_41 rfl ?_
    refine x_iload_n 43 1 hC dX8_book_42 rfl rfl rfl ?_
    refine x_iadd 44 hC dX8_book_43 rfl ?_
    obtain ⟨h_1, hf⟩ := ck_e hf
    refine x_lald 45 1 1 hC rfl rfl h_1 dX8_book_44 rfl ?_
    cases hf
    exact x_lret hC dX8_book_45 hQ rfl rfl
  unfold f_X8_book at hf
  refine x_aload_n 1 0 hC dX8_book_0 rfl rfl rfl ?_
  refine x_iload_n 2 1 hC dX8_book_1 rfl rfl rfl ?_
  obtain ⟨R_2, h_R_2, hf⟩ := bd_e hf
  refine x_callVi 5 0 1 [0, 1] [(a_this, .inr (8, [.ref a_s, r_kept, .int v_undos, r_known, r_whose, r_lesser, r_other, .int v_open, r_sums, r_weights, r_row, r_plan, .int v_planned])), (a_s, .inl (cJ, 613, .inr (.inl v_s)))] hC (As := [.int p1]) (c_X8_isMember l D cI cJ cQ a_this a_s r_kept r_known r_whose r_lesser r_other r_sums r_weights r_row r_plan v_undos v_open v_planned v_s p1 R_2 h_R_2) rfl rfl gX8_book_X8_isMember rfl ⟨rfl, rfl⟩ hd_X8_isMember ⟨Nat.le_of_ble_eq_true rfl, Nat.le_of_ble_eq_true rfl⟩ rfl rfl rfl rfl rfl rfl (Nat.le_of_ble_eq_true rfl) ⟨Nat.le_of_ble_eq_true rfl, Nat.le_of_ble_eq_true rfl⟩ dX8_book_2 rfl ?_
  refine x_if_eq 16 8 hC dX8_book_5 (by decide) rfl (fun c_3 => ?_) (fun c_3 => ?_)
  · have hf := if_t hf c_3
    refine x_lconst 17 hC (0 : Int64) dX8_book_16 rfl (by decide) ?_
    refine x_goto 45 hC dX8_book_17 (by decide) ?_
    cases hf
    exact x_lret hC dX8_book_45 hQ rfl rfl
  · have hf := if_f hf c_3
    refine x_aload_n 9 0 hC dX8_book_8 rfl rfl rfl ?_
    refine x_iload_n 10 2 hC dX8_book_9 rfl rfl rfl ?_
    obtain ⟨R_4, h_R_4, hf⟩ := bd_e hf
    refine x_callVi 13 0 1 [0, 1] [(a_this, .inr (8, [.ref a_s, r_kept, .int v_undos, r_known, r_whose, r_lesser, r_other, .int v_open, r_sums, r_weights, r_row, r_plan, .int v_planned])), (a_s, .inl (cJ, 613, .inr (.inl v_s)))] hC (As := [.int p2]) (c_X8_isMember l D cI cJ cQ a_this a_s r_kept r_known r_whose r_lesser r_other r_sums r_weights r_row r_plan v_undos v_open v_planned v_s p2 R_4 h_R_4) rfl rfl gX8_book_X8_isMember rfl ⟨rfl, rfl⟩ hd_X8_isMember ⟨Nat.le_of_ble_eq_true rfl, Nat.le_of_ble_eq_true rfl⟩ rfl rfl rfl rfl rfl rfl (Nat.le_of_ble_eq_true rfl) ⟨Nat.le_of_ble_eq_true rfl, Nat.le_of_ble_eq_true rfl⟩ dX8_book_10 rfl ?_
    refine x_if_ne 20 16 hC dX8_book_13 (by decide) rfl (fun c_5 => ?_) (fun c_5 => ?_)
    · have hf := if_t hf c_5
      refine x_aload_n 21 0 hC dX8_book_20 rfl rfl rfl ?_
      refine x_get 24 0 0 hC in_X8_book_X8 rfl rfl (by decide) (List.mem_of_getElem? (i := 1) (by decide +kernel)) rfl rfl dX8_book_21 rfl ?_
      refine x_iload_n 25 3 hC dX8_book_24 rfl rfl rfl ?_
      refine x_if_eq 34 28 hC dX8_book_25 (by decide) rfl (fun c_6 => ?_) (fun c_6 => ?_)
      · have hf := if_t hf c_6
        refine x_sipush 37 hC (213 : Int32) dX8_book_34 rfl (by decide) ?_
        refine x_lv [(1, .int p1), (2, .int p2)] [1, 2] rfl ?_
        exact J_37 p1 p2 (213 : Int32) hf
      · have hf := if_f hf c_6
        refine x_sipush 31 hC (313 : Int32) dX8_book_28 rfl (by decide) ?_
        refine x_goto 37 hC dX8_book_31 (by decide) ?_
        refine x_lv [(1, .int p1), (2, .int p2)] [1, 2] rfl ?_
        exact J_37 p1 p2 (313 : Int32) hf
    · have hf := if_f hf c_5
      refine x_lconst 17 hC (0 : Int64) dX8_book_16 rfl (by decide) ?_
      refine x_goto 45 hC dX8_book_17 (by decide) ?_
      cases hf
      exact x_lret hC dX8_book_45 hQ rfl rfl

theorem hd_X8_letter : yX8_letter.cls = RX8 ∧ yX8_letter.cls ≠ "java/lang/invoke/MethodHandle" ∧ yX8_letter.cls ≠ "java/lang/invoke/VarHandle" ∧ (parseMethodDescriptor yX8_letter.desc).map (fun d => d.parameters.length) = some 2 := by decide +kernel
theorem in_X8_letter_X8 : ∀ w ∈ u_ws RX8 TX8 13, w ∈ wsX8_letter := fun w h => List.mem_cons_of_mem _ (List.mem_append_right _ h)
noncomputable def f_X8_letter (v_s : Nat → Int64) (p1 : Int32) (p2 : Int32) : Option (Int64) := bd (f_X8_isLetter v_s p1) fun R_1 => if R_1 = 0 then (some ((-1 : Int64))) else (bd (f_X8_in (p2.toInt64) (0 : Int64) (3 : Int64)) fun R_3 => if R_3 = 0 then (some ((-1 : Int64))) else (ck ((((173 : Int32) + ((5 : Int32) * p1)) + (1 : Int32)) + p2) 613 <| some ((v_s ((((173 : Int32) + ((5 : Int32) * p1)) + (1 : Int32)) + p2).toNatClampNeg))))
set_option maxHeartbeats 4000000 in
set_option maxRecDepth 100000 in
theorem c_X8_letter (l : Launch) (D : va_G) (cI cJ cQ : ClassId) (a_this : Nat) (a_s : Nat) (r_kept : Value) (r_known : Value) (r_whose : Value) (r_lesser : Value) (r_other : Value) (r_sums : Value) (r_weights : Value) (r_row : Value) (r_plan : Value) (v_undos : Int32) (v_open : Int32) (v_planned : Int32) (v_s : Nat → Int64) (p1 : Int32) (p2 : Int32) (R0 : Int64) (hf : f_X8_letter v_s p1 p2 = some R0) : Cl l yX8_letter wsX8_letter ({ frames := 3, cells := 0, slots := 0, locals := 110 } : Room) D [(cI, .int), (cJ, .long), (cQ, .object "WhisperCrowd$State")] [.ref a_this, .int p1, .int p2] [(a_this, .inr (8, [.ref a_s, r_kept, .int v_undos, r_known, r_whose, r_lesser, r_other, .int v_open, r_sums, r_weights, r_row, r_plan, .int v_planned])), (a_s, .inl (cJ, 613, .inr (.inl v_s)))] [(a_this, .inr (8, [.ref a_s, r_kept, .int v_undos, r_known, r_whose, r_lesser, r_other, .int v_open, r_sums, r_weights, r_row, r_plan, .int v_planned])), (a_s, .inl (cJ, 613, .inr (.inl v_s)))] R0 := by
  refine x_entl (cc := cX8_letter) (maxL := 3) (rt := (some .long)) (lv := [(0, .ref a_this), (1, .int p1), (2, .int p2)]) (by decide) rfl (Nat.le_of_ble_eq_true rfl) rfl ?_
  intro p e s m args below meth c A Q hQ hC
  unfold f_X8_letter at hf
  refine x_aload_n 1 0 hC dX8_letter_0 rfl rfl rfl ?_
  refine x_iload_n 2 1 hC dX8_letter_1 rfl rfl rfl ?_
  obtain ⟨R_1, h_R_1, hf⟩ := bd_e hf
  refine x_callVi 5 0 1 [0, 1] [(a_this, .inr (8, [.ref a_s, r_kept, .int v_undos, r_known, r_whose, r_lesser, r_other, .int v_open, r_sums, r_weights, r_row, r_plan, .int v_planned])), (a_s, .inl (cJ, 613, .inr (.inl v_s)))] hC (As := [.int p1]) (c_X8_isLetter l D cI cJ cQ a_this a_s r_kept r_known r_whose r_lesser r_other r_sums r_weights r_row r_plan v_undos v_open v_planned v_s p1 R_1 h_R_1) rfl rfl gX8_letter_X8_isLetter rfl ⟨rfl, rfl⟩ hd_X8_isLetter ⟨Nat.le_of_ble_eq_true rfl, Nat.le_of_ble_eq_true rfl⟩ rfl rfl rfl rfl rfl rfl (Nat.le_of_ble_eq_true rfl) ⟨Nat.le_of_ble_eq_true rfl, Nat.le_of_ble_eq_true rfl⟩ dX8_letter_2 rfl ?_
  refine x_if_eq 39 8 hC dX8_letter_5 (by decide) rfl (fun c_2 => ?_) (fun c_2 => ?_)
  · have hf := if_t hf c_2
    refine x_ldc2 42 hC (v := (-1 : Int64)) (List.mem_of_getElem? (i := 3) (by decide +kernel)) dX8_letter_39 rfl ?_
    cases hf
    exact x_lret hC dX8_letter_42 hQ rfl rfl
  · have hf := if_f hf c_2
    refine x_iload_n 9 2 hC dX8_letter_8 rfl rfl rfl ?_
    refine x_i2l 10 hC dX8_letter_9 rfl ?_
    refine x_lconst 11 hC (0 : Int64) dX8_letter_10 rfl (by decide) ?_
    refine x_ldc2 14 hC (v := (3 : Int64)) (List.mem_of_getElem? (i := 1) (by decide +kernel)) dX8_letter_11 rfl ?_
    obtain ⟨R_3, h_R_3, hf⟩ := bd_e hf
    refine x_callSi 17 3 [] [(a_this, .inr (8, [.ref a_s, r_kept, .int v_undos, r_known, r_whose, r_lesser, r_other, .int v_open, r_sums, r_weights, r_row, r_plan, .int v_planned])), (a_s, .inl (cJ, 613, .inr (.inl v_s)))] hC (As := [.long (p2.toInt64), .long (0 : Int64), .long (3 : Int64)]) (c_X8_in l D cI cJ cQ (p2.toInt64) (0 : Int64) (3 : Int64) R_3 h_R_3) gX8_letter_X8_in rfl ⟨rfl, rfl⟩ hd_X8_in ⟨Nat.le_of_ble_eq_true rfl, Nat.le_of_ble_eq_true rfl⟩ rfl rfl rfl rfl rfl rfl (Nat.le_of_ble_eq_true rfl) ⟨Nat.le_of_ble_eq_true rfl, Nat.le_of_ble_eq_true rfl⟩ dX8_letter_14 rfl ?_
    refine x_if_eq 39 20 hC dX8_letter_17 (by decide) rfl (fun c_4 => ?_) (fun c_4 => ?_)
    · have hf := if_t hf c_4
      refine x_ldc2 42 hC (v := (-1 : Int64)) (List.mem_of_getElem? (i := 3) (by decide +kernel)) dX8_letter_39 rfl ?_
      cases hf
      exact x_lret hC dX8_letter_42 hQ rfl rfl
    · have hf := if_f hf c_4
      refine x_aload_n 21 0 hC dX8_letter_20 rfl rfl rfl ?_
      refine x_get 24 0 0 hC in_X8_letter_X8 rfl rfl (by decide) (List.mem_of_getElem? (i := 2) (by decide +kernel)) rfl rfl dX8_letter_21 rfl ?_
      refine x_sipush 27 hC (173 : Int32) dX8_letter_24 rfl (by decide) ?_
      refine x_iconst 28 hC (5 : Int32) dX8_letter_27 rfl (by decide) ?_
      refine x_iload_n 29 1 hC dX8_letter_28 rfl rfl rfl ?_
      refine x_imul 30 hC dX8_letter_29 rfl ?_
      refine x_iadd 31 hC dX8_letter_30 rfl ?_
      refine x_iconst 32 hC (1 : Int32) dX8_letter_31 rfl (by decide) ?_
      refine x_iadd 33 hC dX8_letter_32 rfl ?_
      refine x_iload_n 34 2 hC dX8_letter_33 rfl rfl rfl ?_
      refine x_iadd 35 hC dX8_letter_34 rfl ?_
      obtain ⟨h_5, hf⟩ := ck_e hf
      refine x_lald 36 1 1 hC rfl rfl h_5 dX8_letter_35 rfl ?_
      refine x_goto 42 hC dX8_letter_36 (by decide) ?_
      cases hf
      exact x_lret hC dX8_letter_42 hQ rfl rfl

theorem hd_X8_owed : yX8_owed.cls = RX8 ∧ yX8_owed.cls ≠ "java/lang/invoke/MethodHandle" ∧ yX8_owed.cls ≠ "java/lang/invoke/VarHandle" ∧ (parseMethodDescriptor yX8_owed.desc).map (fun d => d.parameters.length) = some 1 := by decide +kernel
theorem in_X8_owed_X8 : ∀ w ∈ u_ws RX8 TX8 13, w ∈ wsX8_owed := fun w h => List.mem_cons_of_mem _ (List.mem_append_right _ h)
noncomputable def f_X8_owed_c30 (k5 : Int32 → Int64 → Int32 → Option (Int64)) (v_s : Nat → Int64) (k30_l1 : Int32) (k30_l4 : Int32) (k30_s0 : Int32) (k30_s2 : Int64) : Option (Int64) := ck (k30_s0 + k30_l4) 613 <| nm (k30_s2 + (v_s (k30_s0 + k30_l4).toNatClampNeg)) fun x_2 => nm (k30_l4 + (1 : Int32)) fun x_3 => k5 k30_l1 x_2 x_3
noncomputable def f_X8_owed_c5 (v_s : Nat → Int64) : Nat → Int32 → Int64 → Int32 → Option (Int64)
  | 0, _, _, _ => none
  | n + 1, k5_l1, k5_l2, k5_l4 => if (100 : Int32) ≤ k5_l4 then (some (k5_l2)) else (if k5_l1 = 0 then (f_X8_owed_c30 (fun k5_l1 k5_l2 k5_l4 => f_X8_owed_c5 v_s n k5_l1 k5_l2 k5_l4) v_s k5_l1 k5_l4 (413 : Int32) k5_l2) else (f_X8_owed_c30 (fun k5_l1 k5_l2 k5_l4 => f_X8_owed_c5 v_s n k5_l1 k5_l2 k5_l4) v_s k5_l1 k5_l4 (513 : Int32) k5_l2))
noncomputable def f_X8_owed (v_s : Nat → Int64) (p1 : Int32) : Option (Int64) := f_X8_owed_c5 v_s fu p1 (0 : Int64) (0 : Int32)
set_option maxHeartbeats 4000000 in
set_option maxRecDepth 100000 in
theorem c_X8_owed (l : Launch) (D : va_G) (cI cJ cQ : ClassId) (a_this : Nat) (a_s : Nat) (r_kept : Value) (r_known : Value) (r_whose : Value) (r_lesser : Value) (r_other : Value) (r_sums : Value) (r_weights : Value) (r_row : Value) (r_plan : Value) (v_undos : Int32) (v_open : Int32) (v_planned : Int32) (v_s : Nat → Int64) (p1 : Int32) (R0 : Int64) (hf : f_X8_owed v_s p1 = some R0) : Cl l yX8_owed wsX8_owed ({ frames := 1, cells := 0, slots := 0, locals := 60 } : Room) D [(cI, .int), (cJ, .long), (cQ, .object "WhisperCrowd$State")] [.ref a_this, .int p1] [(a_this, .inr (8, [.ref a_s, r_kept, .int v_undos, r_known, r_whose, r_lesser, r_other, .int v_open, r_sums, r_weights, r_row, r_plan, .int v_planned])), (a_s, .inl (cJ, 613, .inr (.inl v_s)))] [(a_this, .inr (8, [.ref a_s, r_kept, .int v_undos, r_known, r_whose, r_lesser, r_other, .int v_open, r_sums, r_weights, r_row, r_plan, .int v_planned])), (a_s, .inl (cJ, 613, .inr (.inl v_s)))] R0 := by
  refine x_entl (cc := cX8_owed) (maxL := 5) (rt := (some .long)) (lv := [(0, .ref a_this), (1, .int p1)]) (by decide) rfl (Nat.le_of_ble_eq_true rfl) rfl ?_
  intro p e s m args below meth c A Q hQ hC
  have J_5 : ∀ (n : Nat) (k5_l1 : Int32) (k5_l2 : Int64) (k5_l4 : Int32), f_X8_owed_c5 v_s n k5_l1 k5_l2 k5_l4 = some R0 → XW p l e ({ frames := 1, cells := 0, slots := 0, locals := 60 } : Room) s m args below meth c D A 5 0 0 Q [(a_this, .inr (8, [.ref a_s, r_kept, .int v_undos, r_known, r_whose, r_lesser, r_other, .int v_open, r_sums, r_weights, r_row, r_plan, .int v_planned])), (a_s, .inl (cJ, 613, .inr (.inl v_s)))] [] [(0, .ref a_this), (1, .int k5_l1), (2, .long k5_l2), (4, .int k5_l4)] 5 [] := by
    intro n
    induction n with
    | zero => intro k5_l1 k5_l2 k5_l4 hf; exact nomatch (show (none : Option (Int64)) = some R0 from hf)
    | succ n_5 ih_5 =>
      have J_30 : ∀ (k30_l1 : Int32) (k30_l4 : Int32) (k30_s0 : Int32) (k30_s2 : Int64), f_X8_owed_c30 (fun k5_l1 k5_l2 k5_l4 => f_X8_owed_c5 v_s n_5 k5_l1 k5_l2 k5_l4) v_s k30_l1 k30_l4 k30_s0 k30_s2 = some R0 → XW p l e ({ frames := 1, cells := 0, slots := 0, locals := 60 } : Room) s m args below meth c D A 5 0 0 Q [(a_this, .inr (8, [.ref a_s, r_kept, .int v_undos, r_known, r_whose, r_lesser, r_other, .int v_open, r_sums, r_weights, r_row, r_plan, .int v_planned])), (a_s, .inl (cJ, 613, .inr (.inl v_s)))] [] [(0, .ref a_this), (1, .int k30_l1), (4, .int k30_l4)] 30 [.int k30_s0, .ref a_s, .long k30_s2] := by
        intro k30_l1 k30_l4 k30_s0 k30_s2 hf
        unfold f_X8_owed_c30 at hf
        refine x_iload 32 2 hC dX8_owed_30 rfl rfl ?_
        refine x_iadd 33 hC dX8_owed_32 rfl ?_
        obtain ⟨h_1, hf⟩ := ck_e hf
        refine x_lald 34 1 1 hC rfl rfl h_1 dX8_owed_33 rfl ?_
        refine x_ladd 35 hC dX8_owed_34 rfl ?_
        obtain ⟨x_2, e_x_2, hf⟩ := nmx_e hf
        refine x_lstore_n 36 [(2, .long x_2), (0, .ref a_this), (1, .int k30_l1), (4, .int k30_l4)] hC dX8_owed_35 rfl rfl e_x_2 (by decide) rfl ?_
        obtain ⟨x_3, e_x_3, hf⟩ := nmx_e hf
        refine x_iinc 39 3 [(4, .int x_3), (2, .long x_2), (0, .ref a_this), (1, .int k30_l1)] hC dX8_owed_36 rfl rfl e_x_3 (by decide) (by decide) rfl ?_
        refine x_goto 5 hC dX8_owed_39 (by decide) ?_
        refine x_lv [(0, .ref a_this), (1, .int k30_l1), (2, .long x_2), (4, .int x_3)] [2, 3, 1, 0] rfl ?_
        exact ih_5 k30_l1 x_2 x_3 hf
      intro k5_l1 k5_l2 k5_l4 hf
      unfold f_X8_owed_c5 at hf
      refine x_iload 7 3 hC dX8_owed_5 rfl rfl ?_
      refine x_bipush 9 hC (100 : Int32) dX8_owed_7 rfl (by decide) ?_
      refine x_icmp_ge 42 12 hC dX8_owed_9 (by decide) rfl (fun c_4 => ?_) (fun c_4 => ?_)
      · have hf := if_t hf c_4
        refine x_lload_n 43 2 hC dX8_owed_42 rfl rfl rfl ?_
        cases hf
        exact x_lret hC dX8_owed_43 hQ rfl rfl
      · have hf := if_f hf c_4
        refine x_lload_n 13 2 hC dX8_owed_12 rfl rfl rfl ?_
        refine x_aload_n 14 0 hC dX8_owed_13 rfl rfl rfl ?_
        refine x_get 17 0 0 hC in_X8_owed_X8 rfl rfl (by decide) (List.mem_of_getElem? (i := 1) (by decide +kernel)) rfl rfl dX8_owed_14 rfl ?_
        refine x_iload_n 18 1 hC dX8_owed_17 rfl rfl rfl ?_
        refine x_if_eq 27 21 hC dX8_owed_18 (by decide) rfl (fun c_5 => ?_) (fun c_5 => ?_)
        · have hf := if_t hf c_5
          refine x_sipush 30 hC (413 : Int32) dX8_owed_27 rfl (by decide) ?_
          refine x_lv [(0, .ref a_this), (1, .int k5_l1), (4, .int k5_l4)] [0, 1, 3] rfl ?_
          exact J_30 k5_l1 k5_l4 (413 : Int32) k5_l2 hf
        · have hf := if_f hf c_5
          refine x_sipush 24 hC (513 : Int32) dX8_owed_21 rfl (by decide) ?_
          refine x_goto 30 hC dX8_owed_24 (by decide) ?_
          refine x_lv [(0, .ref a_this), (1, .int k5_l1), (4, .int k5_l4)] [0, 1, 3] rfl ?_
          exact J_30 k5_l1 k5_l4 (513 : Int32) k5_l2 hf
  unfold f_X8_owed at hf
  refine x_lconst 1 hC (0 : Int64) dX8_owed_0 rfl (by decide) ?_
  refine x_lstore_n 2 [(2, .long (0 : Int64)), (0, .ref a_this), (1, .int p1)] hC dX8_owed_1 rfl rfl rfl (by decide) rfl ?_
  refine x_iconst 3 hC (0 : Int32) dX8_owed_2 rfl (by decide) ?_
  refine x_istore 5 [(4, .int (0 : Int32)), (2, .long (0 : Int64)), (0, .ref a_this), (1, .int p1)] hC dX8_owed_3 rfl rfl (by decide) rfl ?_
  refine x_lv [(0, .ref a_this), (1, .int p1), (2, .long (0 : Int64)), (4, .int (0 : Int32))] [2, 3, 1, 0] rfl ?_
  exact J_5 fu p1 (0 : Int64) (0 : Int32) hf

theorem hd_X8_all : yX8_all.cls = RX8 ∧ yX8_all.cls ≠ "java/lang/invoke/MethodHandle" ∧ yX8_all.cls ≠ "java/lang/invoke/VarHandle" ∧ (parseMethodDescriptor yX8_all.desc).map (fun d => d.parameters.length) = some 1 := by decide +kernel
theorem in_X8_all_X8 : ∀ w ∈ u_ws RX8 TX8 13, w ∈ wsX8_all := fun w h => List.mem_cons_of_mem _ (List.mem_append_right _ h)
noncomputable def f_X8_all_c79 (k35 : Int32 → Int64 → Int32 → Option (Int64)) (v_s : Nat → Int64) (k79_l1 : Int32) (k79_l4 : Int32) (k79_s0 : Int64) (k79_s1 : Int64) : Option (Int64) := nm (k79_s1 + k79_s0) fun x_1 => nm (k79_l4 + (1 : Int32)) fun x_2 => k35 k79_l1 x_1 x_2
noncomputable def f_X8_all_c73 (k35 : Int32 → Int64 → Int32 → Option (Int64)) (v_s : Nat → Int64) (k73_l1 : Int32) (k73_l4 : Int32) (k73_s0 : Int32) (k73_s1 : Int32) (k73_s3 : Int64) : Option (Int64) := ck (k73_s1 + k73_s0) 613 <| f_X8_all_c79 k35 v_s k73_l1 k73_l4 (v_s (k73_s1 + k73_s0).toNatClampNeg) k73_s3
noncomputable def f_X8_all_c35 (v_s : Nat → Int64) : Nat → Int32 → Int64 → Int32 → Option (Int64)
  | 0, _, _, _ => none
  | n + 1, k35_l1, k35_l2, k35_l4 => if (8 : Int32) ≤ k35_l4 then (some (k35_l2)) else (bd (f_X8_isUnderWay v_s k35_l4) fun R_5 => if R_5 = 0 then (f_X8_all_c79 (fun k35_l1 k35_l2 k35_l4 => f_X8_all_c35 v_s n k35_l1 k35_l2 k35_l4) v_s k35_l1 k35_l4 (0 : Int64) k35_l2) else (if k35_l1 = 0 then (f_X8_all_c73 (fun k35_l1 k35_l2 k35_l4 => f_X8_all_c35 v_s n k35_l1 k35_l2 k35_l4) v_s k35_l1 k35_l4 (3 : Int32) ((173 : Int32) + ((5 : Int32) * k35_l4)) k35_l2) else (f_X8_all_c73 (fun k35_l1 k35_l2 k35_l4 => f_X8_all_c35 v_s n k35_l1 k35_l2 k35_l4) v_s k35_l1 k35_l4 (4 : Int32) ((173 : Int32) + ((5 : Int32) * k35_l4)) k35_l2)))
noncomputable def f_X8_all_c9 (v_s : Nat → Int64) : Nat → Int32 → Int64 → Int32 → Option (Int64)
  | 0, _, _, _ => none
  | n + 1, k9_l1, k9_l2, k9_l4 => if (10 : Int32) ≤ k9_l4 then (f_X8_all_c35 v_s fu k9_l1 k9_l2 (0 : Int32)) else (bd (f_X8_mass v_s k9_l4 k9_l1) fun R_9 => nm (k9_l2 + R_9) fun x_10 => nm (k9_l4 + (1 : Int32)) fun x_11 => (fun k9_l1 k9_l2 k9_l4 => f_X8_all_c9 v_s n k9_l1 k9_l2 k9_l4) k9_l1 x_10 x_11)
noncomputable def f_X8_all (v_s : Nat → Int64) (p1 : Int32) : Option (Int64) := bd (f_X8_owed v_s p1) fun R_12 => f_X8_all_c9 v_s fu p1 R_12 (0 : Int32)
set_option maxHeartbeats 4000000 in
set_option maxRecDepth 100000 in
theorem c_X8_all (l : Launch) (D : va_G) (cI cJ cQ : ClassId) (a_this : Nat) (a_s : Nat) (r_kept : Value) (r_known : Value) (r_whose : Value) (r_lesser : Value) (r_other : Value) (r_sums : Value) (r_weights : Value) (r_row : Value) (r_plan : Value) (v_undos : Int32) (v_open : Int32) (v_planned : Int32) (v_s : Nat → Int64) (p1 : Int32) (R0 : Int64) (hf : f_X8_all v_s p1 = some R0) : Cl l yX8_all wsX8_all ({ frames := 5, cells := 0, slots := 0, locals := 157 } : Room) D [(cI, .int), (cJ, .long), (cQ, .object "WhisperCrowd$State")] [.ref a_this, .int p1] [(a_this, .inr (8, [.ref a_s, r_kept, .int v_undos, r_known, r_whose, r_lesser, r_other, .int v_open, r_sums, r_weights, r_row, r_plan, .int v_planned])), (a_s, .inl (cJ, 613, .inr (.inl v_s)))] [(a_this, .inr (8, [.ref a_s, r_kept, .int v_undos, r_known, r_whose, r_lesser, r_other, .int v_open, r_sums, r_weights, r_row, r_plan, .int v_planned])), (a_s, .inl (cJ, 613, .inr (.inl v_s)))] R0 := by
  refine x_entl (cc := cX8_all) (maxL := 5) (rt := (some .long)) (lv := [(0, .ref a_this), (1, .int p1)]) (by decide) rfl (Nat.le_of_ble_eq_true rfl) rfl ?_
  intro p e s m args below meth c A Q hQ hC
  have J_35 : ∀ (n : Nat) (k35_l1 : Int32) (k35_l2 : Int64) (k35_l4 : Int32), f_X8_all_c35 v_s n k35_l1 k35_l2 k35_l4 = some R0 → XW p l e ({ frames := 5, cells := 0, slots := 0, locals := 157 } : Room) s m args below meth c D A 5 0 0 Q [(a_this, .inr (8, [.ref a_s, r_kept, .int v_undos, r_known, r_whose, r_lesser, r_other, .int v_open, r_sums, r_weights, r_row, r_plan, .int v_planned])), (a_s, .inl (cJ, 613, .inr (.inl v_s)))] [] [(0, .ref a_this), (1, .int k35_l1), (2, .long k35_l2), (4, .int k35_l4)] 35 [] := by
    intro n
    induction n with
    | zero => intro k35_l1 k35_l2 k35_l4 hf; exact nomatch (show (none : Option (Int64)) = some R0 from hf)
    | succ n_35 ih_35 =>
      have J_79 : ∀ (k79_l1 : Int32) (k79_l4 : Int32) (k79_s0 : Int64) (k79_s1 : Int64), f_X8_all_c79 (fun k35_l1 k35_l2 k35_l4 => f_X8_all_c35 v_s n_35 k35_l1 k35_l2 k35_l4) v_s k79_l1 k79_l4 k79_s0 k79_s1 = some R0 → XW p l e ({ frames := 5, cells := 0, slots := 0, locals := 157 } : Room) s m args below meth c D A 5 0 0 Q [(a_this, .inr (8, [.ref a_s, r_kept, .int v_undos, r_known, r_whose, r_lesser, r_other, .int v_open, r_sums, r_weights, r_row, r_plan, .int v_planned])), (a_s, .inl (cJ, 613, .inr (.inl v_s)))] [] [(0, .ref a_this), (1, .int k79_l1), (4, .int k79_l4)] 79 [.long k79_s0, .long k79_s1] := by
        intro k79_l1 k79_l4 k79_s0 k79_s1 hf
        unfold f_X8_all_c79 at hf
        refine x_ladd 80 hC dX8_all_79 rfl ?_
        obtain ⟨x_1, e_x_1, hf⟩ := nmx_e hf
        refine x_lstore_n 81 [(2, .long x_1), (0, .ref a_this), (1, .int k79_l1), (4, .int k79_l4)] hC dX8_all_80 rfl rfl e_x_1 (by decide) rfl ?_
        obtain ⟨x_2, e_x_2, hf⟩ := nmx_e hf
        refine x_iinc 84 3 [(4, .int x_2), (2, .long x_1), (0, .ref a_this), (1, .int k79_l1)] hC dX8_all_81 rfl rfl e_x_2 (by decide) (by decide) rfl ?_
        refine x_goto 35 hC dX8_all_84 (by decide) ?_
        refine x_lv [(0, .ref a_this), (1, .int k79_l1), (2, .long x_1), (4, .int x_2)] [2, 3, 1, 0] rfl ?_
        exact ih_35 k79_l1 x_1 x_2 hf
      have J_73 : ∀ (k73_l1 : Int32) (k73_l4 : Int32) (k73_s0 : Int32) (k73_s1 : Int32) (k73_s3 : Int64), f_X8_all_c73 (fun k35_l1 k35_l2 k35_l4 => f_X8_all_c35 v_s n_35 k35_l1 k35_l2 k35_l4) v_s k73_l1 k73_l4 k73_s0 k73_s1 k73_s3 = some R0 → XW p l e ({ frames := 5, cells := 0, slots := 0, locals := 157 } : Room) s m args below meth c D A 5 0 0 Q [(a_this, .inr (8, [.ref a_s, r_kept, .int v_undos, r_known, r_whose, r_lesser, r_other, .int v_open, r_sums, r_weights, r_row, r_plan, .int v_planned])), (a_s, .inl (cJ, 613, .inr (.inl v_s)))] [] [(0, .ref a_this), (1, .int k73_l1), (4, .int k73_l4)] 73 [.int k73_s0, .int k73_s1, .ref a_s, .long k73_s3] := by
        intro k73_l1 k73_l4 k73_s0 k73_s1 k73_s3 hf
        unfold f_X8_all_c73 at hf
        refine x_iadd 74 hC dX8_all_73 rfl ?_
        obtain ⟨h_3, hf⟩ := ck_e hf
        refine x_lald 75 1 1 hC rfl rfl h_3 dX8_all_74 rfl ?_
        refine x_goto 79 hC dX8_all_75 (by decide) ?_
        refine x_lv [(0, .ref a_this), (1, .int k73_l1), (4, .int k73_l4)] [0, 1, 2] rfl ?_
        exact J_79 k73_l1 k73_l4 (v_s (k73_s1 + k73_s0).toNatClampNeg) k73_s3 hf
      intro k35_l1 k35_l2 k35_l4 hf
      unfold f_X8_all_c35 at hf
      refine x_iload 37 3 hC dX8_all_35 rfl rfl ?_
      refine x_bipush 39 hC (8 : Int32) dX8_all_37 rfl (by decide) ?_
      refine x_icmp_ge 87 42 hC dX8_all_39 (by decide) rfl (fun c_4 => ?_) (fun c_4 => ?_)
      · have hf := if_t hf c_4
        refine x_lload_n 88 2 hC dX8_all_87 rfl rfl rfl ?_
        cases hf
        exact x_lret hC dX8_all_88 hQ rfl rfl
      · have hf := if_f hf c_4
        refine x_lload_n 43 2 hC dX8_all_42 rfl rfl rfl ?_
        refine x_aload_n 44 0 hC dX8_all_43 rfl rfl rfl ?_
        refine x_iload 46 3 hC dX8_all_44 rfl rfl ?_
        obtain ⟨R_5, h_R_5, hf⟩ := bd_e hf
        refine x_callVi 49 0 1 [0, 1] [(a_this, .inr (8, [.ref a_s, r_kept, .int v_undos, r_known, r_whose, r_lesser, r_other, .int v_open, r_sums, r_weights, r_row, r_plan, .int v_planned])), (a_s, .inl (cJ, 613, .inr (.inl v_s)))] hC (As := [.int k35_l4]) (c_X8_isUnderWay l D cI cJ cQ a_this a_s r_kept r_known r_whose r_lesser r_other r_sums r_weights r_row r_plan v_undos v_open v_planned v_s k35_l4 R_5 h_R_5) rfl rfl gX8_all_X8_isUnderWay rfl ⟨rfl, rfl⟩ hd_X8_isUnderWay ⟨Nat.le_of_ble_eq_true rfl, Nat.le_of_ble_eq_true rfl⟩ rfl rfl rfl rfl rfl rfl (Nat.le_of_ble_eq_true rfl) ⟨Nat.le_of_ble_eq_true rfl, Nat.le_of_ble_eq_true rfl⟩ dX8_all_46 rfl ?_
        refine x_if_eq 78 52 hC dX8_all_49 (by decide) rfl (fun c_6 => ?_) (fun c_6 => ?_)
        · have hf := if_t hf c_6
          refine x_lconst 79 hC (0 : Int64) dX8_all_78 rfl (by decide) ?_
          refine x_lv [(0, .ref a_this), (1, .int k35_l1), (4, .int k35_l4)] [0, 1, 3] rfl ?_
          exact J_79 k35_l1 k35_l4 (0 : Int64) k35_l2 hf
        · have hf := if_f hf c_6
          refine x_aload_n 53 0 hC dX8_all_52 rfl rfl rfl ?_
          refine x_get 56 0 0 hC in_X8_all_X8 rfl rfl (by decide) (List.mem_of_getElem? (i := 1) (by decide +kernel)) rfl rfl dX8_all_53 rfl ?_
          refine x_sipush 59 hC (173 : Int32) dX8_all_56 rfl (by decide) ?_
          refine x_iconst 60 hC (5 : Int32) dX8_all_59 rfl (by decide) ?_
          refine x_iload 62 3 hC dX8_all_60 rfl rfl ?_
          refine x_imul 63 hC dX8_all_62 rfl ?_
          refine x_iadd 64 hC dX8_all_63 rfl ?_
          refine x_iload_n 65 1 hC dX8_all_64 rfl rfl rfl ?_
          refine x_if_eq 72 68 hC dX8_all_65 (by decide) rfl (fun c_7 => ?_) (fun c_7 => ?_)
          · have hf := if_t hf c_7
            refine x_iconst 73 hC (3 : Int32) dX8_all_72 rfl (by decide) ?_
            refine x_lv [(0, .ref a_this), (1, .int k35_l1), (4, .int k35_l4)] [0, 1, 3] rfl ?_
            exact J_73 k35_l1 k35_l4 (3 : Int32) ((173 : Int32) + ((5 : Int32) * k35_l4)) k35_l2 hf
          · have hf := if_f hf c_7
            refine x_iconst 69 hC (4 : Int32) dX8_all_68 rfl (by decide) ?_
            refine x_goto 73 hC dX8_all_69 (by decide) ?_
            refine x_lv [(0, .ref a_this), (1, .int k35_l1), (4, .int k35_l4)] [0, 1, 3] rfl ?_
            exact J_73 k35_l1 k35_l4 (4 : Int32) ((173 : Int32) + ((5 : Int32) * k35_l4)) k35_l2 hf
  have J_9 : ∀ (n : Nat) (k9_l1 : Int32) (k9_l2 : Int64) (k9_l4 : Int32), f_X8_all_c9 v_s n k9_l1 k9_l2 k9_l4 = some R0 → XW p l e ({ frames := 5, cells := 0, slots := 0, locals := 157 } : Room) s m args below meth c D A 5 0 0 Q [(a_this, .inr (8, [.ref a_s, r_kept, .int v_undos, r_known, r_whose, r_lesser, r_other, .int v_open, r_sums, r_weights, r_row, r_plan, .int v_planned])), (a_s, .inl (cJ, 613, .inr (.inl v_s)))] [] [(0, .ref a_this), (1, .int k9_l1), (2, .long k9_l2), (4, .int k9_l4)] 9 [] := by
    intro n
    induction n with
    | zero => intro k9_l1 k9_l2 k9_l4 hf; exact nomatch (show (none : Option (Int64)) = some R0 from hf)
    | succ n_9 ih_9 =>
      intro k9_l1 k9_l2 k9_l4 hf
      unfold f_X8_all_c9 at hf
      refine x_iload 11 3 hC dX8_all_9 rfl rfl ?_
      refine x_bipush 13 hC (10 : Int32) dX8_all_11 rfl (by decide) ?_
      refine x_icmp_ge 32 16 hC dX8_all_13 (by decide) rfl (fun c_8 => ?_) (fun c_8 => ?_)
      · have hf := if_t hf c_8
        refine x_iconst 33 hC (0 : Int32) dX8_all_32 rfl (by decide) ?_
        refine x_istore 35 [(4, .int (0 : Int32)), (0, .ref a_this), (1, .int k9_l1), (2, .long k9_l2)] hC dX8_all_33 rfl rfl (by decide) rfl ?_
        refine x_lv [(0, .ref a_this), (1, .int k9_l1), (2, .long k9_l2), (4, .int (0 : Int32))] [1, 2, 3, 0] rfl ?_
        exact J_35 fu k9_l1 k9_l2 (0 : Int32) hf
      · have hf := if_f hf c_8
        refine x_lload_n 17 2 hC dX8_all_16 rfl rfl rfl ?_
        refine x_aload_n 18 0 hC dX8_all_17 rfl rfl rfl ?_
        refine x_iload 20 3 hC dX8_all_18 rfl rfl ?_
        refine x_iload_n 21 1 hC dX8_all_20 rfl rfl rfl ?_
        obtain ⟨R_9, h_R_9, hf⟩ := bd_e hf
        refine x_callVl 24 0 2 [0, 1] [(a_this, .inr (8, [.ref a_s, r_kept, .int v_undos, r_known, r_whose, r_lesser, r_other, .int v_open, r_sums, r_weights, r_row, r_plan, .int v_planned])), (a_s, .inl (cJ, 613, .inr (.inl v_s)))] hC (As := [.int k9_l4, .int k9_l1]) (c_X8_mass l D cI cJ cQ a_this a_s r_kept r_known r_whose r_lesser r_other r_sums r_weights r_row r_plan v_undos v_open v_planned v_s k9_l4 k9_l1 R_9 h_R_9) rfl rfl gX8_all_X8_mass rfl ⟨rfl, rfl⟩ hd_X8_mass ⟨Nat.le_of_ble_eq_true rfl, Nat.le_of_ble_eq_true rfl⟩ rfl rfl rfl rfl rfl rfl (Nat.le_of_ble_eq_true rfl) ⟨Nat.le_of_ble_eq_true rfl, Nat.le_of_ble_eq_true rfl⟩ dX8_all_21 rfl ?_
        refine x_ladd 25 hC dX8_all_24 rfl ?_
        obtain ⟨x_10, e_x_10, hf⟩ := nmx_e hf
        refine x_lstore_n 26 [(2, .long x_10), (0, .ref a_this), (1, .int k9_l1), (4, .int k9_l4)] hC dX8_all_25 rfl rfl e_x_10 (by decide) rfl ?_
        obtain ⟨x_11, e_x_11, hf⟩ := nmx_e hf
        refine x_iinc 29 3 [(4, .int x_11), (2, .long x_10), (0, .ref a_this), (1, .int k9_l1)] hC dX8_all_26 rfl rfl e_x_11 (by decide) (by decide) rfl ?_
        refine x_goto 9 hC dX8_all_29 (by decide) ?_
        refine x_lv [(0, .ref a_this), (1, .int k9_l1), (2, .long x_10), (4, .int x_11)] [2, 3, 1, 0] rfl ?_
        exact ih_9 k9_l1 x_10 x_11 hf
  unfold f_X8_all at hf
  refine x_aload_n 1 0 hC dX8_all_0 rfl rfl rfl ?_
  refine x_iload_n 2 1 hC dX8_all_1 rfl rfl rfl ?_
  obtain ⟨R_12, h_R_12, hf⟩ := bd_e hf
  refine x_callVl 5 0 1 [0, 1] [(a_this, .inr (8, [.ref a_s, r_kept, .int v_undos, r_known, r_whose, r_lesser, r_other, .int v_open, r_sums, r_weights, r_row, r_plan, .int v_planned])), (a_s, .inl (cJ, 613, .inr (.inl v_s)))] hC (As := [.int p1]) (c_X8_owed l D cI cJ cQ a_this a_s r_kept r_known r_whose r_lesser r_other r_sums r_weights r_row r_plan v_undos v_open v_planned v_s p1 R_12 h_R_12) rfl rfl gX8_all_X8_owed rfl ⟨rfl, rfl⟩ hd_X8_owed ⟨Nat.le_of_ble_eq_true rfl, Nat.le_of_ble_eq_true rfl⟩ rfl rfl rfl rfl rfl rfl (Nat.le_of_ble_eq_true rfl) ⟨Nat.le_of_ble_eq_true rfl, Nat.le_of_ble_eq_true rfl⟩ dX8_all_2 rfl ?_
  refine x_lstore_n 6 [(2, .long R_12), (0, .ref a_this), (1, .int p1)] hC dX8_all_5 rfl rfl rfl (by decide) rfl ?_
  refine x_iconst 7 hC (0 : Int32) dX8_all_6 rfl (by decide) ?_
  refine x_istore 9 [(4, .int (0 : Int32)), (2, .long R_12), (0, .ref a_this), (1, .int p1)] hC dX8_all_7 rfl rfl (by decide) rfl ?_
  refine x_lv [(0, .ref a_this), (1, .int p1), (2, .long R_12), (4, .int (0 : Int32))] [2, 3, 1, 0] rfl ?_
  exact J_9 fu p1 R_12 (0 : Int32) hf
