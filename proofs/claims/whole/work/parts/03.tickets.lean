theorem hd_X6_numberAt : yX6_numberAt.cls = RX6 ∧ yX6_numberAt.cls ≠ "java/lang/invoke/MethodHandle" ∧ yX6_numberAt.cls ≠ "java/lang/invoke/VarHandle" ∧ (parseMethodDescriptor yX6_numberAt.desc).map (fun d => d.parameters.length) = some 2 := by decide +kernel
theorem in_X6_numberAt_X6 : ∀ w ∈ u_ws RX6 TX6 3, w ∈ wsX6_numberAt := fun w h => List.mem_cons_of_mem _ (List.mem_append_right _ h)
noncomputable def f_X6_numberAt (v_numbers : Nat → Int32) (p1 : Int32) (p2 : Int32) : Option (Int32) := ck ((p1 * (4 : Int32)) + p2) 44 <| some ((v_numbers ((p1 * (4 : Int32)) + p2).toNatClampNeg))
set_option maxHeartbeats 4000000 in
set_option maxRecDepth 100000 in
theorem c_X6_numberAt (l : Launch) (D : va_G) (cI cJ cQ : ClassId) (a_this : Nat) (a_numbers : Nat) (r_known : Value) (r_owners : Value) (v_numbers : Nat → Int32) (p1 : Int32) (p2 : Int32) (R0 : Int32) (hf : f_X6_numberAt v_numbers p1 p2 = some R0) : Ci l yX6_numberAt wsX6_numberAt ({ frames := 1, cells := 0, slots := 0, locals := 60 } : Room) D [(cI, .int), (cJ, .long), (cQ, .object "WhisperCrowd$State")] [.ref a_this, .int p1, .int p2] [(a_this, .inr (6, [r_known, .ref a_numbers, r_owners])), (a_numbers, .inl (cI, 44, .inl v_numbers))] [(a_this, .inr (6, [r_known, .ref a_numbers, r_owners])), (a_numbers, .inl (cI, 44, .inl v_numbers))] R0 := by
  refine x_enti (cc := cX6_numberAt) (maxL := 3) (rt := (some .int)) (lv := [(0, .ref a_this), (1, .int p1), (2, .int p2)]) (by decide) rfl (Nat.le_of_ble_eq_true rfl) rfl ?_
  intro p e s m args below meth c A Q hQ hC
  unfold f_X6_numberAt at hf
  refine x_aload_n 1 0 hC dX6_numberAt_0 rfl rfl rfl ?_
  refine x_get 4 0 1 hC in_X6_numberAt_X6 rfl rfl (by decide) (List.mem_of_getElem? (i := 1) (by decide +kernel)) rfl rfl dX6_numberAt_1 rfl ?_
  refine x_iload_n 5 1 hC dX6_numberAt_4 rfl rfl rfl ?_
  refine x_iconst 6 hC (4 : Int32) dX6_numberAt_5 rfl (by decide) ?_
  refine x_imul 7 hC dX6_numberAt_6 rfl ?_
  refine x_iload_n 8 2 hC dX6_numberAt_7 rfl rfl rfl ?_
  refine x_iadd 9 hC dX6_numberAt_8 rfl ?_
  obtain ⟨h_1, hf⟩ := ck_e hf
  refine x_iald 10 1 0 hC rfl rfl h_1 dX6_numberAt_9 rfl ?_
  cases hf
  exact x_iret hC dX6_numberAt_10 hQ rfl rfl

theorem hd_X6_isBefore : yX6_isBefore.cls = RX6 ∧ yX6_isBefore.cls ≠ "java/lang/invoke/MethodHandle" ∧ yX6_isBefore.cls ≠ "java/lang/invoke/VarHandle" ∧ (parseMethodDescriptor yX6_isBefore.desc).map (fun d => d.parameters.length) = some 3 := by decide +kernel
theorem in_X6_isBefore_X6 : ∀ w ∈ u_ws RX6 TX6 3, w ∈ wsX6_isBefore := fun w h => List.mem_cons_of_mem _ (List.mem_append_right _ h)
noncomputable def f_X6_isBefore (v_numbers : Nat → Int32) (v_owners : Nat → Int32) (p1 : Int32) (p2 : Int32) (p3 : Int32) : Option (Int32) := ck p3 44 <| if p1 < (v_numbers p3.toNatClampNeg) then (some ((1 : Int32))) else (ck p3 44 <| if ¬ p1 = (v_numbers p3.toNatClampNeg) then (some ((0 : Int32))) else (ck p3 44 <| if (v_owners p3.toNatClampNeg) ≤ p2 then (some ((0 : Int32))) else (some ((1 : Int32)))))
set_option maxHeartbeats 4000000 in
set_option maxRecDepth 100000 in
theorem c_X6_isBefore (l : Launch) (D : va_G) (cI cJ cQ : ClassId) (a_this : Nat) (a_numbers : Nat) (a_owners : Nat) (r_known : Value) (v_numbers : Nat → Int32) (v_owners : Nat → Int32) (p1 : Int32) (p2 : Int32) (p3 : Int32) (R0 : Int32) (hf : f_X6_isBefore v_numbers v_owners p1 p2 p3 = some R0) : Ci l yX6_isBefore wsX6_isBefore ({ frames := 1, cells := 0, slots := 0, locals := 60 } : Room) D [(cI, .int), (cJ, .long), (cQ, .object "WhisperCrowd$State")] [.ref a_this, .int p1, .int p2, .int p3] [(a_this, .inr (6, [r_known, .ref a_numbers, .ref a_owners])), (a_numbers, .inl (cI, 44, .inl v_numbers)), (a_owners, .inl (cI, 44, .inl v_owners))] [(a_this, .inr (6, [r_known, .ref a_numbers, .ref a_owners])), (a_numbers, .inl (cI, 44, .inl v_numbers)), (a_owners, .inl (cI, 44, .inl v_owners))] R0 := by
  refine x_enti (cc := cX6_isBefore) (maxL := 4) (rt := (some .boolean)) (lv := [(0, .ref a_this), (1, .int p1), (2, .int p2), (3, .int p3)]) (by decide) rfl (Nat.le_of_ble_eq_true rfl) rfl ?_
  intro p e s m args below meth c A Q hQ hC
  unfold f_X6_isBefore at hf
  refine x_iload_n 1 1 hC dX6_isBefore_0 rfl rfl rfl ?_
  refine x_aload_n 2 0 hC dX6_isBefore_1 rfl rfl rfl ?_
  refine x_get 5 0 1 hC in_X6_isBefore_X6 rfl rfl (by decide) (List.mem_of_getElem? (i := 1) (by decide +kernel)) rfl rfl dX6_isBefore_2 rfl ?_
  refine x_iload_n 6 3 hC dX6_isBefore_5 rfl rfl rfl ?_
  obtain ⟨h_1, hf⟩ := ck_e hf
  refine x_iald 7 1 0 hC rfl rfl h_1 dX6_isBefore_6 rfl ?_
  refine x_icmp_lt 30 10 hC dX6_isBefore_7 (by decide) rfl (fun c_2 => ?_) (fun c_2 => ?_)
  · have hf := if_t hf c_2
    refine x_iconst 31 hC (1 : Int32) dX6_isBefore_30 rfl (by decide) ?_
    refine x_goto 35 hC dX6_isBefore_31 (by decide) ?_
    cases hf
    exact x_zret hC rfl dX6_isBefore_35 hQ rfl rfl
  · have hf := if_f hf c_2
    refine x_iload_n 11 1 hC dX6_isBefore_10 rfl rfl rfl ?_
    refine x_aload_n 12 0 hC dX6_isBefore_11 rfl rfl rfl ?_
    refine x_get 15 0 1 hC in_X6_isBefore_X6 rfl rfl (by decide) (List.mem_of_getElem? (i := 1) (by decide +kernel)) rfl rfl dX6_isBefore_12 rfl ?_
    refine x_iload_n 16 3 hC dX6_isBefore_15 rfl rfl rfl ?_
    obtain ⟨h_3, hf⟩ := ck_e hf
    refine x_iald 17 1 0 hC rfl rfl h_3 dX6_isBefore_16 rfl ?_
    refine x_icmp_ne 34 20 hC dX6_isBefore_17 (by decide) rfl (fun c_4 => ?_) (fun c_4 => ?_)
    · have hf := if_t hf c_4
      refine x_iconst 35 hC (0 : Int32) dX6_isBefore_34 rfl (by decide) ?_
      cases hf
      exact x_zret hC rfl dX6_isBefore_35 hQ rfl rfl
    · have hf := if_f hf c_4
      refine x_iload_n 21 2 hC dX6_isBefore_20 rfl rfl rfl ?_
      refine x_aload_n 22 0 hC dX6_isBefore_21 rfl rfl rfl ?_
      refine x_get 25 0 2 hC in_X6_isBefore_X6 rfl rfl (by decide) (List.mem_of_getElem? (i := 2) (by decide +kernel)) rfl rfl dX6_isBefore_22 rfl ?_
      refine x_iload_n 26 3 hC dX6_isBefore_25 rfl rfl rfl ?_
      obtain ⟨h_5, hf⟩ := ck_e hf
      refine x_iald 27 2 0 hC rfl rfl h_5 dX6_isBefore_26 rfl ?_
      refine x_icmp_ge 34 30 hC dX6_isBefore_27 (by decide) rfl (fun c_6 => ?_) (fun c_6 => ?_)
      · have hf := if_t hf c_6
        refine x_iconst 35 hC (0 : Int32) dX6_isBefore_34 rfl (by decide) ?_
        cases hf
        exact x_zret hC rfl dX6_isBefore_35 hQ rfl rfl
      · have hf := if_f hf c_6
        refine x_iconst 31 hC (1 : Int32) dX6_isBefore_30 rfl (by decide) ?_
        refine x_goto 35 hC dX6_isBefore_31 (by decide) ?_
        cases hf
        exact x_zret hC rfl dX6_isBefore_35 hQ rfl rfl

theorem hd_X6_insert : yX6_insert.cls = RX6 ∧ yX6_insert.cls ≠ "java/lang/invoke/MethodHandle" ∧ yX6_insert.cls ≠ "java/lang/invoke/VarHandle" ∧ (parseMethodDescriptor yX6_insert.desc).map (fun d => d.parameters.length) = some 3 := by decide +kernel
theorem in_X6_insert_X6 : ∀ w ∈ u_ws RX6 TX6 3, w ∈ wsX6_insert := fun w h => List.mem_cons_of_mem _ (List.mem_append_right _ h)
noncomputable def f_X6_insert_c125 (k125_known : Nat → Int32) (k125_numbers : Nat → Int32) (k125_owners : Nat → Int32) (k125_l2 : Int32) (k125_l3 : Int32) (k125_l4 : Int32) (k125_l5 : Int32) : Option ((Nat → Int32) × (Nat → Int32) × (Nat → Int32)) := ck (k125_l4 + k125_l5) 44 <| nm (upd k125_numbers (k125_l4 + k125_l5).toNatClampNeg k125_l2) fun g_2 => ck (k125_l4 + k125_l5) 44 <| nm (upd k125_owners (k125_l4 + k125_l5).toNatClampNeg k125_l3) fun g_4 => some (k125_known, g_2, g_4)
noncomputable def f_X6_insert_c54 : Nat → (Nat → Int32) → (Nat → Int32) → (Nat → Int32) → Int32 → Int32 → Int32 → Int32 → Option ((Nat → Int32) × (Nat → Int32) × (Nat → Int32))
  | 0, _, _, _, _, _, _, _ => none
  | n + 1, k54_known, k54_numbers, k54_owners, k54_l2, k54_l3, k54_l4, k54_l5 => if k54_l5 ≤ 0 then (f_X6_insert_c125 k54_known k54_numbers k54_owners k54_l2 k54_l3 k54_l4 k54_l5) else (bd (f_X6_isBefore k54_numbers k54_owners k54_l2 k54_l3 ((k54_l4 + k54_l5) - (1 : Int32))) fun R_6 => if R_6 = 0 then (f_X6_insert_c125 k54_known k54_numbers k54_owners k54_l2 k54_l3 k54_l4 k54_l5) else (ck ((k54_l4 + k54_l5) - (1 : Int32)) 44 <| ck (k54_l4 + k54_l5) 44 <| nm (upd k54_numbers (k54_l4 + k54_l5).toNatClampNeg (k54_numbers ((k54_l4 + k54_l5) - (1 : Int32)).toNatClampNeg)) fun g_10 => ck ((k54_l4 + k54_l5) - (1 : Int32)) 44 <| ck (k54_l4 + k54_l5) 44 <| nm (upd k54_owners (k54_l4 + k54_l5).toNatClampNeg (k54_owners ((k54_l4 + k54_l5) - (1 : Int32)).toNatClampNeg)) fun g_13 => nm (k54_l5 + (-1 : Int32)) fun x_14 => (fun k54_known k54_numbers k54_owners k54_l2 k54_l3 k54_l4 k54_l5 => f_X6_insert_c54 n k54_known k54_numbers k54_owners k54_l2 k54_l3 k54_l4 k54_l5) k54_known g_10 g_13 k54_l2 k54_l3 k54_l4 x_14))
noncomputable def f_X6_insert (v_known : Nat → Int32) (v_numbers : Nat → Int32) (v_owners : Nat → Int32) (p1 : Int32) (p2 : Int32) (p3 : Int32) : Option ((Nat → Int32) × (Nat → Int32) × (Nat → Int32)) := nm (p1 * (4 : Int32)) fun x_15 => ck p1 11 <| nm (v_known p1.toNatClampNeg) fun x_17 => if (4 : Int32) ≤ x_17 then (bd (f_X6_isBefore v_numbers v_owners p2 p3 ((x_15 + (4 : Int32)) - (1 : Int32))) fun R_19 => if R_19 = 0 then (some (v_known, v_numbers, v_owners)) else (f_X6_insert_c54 fu v_known v_numbers v_owners p2 p3 x_15 (3 : Int32))) else (ck p1 11 <| nm (upd v_known p1.toNatClampNeg (x_17 + (1 : Int32))) fun g_22 => f_X6_insert_c54 fu g_22 v_numbers v_owners p2 p3 x_15 x_17)
set_option maxHeartbeats 4000000 in
set_option maxRecDepth 100000 in
theorem c_X6_insert (l : Launch) (D : va_G) (cI cJ cQ : ClassId) (a_this : Nat) (a_known : Nat) (a_numbers : Nat) (a_owners : Nat) (v_known : Nat → Int32) (v_numbers : Nat → Int32) (v_owners : Nat → Int32) (p1 : Int32) (p2 : Int32) (p3 : Int32) (R0 : (Nat → Int32) × (Nat → Int32) × (Nat → Int32)) (hf : f_X6_insert v_known v_numbers v_owners p1 p2 p3 = some R0) : Cv l yX6_insert wsX6_insert ({ frames := 2, cells := 0, slots := 0, locals := 85 } : Room) D [(cI, .int), (cJ, .long), (cQ, .object "WhisperCrowd$State")] [.ref a_this, .int p1, .int p2, .int p3] [(a_this, .inr (6, [.ref a_known, .ref a_numbers, .ref a_owners])), (a_known, .inl (cI, 11, .inl v_known)), (a_numbers, .inl (cI, 44, .inl v_numbers)), (a_owners, .inl (cI, 44, .inl v_owners))] [(a_this, .inr (6, [.ref a_known, .ref a_numbers, .ref a_owners])), (a_known, .inl (cI, 11, .inl R0.1)), (a_numbers, .inl (cI, 44, .inl R0.2.1)), (a_owners, .inl (cI, 44, .inl R0.2.2))] := by
  refine x_entv (cc := cX6_insert) (maxL := 6) (rt := none) (lv := [(0, .ref a_this), (1, .int p1), (2, .int p2), (3, .int p3)]) (by decide) rfl (Nat.le_of_ble_eq_true rfl) rfl ?_
  intro p e s m args below meth c A Q hQ hC
  have J_125 : ∀ (k125_known : Nat → Int32) (k125_numbers : Nat → Int32) (k125_owners : Nat → Int32) (k125_l2 : Int32) (k125_l3 : Int32) (k125_l4 : Int32) (k125_l5 : Int32), f_X6_insert_c125 k125_known k125_numbers k125_owners k125_l2 k125_l3 k125_l4 k125_l5 = some R0 → XW p l e ({ frames := 2, cells := 0, slots := 0, locals := 85 } : Room) s m args below meth c D A 6 0 0 Q [(a_this, .inr (6, [.ref a_known, .ref a_numbers, .ref a_owners])), (a_known, .inl (cI, 11, .inl k125_known)), (a_numbers, .inl (cI, 44, .inl k125_numbers)), (a_owners, .inl (cI, 44, .inl k125_owners))] [] [(0, .ref a_this), (2, .int k125_l2), (3, .int k125_l3), (4, .int k125_l4), (5, .int k125_l5)] 125 [] := by
    intro k125_known k125_numbers k125_owners k125_l2 k125_l3 k125_l4 k125_l5 hf
    unfold f_X6_insert_c125 at hf
    refine x_aload_n 126 0 hC dX6_insert_125 rfl rfl rfl ?_
    refine x_get 129 0 1 hC in_X6_insert_X6 rfl rfl (by decide) (List.mem_of_getElem? (i := 2) (by decide +kernel)) rfl rfl dX6_insert_126 rfl ?_
    refine x_iload 131 3 hC dX6_insert_129 rfl rfl ?_
    refine x_iload 133 4 hC dX6_insert_131 rfl rfl ?_
    refine x_iadd 134 hC dX6_insert_133 rfl ?_
    refine x_iload_n 135 1 hC dX6_insert_134 rfl rfl rfl ?_
    obtain ⟨h_1, hf⟩ := ck_e hf
    obtain ⟨g_2, e_g_2, hf⟩ := nmx_e hf
    refine x_iast 136 2 0 [(a_this, .inr (6, [.ref a_known, .ref a_numbers, .ref a_owners])), (a_known, .inl (cI, 11, .inl k125_known)), (a_numbers, .inl (cI, 44, .inl g_2)), (a_owners, .inl (cI, 44, .inl k125_owners))] hC rfl rfl h_1 e_g_2 rfl dX6_insert_135 rfl ?_
    refine x_aload_n 137 0 hC dX6_insert_136 rfl rfl rfl ?_
    refine x_get 140 0 2 hC in_X6_insert_X6 rfl rfl (by decide) (List.mem_of_getElem? (i := 3) (by decide +kernel)) rfl rfl dX6_insert_137 rfl ?_
    refine x_iload 142 3 hC dX6_insert_140 rfl rfl ?_
    refine x_iload 144 4 hC dX6_insert_142 rfl rfl ?_
    refine x_iadd 145 hC dX6_insert_144 rfl ?_
    refine x_iload_n 146 2 hC dX6_insert_145 rfl rfl rfl ?_
    obtain ⟨h_3, hf⟩ := ck_e hf
    obtain ⟨g_4, e_g_4, hf⟩ := nmx_e hf
    refine x_iast 147 3 0 [(a_this, .inr (6, [.ref a_known, .ref a_numbers, .ref a_owners])), (a_known, .inl (cI, 11, .inl k125_known)), (a_numbers, .inl (cI, 44, .inl g_2)), (a_owners, .inl (cI, 44, .inl g_4))] hC rfl rfl h_3 e_g_4 rfl dX6_insert_146 rfl ?_
    cases hf
    exact x_vret hC dX6_insert_147 hQ rfl
  have J_54 : ∀ (n : Nat) (k54_known : Nat → Int32) (k54_numbers : Nat → Int32) (k54_owners : Nat → Int32) (k54_l2 : Int32) (k54_l3 : Int32) (k54_l4 : Int32) (k54_l5 : Int32), f_X6_insert_c54 n k54_known k54_numbers k54_owners k54_l2 k54_l3 k54_l4 k54_l5 = some R0 → XW p l e ({ frames := 2, cells := 0, slots := 0, locals := 85 } : Room) s m args below meth c D A 6 0 0 Q [(a_this, .inr (6, [.ref a_known, .ref a_numbers, .ref a_owners])), (a_known, .inl (cI, 11, .inl k54_known)), (a_numbers, .inl (cI, 44, .inl k54_numbers)), (a_owners, .inl (cI, 44, .inl k54_owners))] [] [(0, .ref a_this), (2, .int k54_l2), (3, .int k54_l3), (4, .int k54_l4), (5, .int k54_l5)] 54 [] := by
    intro n
    induction n with
    | zero => intro k54_known k54_numbers k54_owners k54_l2 k54_l3 k54_l4 k54_l5 hf; exact nomatch (show (none : Option ((Nat → Int32) × (Nat → Int32) × (Nat → Int32))) = some R0 from hf)
    | succ n_54 ih_54 =>
      intro k54_known k54_numbers k54_owners k54_l2 k54_l3 k54_l4 k54_l5 hf
      unfold f_X6_insert_c54 at hf
      refine x_iload 56 4 hC dX6_insert_54 rfl rfl ?_
      refine x_if_le 125 59 hC dX6_insert_56 (by decide) rfl (fun c_5 => ?_) (fun c_5 => ?_)
      · have hf := if_t hf c_5
        refine x_lv [(0, .ref a_this), (2, .int k54_l2), (3, .int k54_l3), (4, .int k54_l4), (5, .int k54_l5)] [0, 1, 2, 3, 4] rfl ?_
        exact J_125 k54_known k54_numbers k54_owners k54_l2 k54_l3 k54_l4 k54_l5 hf
      · have hf := if_f hf c_5
        refine x_aload_n 60 0 hC dX6_insert_59 rfl rfl rfl ?_
        refine x_iload_n 61 1 hC dX6_insert_60 rfl rfl rfl ?_
        refine x_iload_n 62 2 hC dX6_insert_61 rfl rfl rfl ?_
        refine x_iload 64 3 hC dX6_insert_62 rfl rfl ?_
        refine x_iload 66 4 hC dX6_insert_64 rfl rfl ?_
        refine x_iadd 67 hC dX6_insert_66 rfl ?_
        refine x_iconst 68 hC (1 : Int32) dX6_insert_67 rfl (by decide) ?_
        refine x_isub 69 hC dX6_insert_68 rfl ?_
        obtain ⟨R_6, h_R_6, hf⟩ := bd_e hf
        refine x_callVi 72 0 3 [0, 2, 3] [(a_this, .inr (6, [.ref a_known, .ref a_numbers, .ref a_owners])), (a_known, .inl (cI, 11, .inl k54_known)), (a_numbers, .inl (cI, 44, .inl k54_numbers)), (a_owners, .inl (cI, 44, .inl k54_owners))] hC (As := [.int k54_l2, .int k54_l3, .int ((k54_l4 + k54_l5) - (1 : Int32))]) (c_X6_isBefore l D cI cJ cQ a_this a_numbers a_owners (.ref a_known) k54_numbers k54_owners k54_l2 k54_l3 ((k54_l4 + k54_l5) - (1 : Int32)) R_6 h_R_6) rfl rfl gX6_insert_X6_isBefore rfl ⟨rfl, rfl⟩ hd_X6_isBefore ⟨Nat.le_of_ble_eq_true rfl, Nat.le_of_ble_eq_true rfl⟩ rfl rfl rfl rfl rfl rfl (Nat.le_of_ble_eq_true rfl) ⟨Nat.le_of_ble_eq_true rfl, Nat.le_of_ble_eq_true rfl⟩ dX6_insert_69 rfl ?_
        refine x_if_eq 125 75 hC dX6_insert_72 (by decide) rfl (fun c_7 => ?_) (fun c_7 => ?_)
        · have hf := if_t hf c_7
          refine x_lv [(0, .ref a_this), (2, .int k54_l2), (3, .int k54_l3), (4, .int k54_l4), (5, .int k54_l5)] [0, 1, 2, 3, 4] rfl ?_
          exact J_125 k54_known k54_numbers k54_owners k54_l2 k54_l3 k54_l4 k54_l5 hf
        · have hf := if_f hf c_7
          refine x_aload_n 76 0 hC dX6_insert_75 rfl rfl rfl ?_
          refine x_get 79 0 1 hC in_X6_insert_X6 rfl rfl (by decide) (List.mem_of_getElem? (i := 2) (by decide +kernel)) rfl rfl dX6_insert_76 rfl ?_
          refine x_iload 81 3 hC dX6_insert_79 rfl rfl ?_
          refine x_iload 83 4 hC dX6_insert_81 rfl rfl ?_
          refine x_iadd 84 hC dX6_insert_83 rfl ?_
          refine x_aload_n 85 0 hC dX6_insert_84 rfl rfl rfl ?_
          refine x_get 88 0 1 hC in_X6_insert_X6 rfl rfl (by decide) (List.mem_of_getElem? (i := 2) (by decide +kernel)) rfl rfl dX6_insert_85 rfl ?_
          refine x_iload 90 3 hC dX6_insert_88 rfl rfl ?_
          refine x_iload 92 4 hC dX6_insert_90 rfl rfl ?_
          refine x_iadd 93 hC dX6_insert_92 rfl ?_
          refine x_iconst 94 hC (1 : Int32) dX6_insert_93 rfl (by decide) ?_
          refine x_isub 95 hC dX6_insert_94 rfl ?_
          obtain ⟨h_8, hf⟩ := ck_e hf
          refine x_iald 96 2 0 hC rfl rfl h_8 dX6_insert_95 rfl ?_
          obtain ⟨h_9, hf⟩ := ck_e hf
          obtain ⟨g_10, e_g_10, hf⟩ := nmx_e hf
          refine x_iast 97 2 0 [(a_this, .inr (6, [.ref a_known, .ref a_numbers, .ref a_owners])), (a_known, .inl (cI, 11, .inl k54_known)), (a_numbers, .inl (cI, 44, .inl g_10)), (a_owners, .inl (cI, 44, .inl k54_owners))] hC rfl rfl h_9 e_g_10 rfl dX6_insert_96 rfl ?_
          refine x_aload_n 98 0 hC dX6_insert_97 rfl rfl rfl ?_
          refine x_get 101 0 2 hC in_X6_insert_X6 rfl rfl (by decide) (List.mem_of_getElem? (i := 3) (by decide +kernel)) rfl rfl dX6_insert_98 rfl ?_
          refine x_iload 103 3 hC dX6_insert_101 rfl rfl ?_
          refine x_iload 105 4 hC dX6_insert_103 rfl rfl ?_
          refine x_iadd 106 hC dX6_insert_105 rfl ?_
          refine x_aload_n 107 0 hC dX6_insert_106 rfl rfl rfl ?_
          refine x_get 110 0 2 hC in_X6_insert_X6 rfl rfl (by decide) (List.mem_of_getElem? (i := 3) (by decide +kernel)) rfl rfl dX6_insert_107 rfl ?_
          refine x_iload 112 3 hC dX6_insert_110 rfl rfl ?_
          refine x_iload 114 4 hC dX6_insert_112 rfl rfl ?_
          refine x_iadd 115 hC dX6_insert_114 rfl ?_
          refine x_iconst 116 hC (1 : Int32) dX6_insert_115 rfl (by decide) ?_
          refine x_isub 117 hC dX6_insert_116 rfl ?_
          obtain ⟨h_11, hf⟩ := ck_e hf
          refine x_iald 118 3 0 hC rfl rfl h_11 dX6_insert_117 rfl ?_
          obtain ⟨h_12, hf⟩ := ck_e hf
          obtain ⟨g_13, e_g_13, hf⟩ := nmx_e hf
          refine x_iast 119 3 0 [(a_this, .inr (6, [.ref a_known, .ref a_numbers, .ref a_owners])), (a_known, .inl (cI, 11, .inl k54_known)), (a_numbers, .inl (cI, 44, .inl g_10)), (a_owners, .inl (cI, 44, .inl g_13))] hC rfl rfl h_12 e_g_13 rfl dX6_insert_118 rfl ?_
          obtain ⟨x_14, e_x_14, hf⟩ := nmx_e hf
          refine x_iinc 122 4 [(5, .int x_14), (0, .ref a_this), (2, .int k54_l2), (3, .int k54_l3), (4, .int k54_l4)] hC dX6_insert_119 rfl rfl e_x_14 (by decide) (by decide) rfl ?_
          refine x_goto 54 hC dX6_insert_122 (by decide) ?_
          refine x_lv [(0, .ref a_this), (2, .int k54_l2), (3, .int k54_l3), (4, .int k54_l4), (5, .int x_14)] [1, 2, 3, 4, 0] rfl ?_
          exact ih_54 k54_known g_10 g_13 k54_l2 k54_l3 k54_l4 x_14 hf
  unfold f_X6_insert at hf
  refine x_iload_n 1 1 hC dX6_insert_0 rfl rfl rfl ?_
  refine x_iconst 2 hC (4 : Int32) dX6_insert_1 rfl (by decide) ?_
  refine x_imul 3 hC dX6_insert_2 rfl ?_
  obtain ⟨x_15, e_x_15, hf⟩ := nmx_e hf
  refine x_istore 5 [(4, .int x_15), (0, .ref a_this), (1, .int p1), (2, .int p2), (3, .int p3)] hC dX6_insert_3 rfl e_x_15 (by decide) rfl ?_
  refine x_aload_n 6 1 hC dX6_insert_5 rfl rfl rfl ?_
  refine x_get 9 0 0 hC in_X6_insert_X6 rfl rfl (by decide) (List.mem_of_getElem? (i := 1) (by decide +kernel)) rfl rfl dX6_insert_6 rfl ?_
  refine x_iload_n 10 2 hC dX6_insert_9 rfl rfl rfl ?_
  obtain ⟨h_16, hf⟩ := ck_e hf
  refine x_iald 11 1 0 hC rfl rfl h_16 dX6_insert_10 rfl ?_
  obtain ⟨x_17, e_x_17, hf⟩ := nmx_e hf
  refine x_istore 13 [(5, .int x_17), (4, .int x_15), (0, .ref a_this), (1, .int p1), (2, .int p2), (3, .int p3)] hC dX6_insert_11 rfl e_x_17 (by decide) rfl ?_
  refine x_iload 15 0 hC dX6_insert_13 rfl rfl ?_
  refine x_iconst 16 hC (4 : Int32) dX6_insert_15 rfl (by decide) ?_
  refine x_icmp_ge 32 19 hC dX6_insert_16 (by decide) rfl (fun c_18 => ?_) (fun c_18 => ?_)
  · have hf := if_t hf c_18
    refine x_aload_n 33 2 hC dX6_insert_32 rfl rfl rfl ?_
    refine x_iload_n 34 4 hC dX6_insert_33 rfl rfl rfl ?_
    refine x_iload_n 35 5 hC dX6_insert_34 rfl rfl rfl ?_
    refine x_iload 37 1 hC dX6_insert_35 rfl rfl ?_
    refine x_iconst 38 hC (4 : Int32) dX6_insert_37 rfl (by decide) ?_
    refine x_iadd 39 hC dX6_insert_38 rfl ?_
    refine x_iconst 40 hC (1 : Int32) dX6_insert_39 rfl (by decide) ?_
    refine x_isub 41 hC dX6_insert_40 rfl ?_
    obtain ⟨R_19, h_R_19, hf⟩ := bd_e hf
    refine x_callVi 44 0 3 [0, 2, 3] [(a_this, .inr (6, [.ref a_known, .ref a_numbers, .ref a_owners])), (a_known, .inl (cI, 11, .inl v_known)), (a_numbers, .inl (cI, 44, .inl v_numbers)), (a_owners, .inl (cI, 44, .inl v_owners))] hC (As := [.int p2, .int p3, .int ((x_15 + (4 : Int32)) - (1 : Int32))]) (c_X6_isBefore l D cI cJ cQ a_this a_numbers a_owners (.ref a_known) v_numbers v_owners p2 p3 ((x_15 + (4 : Int32)) - (1 : Int32)) R_19 h_R_19) rfl rfl gX6_insert_X6_isBefore rfl ⟨rfl, rfl⟩ hd_X6_isBefore ⟨Nat.le_of_ble_eq_true rfl, Nat.le_of_ble_eq_true rfl⟩ rfl rfl rfl rfl rfl rfl (Nat.le_of_ble_eq_true rfl) ⟨Nat.le_of_ble_eq_true rfl, Nat.le_of_ble_eq_true rfl⟩ dX6_insert_41 rfl ?_
    refine x_if_eq 53 47 hC dX6_insert_44 (by decide) rfl (fun c_20 => ?_) (fun c_20 => ?_)
    · have hf := if_t hf c_20
      cases hf
      exact x_vret hC dX6_insert_53 hQ rfl
    · have hf := if_f hf c_20
      refine x_iconst 48 hC (3 : Int32) dX6_insert_47 rfl (by decide) ?_
      refine x_istore 50 [(5, .int (3 : Int32)), (4, .int x_15), (0, .ref a_this), (1, .int p1), (2, .int p2), (3, .int p3)] hC dX6_insert_48 rfl rfl (by decide) rfl ?_
      refine x_goto 54 hC dX6_insert_50 (by decide) ?_
      refine x_lv [(0, .ref a_this), (2, .int p2), (3, .int p3), (4, .int x_15), (5, .int (3 : Int32))] [2, 4, 5, 1, 0] rfl ?_
      exact J_54 fu v_known v_numbers v_owners p2 p3 x_15 (3 : Int32) hf
  · have hf := if_f hf c_18
    refine x_aload_n 20 2 hC dX6_insert_19 rfl rfl rfl ?_
    refine x_get 23 0 0 hC in_X6_insert_X6 rfl rfl (by decide) (List.mem_of_getElem? (i := 1) (by decide +kernel)) rfl rfl dX6_insert_20 rfl ?_
    refine x_iload_n 24 3 hC dX6_insert_23 rfl rfl rfl ?_
    refine x_iload 26 0 hC dX6_insert_24 rfl rfl ?_
    refine x_iconst 27 hC (1 : Int32) dX6_insert_26 rfl (by decide) ?_
    refine x_iadd 28 hC dX6_insert_27 rfl ?_
    obtain ⟨h_21, hf⟩ := ck_e hf
    obtain ⟨g_22, e_g_22, hf⟩ := nmx_e hf
    refine x_iast 29 1 0 [(a_this, .inr (6, [.ref a_known, .ref a_numbers, .ref a_owners])), (a_known, .inl (cI, 11, .inl g_22)), (a_numbers, .inl (cI, 44, .inl v_numbers)), (a_owners, .inl (cI, 44, .inl v_owners))] hC rfl rfl h_21 e_g_22 rfl dX6_insert_28 rfl ?_
    refine x_goto 54 hC dX6_insert_29 (by decide) ?_
    refine x_lv [(0, .ref a_this), (2, .int p2), (3, .int p3), (4, .int x_15), (5, .int x_17)] [2, 4, 5, 1, 0] rfl ?_
    exact J_54 fu g_22 v_numbers v_owners p2 p3 x_15 x_17 hf

theorem hd_X6_knowAlone : yX6_knowAlone.cls = RX6 ∧ yX6_knowAlone.cls ≠ "java/lang/invoke/MethodHandle" ∧ yX6_knowAlone.cls ≠ "java/lang/invoke/VarHandle" ∧ (parseMethodDescriptor yX6_knowAlone.desc).map (fun d => d.parameters.length) = some 2 := by decide +kernel
theorem in_X6_knowAlone_X6 : ∀ w ∈ u_ws RX6 TX6 3, w ∈ wsX6_knowAlone := fun w h => List.mem_cons_of_mem _ (List.mem_append_right _ h)
noncomputable def f_X6_knowAlone (v_known : Nat → Int32) (v_numbers : Nat → Int32) (v_owners : Nat → Int32) (p1 : Int32) (p2 : Int32) : Option ((Nat → Int32) × (Nat → Int32) × (Nat → Int32)) := ck p1 11 <| nm (upd v_known p1.toNatClampNeg (0 : Int32)) fun g_2 => bd (f_X6_insert g_2 v_numbers v_owners p1 p2 p1) fun R_3 => some (R_3.1, R_3.2.1, R_3.2.2)
set_option maxHeartbeats 4000000 in
set_option maxRecDepth 100000 in
theorem c_X6_knowAlone (l : Launch) (D : va_G) (cI cJ cQ : ClassId) (a_this : Nat) (a_known : Nat) (a_numbers : Nat) (a_owners : Nat) (v_known : Nat → Int32) (v_numbers : Nat → Int32) (v_owners : Nat → Int32) (p1 : Int32) (p2 : Int32) (R0 : (Nat → Int32) × (Nat → Int32) × (Nat → Int32)) (hf : f_X6_knowAlone v_known v_numbers v_owners p1 p2 = some R0) : Cv l yX6_knowAlone wsX6_knowAlone ({ frames := 3, cells := 0, slots := 0, locals := 112 } : Room) D [(cI, .int), (cJ, .long), (cQ, .object "WhisperCrowd$State")] [.ref a_this, .int p1, .int p2] [(a_this, .inr (6, [.ref a_known, .ref a_numbers, .ref a_owners])), (a_known, .inl (cI, 11, .inl v_known)), (a_numbers, .inl (cI, 44, .inl v_numbers)), (a_owners, .inl (cI, 44, .inl v_owners))] [(a_this, .inr (6, [.ref a_known, .ref a_numbers, .ref a_owners])), (a_known, .inl (cI, 11, .inl R0.1)), (a_numbers, .inl (cI, 44, .inl R0.2.1)), (a_owners, .inl (cI, 44, .inl R0.2.2))] := by
  refine x_entv (cc := cX6_knowAlone) (maxL := 3) (rt := none) (lv := [(0, .ref a_this), (1, .int p1), (2, .int p2)]) (by decide) rfl (Nat.le_of_ble_eq_true rfl) rfl ?_
  intro p e s m args below meth c A Q hQ hC
  unfold f_X6_knowAlone at hf
  refine x_aload_n 1 0 hC dX6_knowAlone_0 rfl rfl rfl ?_
  refine x_get 4 0 0 hC in_X6_knowAlone_X6 rfl rfl (by decide) (List.mem_of_getElem? (i := 1) (by decide +kernel)) rfl rfl dX6_knowAlone_1 rfl ?_
  refine x_iload_n 5 1 hC dX6_knowAlone_4 rfl rfl rfl ?_
  refine x_iconst 6 hC (0 : Int32) dX6_knowAlone_5 rfl (by decide) ?_
  obtain ⟨h_1, hf⟩ := ck_e hf
  obtain ⟨g_2, e_g_2, hf⟩ := nmx_e hf
  refine x_iast 7 1 0 [(a_this, .inr (6, [.ref a_known, .ref a_numbers, .ref a_owners])), (a_known, .inl (cI, 11, .inl g_2)), (a_numbers, .inl (cI, 44, .inl v_numbers)), (a_owners, .inl (cI, 44, .inl v_owners))] hC rfl rfl h_1 e_g_2 rfl dX6_knowAlone_6 rfl ?_
  refine x_aload_n 8 0 hC dX6_knowAlone_7 rfl rfl rfl ?_
  refine x_iload_n 9 1 hC dX6_knowAlone_8 rfl rfl rfl ?_
  refine x_iload_n 10 2 hC dX6_knowAlone_9 rfl rfl rfl ?_
  refine x_iload_n 11 1 hC dX6_knowAlone_10 rfl rfl rfl ?_
  obtain ⟨R_3, h_R_3, hf⟩ := bd_e hf
  refine x_callVv 14 0 3 [0, 1, 2, 3] [(a_this, .inr (6, [.ref a_known, .ref a_numbers, .ref a_owners])), (a_known, .inl (cI, 11, .inl R_3.1)), (a_numbers, .inl (cI, 44, .inl R_3.2.1)), (a_owners, .inl (cI, 44, .inl R_3.2.2))] hC (As := [.int p1, .int p2, .int p1]) (c_X6_insert l D cI cJ cQ a_this a_known a_numbers a_owners g_2 v_numbers v_owners p1 p2 p1 R_3 h_R_3) rfl rfl gX6_knowAlone_X6_insert rfl ⟨rfl, rfl⟩ hd_X6_insert ⟨Nat.le_of_ble_eq_true rfl, Nat.le_of_ble_eq_true rfl⟩ rfl rfl rfl rfl rfl rfl (Nat.le_of_ble_eq_true rfl) ⟨Nat.le_of_ble_eq_true rfl, Nat.le_of_ble_eq_true rfl⟩ dX6_knowAlone_11 rfl ?_
  cases hf
  exact x_vret hC dX6_knowAlone_14 hQ rfl

theorem hd_X6_insertFrom : yX6_insertFrom.cls = RX6 ∧ yX6_insertFrom.cls ≠ "java/lang/invoke/MethodHandle" ∧ yX6_insertFrom.cls ≠ "java/lang/invoke/VarHandle" ∧ (parseMethodDescriptor yX6_insertFrom.desc).map (fun d => d.parameters.length) = some 2 := by decide +kernel
theorem in_X6_insertFrom_X6 : ∀ w ∈ u_ws RX6 TX6 3, w ∈ wsX6_insertFrom := fun w h => List.mem_cons_of_mem _ (List.mem_append_right _ h)
noncomputable def f_X6_insertFrom (v_known : Nat → Int32) (v_numbers : Nat → Int32) (v_owners : Nat → Int32) (p1 : Int32) (p2 : Int32) : Option ((Nat → Int32) × (Nat → Int32) × (Nat → Int32)) := nm ((p1 * (4 : Int32)) + p2) fun x_1 => ck x_1 44 <| ck x_1 44 <| bd (f_X6_insert v_known v_numbers v_owners (10 : Int32) (v_numbers x_1.toNatClampNeg) (v_owners x_1.toNatClampNeg)) fun R_4 => some (R_4.1, R_4.2.1, R_4.2.2)
set_option maxHeartbeats 4000000 in
set_option maxRecDepth 100000 in
theorem c_X6_insertFrom (l : Launch) (D : va_G) (cI cJ cQ : ClassId) (a_this : Nat) (a_known : Nat) (a_numbers : Nat) (a_owners : Nat) (v_known : Nat → Int32) (v_numbers : Nat → Int32) (v_owners : Nat → Int32) (p1 : Int32) (p2 : Int32) (R0 : (Nat → Int32) × (Nat → Int32) × (Nat → Int32)) (hf : f_X6_insertFrom v_known v_numbers v_owners p1 p2 = some R0) : Cv l yX6_insertFrom wsX6_insertFrom ({ frames := 3, cells := 0, slots := 0, locals := 112 } : Room) D [(cI, .int), (cJ, .long), (cQ, .object "WhisperCrowd$State")] [.ref a_this, .int p1, .int p2] [(a_this, .inr (6, [.ref a_known, .ref a_numbers, .ref a_owners])), (a_known, .inl (cI, 11, .inl v_known)), (a_numbers, .inl (cI, 44, .inl v_numbers)), (a_owners, .inl (cI, 44, .inl v_owners))] [(a_this, .inr (6, [.ref a_known, .ref a_numbers, .ref a_owners])), (a_known, .inl (cI, 11, .inl R0.1)), (a_numbers, .inl (cI, 44, .inl R0.2.1)), (a_owners, .inl (cI, 44, .inl R0.2.2))] := by
  refine x_entv (cc := cX6_insertFrom) (maxL := 4) (rt := none) (lv := [(0, .ref a_this), (1, .int p1), (2, .int p2)]) (by decide) rfl (Nat.le_of_ble_eq_true rfl) rfl ?_
  intro p e s m args below meth c A Q hQ hC
  unfold f_X6_insertFrom at hf
  refine x_iload_n 1 1 hC dX6_insertFrom_0 rfl rfl rfl ?_
  refine x_iconst 2 hC (4 : Int32) dX6_insertFrom_1 rfl (by decide) ?_
  refine x_imul 3 hC dX6_insertFrom_2 rfl ?_
  refine x_iload_n 4 2 hC dX6_insertFrom_3 rfl rfl rfl ?_
  refine x_iadd 5 hC dX6_insertFrom_4 rfl ?_
  obtain ⟨x_1, e_x_1, hf⟩ := nmx_e hf
  refine x_istore_n 6 [(3, .int x_1), (0, .ref a_this), (1, .int p1), (2, .int p2)] hC dX6_insertFrom_5 rfl rfl e_x_1 (by decide) rfl ?_
  refine x_aload_n 7 1 hC dX6_insertFrom_6 rfl rfl rfl ?_
  refine x_bipush 9 hC (10 : Int32) dX6_insertFrom_7 rfl (by decide) ?_
  refine x_aload_n 10 1 hC dX6_insertFrom_9 rfl rfl rfl ?_
  refine x_get 13 0 1 hC in_X6_insertFrom_X6 rfl rfl (by decide) (List.mem_of_getElem? (i := 1) (by decide +kernel)) rfl rfl dX6_insertFrom_10 rfl ?_
  refine x_iload_n 14 0 hC dX6_insertFrom_13 rfl rfl rfl ?_
  obtain ⟨h_2, hf⟩ := ck_e hf
  refine x_iald 15 2 0 hC rfl rfl h_2 dX6_insertFrom_14 rfl ?_
  refine x_aload_n 16 1 hC dX6_insertFrom_15 rfl rfl rfl ?_
  refine x_get 19 0 2 hC in_X6_insertFrom_X6 rfl rfl (by decide) (List.mem_of_getElem? (i := 2) (by decide +kernel)) rfl rfl dX6_insertFrom_16 rfl ?_
  refine x_iload_n 20 0 hC dX6_insertFrom_19 rfl rfl rfl ?_
  obtain ⟨h_3, hf⟩ := ck_e hf
  refine x_iald 21 3 0 hC rfl rfl h_3 dX6_insertFrom_20 rfl ?_
  obtain ⟨R_4, h_R_4, hf⟩ := bd_e hf
  refine x_callVv 24 0 3 [0, 1, 2, 3] [(a_this, .inr (6, [.ref a_known, .ref a_numbers, .ref a_owners])), (a_known, .inl (cI, 11, .inl R_4.1)), (a_numbers, .inl (cI, 44, .inl R_4.2.1)), (a_owners, .inl (cI, 44, .inl R_4.2.2))] hC (As := [.int (10 : Int32), .int (v_numbers x_1.toNatClampNeg), .int (v_owners x_1.toNatClampNeg)]) (c_X6_insert l D cI cJ cQ a_this a_known a_numbers a_owners v_known v_numbers v_owners (10 : Int32) (v_numbers x_1.toNatClampNeg) (v_owners x_1.toNatClampNeg) R_4 h_R_4) rfl rfl gX6_insertFrom_X6_insert rfl ⟨rfl, rfl⟩ hd_X6_insert ⟨Nat.le_of_ble_eq_true rfl, Nat.le_of_ble_eq_true rfl⟩ rfl rfl rfl rfl rfl rfl (Nat.le_of_ble_eq_true rfl) ⟨Nat.le_of_ble_eq_true rfl, Nat.le_of_ble_eq_true rfl⟩ dX6_insertFrom_21 rfl ?_
  cases hf
  exact x_vret hC dX6_insertFrom_24 hQ rfl

theorem hd_X6_knowsOneOf : yX6_knowsOneOf.cls = RX6 ∧ yX6_knowsOneOf.cls ≠ "java/lang/invoke/MethodHandle" ∧ yX6_knowsOneOf.cls ≠ "java/lang/invoke/VarHandle" ∧ (parseMethodDescriptor yX6_knowsOneOf.desc).map (fun d => d.parameters.length) = some 2 := by decide +kernel
theorem in_X6_knowsOneOf_X6 : ∀ w ∈ u_ws RX6 TX6 3, w ∈ wsX6_knowsOneOf := fun w h => List.mem_cons_of_mem _ (List.mem_append_right _ h)
noncomputable def f_X6_knowsOneOf_c2 (v_known : Nat → Int32) (v_owners : Nat → Int32) : Nat → Int32 → Int32 → Int32 → Option (Int32)
  | 0, _, _, _ => none
  | n + 1, k2_l1, k2_l2, k2_l3 => ck k2_l1 11 <| if (v_known k2_l1.toNatClampNeg) ≤ k2_l3 then (some ((0 : Int32))) else (ck ((k2_l1 * (4 : Int32)) + k2_l3) 44 <| if ¬ (v_owners ((k2_l1 * (4 : Int32)) + k2_l3).toNatClampNeg) = k2_l2 then (nm (k2_l3 + (1 : Int32)) fun x_5 => (fun k2_l1 k2_l2 k2_l3 => f_X6_knowsOneOf_c2 v_known v_owners n k2_l1 k2_l2 k2_l3) k2_l1 k2_l2 x_5) else (some ((1 : Int32))))
noncomputable def f_X6_knowsOneOf (v_known : Nat → Int32) (v_owners : Nat → Int32) (p1 : Int32) (p2 : Int32) : Option (Int32) := f_X6_knowsOneOf_c2 v_known v_owners fu p1 p2 (0 : Int32)
set_option maxHeartbeats 4000000 in
set_option maxRecDepth 100000 in
theorem c_X6_knowsOneOf (l : Launch) (D : va_G) (cI cJ cQ : ClassId) (a_this : Nat) (a_known : Nat) (a_owners : Nat) (r_numbers : Value) (v_known : Nat → Int32) (v_owners : Nat → Int32) (p1 : Int32) (p2 : Int32) (R0 : Int32) (hf : f_X6_knowsOneOf v_known v_owners p1 p2 = some R0) : Ci l yX6_knowsOneOf wsX6_knowsOneOf ({ frames := 1, cells := 0, slots := 0, locals := 60 } : Room) D [(cI, .int), (cJ, .long), (cQ, .object "WhisperCrowd$State")] [.ref a_this, .int p1, .int p2] [(a_this, .inr (6, [.ref a_known, r_numbers, .ref a_owners])), (a_known, .inl (cI, 11, .inl v_known)), (a_owners, .inl (cI, 44, .inl v_owners))] [(a_this, .inr (6, [.ref a_known, r_numbers, .ref a_owners])), (a_known, .inl (cI, 11, .inl v_known)), (a_owners, .inl (cI, 44, .inl v_owners))] R0 := by
  refine x_enti (cc := cX6_knowsOneOf) (maxL := 4) (rt := (some .boolean)) (lv := [(0, .ref a_this), (1, .int p1), (2, .int p2)]) (by decide) rfl (Nat.le_of_ble_eq_true rfl) rfl ?_
  intro p e s m args below meth c A Q hQ hC
  have J_2 : ∀ (n : Nat) (k2_l1 : Int32) (k2_l2 : Int32) (k2_l3 : Int32), f_X6_knowsOneOf_c2 v_known v_owners n k2_l1 k2_l2 k2_l3 = some R0 → XW p l e ({ frames := 1, cells := 0, slots := 0, locals := 60 } : Room) s m args below meth c D A 4 0 0 Q [(a_this, .inr (6, [.ref a_known, r_numbers, .ref a_owners])), (a_known, .inl (cI, 11, .inl v_known)), (a_owners, .inl (cI, 44, .inl v_owners))] [] [(0, .ref a_this), (1, .int k2_l1), (2, .int k2_l2), (3, .int k2_l3)] 2 [] := by
    intro n
    induction n with
    | zero => intro k2_l1 k2_l2 k2_l3 hf; exact nomatch (show (none : Option (Int32)) = some R0 from hf)
    | succ n_2 ih_2 =>
      intro k2_l1 k2_l2 k2_l3 hf
      unfold f_X6_knowsOneOf_c2 at hf
      refine x_iload_n 3 3 hC dX6_knowsOneOf_2 rfl rfl rfl ?_
      refine x_aload_n 4 0 hC dX6_knowsOneOf_3 rfl rfl rfl ?_
      refine x_get 7 0 0 hC in_X6_knowsOneOf_X6 rfl rfl (by decide) (List.mem_of_getElem? (i := 1) (by decide +kernel)) rfl rfl dX6_knowsOneOf_4 rfl ?_
      refine x_iload_n 8 1 hC dX6_knowsOneOf_7 rfl rfl rfl ?_
      obtain ⟨h_1, hf⟩ := ck_e hf
      refine x_iald 9 1 0 hC rfl rfl h_1 dX6_knowsOneOf_8 rfl ?_
      refine x_icmp_ge 34 12 hC dX6_knowsOneOf_9 (by decide) rfl (fun c_2 => ?_) (fun c_2 => ?_)
      · have hf := if_t hf c_2
        refine x_iconst 35 hC (0 : Int32) dX6_knowsOneOf_34 rfl (by decide) ?_
        cases hf
        exact x_zret hC rfl dX6_knowsOneOf_35 hQ rfl rfl
      · have hf := if_f hf c_2
        refine x_aload_n 13 0 hC dX6_knowsOneOf_12 rfl rfl rfl ?_
        refine x_get 16 0 2 hC in_X6_knowsOneOf_X6 rfl rfl (by decide) (List.mem_of_getElem? (i := 2) (by decide +kernel)) rfl rfl dX6_knowsOneOf_13 rfl ?_
        refine x_iload_n 17 1 hC dX6_knowsOneOf_16 rfl rfl rfl ?_
        refine x_iconst 18 hC (4 : Int32) dX6_knowsOneOf_17 rfl (by decide) ?_
        refine x_imul 19 hC dX6_knowsOneOf_18 rfl ?_
        refine x_iload_n 20 3 hC dX6_knowsOneOf_19 rfl rfl rfl ?_
        refine x_iadd 21 hC dX6_knowsOneOf_20 rfl ?_
        obtain ⟨h_3, hf⟩ := ck_e hf
        refine x_iald 22 2 0 hC rfl rfl h_3 dX6_knowsOneOf_21 rfl ?_
        refine x_iload_n 23 2 hC dX6_knowsOneOf_22 rfl rfl rfl ?_
        refine x_icmp_ne 28 26 hC dX6_knowsOneOf_23 (by decide) rfl (fun c_4 => ?_) (fun c_4 => ?_)
        · have hf := if_t hf c_4
          obtain ⟨x_5, e_x_5, hf⟩ := nmx_e hf
          refine x_iinc 31 3 [(3, .int x_5), (0, .ref a_this), (1, .int k2_l1), (2, .int k2_l2)] hC dX6_knowsOneOf_28 rfl rfl e_x_5 (by decide) (by decide) rfl ?_
          refine x_goto 2 hC dX6_knowsOneOf_31 (by decide) ?_
          refine x_lv [(0, .ref a_this), (1, .int k2_l1), (2, .int k2_l2), (3, .int x_5)] [1, 2, 3, 0] rfl ?_
          exact ih_2 k2_l1 k2_l2 x_5 hf
        · have hf := if_f hf c_4
          refine x_iconst 27 hC (1 : Int32) dX6_knowsOneOf_26 rfl (by decide) ?_
          cases hf
          exact x_zret hC rfl dX6_knowsOneOf_27 hQ rfl rfl
  unfold f_X6_knowsOneOf at hf
  refine x_iconst 1 hC (0 : Int32) dX6_knowsOneOf_0 rfl (by decide) ?_
  refine x_istore_n 2 [(3, .int (0 : Int32)), (0, .ref a_this), (1, .int p1), (2, .int p2)] hC dX6_knowsOneOf_1 rfl rfl rfl (by decide) rfl ?_
  refine x_lv [(0, .ref a_this), (1, .int p1), (2, .int p2), (3, .int (0 : Int32))] [1, 2, 3, 0] rfl ?_
  exact J_2 fu p1 p2 (0 : Int32) hf

theorem hd_X6_take : yX6_take.cls = RX6 ∧ yX6_take.cls ≠ "java/lang/invoke/MethodHandle" ∧ yX6_take.cls ≠ "java/lang/invoke/VarHandle" ∧ (parseMethodDescriptor yX6_take.desc).map (fun d => d.parameters.length) = some 1 := by decide +kernel
theorem in_X6_take_X6 : ∀ w ∈ u_ws RX6 TX6 3, w ∈ wsX6_take := fun w h => List.mem_cons_of_mem _ (List.mem_append_right _ h)
noncomputable def f_X6_take (v_known : Nat → Int32) (v_numbers : Nat → Int32) (v_owners : Nat → Int32) (p1 : Int32) : Option ((Nat → Int32) × (Nat → Int32) × (Nat → Int32)) := ck (10 : Int32) 11 <| ck p1 11 <| nm (upd v_known p1.toNatClampNeg (v_known (10 : Int32).toNatClampNeg)) fun g_3 => ckp (¬ (40 : Int32) < 0 ∧ ¬ (p1 * (4 : Int32)) < 0 ∧ ¬ (4 : Int32) < 0 ∧ (40 : Int32).toNatClampNeg + (4 : Int32).toNatClampNeg ≤ 44 ∧ (p1 * (4 : Int32)).toNatClampNeg + (4 : Int32).toNatClampNeg ≤ 44) (Classical.propDecidable _) <| nm (va_cpy v_numbers v_numbers (40 : Int32).toNatClampNeg (p1 * (4 : Int32)).toNatClampNeg (4 : Int32).toNatClampNeg) fun g_5 => ckp (¬ (40 : Int32) < 0 ∧ ¬ (p1 * (4 : Int32)) < 0 ∧ ¬ (4 : Int32) < 0 ∧ (40 : Int32).toNatClampNeg + (4 : Int32).toNatClampNeg ≤ 44 ∧ (p1 * (4 : Int32)).toNatClampNeg + (4 : Int32).toNatClampNeg ≤ 44) (Classical.propDecidable _) <| nm (va_cpy v_owners v_owners (40 : Int32).toNatClampNeg (p1 * (4 : Int32)).toNatClampNeg (4 : Int32).toNatClampNeg) fun g_7 => some (g_3, g_5, g_7)
set_option maxHeartbeats 4000000 in
set_option maxRecDepth 100000 in
theorem c_X6_take (l : Launch) (D : va_G) (cI cJ cQ : ClassId) (a_this : Nat) (a_known : Nat) (a_numbers : Nat) (a_owners : Nat) (v_known : Nat → Int32) (v_numbers : Nat → Int32) (v_owners : Nat → Int32) (p1 : Int32) (R0 : (Nat → Int32) × (Nat → Int32) × (Nat → Int32)) (hf : f_X6_take v_known v_numbers v_owners p1 = some R0) : Cv l yX6_take wsX6_take ({ frames := 1, cells := 0, slots := 0, locals := 60 } : Room) D [(cI, .int), (cJ, .long), (cQ, .object "WhisperCrowd$State")] [.ref a_this, .int p1] [(a_this, .inr (6, [.ref a_known, .ref a_numbers, .ref a_owners])), (a_known, .inl (cI, 11, .inl v_known)), (a_numbers, .inl (cI, 44, .inl v_numbers)), (a_owners, .inl (cI, 44, .inl v_owners))] [(a_this, .inr (6, [.ref a_known, .ref a_numbers, .ref a_owners])), (a_known, .inl (cI, 11, .inl R0.1)), (a_numbers, .inl (cI, 44, .inl R0.2.1)), (a_owners, .inl (cI, 44, .inl R0.2.2))] := by
  refine x_entv (cc := cX6_take) (maxL := 3) (rt := none) (lv := [(0, .ref a_this), (1, .int p1)]) (by decide) rfl (Nat.le_of_ble_eq_true rfl) rfl ?_
  intro p e s m args below meth c A Q hQ hC
  unfold f_X6_take at hf
  refine x_aload_n 1 0 hC dX6_take_0 rfl rfl rfl ?_
  refine x_get 4 0 0 hC in_X6_take_X6 rfl rfl (by decide) (List.mem_of_getElem? (i := 1) (by decide +kernel)) rfl rfl dX6_take_1 rfl ?_
  refine x_iload_n 5 1 hC dX6_take_4 rfl rfl rfl ?_
  refine x_aload_n 6 0 hC dX6_take_5 rfl rfl rfl ?_
  refine x_get 9 0 0 hC in_X6_take_X6 rfl rfl (by decide) (List.mem_of_getElem? (i := 1) (by decide +kernel)) rfl rfl dX6_take_6 rfl ?_
  refine x_bipush 11 hC (10 : Int32) dX6_take_9 rfl (by decide) ?_
  obtain ⟨h_1, hf⟩ := ck_e hf
  refine x_iald 12 1 0 hC rfl rfl h_1 dX6_take_11 rfl ?_
  obtain ⟨h_2, hf⟩ := ck_e hf
  obtain ⟨g_3, e_g_3, hf⟩ := nmx_e hf
  refine x_iast 13 1 0 [(a_this, .inr (6, [.ref a_known, .ref a_numbers, .ref a_owners])), (a_known, .inl (cI, 11, .inl g_3)), (a_numbers, .inl (cI, 44, .inl v_numbers)), (a_owners, .inl (cI, 44, .inl v_owners))] hC rfl rfl h_2 e_g_3 rfl dX6_take_12 rfl ?_
  refine x_bipush 15 hC (40 : Int32) dX6_take_13 rfl (by decide) ?_
  refine x_istore_n 16 [(2, .int (40 : Int32)), (0, .ref a_this), (1, .int p1)] hC dX6_take_15 rfl rfl rfl (by decide) rfl ?_
  refine x_aload_n 17 1 hC dX6_take_16 rfl rfl rfl ?_
  refine x_get 20 0 1 hC in_X6_take_X6 rfl rfl (by decide) (List.mem_of_getElem? (i := 2) (by decide +kernel)) rfl rfl dX6_take_17 rfl ?_
  refine x_iload_n 21 0 hC dX6_take_20 rfl rfl rfl ?_
  refine x_aload_n 22 1 hC dX6_take_21 rfl rfl rfl ?_
  refine x_get 25 0 1 hC in_X6_take_X6 rfl rfl (by decide) (List.mem_of_getElem? (i := 2) (by decide +kernel)) rfl rfl dX6_take_22 rfl ?_
  refine x_iload_n 26 2 hC dX6_take_25 rfl rfl rfl ?_
  refine x_iconst 27 hC (4 : Int32) dX6_take_26 rfl (by decide) ?_
  refine x_imul 28 hC dX6_take_27 rfl ?_
  refine x_iconst 29 hC (4 : Int32) dX6_take_28 rfl (by decide) ?_
  obtain ⟨h_4, hf⟩ := ckp_e hf
  obtain ⟨g_5, e_g_5, hf⟩ := nmx_e hf
  refine x_copyi 32 2 2 0 [(a_this, .inr (6, [.ref a_known, .ref a_numbers, .ref a_owners])), (a_known, .inl (cI, 11, .inl g_3)), (a_numbers, .inl (cI, 44, .inl g_5)), (a_owners, .inl (cI, 44, .inl v_owners))] hC (List.mem_of_getElem? (i := 3) (by decide +kernel)) (List.mem_of_getElem? (i := 4) (by decide +kernel)) (List.mem_of_getElem? (i := 5) (by decide +kernel)) (List.mem_of_getElem? (i := 6) (by decide +kernel)) rfl rfl rfl h_4 e_g_5 rfl (Nat.le_of_ble_eq_true rfl) (by decide) dX6_take_29 rfl ?_
  refine x_aload_n 33 1 hC dX6_take_32 rfl rfl rfl ?_
  refine x_get 36 0 2 hC in_X6_take_X6 rfl rfl (by decide) (List.mem_of_getElem? (i := 7) (by decide +kernel)) rfl rfl dX6_take_33 rfl ?_
  refine x_iload_n 37 0 hC dX6_take_36 rfl rfl rfl ?_
  refine x_aload_n 38 1 hC dX6_take_37 rfl rfl rfl ?_
  refine x_get 41 0 2 hC in_X6_take_X6 rfl rfl (by decide) (List.mem_of_getElem? (i := 7) (by decide +kernel)) rfl rfl dX6_take_38 rfl ?_
  refine x_iload_n 42 2 hC dX6_take_41 rfl rfl rfl ?_
  refine x_iconst 43 hC (4 : Int32) dX6_take_42 rfl (by decide) ?_
  refine x_imul 44 hC dX6_take_43 rfl ?_
  refine x_iconst 45 hC (4 : Int32) dX6_take_44 rfl (by decide) ?_
  obtain ⟨h_6, hf⟩ := ckp_e hf
  obtain ⟨g_7, e_g_7, hf⟩ := nmx_e hf
  refine x_copyi 48 3 3 0 [(a_this, .inr (6, [.ref a_known, .ref a_numbers, .ref a_owners])), (a_known, .inl (cI, 11, .inl g_3)), (a_numbers, .inl (cI, 44, .inl g_5)), (a_owners, .inl (cI, 44, .inl g_7))] hC (List.mem_of_getElem? (i := 3) (by decide +kernel)) (List.mem_of_getElem? (i := 4) (by decide +kernel)) (List.mem_of_getElem? (i := 5) (by decide +kernel)) (List.mem_of_getElem? (i := 6) (by decide +kernel)) rfl rfl rfl h_6 e_g_7 rfl (Nat.le_of_ble_eq_true rfl) (by decide) dX6_take_45 rfl ?_
  cases hf
  exact x_vret hC dX6_take_48 hQ rfl

theorem hd_X6_share : yX6_share.cls = RX6 ∧ yX6_share.cls ≠ "java/lang/invoke/MethodHandle" ∧ yX6_share.cls ≠ "java/lang/invoke/VarHandle" ∧ (parseMethodDescriptor yX6_share.desc).map (fun d => d.parameters.length) = some 2 := by decide +kernel
theorem in_X6_share_X6 : ∀ w ∈ u_ws RX6 TX6 3, w ∈ wsX6_share := fun w h => List.mem_cons_of_mem _ (List.mem_append_right _ h)
noncomputable def f_X6_share_c68 (k34 : (Nat → Int32) → (Nat → Int32) → (Nat → Int32) → Int32 → Int32 → Int32 → Option ((Nat → Int32) × (Nat → Int32) × (Nat → Int32))) (k68_known : Nat → Int32) (k68_numbers : Nat → Int32) (k68_owners : Nat → Int32) (k68_l1 : Int32) (k68_l2 : Int32) (k68_l3 : Int32) : Option ((Nat → Int32) × (Nat → Int32) × (Nat → Int32)) := nm (k68_l3 + (1 : Int32)) fun x_1 => k34 k68_known k68_numbers k68_owners k68_l1 k68_l2 x_1
noncomputable def f_X6_share_c34 : Nat → (Nat → Int32) → (Nat → Int32) → (Nat → Int32) → Int32 → Int32 → Int32 → Option ((Nat → Int32) × (Nat → Int32) × (Nat → Int32))
  | 0, _, _, _, _, _, _ => none
  | n + 1, k34_known, k34_numbers, k34_owners, k34_l1, k34_l2, k34_l3 => ck k34_l2 11 <| if (k34_known k34_l2.toNatClampNeg) ≤ k34_l3 then (bd (f_X6_take k34_known k34_numbers k34_owners k34_l1) fun R_4 => bd (f_X6_take R_4.1 R_4.2.1 R_4.2.2 k34_l2) fun R_5 => some (R_5.1, R_5.2.1, R_5.2.2)) else (ck ((k34_l2 * (4 : Int32)) + k34_l3) 44 <| bd (f_X6_knowsOneOf k34_known k34_owners k34_l1 (k34_owners ((k34_l2 * (4 : Int32)) + k34_l3).toNatClampNeg)) fun R_7 => if ¬ R_7 = 0 then (f_X6_share_c68 (fun k34_known k34_numbers k34_owners k34_l1 k34_l2 k34_l3 => f_X6_share_c34 n k34_known k34_numbers k34_owners k34_l1 k34_l2 k34_l3) k34_known k34_numbers k34_owners k34_l1 k34_l2 k34_l3) else (bd (f_X6_insertFrom k34_known k34_numbers k34_owners k34_l2 k34_l3) fun R_9 => f_X6_share_c68 (fun k34_known k34_numbers k34_owners k34_l1 k34_l2 k34_l3 => f_X6_share_c34 n k34_known k34_numbers k34_owners k34_l1 k34_l2 k34_l3) R_9.1 R_9.2.1 R_9.2.2 k34_l1 k34_l2 k34_l3))
noncomputable def f_X6_share_c10 : Nat → (Nat → Int32) → (Nat → Int32) → (Nat → Int32) → Int32 → Int32 → Int32 → Option ((Nat → Int32) × (Nat → Int32) × (Nat → Int32))
  | 0, _, _, _, _, _, _ => none
  | n + 1, k10_known, k10_numbers, k10_owners, k10_l1, k10_l2, k10_l3 => ck k10_l1 11 <| if (k10_known k10_l1.toNatClampNeg) ≤ k10_l3 then (f_X6_share_c34 fu k10_known k10_numbers k10_owners k10_l1 k10_l2 (0 : Int32)) else (bd (f_X6_insertFrom k10_known k10_numbers k10_owners k10_l1 k10_l3) fun R_12 => nm (k10_l3 + (1 : Int32)) fun x_13 => (fun k10_known k10_numbers k10_owners k10_l1 k10_l2 k10_l3 => f_X6_share_c10 n k10_known k10_numbers k10_owners k10_l1 k10_l2 k10_l3) R_12.1 R_12.2.1 R_12.2.2 k10_l1 k10_l2 x_13)
noncomputable def f_X6_share (v_known : Nat → Int32) (v_numbers : Nat → Int32) (v_owners : Nat → Int32) (p1 : Int32) (p2 : Int32) : Option ((Nat → Int32) × (Nat → Int32) × (Nat → Int32)) := ck (10 : Int32) 11 <| nm (upd v_known (10 : Int32).toNatClampNeg (0 : Int32)) fun g_15 => f_X6_share_c10 fu g_15 v_numbers v_owners p1 p2 (0 : Int32)
set_option maxHeartbeats 4000000 in
set_option maxRecDepth 100000 in
theorem c_X6_share (l : Launch) (D : va_G) (cI cJ cQ : ClassId) (a_this : Nat) (a_known : Nat) (a_numbers : Nat) (a_owners : Nat) (v_known : Nat → Int32) (v_numbers : Nat → Int32) (v_owners : Nat → Int32) (p1 : Int32) (p2 : Int32) (R0 : (Nat → Int32) × (Nat → Int32) × (Nat → Int32)) (hf : f_X6_share v_known v_numbers v_owners p1 p2 = some R0) : Cv l yX6_share wsX6_share ({ frames := 4, cells := 0, slots := 0, locals := 137 } : Room) D [(cI, .int), (cJ, .long), (cQ, .object "WhisperCrowd$State")] [.ref a_this, .int p1, .int p2] [(a_this, .inr (6, [.ref a_known, .ref a_numbers, .ref a_owners])), (a_known, .inl (cI, 11, .inl v_known)), (a_numbers, .inl (cI, 44, .inl v_numbers)), (a_owners, .inl (cI, 44, .inl v_owners))] [(a_this, .inr (6, [.ref a_known, .ref a_numbers, .ref a_owners])), (a_known, .inl (cI, 11, .inl R0.1)), (a_numbers, .inl (cI, 44, .inl R0.2.1)), (a_owners, .inl (cI, 44, .inl R0.2.2))] := by
  refine x_entv (cc := cX6_share) (maxL := 4) (rt := none) (lv := [(0, .ref a_this), (1, .int p1), (2, .int p2)]) (by decide) rfl (Nat.le_of_ble_eq_true rfl) rfl ?_
  intro p e s m args below meth c A Q hQ hC
  have J_34 : ∀ (n : Nat) (k34_known : Nat → Int32) (k34_numbers : Nat → Int32) (k34_owners : Nat → Int32) (k34_l1 : Int32) (k34_l2 : Int32) (k34_l3 : Int32), f_X6_share_c34 n k34_known k34_numbers k34_owners k34_l1 k34_l2 k34_l3 = some R0 → XW p l e ({ frames := 4, cells := 0, slots := 0, locals := 137 } : Room) s m args below meth c D A 4 0 0 Q [(a_this, .inr (6, [.ref a_known, .ref a_numbers, .ref a_owners])), (a_known, .inl (cI, 11, .inl k34_known)), (a_numbers, .inl (cI, 44, .inl k34_numbers)), (a_owners, .inl (cI, 44, .inl k34_owners))] [] [(0, .ref a_this), (1, .int k34_l1), (2, .int k34_l2), (3, .int k34_l3)] 34 [] := by
    intro n
    induction n with
    | zero => intro k34_known k34_numbers k34_owners k34_l1 k34_l2 k34_l3 hf; exact nomatch (show (none : Option ((Nat → Int32) × (Nat → Int32) × (Nat → Int32))) = some R0 from hf)
    | succ n_34 ih_34 =>
      have J_68 : ∀ (k68_known : Nat → Int32) (k68_numbers : Nat → Int32) (k68_owners : Nat → Int32) (k68_l1 : Int32) (k68_l2 : Int32) (k68_l3 : Int32), f_X6_share_c68 (fun k34_known k34_numbers k34_owners k34_l1 k34_l2 k34_l3 => f_X6_share_c34 n_34 k34_known k34_numbers k34_owners k34_l1 k34_l2 k34_l3) k68_known k68_numbers k68_owners k68_l1 k68_l2 k68_l3 = some R0 → XW p l e ({ frames := 4, cells := 0, slots := 0, locals := 137 } : Room) s m args below meth c D A 4 0 0 Q [(a_this, .inr (6, [.ref a_known, .ref a_numbers, .ref a_owners])), (a_known, .inl (cI, 11, .inl k68_known)), (a_numbers, .inl (cI, 44, .inl k68_numbers)), (a_owners, .inl (cI, 44, .inl k68_owners))] [] [(0, .ref a_this), (1, .int k68_l1), (2, .int k68_l2), (3, .int k68_l3)] 68 [] := by
        intro k68_known k68_numbers k68_owners k68_l1 k68_l2 k68_l3 hf
        unfold f_X6_share_c68 at hf
        obtain ⟨x_1, e_x_1, hf⟩ := nmx_e hf
        refine x_iinc 71 3 [(3, .int x_1), (0, .ref a_this), (1, .int k68_l1), (2, .int k68_l2)] hC dX6_share_68 rfl rfl e_x_1 (by decide) (by decide) rfl ?_
        refine x_goto 34 hC dX6_share_71 (by decide) ?_
        refine x_lv [(0, .ref a_this), (1, .int k68_l1), (2, .int k68_l2), (3, .int x_1)] [1, 2, 3, 0] rfl ?_
        exact ih_34 k68_known k68_numbers k68_owners k68_l1 k68_l2 x_1 hf
      intro k34_known k34_numbers k34_owners k34_l1 k34_l2 k34_l3 hf
      unfold f_X6_share_c34 at hf
      refine x_iload_n 35 3 hC dX6_share_34 rfl rfl rfl ?_
      refine x_aload_n 36 0 hC dX6_share_35 rfl rfl rfl ?_
      refine x_get 39 0 0 hC in_X6_share_X6 rfl rfl (by decide) (List.mem_of_getElem? (i := 1) (by decide +kernel)) rfl rfl dX6_share_36 rfl ?_
      refine x_iload_n 40 2 hC dX6_share_39 rfl rfl rfl ?_
      obtain ⟨h_2, hf⟩ := ck_e hf
      refine x_iald 41 1 0 hC rfl rfl h_2 dX6_share_40 rfl ?_
      refine x_icmp_ge 74 44 hC dX6_share_41 (by decide) rfl (fun c_3 => ?_) (fun c_3 => ?_)
      · have hf := if_t hf c_3
        refine x_aload_n 75 0 hC dX6_share_74 rfl rfl rfl ?_
        refine x_iload_n 76 1 hC dX6_share_75 rfl rfl rfl ?_
        obtain ⟨R_4, h_R_4, hf⟩ := bd_e hf
        refine x_callVv 79 0 1 [0, 1, 2, 3] [(a_this, .inr (6, [.ref a_known, .ref a_numbers, .ref a_owners])), (a_known, .inl (cI, 11, .inl R_4.1)), (a_numbers, .inl (cI, 44, .inl R_4.2.1)), (a_owners, .inl (cI, 44, .inl R_4.2.2))] hC (As := [.int k34_l1]) (c_X6_take l D cI cJ cQ a_this a_known a_numbers a_owners k34_known k34_numbers k34_owners k34_l1 R_4 h_R_4) rfl rfl gX6_share_X6_take rfl ⟨rfl, rfl⟩ hd_X6_take ⟨Nat.le_of_ble_eq_true rfl, Nat.le_of_ble_eq_true rfl⟩ rfl rfl rfl rfl rfl rfl (Nat.le_of_ble_eq_true rfl) ⟨Nat.le_of_ble_eq_true rfl, Nat.le_of_ble_eq_true rfl⟩ dX6_share_76 rfl ?_
        refine x_aload_n 80 0 hC dX6_share_79 rfl rfl rfl ?_
        refine x_iload_n 81 2 hC dX6_share_80 rfl rfl rfl ?_
        obtain ⟨R_5, h_R_5, hf⟩ := bd_e hf
        refine x_callVv 84 0 1 [0, 1, 2, 3] [(a_this, .inr (6, [.ref a_known, .ref a_numbers, .ref a_owners])), (a_known, .inl (cI, 11, .inl R_5.1)), (a_numbers, .inl (cI, 44, .inl R_5.2.1)), (a_owners, .inl (cI, 44, .inl R_5.2.2))] hC (As := [.int k34_l2]) (c_X6_take l D cI cJ cQ a_this a_known a_numbers a_owners R_4.1 R_4.2.1 R_4.2.2 k34_l2 R_5 h_R_5) rfl rfl gX6_share_X6_take rfl ⟨rfl, rfl⟩ hd_X6_take ⟨Nat.le_of_ble_eq_true rfl, Nat.le_of_ble_eq_true rfl⟩ rfl rfl rfl rfl rfl rfl (Nat.le_of_ble_eq_true rfl) ⟨Nat.le_of_ble_eq_true rfl, Nat.le_of_ble_eq_true rfl⟩ dX6_share_81 rfl ?_
        cases hf
        exact x_vret hC dX6_share_84 hQ rfl
      · have hf := if_f hf c_3
        refine x_aload_n 45 0 hC dX6_share_44 rfl rfl rfl ?_
        refine x_iload_n 46 1 hC dX6_share_45 rfl rfl rfl ?_
        refine x_aload_n 47 0 hC dX6_share_46 rfl rfl rfl ?_
        refine x_get 50 0 2 hC in_X6_share_X6 rfl rfl (by decide) (List.mem_of_getElem? (i := 2) (by decide +kernel)) rfl rfl dX6_share_47 rfl ?_
        refine x_iload_n 51 2 hC dX6_share_50 rfl rfl rfl ?_
        refine x_iconst 52 hC (4 : Int32) dX6_share_51 rfl (by decide) ?_
        refine x_imul 53 hC dX6_share_52 rfl ?_
        refine x_iload_n 54 3 hC dX6_share_53 rfl rfl rfl ?_
        refine x_iadd 55 hC dX6_share_54 rfl ?_
        obtain ⟨h_6, hf⟩ := ck_e hf
        refine x_iald 56 3 0 hC rfl rfl h_6 dX6_share_55 rfl ?_
        obtain ⟨R_7, h_R_7, hf⟩ := bd_e hf
        refine x_callVi 59 0 2 [0, 1, 3] [(a_this, .inr (6, [.ref a_known, .ref a_numbers, .ref a_owners])), (a_known, .inl (cI, 11, .inl k34_known)), (a_numbers, .inl (cI, 44, .inl k34_numbers)), (a_owners, .inl (cI, 44, .inl k34_owners))] hC (As := [.int k34_l1, .int (k34_owners ((k34_l2 * (4 : Int32)) + k34_l3).toNatClampNeg)]) (c_X6_knowsOneOf l D cI cJ cQ a_this a_known a_owners (.ref a_numbers) k34_known k34_owners k34_l1 (k34_owners ((k34_l2 * (4 : Int32)) + k34_l3).toNatClampNeg) R_7 h_R_7) rfl rfl gX6_share_X6_knowsOneOf rfl ⟨rfl, rfl⟩ hd_X6_knowsOneOf ⟨Nat.le_of_ble_eq_true rfl, Nat.le_of_ble_eq_true rfl⟩ rfl rfl rfl rfl rfl rfl (Nat.le_of_ble_eq_true rfl) ⟨Nat.le_of_ble_eq_true rfl, Nat.le_of_ble_eq_true rfl⟩ dX6_share_56 rfl ?_
        refine x_if_ne 68 62 hC dX6_share_59 (by decide) rfl (fun c_8 => ?_) (fun c_8 => ?_)
        · have hf := if_t hf c_8
          refine x_lv [(0, .ref a_this), (1, .int k34_l1), (2, .int k34_l2), (3, .int k34_l3)] [0, 1, 2, 3] rfl ?_
          exact J_68 k34_known k34_numbers k34_owners k34_l1 k34_l2 k34_l3 hf
        · have hf := if_f hf c_8
          refine x_aload_n 63 0 hC dX6_share_62 rfl rfl rfl ?_
          refine x_iload_n 64 2 hC dX6_share_63 rfl rfl rfl ?_
          refine x_iload_n 65 3 hC dX6_share_64 rfl rfl rfl ?_
          obtain ⟨R_9, h_R_9, hf⟩ := bd_e hf
          refine x_callVv 68 0 2 [0, 1, 2, 3] [(a_this, .inr (6, [.ref a_known, .ref a_numbers, .ref a_owners])), (a_known, .inl (cI, 11, .inl R_9.1)), (a_numbers, .inl (cI, 44, .inl R_9.2.1)), (a_owners, .inl (cI, 44, .inl R_9.2.2))] hC (As := [.int k34_l2, .int k34_l3]) (c_X6_insertFrom l D cI cJ cQ a_this a_known a_numbers a_owners k34_known k34_numbers k34_owners k34_l2 k34_l3 R_9 h_R_9) rfl rfl gX6_share_X6_insertFrom rfl ⟨rfl, rfl⟩ hd_X6_insertFrom ⟨Nat.le_of_ble_eq_true rfl, Nat.le_of_ble_eq_true rfl⟩ rfl rfl rfl rfl rfl rfl (Nat.le_of_ble_eq_true rfl) ⟨Nat.le_of_ble_eq_true rfl, Nat.le_of_ble_eq_true rfl⟩ dX6_share_65 rfl ?_
          refine x_lv [(0, .ref a_this), (1, .int k34_l1), (2, .int k34_l2), (3, .int k34_l3)] [0, 1, 2, 3] rfl ?_
          exact J_68 R_9.1 R_9.2.1 R_9.2.2 k34_l1 k34_l2 k34_l3 hf
  have J_10 : ∀ (n : Nat) (k10_known : Nat → Int32) (k10_numbers : Nat → Int32) (k10_owners : Nat → Int32) (k10_l1 : Int32) (k10_l2 : Int32) (k10_l3 : Int32), f_X6_share_c10 n k10_known k10_numbers k10_owners k10_l1 k10_l2 k10_l3 = some R0 → XW p l e ({ frames := 4, cells := 0, slots := 0, locals := 137 } : Room) s m args below meth c D A 4 0 0 Q [(a_this, .inr (6, [.ref a_known, .ref a_numbers, .ref a_owners])), (a_known, .inl (cI, 11, .inl k10_known)), (a_numbers, .inl (cI, 44, .inl k10_numbers)), (a_owners, .inl (cI, 44, .inl k10_owners))] [] [(0, .ref a_this), (1, .int k10_l1), (2, .int k10_l2), (3, .int k10_l3)] 10 [] := by
    intro n
    induction n with
    | zero => intro k10_known k10_numbers k10_owners k10_l1 k10_l2 k10_l3 hf; exact nomatch (show (none : Option ((Nat → Int32) × (Nat → Int32) × (Nat → Int32))) = some R0 from hf)
    | succ n_10 ih_10 =>
      intro k10_known k10_numbers k10_owners k10_l1 k10_l2 k10_l3 hf
      unfold f_X6_share_c10 at hf
      refine x_iload_n 11 3 hC dX6_share_10 rfl rfl rfl ?_
      refine x_aload_n 12 0 hC dX6_share_11 rfl rfl rfl ?_
      refine x_get 15 0 0 hC in_X6_share_X6 rfl rfl (by decide) (List.mem_of_getElem? (i := 1) (by decide +kernel)) rfl rfl dX6_share_12 rfl ?_
      refine x_iload_n 16 1 hC dX6_share_15 rfl rfl rfl ?_
      obtain ⟨h_10, hf⟩ := ck_e hf
      refine x_iald 17 1 0 hC rfl rfl h_10 dX6_share_16 rfl ?_
      refine x_icmp_ge 32 20 hC dX6_share_17 (by decide) rfl (fun c_11 => ?_) (fun c_11 => ?_)
      · have hf := if_t hf c_11
        refine x_iconst 33 hC (0 : Int32) dX6_share_32 rfl (by decide) ?_
        refine x_istore_n 34 [(3, .int (0 : Int32)), (0, .ref a_this), (1, .int k10_l1), (2, .int k10_l2)] hC dX6_share_33 rfl rfl rfl (by decide) rfl ?_
        refine x_lv [(0, .ref a_this), (1, .int k10_l1), (2, .int k10_l2), (3, .int (0 : Int32))] [1, 2, 3, 0] rfl ?_
        exact J_34 fu k10_known k10_numbers k10_owners k10_l1 k10_l2 (0 : Int32) hf
      · have hf := if_f hf c_11
        refine x_aload_n 21 0 hC dX6_share_20 rfl rfl rfl ?_
        refine x_iload_n 22 1 hC dX6_share_21 rfl rfl rfl ?_
        refine x_iload_n 23 3 hC dX6_share_22 rfl rfl rfl ?_
        obtain ⟨R_12, h_R_12, hf⟩ := bd_e hf
        refine x_callVv 26 0 2 [0, 1, 2, 3] [(a_this, .inr (6, [.ref a_known, .ref a_numbers, .ref a_owners])), (a_known, .inl (cI, 11, .inl R_12.1)), (a_numbers, .inl (cI, 44, .inl R_12.2.1)), (a_owners, .inl (cI, 44, .inl R_12.2.2))] hC (As := [.int k10_l1, .int k10_l3]) (c_X6_insertFrom l D cI cJ cQ a_this a_known a_numbers a_owners k10_known k10_numbers k10_owners k10_l1 k10_l3 R_12 h_R_12) rfl rfl gX6_share_X6_insertFrom rfl ⟨rfl, rfl⟩ hd_X6_insertFrom ⟨Nat.le_of_ble_eq_true rfl, Nat.le_of_ble_eq_true rfl⟩ rfl rfl rfl rfl rfl rfl (Nat.le_of_ble_eq_true rfl) ⟨Nat.le_of_ble_eq_true rfl, Nat.le_of_ble_eq_true rfl⟩ dX6_share_23 rfl ?_
        obtain ⟨x_13, e_x_13, hf⟩ := nmx_e hf
        refine x_iinc 29 3 [(3, .int x_13), (0, .ref a_this), (1, .int k10_l1), (2, .int k10_l2)] hC dX6_share_26 rfl rfl e_x_13 (by decide) (by decide) rfl ?_
        refine x_goto 10 hC dX6_share_29 (by decide) ?_
        refine x_lv [(0, .ref a_this), (1, .int k10_l1), (2, .int k10_l2), (3, .int x_13)] [1, 2, 3, 0] rfl ?_
        exact ih_10 R_12.1 R_12.2.1 R_12.2.2 k10_l1 k10_l2 x_13 hf
  unfold f_X6_share at hf
  refine x_aload_n 1 0 hC dX6_share_0 rfl rfl rfl ?_
  refine x_get 4 0 0 hC in_X6_share_X6 rfl rfl (by decide) (List.mem_of_getElem? (i := 1) (by decide +kernel)) rfl rfl dX6_share_1 rfl ?_
  refine x_bipush 6 hC (10 : Int32) dX6_share_4 rfl (by decide) ?_
  refine x_iconst 7 hC (0 : Int32) dX6_share_6 rfl (by decide) ?_
  obtain ⟨h_14, hf⟩ := ck_e hf
  obtain ⟨g_15, e_g_15, hf⟩ := nmx_e hf
  refine x_iast 8 1 0 [(a_this, .inr (6, [.ref a_known, .ref a_numbers, .ref a_owners])), (a_known, .inl (cI, 11, .inl g_15)), (a_numbers, .inl (cI, 44, .inl v_numbers)), (a_owners, .inl (cI, 44, .inl v_owners))] hC rfl rfl h_14 e_g_15 rfl dX6_share_7 rfl ?_
  refine x_iconst 9 hC (0 : Int32) dX6_share_8 rfl (by decide) ?_
  refine x_istore_n 10 [(3, .int (0 : Int32)), (0, .ref a_this), (1, .int p1), (2, .int p2)] hC dX6_share_9 rfl rfl rfl (by decide) rfl ?_
  refine x_lv [(0, .ref a_this), (1, .int p1), (2, .int p2), (3, .int (0 : Int32))] [1, 2, 3, 0] rfl ?_
  exact J_10 fu g_15 v_numbers v_owners p1 p2 (0 : Int32) hf

theorem hd_X6_copyFrom : yX6_copyFrom.cls = RX6 ∧ yX6_copyFrom.cls ≠ "java/lang/invoke/MethodHandle" ∧ yX6_copyFrom.cls ≠ "java/lang/invoke/VarHandle" ∧ (parseMethodDescriptor yX6_copyFrom.desc).map (fun d => d.parameters.length) = some 1 := by decide +kernel
theorem in_X6_copyFrom_X6 : ∀ w ∈ u_ws RX6 TX6 3, w ∈ wsX6_copyFrom := fun w h => List.mem_cons_of_mem _ (List.mem_append_right _ h)
noncomputable def f_X6_copyFrom (v_p1_known : Nat → Int32) (v_p1_numbers : Nat → Int32) (v_p1_owners : Nat → Int32) (v_known : Nat → Int32) (v_numbers : Nat → Int32) (v_owners : Nat → Int32) : Option ((Nat → Int32) × (Nat → Int32) × (Nat → Int32)) := ckp (¬ (0 : Int32) < 0 ∧ ¬ (0 : Int32) < 0 ∧ ¬ (11 : Int32) < 0 ∧ (0 : Int32).toNatClampNeg + (11 : Int32).toNatClampNeg ≤ 11 ∧ (0 : Int32).toNatClampNeg + (11 : Int32).toNatClampNeg ≤ 11) (Classical.propDecidable _) <| nm (va_cpy v_p1_known v_known (0 : Int32).toNatClampNeg (0 : Int32).toNatClampNeg (11 : Int32).toNatClampNeg) fun g_2 => ckp (¬ (0 : Int32) < 0 ∧ ¬ (0 : Int32) < 0 ∧ ¬ (44 : Int32) < 0 ∧ (0 : Int32).toNatClampNeg + (44 : Int32).toNatClampNeg ≤ 44 ∧ (0 : Int32).toNatClampNeg + (44 : Int32).toNatClampNeg ≤ 44) (Classical.propDecidable _) <| nm (va_cpy v_p1_numbers v_numbers (0 : Int32).toNatClampNeg (0 : Int32).toNatClampNeg (44 : Int32).toNatClampNeg) fun g_4 => ckp (¬ (0 : Int32) < 0 ∧ ¬ (0 : Int32) < 0 ∧ ¬ (44 : Int32) < 0 ∧ (0 : Int32).toNatClampNeg + (44 : Int32).toNatClampNeg ≤ 44 ∧ (0 : Int32).toNatClampNeg + (44 : Int32).toNatClampNeg ≤ 44) (Classical.propDecidable _) <| nm (va_cpy v_p1_owners v_owners (0 : Int32).toNatClampNeg (0 : Int32).toNatClampNeg (44 : Int32).toNatClampNeg) fun g_6 => some (g_2, g_4, g_6)
set_option maxHeartbeats 4000000 in
set_option maxRecDepth 100000 in
theorem c_X6_copyFrom (l : Launch) (D : va_G) (cI cJ cQ : ClassId) (a_p1 : Nat) (a_p1_known : Nat) (a_p1_numbers : Nat) (a_p1_owners : Nat) (a_this : Nat) (a_known : Nat) (a_numbers : Nat) (a_owners : Nat) (v_p1_known : Nat → Int32) (v_p1_numbers : Nat → Int32) (v_p1_owners : Nat → Int32) (v_known : Nat → Int32) (v_numbers : Nat → Int32) (v_owners : Nat → Int32) (R0 : (Nat → Int32) × (Nat → Int32) × (Nat → Int32)) (hf : f_X6_copyFrom v_p1_known v_p1_numbers v_p1_owners v_known v_numbers v_owners = some R0) : Cv l yX6_copyFrom wsX6_copyFrom ({ frames := 1, cells := 0, slots := 0, locals := 60 } : Room) D [(cI, .int), (cJ, .long), (cQ, .object "WhisperCrowd$State")] [.ref a_this, .ref a_p1] [(a_p1, .inr (6, [.ref a_p1_known, .ref a_p1_numbers, .ref a_p1_owners])), (a_p1_known, .inl (cI, 11, .inl v_p1_known)), (a_p1_numbers, .inl (cI, 44, .inl v_p1_numbers)), (a_p1_owners, .inl (cI, 44, .inl v_p1_owners)), (a_this, .inr (6, [.ref a_known, .ref a_numbers, .ref a_owners])), (a_known, .inl (cI, 11, .inl v_known)), (a_numbers, .inl (cI, 44, .inl v_numbers)), (a_owners, .inl (cI, 44, .inl v_owners))] [(a_p1, .inr (6, [.ref a_p1_known, .ref a_p1_numbers, .ref a_p1_owners])), (a_p1_known, .inl (cI, 11, .inl v_p1_known)), (a_p1_numbers, .inl (cI, 44, .inl v_p1_numbers)), (a_p1_owners, .inl (cI, 44, .inl v_p1_owners)), (a_this, .inr (6, [.ref a_known, .ref a_numbers, .ref a_owners])), (a_known, .inl (cI, 11, .inl R0.1)), (a_numbers, .inl (cI, 44, .inl R0.2.1)), (a_owners, .inl (cI, 44, .inl R0.2.2))] := by
  refine x_entv (cc := cX6_copyFrom) (maxL := 2) (rt := none) (lv := [(0, .ref a_this), (1, .ref a_p1)]) (by decide) rfl (Nat.le_of_ble_eq_true rfl) rfl ?_
  intro p e s m args below meth c A Q hQ hC
  unfold f_X6_copyFrom at hf
  refine x_aload_n 1 1 hC dX6_copyFrom_0 rfl rfl rfl ?_
  refine x_get 4 0 0 hC in_X6_copyFrom_X6 rfl rfl (by decide) (List.mem_of_getElem? (i := 1) (by decide +kernel)) rfl rfl dX6_copyFrom_1 rfl ?_
  refine x_iconst 5 hC (0 : Int32) dX6_copyFrom_4 rfl (by decide) ?_
  refine x_aload_n 6 0 hC dX6_copyFrom_5 rfl rfl rfl ?_
  refine x_get 9 4 0 hC in_X6_copyFrom_X6 rfl rfl (by decide) (List.mem_of_getElem? (i := 1) (by decide +kernel)) rfl rfl dX6_copyFrom_6 rfl ?_
  refine x_iconst 10 hC (0 : Int32) dX6_copyFrom_9 rfl (by decide) ?_
  refine x_aload_n 11 0 hC dX6_copyFrom_10 rfl rfl rfl ?_
  refine x_get 14 4 0 hC in_X6_copyFrom_X6 rfl rfl (by decide) (List.mem_of_getElem? (i := 1) (by decide +kernel)) rfl rfl dX6_copyFrom_11 rfl ?_
  refine x_alen 15 5 0 hC rfl rfl (v := (11 : Int32)) rfl dX6_copyFrom_14 rfl ?_
  obtain ⟨h_1, hf⟩ := ckp_e hf
  obtain ⟨g_2, e_g_2, hf⟩ := nmx_e hf
  refine x_copyi 18 1 5 0 [(a_p1, .inr (6, [.ref a_p1_known, .ref a_p1_numbers, .ref a_p1_owners])), (a_p1_known, .inl (cI, 11, .inl v_p1_known)), (a_p1_numbers, .inl (cI, 44, .inl v_p1_numbers)), (a_p1_owners, .inl (cI, 44, .inl v_p1_owners)), (a_this, .inr (6, [.ref a_known, .ref a_numbers, .ref a_owners])), (a_known, .inl (cI, 11, .inl g_2)), (a_numbers, .inl (cI, 44, .inl v_numbers)), (a_owners, .inl (cI, 44, .inl v_owners))] hC (List.mem_of_getElem? (i := 2) (by decide +kernel)) (List.mem_of_getElem? (i := 3) (by decide +kernel)) (List.mem_of_getElem? (i := 4) (by decide +kernel)) (List.mem_of_getElem? (i := 5) (by decide +kernel)) rfl rfl rfl h_1 e_g_2 rfl (Nat.le_of_ble_eq_true rfl) (by decide) dX6_copyFrom_15 rfl ?_
  refine x_aload_n 19 1 hC dX6_copyFrom_18 rfl rfl rfl ?_
  refine x_get 22 0 1 hC in_X6_copyFrom_X6 rfl rfl (by decide) (List.mem_of_getElem? (i := 6) (by decide +kernel)) rfl rfl dX6_copyFrom_19 rfl ?_
  refine x_iconst 23 hC (0 : Int32) dX6_copyFrom_22 rfl (by decide) ?_
  refine x_aload_n 24 0 hC dX6_copyFrom_23 rfl rfl rfl ?_
  refine x_get 27 4 1 hC in_X6_copyFrom_X6 rfl rfl (by decide) (List.mem_of_getElem? (i := 6) (by decide +kernel)) rfl rfl dX6_copyFrom_24 rfl ?_
  refine x_iconst 28 hC (0 : Int32) dX6_copyFrom_27 rfl (by decide) ?_
  refine x_aload_n 29 0 hC dX6_copyFrom_28 rfl rfl rfl ?_
  refine x_get 32 4 1 hC in_X6_copyFrom_X6 rfl rfl (by decide) (List.mem_of_getElem? (i := 6) (by decide +kernel)) rfl rfl dX6_copyFrom_29 rfl ?_
  refine x_alen 33 6 0 hC rfl rfl (v := (44 : Int32)) rfl dX6_copyFrom_32 rfl ?_
  obtain ⟨h_3, hf⟩ := ckp_e hf
  obtain ⟨g_4, e_g_4, hf⟩ := nmx_e hf
  refine x_copyi 36 2 6 0 [(a_p1, .inr (6, [.ref a_p1_known, .ref a_p1_numbers, .ref a_p1_owners])), (a_p1_known, .inl (cI, 11, .inl v_p1_known)), (a_p1_numbers, .inl (cI, 44, .inl v_p1_numbers)), (a_p1_owners, .inl (cI, 44, .inl v_p1_owners)), (a_this, .inr (6, [.ref a_known, .ref a_numbers, .ref a_owners])), (a_known, .inl (cI, 11, .inl g_2)), (a_numbers, .inl (cI, 44, .inl g_4)), (a_owners, .inl (cI, 44, .inl v_owners))] hC (List.mem_of_getElem? (i := 2) (by decide +kernel)) (List.mem_of_getElem? (i := 3) (by decide +kernel)) (List.mem_of_getElem? (i := 4) (by decide +kernel)) (List.mem_of_getElem? (i := 5) (by decide +kernel)) rfl rfl rfl h_3 e_g_4 rfl (Nat.le_of_ble_eq_true rfl) (by decide) dX6_copyFrom_33 rfl ?_
  refine x_aload_n 37 1 hC dX6_copyFrom_36 rfl rfl rfl ?_
  refine x_get 40 0 2 hC in_X6_copyFrom_X6 rfl rfl (by decide) (List.mem_of_getElem? (i := 7) (by decide +kernel)) rfl rfl dX6_copyFrom_37 rfl ?_
  refine x_iconst 41 hC (0 : Int32) dX6_copyFrom_40 rfl (by decide) ?_
  refine x_aload_n 42 0 hC dX6_copyFrom_41 rfl rfl rfl ?_
  refine x_get 45 4 2 hC in_X6_copyFrom_X6 rfl rfl (by decide) (List.mem_of_getElem? (i := 7) (by decide +kernel)) rfl rfl dX6_copyFrom_42 rfl ?_
  refine x_iconst 46 hC (0 : Int32) dX6_copyFrom_45 rfl (by decide) ?_
  refine x_aload_n 47 0 hC dX6_copyFrom_46 rfl rfl rfl ?_
  refine x_get 50 4 2 hC in_X6_copyFrom_X6 rfl rfl (by decide) (List.mem_of_getElem? (i := 7) (by decide +kernel)) rfl rfl dX6_copyFrom_47 rfl ?_
  refine x_alen 51 7 0 hC rfl rfl (v := (44 : Int32)) rfl dX6_copyFrom_50 rfl ?_
  obtain ⟨h_5, hf⟩ := ckp_e hf
  obtain ⟨g_6, e_g_6, hf⟩ := nmx_e hf
  refine x_copyi 54 3 7 0 [(a_p1, .inr (6, [.ref a_p1_known, .ref a_p1_numbers, .ref a_p1_owners])), (a_p1_known, .inl (cI, 11, .inl v_p1_known)), (a_p1_numbers, .inl (cI, 44, .inl v_p1_numbers)), (a_p1_owners, .inl (cI, 44, .inl v_p1_owners)), (a_this, .inr (6, [.ref a_known, .ref a_numbers, .ref a_owners])), (a_known, .inl (cI, 11, .inl g_2)), (a_numbers, .inl (cI, 44, .inl g_4)), (a_owners, .inl (cI, 44, .inl g_6))] hC (List.mem_of_getElem? (i := 2) (by decide +kernel)) (List.mem_of_getElem? (i := 3) (by decide +kernel)) (List.mem_of_getElem? (i := 4) (by decide +kernel)) (List.mem_of_getElem? (i := 5) (by decide +kernel)) rfl rfl rfl h_5 e_g_6 rfl (Nat.le_of_ble_eq_true rfl) (by decide) dX6_copyFrom_51 rfl ?_
  cases hf
  exact x_vret hC dX6_copyFrom_54 hQ rfl
