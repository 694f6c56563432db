theorem hd_X7_isMember : yX7_isMember.cls = RX7 ∧ yX7_isMember.cls ≠ "java/lang/invoke/MethodHandle" ∧ yX7_isMember.cls ≠ "java/lang/invoke/VarHandle" ∧ (parseMethodDescriptor yX7_isMember.desc).map (fun d => d.parameters.length) = some 1 := by decide +kernel
theorem in_X7_isMember_X7 : ∀ w ∈ u_ws RX7 TX7 6, w ∈ wsX7_isMember := fun w h => List.mem_cons_of_mem _ (List.mem_append_left _ (List.mem_append_right _ h))
theorem in_X7_isMember_X5 : ∀ w ∈ u_ws RX5 TX5 14, w ∈ wsX7_isMember := fun w h => List.mem_cons_of_mem _ (List.mem_append_right _ h)
noncomputable def f_X7_isMember (v_now_members : Int32) (p1 : Int32) : Option (Int32) := if p1 < 0 then (some ((0 : Int32))) else (if v_now_members ≤ p1 then (some ((0 : Int32))) else (some ((1 : Int32))))
set_option maxHeartbeats 4000000 in
set_option maxRecDepth 100000 in
theorem c_X7_isMember (l : Launch) (D : va_G) (cI cJ cQ : ClassId) (a_this : Nat) (a_now : Nat) (r_history : Value) (r_open : Value) (r_search : Value) (r_planned : Value) (r_now_values : Value) (r_now_greatest : Value) (r_now_least : Value) (r_now_heard : Value) (r_now_joined : Value) (r_now_tickets : Value) (r_now_masses : Value) (r_now_books : Value) (r_now_owed : Value) (r_now_letters : Value) (v_plannedTalks : Int32) (v_now_members : Int32) (v_now_here : Int32) (v_now_seed : Int32) (v_now_talks : Int32) (p1 : Int32) (R0 : Int32) (hf : f_X7_isMember v_now_members p1 = some R0) : Ci l yX7_isMember wsX7_isMember ({ frames := 1, cells := 0, slots := 0, locals := 60 } : Room) D [(cI, .int), (cJ, .long), (cQ, .object "WhisperCrowd$State")] [.ref a_this, .int p1] [(a_this, .inr (7, [.ref a_now, r_history, r_open, r_search, r_planned, .int v_plannedTalks])), (a_now, .inr (5, [.int v_now_members, .int v_now_here, .int v_now_seed, .int v_now_talks, r_now_values, r_now_greatest, r_now_least, r_now_heard, r_now_joined, r_now_tickets, r_now_masses, r_now_books, r_now_owed, r_now_letters]))] [(a_this, .inr (7, [.ref a_now, r_history, r_open, r_search, r_planned, .int v_plannedTalks])), (a_now, .inr (5, [.int v_now_members, .int v_now_here, .int v_now_seed, .int v_now_talks, r_now_values, r_now_greatest, r_now_least, r_now_heard, r_now_joined, r_now_tickets, r_now_masses, r_now_books, r_now_owed, r_now_letters]))] R0 := by
  refine x_enti (cc := cX7_isMember) (maxL := 2) (rt := (some .boolean)) (lv := [(0, .ref a_this), (1, .int p1)]) (by decide) rfl (Nat.le_of_ble_eq_true rfl) rfl ?_
  intro p e s m args below meth c A Q hQ hC
  unfold f_X7_isMember at hf
  refine x_iload_n 1 1 hC dX7_isMember_0 rfl rfl rfl ?_
  refine x_if_lt 19 4 hC dX7_isMember_1 (by decide) rfl (fun c_1 => ?_) (fun c_1 => ?_)
  · have hf := if_t hf c_1
    refine x_iconst 20 hC (0 : Int32) dX7_isMember_19 rfl (by decide) ?_
    cases hf
    exact x_zret hC rfl dX7_isMember_20 hQ rfl rfl
  · have hf := if_f hf c_1
    refine x_iload_n 5 1 hC dX7_isMember_4 rfl rfl rfl ?_
    refine x_aload_n 6 0 hC dX7_isMember_5 rfl rfl rfl ?_
    refine x_get 9 0 0 hC in_X7_isMember_X7 rfl rfl (by decide) (List.mem_of_getElem? (i := 1) (by decide +kernel)) rfl rfl dX7_isMember_6 rfl ?_
    refine x_get 12 1 0 hC in_X7_isMember_X5 rfl rfl (by decide) (List.mem_of_getElem? (i := 2) (by decide +kernel)) rfl rfl dX7_isMember_9 rfl ?_
    refine x_icmp_ge 19 15 hC dX7_isMember_12 (by decide) rfl (fun c_2 => ?_) (fun c_2 => ?_)
    · have hf := if_t hf c_2
      refine x_iconst 20 hC (0 : Int32) dX7_isMember_19 rfl (by decide) ?_
      cases hf
      exact x_zret hC rfl dX7_isMember_20 hQ rfl rfl
    · have hf := if_f hf c_2
      refine x_iconst 16 hC (1 : Int32) dX7_isMember_15 rfl (by decide) ?_
      refine x_goto 20 hC dX7_isMember_16 (by decide) ?_
      cases hf
      exact x_zret hC rfl dX7_isMember_20 hQ rfl rfl

theorem hd_X7_about : yX7_about.cls = RX7 ∧ yX7_about.cls ≠ "java/lang/invoke/MethodHandle" ∧ yX7_about.cls ≠ "java/lang/invoke/VarHandle" ∧ (parseMethodDescriptor yX7_about.desc).map (fun d => d.parameters.length) = some 2 := by decide +kernel
theorem in_X7_about_X7 : ∀ w ∈ u_ws RX7 TX7 6, w ∈ wsX7_about := fun w h => List.mem_cons_of_mem _ (List.mem_append_left _ (List.mem_append_left _ (List.mem_append_right _ h)))
theorem in_X7_about_X5 : ∀ w ∈ u_ws RX5 TX5 14, w ∈ wsX7_about := fun w h => List.mem_cons_of_mem _ (List.mem_append_left _ (List.mem_append_right _ h))
theorem in_X7_about_X6 : ∀ w ∈ u_ws RX6 TX6 3, w ∈ wsX7_about := fun w h => List.mem_cons_of_mem _ (List.mem_append_right _ h)
noncomputable def f_X7_about (v_now_members : Int32) (v_now_here : Int32) (v_now_greatest : Nat → Int32) (v_now_heard : Nat → Int32) (v_now_least : Nat → Int32) (v_now_tickets_known : Nat → Int32) (v_now_values : Nat → Int32) (p1 : Int32) (p2 : Int32) : Option (Int32) := bd (f_X7_isMember v_now_members p1) fun R_1 => if R_1 = 0 then (some ((-1 : Int32))) else (if p2 < 0 then (some ((-1 : Int32))) else (if p2 ≤ (5 : Int32) then (if ¬ p2 = 0 then (bd (f_X5_isHere v_now_here p1) fun R_6 => if ¬ R_6 = 0 then (if p2 = (1 : Int32) then (ck p1 10 <| some ((v_now_values p1.toNatClampNeg))) else (if p2 = (2 : Int32) then (ck p1 10 <| some ((v_now_greatest p1.toNatClampNeg))) else (if p2 = (3 : Int32) then (ck p1 10 <| some ((v_now_least p1.toNatClampNeg))) else (if p2 = (4 : Int32) then (ck p1 10 <| some ((v_now_heard p1.toNatClampNeg))) else (ck p1 11 <| some ((v_now_tickets_known p1.toNatClampNeg))))))) else (some ((-2 : Int32)))) else (bd (f_X5_isHere v_now_here p1) fun R_17 => if R_17 = 0 then (some ((0 : Int32))) else (some ((1 : Int32))))) else (some ((-1 : Int32)))))
set_option maxHeartbeats 4000000 in
set_option maxRecDepth 100000 in
theorem c_X7_about (l : Launch) (D : va_G) (cI cJ cQ : ClassId) (a_this : Nat) (a_now : Nat) (a_now_greatest : Nat) (a_now_heard : Nat) (a_now_least : Nat) (a_now_tickets : Nat) (a_now_tickets_known : Nat) (a_now_values : Nat) (r_history : Value) (r_open : Value) (r_search : Value) (r_planned : Value) (r_now_joined : Value) (r_now_masses : Value) (r_now_books : Value) (r_now_owed : Value) (r_now_letters : Value) (r_now_tickets_numbers : Value) (r_now_tickets_owners : Value) (v_plannedTalks : Int32) (v_now_members : Int32) (v_now_here : Int32) (v_now_seed : Int32) (v_now_talks : Int32) (v_now_greatest : Nat → Int32) (v_now_heard : Nat → Int32) (v_now_least : Nat → Int32) (v_now_tickets_known : Nat → Int32) (v_now_values : Nat → Int32) (p1 : Int32) (p2 : Int32) (R0 : Int32) (hf : f_X7_about v_now_members v_now_here v_now_greatest v_now_heard v_now_least v_now_tickets_known v_now_values p1 p2 = some R0) : Ci l yX7_about wsX7_about ({ frames := 2, cells := 0, slots := 0, locals := 83 } : Room) D [(cI, .int), (cJ, .long), (cQ, .object "WhisperCrowd$State")] [.ref a_this, .int p1, .int p2] [(a_this, .inr (7, [.ref a_now, r_history, r_open, r_search, r_planned, .int v_plannedTalks])), (a_now, .inr (5, [.int v_now_members, .int v_now_here, .int v_now_seed, .int v_now_talks, .ref a_now_values, .ref a_now_greatest, .ref a_now_least, .ref a_now_heard, r_now_joined, .ref a_now_tickets, r_now_masses, r_now_books, r_now_owed, r_now_letters])), (a_now_greatest, .inl (cI, 10, .inl v_now_greatest)), (a_now_heard, .inl (cI, 10, .inl v_now_heard)), (a_now_least, .inl (cI, 10, .inl v_now_least)), (a_now_tickets, .inr (6, [.ref a_now_tickets_known, r_now_tickets_numbers, r_now_tickets_owners])), (a_now_tickets_known, .inl (cI, 11, .inl v_now_tickets_known)), (a_now_values, .inl (cI, 10, .inl v_now_values))] [(a_this, .inr (7, [.ref a_now, r_history, r_open, r_search, r_planned, .int v_plannedTalks])), (a_now, .inr (5, [.int v_now_members, .int v_now_here, .int v_now_seed, .int v_now_talks, .ref a_now_values, .ref a_now_greatest, .ref a_now_least, .ref a_now_heard, r_now_joined, .ref a_now_tickets, r_now_masses, r_now_books, r_now_owed, r_now_letters])), (a_now_greatest, .inl (cI, 10, .inl v_now_greatest)), (a_now_heard, .inl (cI, 10, .inl v_now_heard)), (a_now_least, .inl (cI, 10, .inl v_now_least)), (a_now_tickets, .inr (6, [.ref a_now_tickets_known, r_now_tickets_numbers, r_now_tickets_owners])), (a_now_tickets_known, .inl (cI, 11, .inl v_now_tickets_known)), (a_now_values, .inl (cI, 10, .inl v_now_values))] R0 := by
  refine x_enti (cc := cX7_about) (maxL := 3) (rt := (some .int)) (lv := [(0, .ref a_this), (1, .int p1), (2, .int p2)]) (by decide) rfl (Nat.le_of_ble_eq_true rfl) rfl ?_
  intro p e s m args below meth c A Q hQ hC
  unfold f_X7_about at hf
  refine x_aload_n 1 0 hC dX7_about_0 rfl rfl rfl ?_
  refine x_iload_n 2 1 hC dX7_about_1 rfl rfl rfl ?_
  obtain ⟨R_1, h_R_1, hf⟩ := bd_e hf
  refine x_callVi 5 0 1 [0, 1] [(a_this, .inr (7, [.ref a_now, r_history, r_open, r_search, r_planned, .int v_plannedTalks])), (a_now, .inr (5, [.int v_now_members, .int v_now_here, .int v_now_seed, .int v_now_talks, .ref a_now_values, .ref a_now_greatest, .ref a_now_least, .ref a_now_heard, r_now_joined, .ref a_now_tickets, r_now_masses, r_now_books, r_now_owed, r_now_letters])), (a_now_greatest, .inl (cI, 10, .inl v_now_greatest)), (a_now_heard, .inl (cI, 10, .inl v_now_heard)), (a_now_least, .inl (cI, 10, .inl v_now_least)), (a_now_tickets, .inr (6, [.ref a_now_tickets_known, r_now_tickets_numbers, r_now_tickets_owners])), (a_now_tickets_known, .inl (cI, 11, .inl v_now_tickets_known)), (a_now_values, .inl (cI, 10, .inl v_now_values))] hC (As := [.int p1]) (c_X7_isMember l D cI cJ cQ a_this a_now r_history r_open r_search r_planned (.ref a_now_values) (.ref a_now_greatest) (.ref a_now_least) (.ref a_now_heard) r_now_joined (.ref a_now_tickets) r_now_masses r_now_books r_now_owed r_now_letters v_plannedTalks v_now_members v_now_here v_now_seed v_now_talks p1 R_1 h_R_1) rfl rfl gX7_about_X7_isMember rfl ⟨rfl, rfl⟩ hd_X7_isMember ⟨Nat.le_of_ble_eq_true rfl, Nat.le_of_ble_eq_true rfl⟩ rfl rfl rfl rfl rfl rfl (Nat.le_of_ble_eq_true rfl) ⟨Nat.le_of_ble_eq_true rfl, Nat.le_of_ble_eq_true rfl⟩ dX7_about_2 rfl ?_
  refine x_if_eq 17 8 hC dX7_about_5 (by decide) rfl (fun c_2 => ?_) (fun c_2 => ?_)
  · have hf := if_t hf c_2
    refine x_iconst 18 hC (-1 : Int32) dX7_about_17 rfl (by decide) ?_
    cases hf
    exact x_iret hC dX7_about_18 hQ rfl rfl
  · have hf := if_f hf c_2
    refine x_iload_n 9 2 hC dX7_about_8 rfl rfl rfl ?_
    refine x_if_lt 17 12 hC dX7_about_9 (by decide) rfl (fun c_3 => ?_) (fun c_3 => ?_)
    · have hf := if_t hf c_3
      refine x_iconst 18 hC (-1 : Int32) dX7_about_17 rfl (by decide) ?_
      cases hf
      exact x_iret hC dX7_about_18 hQ rfl rfl
    · have hf := if_f hf c_3
      refine x_iload_n 13 2 hC dX7_about_12 rfl rfl rfl ?_
      refine x_iconst 14 hC (5 : Int32) dX7_about_13 rfl (by decide) ?_
      refine x_icmp_le 19 17 hC dX7_about_14 (by decide) rfl (fun c_4 => ?_) (fun c_4 => ?_)
      · have hf := if_t hf c_4
        refine x_iload_n 20 2 hC dX7_about_19 rfl rfl rfl ?_
        refine x_if_ne 40 23 hC dX7_about_20 (by decide) rfl (fun c_5 => ?_) (fun c_5 => ?_)
        · have hf := if_t hf c_5
          refine x_aload_n 41 0 hC dX7_about_40 rfl rfl rfl ?_
          refine x_get 44 0 0 hC in_X7_about_X7 rfl rfl (by decide) (List.mem_of_getElem? (i := 1) (by decide +kernel)) rfl rfl dX7_about_41 rfl ?_
          refine x_iload_n 45 1 hC dX7_about_44 rfl rfl rfl ?_
          obtain ⟨R_6, h_R_6, hf⟩ := bd_e hf
          refine x_callVi 48 0 1 [1] [(a_this, .inr (7, [.ref a_now, r_history, r_open, r_search, r_planned, .int v_plannedTalks])), (a_now, .inr (5, [.int v_now_members, .int v_now_here, .int v_now_seed, .int v_now_talks, .ref a_now_values, .ref a_now_greatest, .ref a_now_least, .ref a_now_heard, r_now_joined, .ref a_now_tickets, r_now_masses, r_now_books, r_now_owed, r_now_letters])), (a_now_greatest, .inl (cI, 10, .inl v_now_greatest)), (a_now_heard, .inl (cI, 10, .inl v_now_heard)), (a_now_least, .inl (cI, 10, .inl v_now_least)), (a_now_tickets, .inr (6, [.ref a_now_tickets_known, r_now_tickets_numbers, r_now_tickets_owners])), (a_now_tickets_known, .inl (cI, 11, .inl v_now_tickets_known)), (a_now_values, .inl (cI, 10, .inl v_now_values))] hC (As := [.int p1]) (c_X5_isHere l D cI cJ cQ a_now (.ref a_now_values) (.ref a_now_greatest) (.ref a_now_least) (.ref a_now_heard) r_now_joined (.ref a_now_tickets) r_now_masses r_now_books r_now_owed r_now_letters v_now_members v_now_here v_now_seed v_now_talks p1 R_6 h_R_6) rfl rfl gX7_about_X5_isHere rfl ⟨rfl, rfl⟩ hd_X5_isHere ⟨Nat.le_of_ble_eq_true rfl, Nat.le_of_ble_eq_true rfl⟩ rfl rfl rfl rfl rfl rfl (Nat.le_of_ble_eq_true rfl) ⟨Nat.le_of_ble_eq_true rfl, Nat.le_of_ble_eq_true rfl⟩ dX7_about_45 rfl ?_
          refine x_if_ne 54 51 hC dX7_about_48 (by decide) rfl (fun c_7 => ?_) (fun c_7 => ?_)
          · have hf := if_t hf c_7
            refine x_iload_n 55 2 hC dX7_about_54 rfl rfl rfl ?_
            by_cases c_8 : p2 = (1 : Int32)
            · have hf := if_t hf c_8
              refine x_tabIn 84 hC (1 : Int32) c_8 29 dX7_about_55 (by decide) (by decide) rfl (by decide) ?_
              refine x_aload_n 85 0 hC dX7_about_84 rfl rfl rfl ?_
              refine x_get 88 0 0 hC in_X7_about_X7 rfl rfl (by decide) (List.mem_of_getElem? (i := 1) (by decide +kernel)) rfl rfl dX7_about_85 rfl ?_
              refine x_get 91 1 4 hC in_X7_about_X5 rfl rfl (by decide) (List.mem_of_getElem? (i := 2) (by decide +kernel)) rfl rfl dX7_about_88 rfl ?_
              refine x_iload_n 92 1 hC dX7_about_91 rfl rfl rfl ?_
              obtain ⟨h_9, hf⟩ := ck_e hf
              refine x_iald 93 7 0 hC rfl rfl h_9 dX7_about_92 rfl ?_
              cases hf
              exact x_iret hC dX7_about_93 hQ rfl rfl
            · have hf := if_f hf c_8
              by_cases c_10 : p2 = (2 : Int32)
              · have hf := if_t hf c_10
                refine x_tabIn 94 hC (2 : Int32) c_10 39 dX7_about_55 (by decide) (by decide) rfl (by decide) ?_
                refine x_aload_n 95 0 hC dX7_about_94 rfl rfl rfl ?_
                refine x_get 98 0 0 hC in_X7_about_X7 rfl rfl (by decide) (List.mem_of_getElem? (i := 1) (by decide +kernel)) rfl rfl dX7_about_95 rfl ?_
                refine x_get 101 1 5 hC in_X7_about_X5 rfl rfl (by decide) (List.mem_of_getElem? (i := 3) (by decide +kernel)) rfl rfl dX7_about_98 rfl ?_
                refine x_iload_n 102 1 hC dX7_about_101 rfl rfl rfl ?_
                obtain ⟨h_11, hf⟩ := ck_e hf
                refine x_iald 103 2 0 hC rfl rfl h_11 dX7_about_102 rfl ?_
                cases hf
                exact x_iret hC dX7_about_103 hQ rfl rfl
              · have hf := if_f hf c_10
                by_cases c_12 : p2 = (3 : Int32)
                · have hf := if_t hf c_12
                  refine x_tabIn 104 hC (3 : Int32) c_12 49 dX7_about_55 (by decide) (by decide) rfl (by decide) ?_
                  refine x_aload_n 105 0 hC dX7_about_104 rfl rfl rfl ?_
                  refine x_get 108 0 0 hC in_X7_about_X7 rfl rfl (by decide) (List.mem_of_getElem? (i := 1) (by decide +kernel)) rfl rfl dX7_about_105 rfl ?_
                  refine x_get 111 1 6 hC in_X7_about_X5 rfl rfl (by decide) (List.mem_of_getElem? (i := 4) (by decide +kernel)) rfl rfl dX7_about_108 rfl ?_
                  refine x_iload_n 112 1 hC dX7_about_111 rfl rfl rfl ?_
                  obtain ⟨h_13, hf⟩ := ck_e hf
                  refine x_iald 113 4 0 hC rfl rfl h_13 dX7_about_112 rfl ?_
                  cases hf
                  exact x_iret hC dX7_about_113 hQ rfl rfl
                · have hf := if_f hf c_12
                  by_cases c_14 : p2 = (4 : Int32)
                  · have hf := if_t hf c_14
                    refine x_tabIn 114 hC (4 : Int32) c_14 59 dX7_about_55 (by decide) (by decide) rfl (by decide) ?_
                    refine x_aload_n 115 0 hC dX7_about_114 rfl rfl rfl ?_
                    refine x_get 118 0 0 hC in_X7_about_X7 rfl rfl (by decide) (List.mem_of_getElem? (i := 1) (by decide +kernel)) rfl rfl dX7_about_115 rfl ?_
                    refine x_get 121 1 7 hC in_X7_about_X5 rfl rfl (by decide) (List.mem_of_getElem? (i := 5) (by decide +kernel)) rfl rfl dX7_about_118 rfl ?_
                    refine x_iload_n 122 1 hC dX7_about_121 rfl rfl rfl ?_
                    obtain ⟨h_15, hf⟩ := ck_e hf
                    refine x_iald 123 3 0 hC rfl rfl h_15 dX7_about_122 rfl ?_
                    cases hf
                    exact x_iret hC dX7_about_123 hQ rfl rfl
                  · have hf := if_f hf c_14
                    have t_c_8 : p2.toInt ≠ 1 := x_neI c_8 (by decide)
                    have t_c_10 : p2.toInt ≠ 2 := x_neI c_10 (by decide)
                    have t_c_12 : p2.toInt ≠ 3 := x_neI c_12 (by decide)
                    have t_c_14 : p2.toInt ≠ 4 := x_neI c_14 (by decide)
                    refine x_tabOut 124 hC dX7_about_55 (by omega) (by decide) ?_
                    refine x_aload_n 125 0 hC dX7_about_124 rfl rfl rfl ?_
                    refine x_get 128 0 0 hC in_X7_about_X7 rfl rfl (by decide) (List.mem_of_getElem? (i := 1) (by decide +kernel)) rfl rfl dX7_about_125 rfl ?_
                    refine x_get 131 1 9 hC in_X7_about_X5 rfl rfl (by decide) (List.mem_of_getElem? (i := 6) (by decide +kernel)) rfl rfl dX7_about_128 rfl ?_
                    refine x_get 134 5 0 hC in_X7_about_X6 rfl rfl (by decide) (List.mem_of_getElem? (i := 7) (by decide +kernel)) rfl rfl dX7_about_131 rfl ?_
                    refine x_iload_n 135 1 hC dX7_about_134 rfl rfl rfl ?_
                    obtain ⟨h_16, hf⟩ := ck_e hf
                    refine x_iald 136 6 0 hC rfl rfl h_16 dX7_about_135 rfl ?_
                    cases hf
                    exact x_iret hC dX7_about_136 hQ rfl rfl
          · have hf := if_f hf c_7
            refine x_bipush 53 hC (-2 : Int32) dX7_about_51 rfl (by decide) ?_
            cases hf
            exact x_iret hC dX7_about_53 hQ rfl rfl
        · have hf := if_f hf c_5
          refine x_aload_n 24 0 hC dX7_about_23 rfl rfl rfl ?_
          refine x_get 27 0 0 hC in_X7_about_X7 rfl rfl (by decide) (List.mem_of_getElem? (i := 1) (by decide +kernel)) rfl rfl dX7_about_24 rfl ?_
          refine x_iload_n 28 1 hC dX7_about_27 rfl rfl rfl ?_
          obtain ⟨R_17, h_R_17, hf⟩ := bd_e hf
          refine x_callVi 31 0 1 [1] [(a_this, .inr (7, [.ref a_now, r_history, r_open, r_search, r_planned, .int v_plannedTalks])), (a_now, .inr (5, [.int v_now_members, .int v_now_here, .int v_now_seed, .int v_now_talks, .ref a_now_values, .ref a_now_greatest, .ref a_now_least, .ref a_now_heard, r_now_joined, .ref a_now_tickets, r_now_masses, r_now_books, r_now_owed, r_now_letters])), (a_now_greatest, .inl (cI, 10, .inl v_now_greatest)), (a_now_heard, .inl (cI, 10, .inl v_now_heard)), (a_now_least, .inl (cI, 10, .inl v_now_least)), (a_now_tickets, .inr (6, [.ref a_now_tickets_known, r_now_tickets_numbers, r_now_tickets_owners])), (a_now_tickets_known, .inl (cI, 11, .inl v_now_tickets_known)), (a_now_values, .inl (cI, 10, .inl v_now_values))] hC (As := [.int p1]) (c_X5_isHere l D cI cJ cQ a_now (.ref a_now_values) (.ref a_now_greatest) (.ref a_now_least) (.ref a_now_heard) r_now_joined (.ref a_now_tickets) r_now_masses r_now_books r_now_owed r_now_letters v_now_members v_now_here v_now_seed v_now_talks p1 R_17 h_R_17) rfl rfl gX7_about_X5_isHere rfl ⟨rfl, rfl⟩ hd_X5_isHere ⟨Nat.le_of_ble_eq_true rfl, Nat.le_of_ble_eq_true rfl⟩ rfl rfl rfl rfl rfl rfl (Nat.le_of_ble_eq_true rfl) ⟨Nat.le_of_ble_eq_true rfl, Nat.le_of_ble_eq_true rfl⟩ dX7_about_28 rfl ?_
          refine x_if_eq 38 34 hC dX7_about_31 (by decide) rfl (fun c_18 => ?_) (fun c_18 => ?_)
          · have hf := if_t hf c_18
            refine x_iconst 39 hC (0 : Int32) dX7_about_38 rfl (by decide) ?_
            cases hf
            exact x_iret hC dX7_about_39 hQ rfl rfl
          · have hf := if_f hf c_18
            refine x_iconst 35 hC (1 : Int32) dX7_about_34 rfl (by decide) ?_
            refine x_goto 39 hC dX7_about_35 (by decide) ?_
            cases hf
            exact x_iret hC dX7_about_39 hQ rfl rfl
      · have hf := if_f hf c_4
        refine x_iconst 18 hC (-1 : Int32) dX7_about_17 rfl (by decide) ?_
        cases hf
        exact x_iret hC dX7_about_18 hQ rfl rfl

theorem hd_X7_isHere : yX7_isHere.cls = RX7 ∧ yX7_isHere.cls ≠ "java/lang/invoke/MethodHandle" ∧ yX7_isHere.cls ≠ "java/lang/invoke/VarHandle" ∧ (parseMethodDescriptor yX7_isHere.desc).map (fun d => d.parameters.length) = some 1 := by decide +kernel
theorem in_X7_isHere_X7 : ∀ w ∈ u_ws RX7 TX7 6, w ∈ wsX7_isHere := fun w h => List.mem_cons_of_mem _ (List.mem_append_left _ (List.mem_append_right _ h))
noncomputable def f_X7_isHere (v_now_members : Int32) (v_now_here : Int32) (p1 : Int32) : Option (Int32) := bd (f_X7_isMember v_now_members p1) fun R_1 => if R_1 = 0 then (some ((0 : Int32))) else (bd (f_X5_isHere v_now_here p1) fun R_3 => if R_3 = 0 then (some ((0 : Int32))) else (some ((1 : Int32))))
set_option maxHeartbeats 4000000 in
set_option maxRecDepth 100000 in
theorem c_X7_isHere (l : Launch) (D : va_G) (cI cJ cQ : ClassId) (a_this : Nat) (a_now : Nat) (r_history : Value) (r_open : Value) (r_search : Value) (r_planned : Value) (r_now_values : Value) (r_now_greatest : Value) (r_now_least : Value) (r_now_heard : Value) (r_now_joined : Value) (r_now_tickets : Value) (r_now_masses : Value) (r_now_books : Value) (r_now_owed : Value) (r_now_letters : Value) (v_plannedTalks : Int32) (v_now_members : Int32) (v_now_here : Int32) (v_now_seed : Int32) (v_now_talks : Int32) (p1 : Int32) (R0 : Int32) (hf : f_X7_isHere v_now_members v_now_here p1 = some R0) : Ci l yX7_isHere wsX7_isHere ({ frames := 2, cells := 0, slots := 0, locals := 83 } : Room) D [(cI, .int), (cJ, .long), (cQ, .object "WhisperCrowd$State")] [.ref a_this, .int p1] [(a_this, .inr (7, [.ref a_now, r_history, r_open, r_search, r_planned, .int v_plannedTalks])), (a_now, .inr (5, [.int v_now_members, .int v_now_here, .int v_now_seed, .int v_now_talks, r_now_values, r_now_greatest, r_now_least, r_now_heard, r_now_joined, r_now_tickets, r_now_masses, r_now_books, r_now_owed, r_now_letters]))] [(a_this, .inr (7, [.ref a_now, r_history, r_open, r_search, r_planned, .int v_plannedTalks])), (a_now, .inr (5, [.int v_now_members, .int v_now_here, .int v_now_seed, .int v_now_talks, r_now_values, r_now_greatest, r_now_least, r_now_heard, r_now_joined, r_now_tickets, r_now_masses, r_now_books, r_now_owed, r_now_letters]))] R0 := by
  refine x_enti (cc := cX7_isHere) (maxL := 2) (rt := (some .boolean)) (lv := [(0, .ref a_this), (1, .int p1)]) (by decide) rfl (Nat.le_of_ble_eq_true rfl) rfl ?_
  intro p e s m args below meth c A Q hQ hC
  unfold f_X7_isHere at hf
  refine x_aload_n 1 0 hC dX7_isHere_0 rfl rfl rfl ?_
  refine x_iload_n 2 1 hC dX7_isHere_1 rfl rfl rfl ?_
  obtain ⟨R_1, h_R_1, hf⟩ := bd_e hf
  refine x_callVi 5 0 1 [0, 1] [(a_this, .inr (7, [.ref a_now, r_history, r_open, r_search, r_planned, .int v_plannedTalks])), (a_now, .inr (5, [.int v_now_members, .int v_now_here, .int v_now_seed, .int v_now_talks, r_now_values, r_now_greatest, r_now_least, r_now_heard, r_now_joined, r_now_tickets, r_now_masses, r_now_books, r_now_owed, r_now_letters]))] hC (As := [.int p1]) (c_X7_isMember l D cI cJ cQ a_this a_now r_history r_open r_search r_planned r_now_values r_now_greatest r_now_least r_now_heard r_now_joined r_now_tickets r_now_masses r_now_books r_now_owed r_now_letters v_plannedTalks v_now_members v_now_here v_now_seed v_now_talks p1 R_1 h_R_1) rfl rfl gX7_isHere_X7_isMember rfl ⟨rfl, rfl⟩ hd_X7_isMember ⟨Nat.le_of_ble_eq_true rfl, Nat.le_of_ble_eq_true rfl⟩ rfl rfl rfl rfl rfl rfl (Nat.le_of_ble_eq_true rfl) ⟨Nat.le_of_ble_eq_true rfl, Nat.le_of_ble_eq_true rfl⟩ dX7_isHere_2 rfl ?_
  refine x_if_eq 23 8 hC dX7_isHere_5 (by decide) rfl (fun c_2 => ?_) (fun c_2 => ?_)
  · have hf := if_t hf c_2
    refine x_iconst 24 hC (0 : Int32) dX7_isHere_23 rfl (by decide) ?_
    cases hf
    exact x_zret hC rfl dX7_isHere_24 hQ rfl rfl
  · have hf := if_f hf c_2
    refine x_aload_n 9 0 hC dX7_isHere_8 rfl rfl rfl ?_
    refine x_get 12 0 0 hC in_X7_isHere_X7 rfl rfl (by decide) (List.mem_of_getElem? (i := 1) (by decide +kernel)) rfl rfl dX7_isHere_9 rfl ?_
    refine x_iload_n 13 1 hC dX7_isHere_12 rfl rfl rfl ?_
    obtain ⟨R_3, h_R_3, hf⟩ := bd_e hf
    refine x_callVi 16 0 1 [1] [(a_this, .inr (7, [.ref a_now, r_history, r_open, r_search, r_planned, .int v_plannedTalks])), (a_now, .inr (5, [.int v_now_members, .int v_now_here, .int v_now_seed, .int v_now_talks, r_now_values, r_now_greatest, r_now_least, r_now_heard, r_now_joined, r_now_tickets, r_now_masses, r_now_books, r_now_owed, r_now_letters]))] hC (As := [.int p1]) (c_X5_isHere l D cI cJ cQ a_now r_now_values r_now_greatest r_now_least r_now_heard r_now_joined r_now_tickets r_now_masses r_now_books r_now_owed r_now_letters v_now_members v_now_here v_now_seed v_now_talks p1 R_3 h_R_3) rfl rfl gX7_isHere_X5_isHere rfl ⟨rfl, rfl⟩ hd_X5_isHere ⟨Nat.le_of_ble_eq_true rfl, Nat.le_of_ble_eq_true rfl⟩ rfl rfl rfl rfl rfl rfl (Nat.le_of_ble_eq_true rfl) ⟨Nat.le_of_ble_eq_true rfl, Nat.le_of_ble_eq_true rfl⟩ dX7_isHere_13 rfl ?_
    refine x_if_eq 23 19 hC dX7_isHere_16 (by decide) rfl (fun c_4 => ?_) (fun c_4 => ?_)
    · have hf := if_t hf c_4
      refine x_iconst 24 hC (0 : Int32) dX7_isHere_23 rfl (by decide) ?_
      cases hf
      exact x_zret hC rfl dX7_isHere_24 hQ rfl rfl
    · have hf := if_f hf c_4
      refine x_iconst 20 hC (1 : Int32) dX7_isHere_19 rfl (by decide) ?_
      refine x_goto 24 hC dX7_isHere_20 (by decide) ?_
      cases hf
      exact x_zret hC rfl dX7_isHere_24 hQ rfl rfl

theorem hd_X7_mass : yX7_mass.cls = RX7 ∧ yX7_mass.cls ≠ "java/lang/invoke/MethodHandle" ∧ yX7_mass.cls ≠ "java/lang/invoke/VarHandle" ∧ (parseMethodDescriptor yX7_mass.desc).map (fun d => d.parameters.length) = some 2 := by decide +kernel
theorem in_X7_mass_X7 : ∀ w ∈ u_ws RX7 TX7 6, w ∈ wsX7_mass := fun w h => List.mem_cons_of_mem _ (List.mem_append_left _ (List.mem_append_left _ (List.mem_append_right _ h)))
theorem in_X7_mass_X5 : ∀ w ∈ u_ws RX5 TX5 14, w ∈ wsX7_mass := fun w h => List.mem_cons_of_mem _ (List.mem_append_left _ (List.mem_append_right _ h))
noncomputable def f_X7_mass (v_now_members : Int32) (v_now_here : Int32) (v_now_masses_sums : Nat → Int64) (v_now_masses_weights : Nat → Int64) (p1 : Int32) (p2 : Int32) : Option (Int64) := bd (f_X7_isHere v_now_members v_now_here p1) fun R_1 => if R_1 = 0 then (some ((0 : Int64))) else (bd (f_X3_at 10 v_now_masses_sums v_now_masses_weights p1 p2) fun R_3 => some (R_3))
set_option maxHeartbeats 4000000 in
set_option maxRecDepth 100000 in
theorem c_X7_mass (l : Launch) (D : va_G) (cI cJ cQ : ClassId) (a_this : Nat) (a_now : Nat) (a_now_masses : Nat) (a_now_masses_sums : Nat) (a_now_masses_weights : Nat) (r_history : Value) (r_open : Value) (r_search : Value) (r_planned : Value) (r_now_values : Value) (r_now_greatest : Value) (r_now_least : Value) (r_now_heard : Value) (r_now_joined : Value) (r_now_tickets : Value) (r_now_books : Value) (r_now_owed : Value) (r_now_letters : Value) (v_plannedTalks : Int32) (v_now_members : Int32) (v_now_here : Int32) (v_now_seed : Int32) (v_now_talks : Int32) (v_now_masses_sums : Nat → Int64) (v_now_masses_weights : Nat → Int64) (p1 : Int32) (p2 : Int32) (R0 : Int64) (hf : f_X7_mass v_now_members v_now_here v_now_masses_sums v_now_masses_weights p1 p2 = some R0) : Cl l yX7_mass wsX7_mass ({ frames := 3, cells := 0, slots := 0, locals := 106 } : Room) D [(cI, .int), (cJ, .long), (cQ, .object "WhisperCrowd$State")] [.ref a_this, .int p1, .int p2] [(a_this, .inr (7, [.ref a_now, r_history, r_open, r_search, r_planned, .int v_plannedTalks])), (a_now, .inr (5, [.int v_now_members, .int v_now_here, .int v_now_seed, .int v_now_talks, r_now_values, r_now_greatest, r_now_least, r_now_heard, r_now_joined, r_now_tickets, .ref a_now_masses, r_now_books, r_now_owed, r_now_letters])), (a_now_masses, .inr (3, [.ref a_now_masses_sums, .ref a_now_masses_weights])), (a_now_masses_sums, .inl (cJ, 10, .inr (.inl v_now_masses_sums))), (a_now_masses_weights, .inl (cJ, 10, .inr (.inl v_now_masses_weights)))] [(a_this, .inr (7, [.ref a_now, r_history, r_open, r_search, r_planned, .int v_plannedTalks])), (a_now, .inr (5, [.int v_now_members, .int v_now_here, .int v_now_seed, .int v_now_talks, r_now_values, r_now_greatest, r_now_least, r_now_heard, r_now_joined, r_now_tickets, .ref a_now_masses, r_now_books, r_now_owed, r_now_letters])), (a_now_masses, .inr (3, [.ref a_now_masses_sums, .ref a_now_masses_weights])), (a_now_masses_sums, .inl (cJ, 10, .inr (.inl v_now_masses_sums))), (a_now_masses_weights, .inl (cJ, 10, .inr (.inl v_now_masses_weights)))] R0 := by
  refine x_entl (cc := cX7_mass) (maxL := 3) (rt := (some .long)) (lv := [(0, .ref a_this), (1, .int p1), (2, .int p2)]) (by decide) rfl (Nat.le_of_ble_eq_true rfl) rfl ?_
  intro p e s m args below meth c A Q hQ hC
  unfold f_X7_mass at hf
  refine x_aload_n 1 0 hC dX7_mass_0 rfl rfl rfl ?_
  refine x_iload_n 2 1 hC dX7_mass_1 rfl rfl rfl ?_
  obtain ⟨R_1, h_R_1, hf⟩ := bd_e hf
  refine x_callVi 5 0 1 [0, 1] [(a_this, .inr (7, [.ref a_now, r_history, r_open, r_search, r_planned, .int v_plannedTalks])), (a_now, .inr (5, [.int v_now_members, .int v_now_here, .int v_now_seed, .int v_now_talks, r_now_values, r_now_greatest, r_now_least, r_now_heard, r_now_joined, r_now_tickets, .ref a_now_masses, r_now_books, r_now_owed, r_now_letters])), (a_now_masses, .inr (3, [.ref a_now_masses_sums, .ref a_now_masses_weights])), (a_now_masses_sums, .inl (cJ, 10, .inr (.inl v_now_masses_sums))), (a_now_masses_weights, .inl (cJ, 10, .inr (.inl v_now_masses_weights)))] hC (As := [.int p1]) (c_X7_isHere l D cI cJ cQ a_this a_now r_history r_open r_search r_planned r_now_values r_now_greatest r_now_least r_now_heard r_now_joined r_now_tickets (.ref a_now_masses) r_now_books r_now_owed r_now_letters v_plannedTalks v_now_members v_now_here v_now_seed v_now_talks p1 R_1 h_R_1) rfl rfl gX7_mass_X7_isHere rfl ⟨rfl, rfl⟩ hd_X7_isHere ⟨Nat.le_of_ble_eq_true rfl, Nat.le_of_ble_eq_true rfl⟩ rfl rfl rfl rfl rfl rfl (Nat.le_of_ble_eq_true rfl) ⟨Nat.le_of_ble_eq_true rfl, Nat.le_of_ble_eq_true rfl⟩ dX7_mass_2 rfl ?_
  refine x_if_eq 23 8 hC dX7_mass_5 (by decide) rfl (fun c_2 => ?_) (fun c_2 => ?_)
  · have hf := if_t hf c_2
    refine x_lconst 24 hC (0 : Int64) dX7_mass_23 rfl (by decide) ?_
    cases hf
    exact x_lret hC dX7_mass_24 hQ rfl rfl
  · have hf := if_f hf c_2
    refine x_aload_n 9 0 hC dX7_mass_8 rfl rfl rfl ?_
    refine x_get 12 0 0 hC in_X7_mass_X7 rfl rfl (by decide) (List.mem_of_getElem? (i := 1) (by decide +kernel)) rfl rfl dX7_mass_9 rfl ?_
    refine x_get 15 1 10 hC in_X7_mass_X5 rfl rfl (by decide) (List.mem_of_getElem? (i := 2) (by decide +kernel)) rfl rfl dX7_mass_12 rfl ?_
    refine x_iload_n 16 1 hC dX7_mass_15 rfl rfl rfl ?_
    refine x_iload_n 17 2 hC dX7_mass_16 rfl rfl rfl ?_
    obtain ⟨R_3, h_R_3, hf⟩ := bd_e hf
    refine x_callVl 20 0 2 [2, 3, 4] [(a_this, .inr (7, [.ref a_now, r_history, r_open, r_search, r_planned, .int v_plannedTalks])), (a_now, .inr (5, [.int v_now_members, .int v_now_here, .int v_now_seed, .int v_now_talks, r_now_values, r_now_greatest, r_now_least, r_now_heard, r_now_joined, r_now_tickets, .ref a_now_masses, r_now_books, r_now_owed, r_now_letters])), (a_now_masses, .inr (3, [.ref a_now_masses_sums, .ref a_now_masses_weights])), (a_now_masses_sums, .inl (cJ, 10, .inr (.inl v_now_masses_sums))), (a_now_masses_weights, .inl (cJ, 10, .inr (.inl v_now_masses_weights)))] hC (As := [.int p1, .int p2]) (c_X3_at l D cI cJ cQ a_now_masses a_now_masses_sums a_now_masses_weights 10 v_now_masses_sums v_now_masses_weights p1 p2 R_3 h_R_3) rfl rfl gX7_mass_X3_at rfl ⟨rfl, rfl⟩ hd_X3_at ⟨Nat.le_of_ble_eq_true rfl, Nat.le_of_ble_eq_true rfl⟩ rfl rfl rfl rfl rfl rfl (Nat.le_of_ble_eq_true rfl) ⟨Nat.le_of_ble_eq_true rfl, Nat.le_of_ble_eq_true rfl⟩ dX7_mass_17 rfl ?_
    refine x_goto 24 hC dX7_mass_20 (by decide) ?_
    cases hf
    exact x_lret hC dX7_mass_24 hQ rfl rfl

theorem hd_X7_hasGuess : yX7_hasGuess.cls = RX7 ∧ yX7_hasGuess.cls ≠ "java/lang/invoke/MethodHandle" ∧ yX7_hasGuess.cls ≠ "java/lang/invoke/VarHandle" ∧ (parseMethodDescriptor yX7_hasGuess.desc).map (fun d => d.parameters.length) = some 1 := by decide +kernel
theorem in_X7_hasGuess_X7 : ∀ w ∈ u_ws RX7 TX7 6, w ∈ wsX7_hasGuess := fun w h => List.mem_cons_of_mem _ (List.mem_append_left _ (List.mem_append_left _ (List.mem_append_right _ h)))
theorem in_X7_hasGuess_X5 : ∀ w ∈ u_ws RX5 TX5 14, w ∈ wsX7_hasGuess := fun w h => List.mem_cons_of_mem _ (List.mem_append_left _ (List.mem_append_right _ h))
noncomputable def f_X7_hasGuess (v_now_members : Int32) (v_now_here : Int32) (v_now_masses_sums : Nat → Int64) (v_now_masses_weights : Nat → Int64) (p1 : Int32) : Option (Int32) := bd (f_X7_isHere v_now_members v_now_here p1) fun R_1 => if R_1 = 0 then (some ((0 : Int32))) else (bd (f_X3_at 10 v_now_masses_sums v_now_masses_weights p1 (1 : Int32)) fun R_3 => if R_3 ≤ (0 : Int64) then (some ((0 : Int32))) else (some ((1 : Int32))))
set_option maxHeartbeats 4000000 in
set_option maxRecDepth 100000 in
theorem c_X7_hasGuess (l : Launch) (D : va_G) (cI cJ cQ : ClassId) (a_this : Nat) (a_now : Nat) (a_now_masses : Nat) (a_now_masses_sums : Nat) (a_now_masses_weights : Nat) (r_history : Value) (r_open : Value) (r_search : Value) (r_planned : Value) (r_now_values : Value) (r_now_greatest : Value) (r_now_least : Value) (r_now_heard : Value) (r_now_joined : Value) (r_now_tickets : Value) (r_now_books : Value) (r_now_owed : Value) (r_now_letters : Value) (v_plannedTalks : Int32) (v_now_members : Int32) (v_now_here : Int32) (v_now_seed : Int32) (v_now_talks : Int32) (v_now_masses_sums : Nat → Int64) (v_now_masses_weights : Nat → Int64) (p1 : Int32) (R0 : Int32) (hf : f_X7_hasGuess v_now_members v_now_here v_now_masses_sums v_now_masses_weights p1 = some R0) : Ci l yX7_hasGuess wsX7_hasGuess ({ frames := 3, cells := 0, slots := 0, locals := 106 } : Room) D [(cI, .int), (cJ, .long), (cQ, .object "WhisperCrowd$State")] [.ref a_this, .int p1] [(a_this, .inr (7, [.ref a_now, r_history, r_open, r_search, r_planned, .int v_plannedTalks])), (a_now, .inr (5, [.int v_now_members, .int v_now_here, .int v_now_seed, .int v_now_talks, r_now_values, r_now_greatest, r_now_least, r_now_heard, r_now_joined, r_now_tickets, .ref a_now_masses, r_now_books, r_now_owed, r_now_letters])), (a_now_masses, .inr (3, [.ref a_now_masses_sums, .ref a_now_masses_weights])), (a_now_masses_sums, .inl (cJ, 10, .inr (.inl v_now_masses_sums))), (a_now_masses_weights, .inl (cJ, 10, .inr (.inl v_now_masses_weights)))] [(a_this, .inr (7, [.ref a_now, r_history, r_open, r_search, r_planned, .int v_plannedTalks])), (a_now, .inr (5, [.int v_now_members, .int v_now_here, .int v_now_seed, .int v_now_talks, r_now_values, r_now_greatest, r_now_least, r_now_heard, r_now_joined, r_now_tickets, .ref a_now_masses, r_now_books, r_now_owed, r_now_letters])), (a_now_masses, .inr (3, [.ref a_now_masses_sums, .ref a_now_masses_weights])), (a_now_masses_sums, .inl (cJ, 10, .inr (.inl v_now_masses_sums))), (a_now_masses_weights, .inl (cJ, 10, .inr (.inl v_now_masses_weights)))] R0 := by
  refine x_enti (cc := cX7_hasGuess) (maxL := 2) (rt := (some .boolean)) (lv := [(0, .ref a_this), (1, .int p1)]) (by decide) rfl (Nat.le_of_ble_eq_true rfl) rfl ?_
  intro p e s m args below meth c A Q hQ hC
  unfold f_X7_hasGuess at hf
  refine x_aload_n 1 0 hC dX7_hasGuess_0 rfl rfl rfl ?_
  refine x_iload_n 2 1 hC dX7_hasGuess_1 rfl rfl rfl ?_
  obtain ⟨R_1, h_R_1, hf⟩ := bd_e hf
  refine x_callVi 5 0 1 [0, 1] [(a_this, .inr (7, [.ref a_now, r_history, r_open, r_search, r_planned, .int v_plannedTalks])), (a_now, .inr (5, [.int v_now_members, .int v_now_here, .int v_now_seed, .int v_now_talks, r_now_values, r_now_greatest, r_now_least, r_now_heard, r_now_joined, r_now_tickets, .ref a_now_masses, r_now_books, r_now_owed, r_now_letters])), (a_now_masses, .inr (3, [.ref a_now_masses_sums, .ref a_now_masses_weights])), (a_now_masses_sums, .inl (cJ, 10, .inr (.inl v_now_masses_sums))), (a_now_masses_weights, .inl (cJ, 10, .inr (.inl v_now_masses_weights)))] hC (As := [.int p1]) (c_X7_isHere l D cI cJ cQ a_this a_now r_history r_open r_search r_planned r_now_values r_now_greatest r_now_least r_now_heard r_now_joined r_now_tickets (.ref a_now_masses) r_now_books r_now_owed r_now_letters v_plannedTalks v_now_members v_now_here v_now_seed v_now_talks p1 R_1 h_R_1) rfl rfl gX7_hasGuess_X7_isHere rfl ⟨rfl, rfl⟩ hd_X7_isHere ⟨Nat.le_of_ble_eq_true rfl, Nat.le_of_ble_eq_true rfl⟩ rfl rfl rfl rfl rfl rfl (Nat.le_of_ble_eq_true rfl) ⟨Nat.le_of_ble_eq_true rfl, Nat.le_of_ble_eq_true rfl⟩ dX7_hasGuess_2 rfl ?_
  refine x_if_eq 29 8 hC dX7_hasGuess_5 (by decide) rfl (fun c_2 => ?_) (fun c_2 => ?_)
  · have hf := if_t hf c_2
    refine x_iconst 30 hC (0 : Int32) dX7_hasGuess_29 rfl (by decide) ?_
    cases hf
    exact x_zret hC rfl dX7_hasGuess_30 hQ rfl rfl
  · have hf := if_f hf c_2
    refine x_aload_n 9 0 hC dX7_hasGuess_8 rfl rfl rfl ?_
    refine x_get 12 0 0 hC in_X7_hasGuess_X7 rfl rfl (by decide) (List.mem_of_getElem? (i := 1) (by decide +kernel)) rfl rfl dX7_hasGuess_9 rfl ?_
    refine x_get 15 1 10 hC in_X7_hasGuess_X5 rfl rfl (by decide) (List.mem_of_getElem? (i := 2) (by decide +kernel)) rfl rfl dX7_hasGuess_12 rfl ?_
    refine x_iload_n 16 1 hC dX7_hasGuess_15 rfl rfl rfl ?_
    refine x_iconst 17 hC (1 : Int32) dX7_hasGuess_16 rfl (by decide) ?_
    obtain ⟨R_3, h_R_3, hf⟩ := bd_e hf
    refine x_callVl 20 0 2 [2, 3, 4] [(a_this, .inr (7, [.ref a_now, r_history, r_open, r_search, r_planned, .int v_plannedTalks])), (a_now, .inr (5, [.int v_now_members, .int v_now_here, .int v_now_seed, .int v_now_talks, r_now_values, r_now_greatest, r_now_least, r_now_heard, r_now_joined, r_now_tickets, .ref a_now_masses, r_now_books, r_now_owed, r_now_letters])), (a_now_masses, .inr (3, [.ref a_now_masses_sums, .ref a_now_masses_weights])), (a_now_masses_sums, .inl (cJ, 10, .inr (.inl v_now_masses_sums))), (a_now_masses_weights, .inl (cJ, 10, .inr (.inl v_now_masses_weights)))] hC (As := [.int p1, .int (1 : Int32)]) (c_X3_at l D cI cJ cQ a_now_masses a_now_masses_sums a_now_masses_weights 10 v_now_masses_sums v_now_masses_weights p1 (1 : Int32) R_3 h_R_3) rfl rfl gX7_hasGuess_X3_at rfl ⟨rfl, rfl⟩ hd_X3_at ⟨Nat.le_of_ble_eq_true rfl, Nat.le_of_ble_eq_true rfl⟩ rfl rfl rfl rfl rfl rfl (Nat.le_of_ble_eq_true rfl) ⟨Nat.le_of_ble_eq_true rfl, Nat.le_of_ble_eq_true rfl⟩ dX7_hasGuess_17 rfl ?_
    refine x_lconst 21 hC (0 : Int64) dX7_hasGuess_20 rfl (by decide) ?_
    refine x_lcmp_le 29 25 hC dX7_hasGuess_21 dX7_hasGuess_22 (by decide) rfl (fun c_4 => ?_) (fun c_4 => ?_)
    · have hf := if_t hf c_4
      refine x_iconst 30 hC (0 : Int32) dX7_hasGuess_29 rfl (by decide) ?_
      cases hf
      exact x_zret hC rfl dX7_hasGuess_30 hQ rfl rfl
    · have hf := if_f hf c_4
      refine x_iconst 26 hC (1 : Int32) dX7_hasGuess_25 rfl (by decide) ?_
      refine x_goto 30 hC dX7_hasGuess_26 (by decide) ?_
      cases hf
      exact x_zret hC rfl dX7_hasGuess_30 hQ rfl rfl

theorem hd_X7_guessOf : yX7_guessOf.cls = RX7 ∧ yX7_guessOf.cls ≠ "java/lang/invoke/MethodHandle" ∧ yX7_guessOf.cls ≠ "java/lang/invoke/VarHandle" ∧ (parseMethodDescriptor yX7_guessOf.desc).map (fun d => d.parameters.length) = some 1 := by decide +kernel
theorem in_X7_guessOf_X7 : ∀ w ∈ u_ws RX7 TX7 6, w ∈ wsX7_guessOf := fun w h => List.mem_cons_of_mem _ (List.mem_append_left _ (List.mem_append_left _ (List.mem_append_right _ h)))
theorem in_X7_guessOf_X5 : ∀ w ∈ u_ws RX5 TX5 14, w ∈ wsX7_guessOf := fun w h => List.mem_cons_of_mem _ (List.mem_append_left _ (List.mem_append_right _ h))
noncomputable def f_X7_guessOf (v_now_masses_sums : Nat → Int64) (v_now_masses_weights : Nat → Int64) (p1 : Int32) : Option (UInt64) := bd (f_X3_at 10 v_now_masses_sums v_now_masses_weights p1 (0 : Int32)) fun R_1 => bd (f_X3_at 10 v_now_masses_sums v_now_masses_weights p1 (1 : Int32)) fun R_2 => ckp (FP.ddiv (FP.l2d R_1) (FP.l2d R_2) &&& 0x7fffffffffffffff ≤ 0x7ff0000000000000) (Classical.propDecidable _) <| some ((FP.ddiv (FP.l2d R_1) (FP.l2d R_2)))
set_option maxHeartbeats 4000000 in
set_option maxRecDepth 100000 in
theorem c_X7_guessOf (l : Launch) (D : va_G) (cI cJ cQ : ClassId) (a_this : Nat) (a_now : Nat) (a_now_masses : Nat) (a_now_masses_sums : Nat) (a_now_masses_weights : Nat) (r_history : Value) (r_open : Value) (r_search : Value) (r_planned : Value) (r_now_values : Value) (r_now_greatest : Value) (r_now_least : Value) (r_now_heard : Value) (r_now_joined : Value) (r_now_tickets : Value) (r_now_books : Value) (r_now_owed : Value) (r_now_letters : Value) (v_plannedTalks : Int32) (v_now_members : Int32) (v_now_here : Int32) (v_now_seed : Int32) (v_now_talks : Int32) (v_now_masses_sums : Nat → Int64) (v_now_masses_weights : Nat → Int64) (p1 : Int32) (R0 : UInt64) (hf : f_X7_guessOf v_now_masses_sums v_now_masses_weights p1 = some R0) : Cd l yX7_guessOf wsX7_guessOf ({ frames := 2, cells := 0, slots := 0, locals := 84 } : Room) D [(cI, .int), (cJ, .long), (cQ, .object "WhisperCrowd$State")] [.ref a_this, .int p1] [(a_this, .inr (7, [.ref a_now, r_history, r_open, r_search, r_planned, .int v_plannedTalks])), (a_now, .inr (5, [.int v_now_members, .int v_now_here, .int v_now_seed, .int v_now_talks, r_now_values, r_now_greatest, r_now_least, r_now_heard, r_now_joined, r_now_tickets, .ref a_now_masses, r_now_books, r_now_owed, r_now_letters])), (a_now_masses, .inr (3, [.ref a_now_masses_sums, .ref a_now_masses_weights])), (a_now_masses_sums, .inl (cJ, 10, .inr (.inl v_now_masses_sums))), (a_now_masses_weights, .inl (cJ, 10, .inr (.inl v_now_masses_weights)))] [(a_this, .inr (7, [.ref a_now, r_history, r_open, r_search, r_planned, .int v_plannedTalks])), (a_now, .inr (5, [.int v_now_members, .int v_now_here, .int v_now_seed, .int v_now_talks, r_now_values, r_now_greatest, r_now_least, r_now_heard, r_now_joined, r_now_tickets, .ref a_now_masses, r_now_books, r_now_owed, r_now_letters])), (a_now_masses, .inr (3, [.ref a_now_masses_sums, .ref a_now_masses_weights])), (a_now_masses_sums, .inl (cJ, 10, .inr (.inl v_now_masses_sums))), (a_now_masses_weights, .inl (cJ, 10, .inr (.inl v_now_masses_weights)))] R0 := by
  refine x_entd (cc := cX7_guessOf) (maxL := 2) (rt := (some .double)) (lv := [(0, .ref a_this), (1, .int p1)]) (by decide) rfl (Nat.le_of_ble_eq_true rfl) rfl ?_
  intro p e s m args below meth c A Q hQ hC
  unfold f_X7_guessOf at hf
  refine x_aload_n 1 0 hC dX7_guessOf_0 rfl rfl rfl ?_
  refine x_get 4 0 0 hC in_X7_guessOf_X7 rfl rfl (by decide) (List.mem_of_getElem? (i := 1) (by decide +kernel)) rfl rfl dX7_guessOf_1 rfl ?_
  refine x_get 7 1 10 hC in_X7_guessOf_X5 rfl rfl (by decide) (List.mem_of_getElem? (i := 2) (by decide +kernel)) rfl rfl dX7_guessOf_4 rfl ?_
  refine x_iload_n 8 1 hC dX7_guessOf_7 rfl rfl rfl ?_
  refine x_iconst 9 hC (0 : Int32) dX7_guessOf_8 rfl (by decide) ?_
  obtain ⟨R_1, h_R_1, hf⟩ := bd_e hf
  refine x_callVl 12 0 2 [2, 3, 4] [(a_this, .inr (7, [.ref a_now, r_history, r_open, r_search, r_planned, .int v_plannedTalks])), (a_now, .inr (5, [.int v_now_members, .int v_now_here, .int v_now_seed, .int v_now_talks, r_now_values, r_now_greatest, r_now_least, r_now_heard, r_now_joined, r_now_tickets, .ref a_now_masses, r_now_books, r_now_owed, r_now_letters])), (a_now_masses, .inr (3, [.ref a_now_masses_sums, .ref a_now_masses_weights])), (a_now_masses_sums, .inl (cJ, 10, .inr (.inl v_now_masses_sums))), (a_now_masses_weights, .inl (cJ, 10, .inr (.inl v_now_masses_weights)))] hC (As := [.int p1, .int (0 : Int32)]) (c_X3_at l D cI cJ cQ a_now_masses a_now_masses_sums a_now_masses_weights 10 v_now_masses_sums v_now_masses_weights p1 (0 : Int32) R_1 h_R_1) rfl rfl gX7_guessOf_X3_at rfl ⟨rfl, rfl⟩ hd_X3_at ⟨Nat.le_of_ble_eq_true rfl, Nat.le_of_ble_eq_true rfl⟩ rfl rfl rfl rfl rfl rfl (Nat.le_of_ble_eq_true rfl) ⟨Nat.le_of_ble_eq_true rfl, Nat.le_of_ble_eq_true rfl⟩ dX7_guessOf_9 rfl ?_
  refine x_l2d 13 hC dX7_guessOf_12 rfl ?_
  refine x_aload_n 14 0 hC dX7_guessOf_13 rfl rfl rfl ?_
  refine x_get 17 0 0 hC in_X7_guessOf_X7 rfl rfl (by decide) (List.mem_of_getElem? (i := 1) (by decide +kernel)) rfl rfl dX7_guessOf_14 rfl ?_
  refine x_get 20 1 10 hC in_X7_guessOf_X5 rfl rfl (by decide) (List.mem_of_getElem? (i := 2) (by decide +kernel)) rfl rfl dX7_guessOf_17 rfl ?_
  refine x_iload_n 21 1 hC dX7_guessOf_20 rfl rfl rfl ?_
  refine x_iconst 22 hC (1 : Int32) dX7_guessOf_21 rfl (by decide) ?_
  obtain ⟨R_2, h_R_2, hf⟩ := bd_e hf
  refine x_callVl 25 0 2 [2, 3, 4] [(a_this, .inr (7, [.ref a_now, r_history, r_open, r_search, r_planned, .int v_plannedTalks])), (a_now, .inr (5, [.int v_now_members, .int v_now_here, .int v_now_seed, .int v_now_talks, r_now_values, r_now_greatest, r_now_least, r_now_heard, r_now_joined, r_now_tickets, .ref a_now_masses, r_now_books, r_now_owed, r_now_letters])), (a_now_masses, .inr (3, [.ref a_now_masses_sums, .ref a_now_masses_weights])), (a_now_masses_sums, .inl (cJ, 10, .inr (.inl v_now_masses_sums))), (a_now_masses_weights, .inl (cJ, 10, .inr (.inl v_now_masses_weights)))] hC (As := [.int p1, .int (1 : Int32)]) (c_X3_at l D cI cJ cQ a_now_masses a_now_masses_sums a_now_masses_weights 10 v_now_masses_sums v_now_masses_weights p1 (1 : Int32) R_2 h_R_2) rfl rfl gX7_guessOf_X3_at rfl ⟨rfl, rfl⟩ hd_X3_at ⟨Nat.le_of_ble_eq_true rfl, Nat.le_of_ble_eq_true rfl⟩ rfl rfl rfl rfl rfl rfl (Nat.le_of_ble_eq_true rfl) ⟨Nat.le_of_ble_eq_true rfl, Nat.le_of_ble_eq_true rfl⟩ dX7_guessOf_22 rfl ?_
  refine x_l2d 26 hC dX7_guessOf_25 rfl ?_
  obtain ⟨h_3, hf⟩ := ckp_e hf
  refine x_ddiv 27 hC dX7_guessOf_26 rfl h_3 ?_
  cases hf
  exact x_dret hC dX7_guessOf_27 hQ rfl rfl

theorem hd_X7_bitsOf : yX7_bitsOf.cls ≠ "java/lang/invoke/MethodHandle" ∧ yX7_bitsOf.cls ≠ "java/lang/invoke/VarHandle" ∧ (parseMethodDescriptor yX7_bitsOf.desc).map (fun d => d.parameters.length) = some 1 := by decide +kernel
noncomputable def f_X7_bitsOf_c78 (k78_l0 : UInt64) (k78_l2 : UInt64) (k78_l4 : Int32) : Option (Int64) := nm (((k78_l4 + (1023 : Int32)).toInt64) <<< ((52 : Int32).toInt64 &&& 63)) fun x_1 => ckp (FP.dsub k78_l2 FP.dconst1 &&& 0x7fffffffffffffff ≤ 0x7ff0000000000000) (Classical.propDecidable _) <| ckp (FP.dmul (FP.dsub k78_l2 FP.dconst1) (4841369599423283200 : UInt64) &&& 0x7fffffffffffffff ≤ 0x7ff0000000000000) (Classical.propDecidable _) <| nm (x_1 + (FP.d2l (FP.dmul (FP.dsub k78_l2 FP.dconst1) (4841369599423283200 : UInt64)))) fun x_4 => if 0 ≤ (Op.cmpValue (FP.dcmp k78_l0 FP.dconst0) .g) then (some (x_4)) else (some ((x_4 ||| (-9223372036854775808 : Int64))))
noncomputable def f_X7_bitsOf_c52 : Nat → UInt64 → UInt64 → Int32 → Option (Int64)
  | 0, _, _, _ => none
  | n + 1, k52_l0, k52_l2, k52_l4 => if 0 ≤ (Op.cmpValue (FP.dcmp k52_l2 FP.dconst1) .g) then (f_X7_bitsOf_c78 k52_l0 k52_l2 k52_l4) else (if k52_l4 ≤ (-1022 : Int32) then (f_X7_bitsOf_c78 k52_l0 k52_l2 k52_l4) else (ckp (FP.dmul k52_l2 (4611686018427387904 : UInt64) &&& 0x7fffffffffffffff ≤ 0x7ff0000000000000) (Classical.propDecidable _) <| nm (FP.dmul k52_l2 (4611686018427387904 : UInt64)) fun x_9 => nm (k52_l4 + (-1 : Int32)) fun x_10 => (fun k52_l0 k52_l2 k52_l4 => f_X7_bitsOf_c52 n k52_l0 k52_l2 k52_l4) k52_l0 x_9 x_10))
noncomputable def f_X7_bitsOf_c24 : Nat → UInt64 → UInt64 → Int32 → Option (Int64)
  | 0, _, _, _ => none
  | n + 1, k24_l0, k24_l2, k24_l4 => if (Op.cmpValue (FP.dcmp k24_l2 (4611686018427387904 : UInt64)) .l) < 0 then (f_X7_bitsOf_c52 fu k24_l0 k24_l2 k24_l4) else (if (1023 : Int32) ≤ k24_l4 then (f_X7_bitsOf_c52 fu k24_l0 k24_l2 k24_l4) else (ckp (FP.dmul k24_l2 (4602678819172646912 : UInt64) &&& 0x7fffffffffffffff ≤ 0x7ff0000000000000) (Classical.propDecidable _) <| nm (FP.dmul k24_l2 (4602678819172646912 : UInt64)) fun x_14 => nm (k24_l4 + (1 : Int32)) fun x_15 => (fun k24_l0 k24_l2 k24_l4 => f_X7_bitsOf_c24 n k24_l0 k24_l2 k24_l4) k24_l0 x_14 x_15))
noncomputable def f_X7_bitsOf_c20 (k20_l0 : UInt64) (k20_s0 : UInt64) : Option (Int64) := f_X7_bitsOf_c24 fu k20_l0 k20_s0 (0 : Int32)
noncomputable def f_X7_bitsOf (p1 : UInt64) : Option (Int64) := if ¬ (Op.cmpValue (FP.dcmp p1 FP.dconst0) .l) = 0 then (if 0 ≤ (Op.cmpValue (FP.dcmp p1 FP.dconst0) .g) then (f_X7_bitsOf_c20 p1 p1) else (f_X7_bitsOf_c20 p1 (FP.dneg p1))) else (some ((0 : Int64)))
set_option maxHeartbeats 4000000 in
set_option maxRecDepth 100000 in
theorem c_X7_bitsOf (l : Launch) (D : va_G) (cI cJ cQ : ClassId) (p1 : UInt64) (R0 : Int64) (hf : f_X7_bitsOf p1 = some R0) : Cl l yX7_bitsOf wsX7_bitsOf ({ frames := 1, cells := 0, slots := 0, locals := 60 } : Room) D [(cI, .int), (cJ, .long), (cQ, .object "WhisperCrowd$State")] [.double p1] [] [] R0 := by
  refine x_entl (cc := cX7_bitsOf) (maxL := 7) (rt := (some .long)) (lv := [(0, .double p1)]) (by decide) rfl (Nat.le_of_ble_eq_true rfl) rfl ?_
  intro p e s m args below meth c A Q hQ hC
  have J_78 : ∀ (k78_l0 : UInt64) (k78_l2 : UInt64) (k78_l4 : Int32), f_X7_bitsOf_c78 k78_l0 k78_l2 k78_l4 = some R0 → XW p l e ({ frames := 1, cells := 0, slots := 0, locals := 60 } : Room) s m args below meth c D A 7 0 0 Q [] [] [(0, .double k78_l0), (2, .double k78_l2), (4, .int k78_l4)] 78 [] := by
    intro k78_l0 k78_l2 k78_l4 hf
    unfold f_X7_bitsOf_c78 at hf
    refine x_iload 80 2 hC dX7_bitsOf_78 rfl rfl ?_
    refine x_sipush 83 hC (1023 : Int32) dX7_bitsOf_80 rfl (by decide) ?_
    refine x_iadd 84 hC dX7_bitsOf_83 rfl ?_
    refine x_i2l 85 hC dX7_bitsOf_84 rfl ?_
    refine x_bipush 87 hC (52 : Int32) dX7_bitsOf_85 rfl (by decide) ?_
    refine x_lshl 88 hC dX7_bitsOf_87 rfl ?_
    obtain ⟨x_1, e_x_1, hf⟩ := nmx_e hf
    refine x_lstore 90 [(5, .long x_1), (0, .double k78_l0), (2, .double k78_l2), (4, .int k78_l4)] hC dX7_bitsOf_88 rfl e_x_1 (by decide) rfl ?_
    refine x_lload 92 0 hC dX7_bitsOf_90 rfl rfl ?_
    refine x_dload_n 93 2 hC dX7_bitsOf_92 rfl rfl rfl ?_
    refine x_dconst1 94 hC dX7_bitsOf_93 rfl ?_
    obtain ⟨h_2, hf⟩ := ckp_e hf
    refine x_dsub 95 hC dX7_bitsOf_94 rfl h_2 ?_
    refine x_ldc2d 98 hC (v := (4841369599423283200 : UInt64)) (List.mem_of_getElem? (i := 3) (by decide +kernel)) dX7_bitsOf_95 rfl ?_
    obtain ⟨h_3, hf⟩ := ckp_e hf
    refine x_dmul 99 hC dX7_bitsOf_98 rfl h_3 ?_
    refine x_d2l 100 hC dX7_bitsOf_99 rfl ?_
    refine x_ladd 101 hC dX7_bitsOf_100 rfl ?_
    obtain ⟨x_4, e_x_4, hf⟩ := nmx_e hf
    refine x_lstore 103 [(5, .long x_4), (0, .double k78_l0), (2, .double k78_l2), (4, .int k78_l4)] hC dX7_bitsOf_101 rfl e_x_4 (by decide) rfl ?_
    refine x_dload_n 104 1 hC dX7_bitsOf_103 rfl rfl rfl ?_
    refine x_dconst0 105 hC dX7_bitsOf_104 rfl ?_
    refine x_dcmp 106 hC dX7_bitsOf_105 rfl ?_
    refine x_if_ge 118 109 hC dX7_bitsOf_106 (by decide) rfl (fun c_5 => ?_) (fun c_5 => ?_)
    · have hf := if_t hf c_5
      refine x_lload 120 0 hC dX7_bitsOf_118 rfl rfl ?_
      cases hf
      exact x_lret hC dX7_bitsOf_120 hQ rfl rfl
    · have hf := if_f hf c_5
      refine x_lload 111 0 hC dX7_bitsOf_109 rfl rfl ?_
      refine x_ldc2 114 hC (v := (-9223372036854775808 : Int64)) (List.mem_of_getElem? (i := 4) (by decide +kernel)) dX7_bitsOf_111 rfl ?_
      refine x_lor 115 hC dX7_bitsOf_114 rfl ?_
      refine x_goto 120 hC dX7_bitsOf_115 (by decide) ?_
      cases hf
      exact x_lret hC dX7_bitsOf_120 hQ rfl rfl
  have J_52 : ∀ (n : Nat) (k52_l0 : UInt64) (k52_l2 : UInt64) (k52_l4 : Int32), f_X7_bitsOf_c52 n k52_l0 k52_l2 k52_l4 = some R0 → XW p l e ({ frames := 1, cells := 0, slots := 0, locals := 60 } : Room) s m args below meth c D A 7 0 0 Q [] [] [(0, .double k52_l0), (2, .double k52_l2), (4, .int k52_l4)] 52 [] := by
    intro n
    induction n with
    | zero => intro k52_l0 k52_l2 k52_l4 hf; exact nomatch (show (none : Option (Int64)) = some R0 from hf)
    | succ n_52 ih_52 =>
      intro k52_l0 k52_l2 k52_l4 hf
      unfold f_X7_bitsOf_c52 at hf
      refine x_dload_n 53 1 hC dX7_bitsOf_52 rfl rfl rfl ?_
      refine x_dconst1 54 hC dX7_bitsOf_53 rfl ?_
      refine x_dcmp 55 hC dX7_bitsOf_54 rfl ?_
      refine x_if_ge 78 58 hC dX7_bitsOf_55 (by decide) rfl (fun c_6 => ?_) (fun c_6 => ?_)
      · have hf := if_t hf c_6
        refine x_lv [(0, .double k52_l0), (2, .double k52_l2), (4, .int k52_l4)] [0, 1, 2] rfl ?_
        exact J_78 k52_l0 k52_l2 k52_l4 hf
      · have hf := if_f hf c_6
        refine x_iload 60 2 hC dX7_bitsOf_58 rfl rfl ?_
        refine x_sipush 63 hC (-1022 : Int32) dX7_bitsOf_60 rfl (by decide) ?_
        refine x_icmp_le 78 66 hC dX7_bitsOf_63 (by decide) rfl (fun c_7 => ?_) (fun c_7 => ?_)
        · have hf := if_t hf c_7
          refine x_lv [(0, .double k52_l0), (2, .double k52_l2), (4, .int k52_l4)] [0, 1, 2] rfl ?_
          exact J_78 k52_l0 k52_l2 k52_l4 hf
        · have hf := if_f hf c_7
          refine x_dload_n 67 1 hC dX7_bitsOf_66 rfl rfl rfl ?_
          refine x_ldc2d 70 hC (v := (4611686018427387904 : UInt64)) (List.mem_of_getElem? (i := 1) (by decide +kernel)) dX7_bitsOf_67 rfl ?_
          obtain ⟨h_8, hf⟩ := ckp_e hf
          refine x_dmul 71 hC dX7_bitsOf_70 rfl h_8 ?_
          obtain ⟨x_9, e_x_9, hf⟩ := nmx_e hf
          refine x_dstore_n 72 [(2, .double x_9), (0, .double k52_l0), (4, .int k52_l4)] hC dX7_bitsOf_71 rfl rfl e_x_9 (by decide) rfl ?_
          obtain ⟨x_10, e_x_10, hf⟩ := nmx_e hf
          refine x_iinc 75 2 [(4, .int x_10), (2, .double x_9), (0, .double k52_l0)] hC dX7_bitsOf_72 rfl rfl e_x_10 (by decide) (by decide) rfl ?_
          refine x_goto 52 hC dX7_bitsOf_75 (by decide) ?_
          refine x_lv [(0, .double k52_l0), (2, .double x_9), (4, .int x_10)] [2, 1, 0] rfl ?_
          exact ih_52 k52_l0 x_9 x_10 hf
  have J_24 : ∀ (n : Nat) (k24_l0 : UInt64) (k24_l2 : UInt64) (k24_l4 : Int32), f_X7_bitsOf_c24 n k24_l0 k24_l2 k24_l4 = some R0 → XW p l e ({ frames := 1, cells := 0, slots := 0, locals := 60 } : Room) s m args below meth c D A 7 0 0 Q [] [] [(0, .double k24_l0), (2, .double k24_l2), (4, .int k24_l4)] 24 [] := by
    intro n
    induction n with
    | zero => intro k24_l0 k24_l2 k24_l4 hf; exact nomatch (show (none : Option (Int64)) = some R0 from hf)
    | succ n_24 ih_24 =>
      intro k24_l0 k24_l2 k24_l4 hf
      unfold f_X7_bitsOf_c24 at hf
      refine x_dload_n 25 1 hC dX7_bitsOf_24 rfl rfl rfl ?_
      refine x_ldc2d 28 hC (v := (4611686018427387904 : UInt64)) (List.mem_of_getElem? (i := 1) (by decide +kernel)) dX7_bitsOf_25 rfl ?_
      refine x_dcmp 29 hC dX7_bitsOf_28 rfl ?_
      refine x_if_lt 52 32 hC dX7_bitsOf_29 (by decide) rfl (fun c_11 => ?_) (fun c_11 => ?_)
      · have hf := if_t hf c_11
        refine x_lv [(0, .double k24_l0), (2, .double k24_l2), (4, .int k24_l4)] [0, 1, 2] rfl ?_
        exact J_52 fu k24_l0 k24_l2 k24_l4 hf
      · have hf := if_f hf c_11
        refine x_iload 34 2 hC dX7_bitsOf_32 rfl rfl ?_
        refine x_sipush 37 hC (1023 : Int32) dX7_bitsOf_34 rfl (by decide) ?_
        refine x_icmp_ge 52 40 hC dX7_bitsOf_37 (by decide) rfl (fun c_12 => ?_) (fun c_12 => ?_)
        · have hf := if_t hf c_12
          refine x_lv [(0, .double k24_l0), (2, .double k24_l2), (4, .int k24_l4)] [0, 1, 2] rfl ?_
          exact J_52 fu k24_l0 k24_l2 k24_l4 hf
        · have hf := if_f hf c_12
          refine x_dload_n 41 1 hC dX7_bitsOf_40 rfl rfl rfl ?_
          refine x_ldc2d 44 hC (v := (4602678819172646912 : UInt64)) (List.mem_of_getElem? (i := 2) (by decide +kernel)) dX7_bitsOf_41 rfl ?_
          obtain ⟨h_13, hf⟩ := ckp_e hf
          refine x_dmul 45 hC dX7_bitsOf_44 rfl h_13 ?_
          obtain ⟨x_14, e_x_14, hf⟩ := nmx_e hf
          refine x_dstore_n 46 [(2, .double x_14), (0, .double k24_l0), (4, .int k24_l4)] hC dX7_bitsOf_45 rfl rfl e_x_14 (by decide) rfl ?_
          obtain ⟨x_15, e_x_15, hf⟩ := nmx_e hf
          refine x_iinc 49 2 [(4, .int x_15), (2, .double x_14), (0, .double k24_l0)] hC dX7_bitsOf_46 rfl rfl e_x_15 (by decide) (by decide) rfl ?_
          refine x_goto 24 hC dX7_bitsOf_49 (by decide) ?_
          refine x_lv [(0, .double k24_l0), (2, .double x_14), (4, .int x_15)] [2, 1, 0] rfl ?_
          exact ih_24 k24_l0 x_14 x_15 hf
  have J_20 : ∀ (k20_l0 : UInt64) (k20_s0 : UInt64), f_X7_bitsOf_c20 k20_l0 k20_s0 = some R0 → XW p l e ({ frames := 1, cells := 0, slots := 0, locals := 60 } : Room) s m args below meth c D A 7 0 0 Q [] [] [(0, .double k20_l0)] 20 [.double k20_s0] := by
    intro k20_l0 k20_s0 hf
    unfold f_X7_bitsOf_c20 at hf
    refine x_dstore_n 21 [(2, .double k20_s0), (0, .double k20_l0)] hC dX7_bitsOf_20 rfl rfl rfl (by decide) rfl ?_
    refine x_iconst 22 hC (0 : Int32) dX7_bitsOf_21 rfl (by decide) ?_
    refine x_istore 24 [(4, .int (0 : Int32)), (2, .double k20_s0), (0, .double k20_l0)] hC dX7_bitsOf_22 rfl rfl (by decide) rfl ?_
    refine x_lv [(0, .double k20_l0), (2, .double k20_s0), (4, .int (0 : Int32))] [2, 1, 0] rfl ?_
    exact J_24 fu k20_l0 k20_s0 (0 : Int32) hf
  unfold f_X7_bitsOf at hf
  refine x_dload_n 1 0 hC dX7_bitsOf_0 rfl rfl rfl ?_
  refine x_dconst0 2 hC dX7_bitsOf_1 rfl ?_
  refine x_dcmp 3 hC dX7_bitsOf_2 rfl ?_
  refine x_if_ne 8 6 hC dX7_bitsOf_3 (by decide) rfl (fun c_16 => ?_) (fun c_16 => ?_)
  · have hf := if_t hf c_16
    refine x_dload_n 9 0 hC dX7_bitsOf_8 rfl rfl rfl ?_
    refine x_dconst0 10 hC dX7_bitsOf_9 rfl ?_
    refine x_dcmp 11 hC dX7_bitsOf_10 rfl ?_
    refine x_if_ge 19 14 hC dX7_bitsOf_11 (by decide) rfl (fun c_17 => ?_) (fun c_17 => ?_)
    · have hf := if_t hf c_17
      refine x_dload_n 20 0 hC dX7_bitsOf_19 rfl rfl rfl ?_
      refine x_lv [(0, .double p1)] [0] rfl ?_
      exact J_20 p1 p1 hf
    · have hf := if_f hf c_17
      refine x_dload_n 15 0 hC dX7_bitsOf_14 rfl rfl rfl ?_
      refine x_dneg 16 hC dX7_bitsOf_15 rfl ?_
      refine x_goto 20 hC dX7_bitsOf_16 (by decide) ?_
      refine x_lv [(0, .double p1)] [0] rfl ?_
      exact J_20 p1 (FP.dneg p1) hf
  · have hf := if_f hf c_16
    refine x_lconst 7 hC (0 : Int64) dX7_bitsOf_6 rfl (by decide) ?_
    cases hf
    exact x_lret hC dX7_bitsOf_7 hQ rfl rfl

theorem hd_X7_guess : yX7_guess.cls = RX7 ∧ yX7_guess.cls ≠ "java/lang/invoke/MethodHandle" ∧ yX7_guess.cls ≠ "java/lang/invoke/VarHandle" ∧ (parseMethodDescriptor yX7_guess.desc).map (fun d => d.parameters.length) = some 1 := by decide +kernel
noncomputable def f_X7_guess (v_now_members : Int32) (v_now_here : Int32) (v_now_masses_sums : Nat → Int64) (v_now_masses_weights : Nat → Int64) (p1 : Int32) : Option (Int64) := bd (f_X7_hasGuess v_now_members v_now_here v_now_masses_sums v_now_masses_weights p1) fun R_1 => if R_1 = 0 then (some ((-1 : Int64))) else (bd (f_X7_guessOf v_now_masses_sums v_now_masses_weights p1) fun R_3 => bd (f_X7_bitsOf R_3) fun R_4 => some (R_4))
set_option maxHeartbeats 4000000 in
set_option maxRecDepth 100000 in
theorem c_X7_guess (l : Launch) (D : va_G) (cI cJ cQ : ClassId) (a_this : Nat) (a_now : Nat) (a_now_masses : Nat) (a_now_masses_sums : Nat) (a_now_masses_weights : Nat) (r_history : Value) (r_open : Value) (r_search : Value) (r_planned : Value) (r_now_values : Value) (r_now_greatest : Value) (r_now_least : Value) (r_now_heard : Value) (r_now_joined : Value) (r_now_tickets : Value) (r_now_books : Value) (r_now_owed : Value) (r_now_letters : Value) (v_plannedTalks : Int32) (v_now_members : Int32) (v_now_here : Int32) (v_now_seed : Int32) (v_now_talks : Int32) (v_now_masses_sums : Nat → Int64) (v_now_masses_weights : Nat → Int64) (p1 : Int32) (R0 : Int64) (hf : f_X7_guess v_now_members v_now_here v_now_masses_sums v_now_masses_weights p1 = some R0) : Cl l yX7_guess wsX7_guess ({ frames := 4, cells := 0, slots := 0, locals := 129 } : Room) D [(cI, .int), (cJ, .long), (cQ, .object "WhisperCrowd$State")] [.ref a_this, .int p1] [(a_this, .inr (7, [.ref a_now, r_history, r_open, r_search, r_planned, .int v_plannedTalks])), (a_now, .inr (5, [.int v_now_members, .int v_now_here, .int v_now_seed, .int v_now_talks, r_now_values, r_now_greatest, r_now_least, r_now_heard, r_now_joined, r_now_tickets, .ref a_now_masses, r_now_books, r_now_owed, r_now_letters])), (a_now_masses, .inr (3, [.ref a_now_masses_sums, .ref a_now_masses_weights])), (a_now_masses_sums, .inl (cJ, 10, .inr (.inl v_now_masses_sums))), (a_now_masses_weights, .inl (cJ, 10, .inr (.inl v_now_masses_weights)))] [(a_this, .inr (7, [.ref a_now, r_history, r_open, r_search, r_planned, .int v_plannedTalks])), (a_now, .inr (5, [.int v_now_members, .int v_now_here, .int v_now_seed, .int v_now_talks, r_now_values, r_now_greatest, r_now_least, r_now_heard, r_now_joined, r_now_tickets, .ref a_now_masses, r_now_books, r_now_owed, r_now_letters])), (a_now_masses, .inr (3, [.ref a_now_masses_sums, .ref a_now_masses_weights])), (a_now_masses_sums, .inl (cJ, 10, .inr (.inl v_now_masses_sums))), (a_now_masses_weights, .inl (cJ, 10, .inr (.inl v_now_masses_weights)))] R0 := by
  refine x_entl (cc := cX7_guess) (maxL := 2) (rt := (some .long)) (lv := [(0, .ref a_this), (1, .int p1)]) (by decide) rfl (Nat.le_of_ble_eq_true rfl) rfl ?_
  intro p e s m args below meth c A Q hQ hC
  unfold f_X7_guess at hf
  refine x_aload_n 1 0 hC dX7_guess_0 rfl rfl rfl ?_
  refine x_iload_n 2 1 hC dX7_guess_1 rfl rfl rfl ?_
  obtain ⟨R_1, h_R_1, hf⟩ := bd_e hf
  refine x_callVi 5 0 1 [0, 1, 2, 3, 4] [(a_this, .inr (7, [.ref a_now, r_history, r_open, r_search, r_planned, .int v_plannedTalks])), (a_now, .inr (5, [.int v_now_members, .int v_now_here, .int v_now_seed, .int v_now_talks, r_now_values, r_now_greatest, r_now_least, r_now_heard, r_now_joined, r_now_tickets, .ref a_now_masses, r_now_books, r_now_owed, r_now_letters])), (a_now_masses, .inr (3, [.ref a_now_masses_sums, .ref a_now_masses_weights])), (a_now_masses_sums, .inl (cJ, 10, .inr (.inl v_now_masses_sums))), (a_now_masses_weights, .inl (cJ, 10, .inr (.inl v_now_masses_weights)))] hC (As := [.int p1]) (c_X7_hasGuess l D cI cJ cQ a_this a_now a_now_masses a_now_masses_sums a_now_masses_weights r_history r_open r_search r_planned r_now_values r_now_greatest r_now_least r_now_heard r_now_joined r_now_tickets r_now_books r_now_owed r_now_letters v_plannedTalks v_now_members v_now_here v_now_seed v_now_talks v_now_masses_sums v_now_masses_weights p1 R_1 h_R_1) rfl rfl gX7_guess_X7_hasGuess rfl ⟨rfl, rfl⟩ hd_X7_hasGuess ⟨Nat.le_of_ble_eq_true rfl, Nat.le_of_ble_eq_true rfl⟩ rfl rfl rfl rfl rfl rfl (Nat.le_of_ble_eq_true rfl) ⟨Nat.le_of_ble_eq_true rfl, Nat.le_of_ble_eq_true rfl⟩ dX7_guess_2 rfl ?_
  refine x_if_eq 19 8 hC dX7_guess_5 (by decide) rfl (fun c_2 => ?_) (fun c_2 => ?_)
  · have hf := if_t hf c_2
    refine x_ldc2 22 hC (v := (-1 : Int64)) (List.mem_of_getElem? (i := 1) (by decide +kernel)) dX7_guess_19 rfl ?_
    cases hf
    exact x_lret hC dX7_guess_22 hQ rfl rfl
  · have hf := if_f hf c_2
    refine x_aload_n 9 0 hC dX7_guess_8 rfl rfl rfl ?_
    refine x_iload_n 10 1 hC dX7_guess_9 rfl rfl rfl ?_
    obtain ⟨R_3, h_R_3, hf⟩ := bd_e hf
    refine x_callVd 13 0 1 [0, 1, 2, 3, 4] [(a_this, .inr (7, [.ref a_now, r_history, r_open, r_search, r_planned, .int v_plannedTalks])), (a_now, .inr (5, [.int v_now_members, .int v_now_here, .int v_now_seed, .int v_now_talks, r_now_values, r_now_greatest, r_now_least, r_now_heard, r_now_joined, r_now_tickets, .ref a_now_masses, r_now_books, r_now_owed, r_now_letters])), (a_now_masses, .inr (3, [.ref a_now_masses_sums, .ref a_now_masses_weights])), (a_now_masses_sums, .inl (cJ, 10, .inr (.inl v_now_masses_sums))), (a_now_masses_weights, .inl (cJ, 10, .inr (.inl v_now_masses_weights)))] hC (As := [.int p1]) (c_X7_guessOf l D cI cJ cQ a_this a_now a_now_masses a_now_masses_sums a_now_masses_weights r_history r_open r_search r_planned r_now_values r_now_greatest r_now_least r_now_heard r_now_joined r_now_tickets r_now_books r_now_owed r_now_letters v_plannedTalks v_now_members v_now_here v_now_seed v_now_talks v_now_masses_sums v_now_masses_weights p1 R_3 h_R_3) rfl rfl gX7_guess_X7_guessOf rfl ⟨rfl, rfl⟩ hd_X7_guessOf ⟨Nat.le_of_ble_eq_true rfl, Nat.le_of_ble_eq_true rfl⟩ rfl rfl rfl rfl rfl rfl (Nat.le_of_ble_eq_true rfl) ⟨Nat.le_of_ble_eq_true rfl, Nat.le_of_ble_eq_true rfl⟩ dX7_guess_10 rfl ?_
    obtain ⟨R_4, h_R_4, hf⟩ := bd_e hf
    refine x_callSl 16 1 [] [(a_this, .inr (7, [.ref a_now, r_history, r_open, r_search, r_planned, .int v_plannedTalks])), (a_now, .inr (5, [.int v_now_members, .int v_now_here, .int v_now_seed, .int v_now_talks, r_now_values, r_now_greatest, r_now_least, r_now_heard, r_now_joined, r_now_tickets, .ref a_now_masses, r_now_books, r_now_owed, r_now_letters])), (a_now_masses, .inr (3, [.ref a_now_masses_sums, .ref a_now_masses_weights])), (a_now_masses_sums, .inl (cJ, 10, .inr (.inl v_now_masses_sums))), (a_now_masses_weights, .inl (cJ, 10, .inr (.inl v_now_masses_weights)))] hC (As := [.double R_3]) (c_X7_bitsOf l D cI cJ cQ R_3 R_4 h_R_4) gX7_guess_X7_bitsOf rfl ⟨rfl, rfl⟩ hd_X7_bitsOf ⟨Nat.le_of_ble_eq_true rfl, Nat.le_of_ble_eq_true rfl⟩ rfl rfl rfl rfl rfl rfl (Nat.le_of_ble_eq_true rfl) ⟨Nat.le_of_ble_eq_true rfl, Nat.le_of_ble_eq_true rfl⟩ dX7_guess_13 rfl ?_
    refine x_goto 22 hC dX7_guess_16 (by decide) ?_
    cases hf
    exact x_lret hC dX7_guess_22 hQ rfl rfl

theorem hd_X7_book : yX7_book.cls = RX7 ∧ yX7_book.cls ≠ "java/lang/invoke/MethodHandle" ∧ yX7_book.cls ≠ "java/lang/invoke/VarHandle" ∧ (parseMethodDescriptor yX7_book.desc).map (fun d => d.parameters.length) = some 3 := by decide +kernel
theorem in_X7_book_X7 : ∀ w ∈ u_ws RX7 TX7 6, w ∈ wsX7_book := fun w h => List.mem_cons_of_mem _ (List.mem_append_left _ (List.mem_append_left _ (List.mem_append_right _ h)))
theorem in_X7_book_X5 : ∀ w ∈ u_ws RX5 TX5 14, w ∈ wsX7_book := fun w h => List.mem_cons_of_mem _ (List.mem_append_left _ (List.mem_append_right _ h))
noncomputable def f_X7_book (v_now_members : Int32) (v_now_books_sums : Nat → Int64) (v_now_books_weights : Nat → Int64) (p1 : Int32) (p2 : Int32) (p3 : Int32) : Option (Int64) := bd (f_X7_isMember v_now_members p1) fun R_1 => if R_1 = 0 then (some ((0 : Int64))) else (bd (f_X7_isMember v_now_members p2) fun R_3 => if R_3 = 0 then (some ((0 : Int64))) else (bd (f_X7_pair p1 p2) fun R_5 => bd (f_X3_at 100 v_now_books_sums v_now_books_weights R_5 p3) fun R_6 => some (R_6)))
set_option maxHeartbeats 4000000 in
set_option maxRecDepth 100000 in
theorem c_X7_book (l : Launch) (D : va_G) (cI cJ cQ : ClassId) (a_this : Nat) (a_now : Nat) (a_now_books : Nat) (a_now_books_sums : Nat) (a_now_books_weights : Nat) (r_history : Value) (r_open : Value) (r_search : Value) (r_planned : Value) (r_now_values : Value) (r_now_greatest : Value) (r_now_least : Value) (r_now_heard : Value) (r_now_joined : Value) (r_now_tickets : Value) (r_now_masses : Value) (r_now_owed : Value) (r_now_letters : Value) (v_plannedTalks : Int32) (v_now_members : Int32) (v_now_here : Int32) (v_now_seed : Int32) (v_now_talks : Int32) (v_now_books_sums : Nat → Int64) (v_now_books_weights : Nat → Int64) (p1 : Int32) (p2 : Int32) (p3 : Int32) (R0 : Int64) (hf : f_X7_book v_now_members v_now_books_sums v_now_books_weights p1 p2 p3 = some R0) : Cl l yX7_book wsX7_book ({ frames := 2, cells := 0, slots := 0, locals := 84 } : Room) D [(cI, .int), (cJ, .long), (cQ, .object "WhisperCrowd$State")] [.ref a_this, .int p1, .int p2, .int p3] [(a_this, .inr (7, [.ref a_now, r_history, r_open, r_search, r_planned, .int v_plannedTalks])), (a_now, .inr (5, [.int v_now_members, .int v_now_here, .int v_now_seed, .int v_now_talks, r_now_values, r_now_greatest, r_now_least, r_now_heard, r_now_joined, r_now_tickets, r_now_masses, .ref a_now_books, r_now_owed, r_now_letters])), (a_now_books, .inr (3, [.ref a_now_books_sums, .ref a_now_books_weights])), (a_now_books_sums, .inl (cJ, 100, .inr (.inl v_now_books_sums))), (a_now_books_weights, .inl (cJ, 100, .inr (.inl v_now_books_weights)))] [(a_this, .inr (7, [.ref a_now, r_history, r_open, r_search, r_planned, .int v_plannedTalks])), (a_now, .inr (5, [.int v_now_members, .int v_now_here, .int v_now_seed, .int v_now_talks, r_now_values, r_now_greatest, r_now_least, r_now_heard, r_now_joined, r_now_tickets, r_now_masses, .ref a_now_books, r_now_owed, r_now_letters])), (a_now_books, .inr (3, [.ref a_now_books_sums, .ref a_now_books_weights])), (a_now_books_sums, .inl (cJ, 100, .inr (.inl v_now_books_sums))), (a_now_books_weights, .inl (cJ, 100, .inr (.inl v_now_books_weights)))] R0 := by
  refine x_entl (cc := cX7_book) (maxL := 4) (rt := (some .long)) (lv := [(0, .ref a_this), (1, .int p1), (2, .int p2), (3, .int p3)]) (by decide) rfl (Nat.le_of_ble_eq_true rfl) rfl ?_
  intro p e s m args below meth c A Q hQ hC
  unfold f_X7_book at hf
  refine x_aload_n 1 0 hC dX7_book_0 rfl rfl rfl ?_
  refine x_iload_n 2 1 hC dX7_book_1 rfl rfl rfl ?_
  obtain ⟨R_1, h_R_1, hf⟩ := bd_e hf
  refine x_callVi 5 0 1 [0, 1] [(a_this, .inr (7, [.ref a_now, r_history, r_open, r_search, r_planned, .int v_plannedTalks])), (a_now, .inr (5, [.int v_now_members, .int v_now_here, .int v_now_seed, .int v_now_talks, r_now_values, r_now_greatest, r_now_least, r_now_heard, r_now_joined, r_now_tickets, r_now_masses, .ref a_now_books, r_now_owed, r_now_letters])), (a_now_books, .inr (3, [.ref a_now_books_sums, .ref a_now_books_weights])), (a_now_books_sums, .inl (cJ, 100, .inr (.inl v_now_books_sums))), (a_now_books_weights, .inl (cJ, 100, .inr (.inl v_now_books_weights)))] hC (As := [.int p1]) (c_X7_isMember l D cI cJ cQ a_this a_now r_history r_open r_search r_planned r_now_values r_now_greatest r_now_least r_now_heard r_now_joined r_now_tickets r_now_masses (.ref a_now_books) r_now_owed r_now_letters v_plannedTalks v_now_members v_now_here v_now_seed v_now_talks p1 R_1 h_R_1) rfl rfl gX7_book_X7_isMember rfl ⟨rfl, rfl⟩ hd_X7_isMember ⟨Nat.le_of_ble_eq_true rfl, Nat.le_of_ble_eq_true rfl⟩ rfl rfl rfl rfl rfl rfl (Nat.le_of_ble_eq_true rfl) ⟨Nat.le_of_ble_eq_true rfl, Nat.le_of_ble_eq_true rfl⟩ dX7_book_2 rfl ?_
  refine x_if_eq 35 8 hC dX7_book_5 (by decide) rfl (fun c_2 => ?_) (fun c_2 => ?_)
  · have hf := if_t hf c_2
    refine x_lconst 36 hC (0 : Int64) dX7_book_35 rfl (by decide) ?_
    cases hf
    exact x_lret hC dX7_book_36 hQ rfl rfl
  · have hf := if_f hf c_2
    refine x_aload_n 9 0 hC dX7_book_8 rfl rfl rfl ?_
    refine x_iload_n 10 2 hC dX7_book_9 rfl rfl rfl ?_
    obtain ⟨R_3, h_R_3, hf⟩ := bd_e hf
    refine x_callVi 13 0 1 [0, 1] [(a_this, .inr (7, [.ref a_now, r_history, r_open, r_search, r_planned, .int v_plannedTalks])), (a_now, .inr (5, [.int v_now_members, .int v_now_here, .int v_now_seed, .int v_now_talks, r_now_values, r_now_greatest, r_now_least, r_now_heard, r_now_joined, r_now_tickets, r_now_masses, .ref a_now_books, r_now_owed, r_now_letters])), (a_now_books, .inr (3, [.ref a_now_books_sums, .ref a_now_books_weights])), (a_now_books_sums, .inl (cJ, 100, .inr (.inl v_now_books_sums))), (a_now_books_weights, .inl (cJ, 100, .inr (.inl v_now_books_weights)))] hC (As := [.int p2]) (c_X7_isMember l D cI cJ cQ a_this a_now r_history r_open r_search r_planned r_now_values r_now_greatest r_now_least r_now_heard r_now_joined r_now_tickets r_now_masses (.ref a_now_books) r_now_owed r_now_letters v_plannedTalks v_now_members v_now_here v_now_seed v_now_talks p2 R_3 h_R_3) rfl rfl gX7_book_X7_isMember rfl ⟨rfl, rfl⟩ hd_X7_isMember ⟨Nat.le_of_ble_eq_true rfl, Nat.le_of_ble_eq_true rfl⟩ rfl rfl rfl rfl rfl rfl (Nat.le_of_ble_eq_true rfl) ⟨Nat.le_of_ble_eq_true rfl, Nat.le_of_ble_eq_true rfl⟩ dX7_book_10 rfl ?_
    refine x_if_eq 35 16 hC dX7_book_13 (by decide) rfl (fun c_4 => ?_) (fun c_4 => ?_)
    · have hf := if_t hf c_4
      refine x_lconst 36 hC (0 : Int64) dX7_book_35 rfl (by decide) ?_
      cases hf
      exact x_lret hC dX7_book_36 hQ rfl rfl
    · have hf := if_f hf c_4
      refine x_aload_n 17 0 hC dX7_book_16 rfl rfl rfl ?_
      refine x_get 20 0 0 hC in_X7_book_X7 rfl rfl (by decide) (List.mem_of_getElem? (i := 1) (by decide +kernel)) rfl rfl dX7_book_17 rfl ?_
      refine x_get 23 1 11 hC in_X7_book_X5 rfl rfl (by decide) (List.mem_of_getElem? (i := 2) (by decide +kernel)) rfl rfl dX7_book_20 rfl ?_
      refine x_iload_n 24 1 hC dX7_book_23 rfl rfl rfl ?_
      refine x_iload_n 25 2 hC dX7_book_24 rfl rfl rfl ?_
      obtain ⟨R_5, h_R_5, hf⟩ := bd_e hf
      refine x_callSi 28 2 [] [(a_this, .inr (7, [.ref a_now, r_history, r_open, r_search, r_planned, .int v_plannedTalks])), (a_now, .inr (5, [.int v_now_members, .int v_now_here, .int v_now_seed, .int v_now_talks, r_now_values, r_now_greatest, r_now_least, r_now_heard, r_now_joined, r_now_tickets, r_now_masses, .ref a_now_books, r_now_owed, r_now_letters])), (a_now_books, .inr (3, [.ref a_now_books_sums, .ref a_now_books_weights])), (a_now_books_sums, .inl (cJ, 100, .inr (.inl v_now_books_sums))), (a_now_books_weights, .inl (cJ, 100, .inr (.inl v_now_books_weights)))] hC (As := [.int p1, .int p2]) (c_X7_pair l D cI cJ cQ p1 p2 R_5 h_R_5) gX7_book_X7_pair rfl ⟨rfl, rfl⟩ hd_X7_pair ⟨Nat.le_of_ble_eq_true rfl, Nat.le_of_ble_eq_true rfl⟩ rfl rfl rfl rfl rfl rfl (Nat.le_of_ble_eq_true rfl) ⟨Nat.le_of_ble_eq_true rfl, Nat.le_of_ble_eq_true rfl⟩ dX7_book_25 rfl ?_
      refine x_iload_n 29 3 hC dX7_book_28 rfl rfl rfl ?_
      obtain ⟨R_6, h_R_6, hf⟩ := bd_e hf
      refine x_callVl 32 0 2 [2, 3, 4] [(a_this, .inr (7, [.ref a_now, r_history, r_open, r_search, r_planned, .int v_plannedTalks])), (a_now, .inr (5, [.int v_now_members, .int v_now_here, .int v_now_seed, .int v_now_talks, r_now_values, r_now_greatest, r_now_least, r_now_heard, r_now_joined, r_now_tickets, r_now_masses, .ref a_now_books, r_now_owed, r_now_letters])), (a_now_books, .inr (3, [.ref a_now_books_sums, .ref a_now_books_weights])), (a_now_books_sums, .inl (cJ, 100, .inr (.inl v_now_books_sums))), (a_now_books_weights, .inl (cJ, 100, .inr (.inl v_now_books_weights)))] hC (As := [.int R_5, .int p3]) (c_X3_at l D cI cJ cQ a_now_books a_now_books_sums a_now_books_weights 100 v_now_books_sums v_now_books_weights R_5 p3 R_6 h_R_6) rfl rfl gX7_book_X3_at rfl ⟨rfl, rfl⟩ hd_X3_at ⟨Nat.le_of_ble_eq_true rfl, Nat.le_of_ble_eq_true rfl⟩ rfl rfl rfl rfl rfl rfl (Nat.le_of_ble_eq_true rfl) ⟨Nat.le_of_ble_eq_true rfl, Nat.le_of_ble_eq_true rfl⟩ dX7_book_29 rfl ?_
      refine x_goto 36 hC dX7_book_32 (by decide) ?_
      cases hf
      exact x_lret hC dX7_book_36 hQ rfl rfl

theorem hd_X7_letter : yX7_letter.cls = RX7 ∧ yX7_letter.cls ≠ "java/lang/invoke/MethodHandle" ∧ yX7_letter.cls ≠ "java/lang/invoke/VarHandle" ∧ (parseMethodDescriptor yX7_letter.desc).map (fun d => d.parameters.length) = some 2 := by decide +kernel
theorem in_X7_letter_X7 : ∀ w ∈ u_ws RX7 TX7 6, w ∈ wsX7_letter := fun w h => List.mem_cons_of_mem _ (List.mem_append_left _ (List.mem_append_left _ (List.mem_append_left _ (List.mem_append_right _ h))))
theorem in_X7_letter_X5 : ∀ w ∈ u_ws RX5 TX5 14, w ∈ wsX7_letter := fun w h => List.mem_cons_of_mem _ (List.mem_append_left _ (List.mem_append_left _ (List.mem_append_right _ h)))
theorem in_X7_letter_X1 : ∀ w ∈ u_ws RX1 TX1 3, w ∈ wsX7_letter := fun w h => List.mem_cons_of_mem _ (List.mem_append_left _ (List.mem_append_right _ h))
noncomputable def f_X7_letter (v_now_letters_contents_sums : Nat → Int64) (v_now_letters_contents_weights : Nat → Int64) (v_now_letters_from : Nat → Int32) (v_now_letters_to : Nat → Int32) (p1 : Int32) (p2 : Int32) : Option (Int64) := bd (f_X1_isUnderWay v_now_letters_from p1) fun R_1 => if ¬ R_1 = 0 then (if p2 = (0 : Int32) then (ck p1 8 <| some (((v_now_letters_from p1.toNatClampNeg).toInt64))) else (if p2 = (1 : Int32) then (ck p1 8 <| some (((v_now_letters_to p1.toNatClampNeg).toInt64))) else (if p2 = (2 : Int32) then (bd (f_X3_at 8 v_now_letters_contents_sums v_now_letters_contents_weights p1 (0 : Int32)) fun R_8 => some (R_8)) else (if p2 = (3 : Int32) then (bd (f_X3_at 8 v_now_letters_contents_sums v_now_letters_contents_weights p1 (1 : Int32)) fun R_10 => some (R_10)) else (some ((-1 : Int64))))))) else (some ((-1 : Int64)))
set_option maxHeartbeats 4000000 in
set_option maxRecDepth 100000 in
theorem c_X7_letter (l : Launch) (D : va_G) (cI cJ cQ : ClassId) (a_this : Nat) (a_now : Nat) (a_now_letters : Nat) (a_now_letters_contents : Nat) (a_now_letters_contents_sums : Nat) (a_now_letters_contents_weights : Nat) (a_now_letters_from : Nat) (a_now_letters_to : Nat) (r_history : Value) (r_open : Value) (r_search : Value) (r_planned : Value) (r_now_values : Value) (r_now_greatest : Value) (r_now_least : Value) (r_now_heard : Value) (r_now_joined : Value) (r_now_tickets : Value) (r_now_masses : Value) (r_now_books : Value) (r_now_owed : Value) (v_plannedTalks : Int32) (v_now_members : Int32) (v_now_here : Int32) (v_now_seed : Int32) (v_now_talks : Int32) (v_now_letters_contents_sums : Nat → Int64) (v_now_letters_contents_weights : Nat → Int64) (v_now_letters_from : Nat → Int32) (v_now_letters_to : Nat → Int32) (p1 : Int32) (p2 : Int32) (R0 : Int64) (hf : f_X7_letter v_now_letters_contents_sums v_now_letters_contents_weights v_now_letters_from v_now_letters_to p1 p2 = some R0) : Cl l yX7_letter wsX7_letter ({ frames := 2, cells := 0, slots := 0, locals := 84 } : Room) D [(cI, .int), (cJ, .long), (cQ, .object "WhisperCrowd$State")] [.ref a_this, .int p1, .int p2] [(a_this, .inr (7, [.ref a_now, r_history, r_open, r_search, r_planned, .int v_plannedTalks])), (a_now, .inr (5, [.int v_now_members, .int v_now_here, .int v_now_seed, .int v_now_talks, r_now_values, r_now_greatest, r_now_least, r_now_heard, r_now_joined, r_now_tickets, r_now_masses, r_now_books, r_now_owed, .ref a_now_letters])), (a_now_letters, .inr (1, [.ref a_now_letters_from, .ref a_now_letters_to, .ref a_now_letters_contents])), (a_now_letters_contents, .inr (3, [.ref a_now_letters_contents_sums, .ref a_now_letters_contents_weights])), (a_now_letters_contents_sums, .inl (cJ, 8, .inr (.inl v_now_letters_contents_sums))), (a_now_letters_contents_weights, .inl (cJ, 8, .inr (.inl v_now_letters_contents_weights))), (a_now_letters_from, .inl (cI, 8, .inl v_now_letters_from)), (a_now_letters_to, .inl (cI, 8, .inl v_now_letters_to))] [(a_this, .inr (7, [.ref a_now, r_history, r_open, r_search, r_planned, .int v_plannedTalks])), (a_now, .inr (5, [.int v_now_members, .int v_now_here, .int v_now_seed, .int v_now_talks, r_now_values, r_now_greatest, r_now_least, r_now_heard, r_now_joined, r_now_tickets, r_now_masses, r_now_books, r_now_owed, .ref a_now_letters])), (a_now_letters, .inr (1, [.ref a_now_letters_from, .ref a_now_letters_to, .ref a_now_letters_contents])), (a_now_letters_contents, .inr (3, [.ref a_now_letters_contents_sums, .ref a_now_letters_contents_weights])), (a_now_letters_contents_sums, .inl (cJ, 8, .inr (.inl v_now_letters_contents_sums))), (a_now_letters_contents_weights, .inl (cJ, 8, .inr (.inl v_now_letters_contents_weights))), (a_now_letters_from, .inl (cI, 8, .inl v_now_letters_from)), (a_now_letters_to, .inl (cI, 8, .inl v_now_letters_to))] R0 := by
  refine x_entl (cc := cX7_letter) (maxL := 3) (rt := (some .long)) (lv := [(0, .ref a_this), (1, .int p1), (2, .int p2)]) (by decide) rfl (Nat.le_of_ble_eq_true rfl) rfl ?_
  intro p e s m args below meth c A Q hQ hC
  unfold f_X7_letter at hf
  refine x_aload_n 1 0 hC dX7_letter_0 rfl rfl rfl ?_
  refine x_get 4 0 0 hC in_X7_letter_X7 rfl rfl (by decide) (List.mem_of_getElem? (i := 1) (by decide +kernel)) rfl rfl dX7_letter_1 rfl ?_
  refine x_get 7 1 13 hC in_X7_letter_X5 rfl rfl (by decide) (List.mem_of_getElem? (i := 2) (by decide +kernel)) rfl rfl dX7_letter_4 rfl ?_
  refine x_iload_n 8 1 hC dX7_letter_7 rfl rfl rfl ?_
  obtain ⟨R_1, h_R_1, hf⟩ := bd_e hf
  refine x_callVi 11 0 1 [2, 6] [(a_this, .inr (7, [.ref a_now, r_history, r_open, r_search, r_planned, .int v_plannedTalks])), (a_now, .inr (5, [.int v_now_members, .int v_now_here, .int v_now_seed, .int v_now_talks, r_now_values, r_now_greatest, r_now_least, r_now_heard, r_now_joined, r_now_tickets, r_now_masses, r_now_books, r_now_owed, .ref a_now_letters])), (a_now_letters, .inr (1, [.ref a_now_letters_from, .ref a_now_letters_to, .ref a_now_letters_contents])), (a_now_letters_contents, .inr (3, [.ref a_now_letters_contents_sums, .ref a_now_letters_contents_weights])), (a_now_letters_contents_sums, .inl (cJ, 8, .inr (.inl v_now_letters_contents_sums))), (a_now_letters_contents_weights, .inl (cJ, 8, .inr (.inl v_now_letters_contents_weights))), (a_now_letters_from, .inl (cI, 8, .inl v_now_letters_from)), (a_now_letters_to, .inl (cI, 8, .inl v_now_letters_to))] hC (As := [.int p1]) (c_X1_isUnderWay l D cI cJ cQ a_now_letters a_now_letters_from (.ref a_now_letters_to) (.ref a_now_letters_contents) v_now_letters_from p1 R_1 h_R_1) rfl rfl gX7_letter_X1_isUnderWay rfl ⟨rfl, rfl⟩ hd_X1_isUnderWay ⟨Nat.le_of_ble_eq_true rfl, Nat.le_of_ble_eq_true rfl⟩ rfl rfl rfl rfl rfl rfl (Nat.le_of_ble_eq_true rfl) ⟨Nat.le_of_ble_eq_true rfl, Nat.le_of_ble_eq_true rfl⟩ dX7_letter_8 rfl ?_
  refine x_if_ne 18 14 hC dX7_letter_11 (by decide) rfl (fun c_2 => ?_) (fun c_2 => ?_)
  · have hf := if_t hf c_2
    refine x_iload_n 19 2 hC dX7_letter_18 rfl rfl rfl ?_
    by_cases c_3 : p2 = (0 : Int32)
    · have hf := if_t hf c_3
      refine x_tabIn 48 hC (0 : Int32) c_3 29 dX7_letter_19 (by decide) (by decide) rfl (by decide) ?_
      refine x_aload_n 49 0 hC dX7_letter_48 rfl rfl rfl ?_
      refine x_get 52 0 0 hC in_X7_letter_X7 rfl rfl (by decide) (List.mem_of_getElem? (i := 1) (by decide +kernel)) rfl rfl dX7_letter_49 rfl ?_
      refine x_get 55 1 13 hC in_X7_letter_X5 rfl rfl (by decide) (List.mem_of_getElem? (i := 2) (by decide +kernel)) rfl rfl dX7_letter_52 rfl ?_
      refine x_get 58 2 0 hC in_X7_letter_X1 rfl rfl (by decide) (List.mem_of_getElem? (i := 4) (by decide +kernel)) rfl rfl dX7_letter_55 rfl ?_
      refine x_iload_n 59 1 hC dX7_letter_58 rfl rfl rfl ?_
      obtain ⟨h_4, hf⟩ := ck_e hf
      refine x_iald 60 6 0 hC rfl rfl h_4 dX7_letter_59 rfl ?_
      refine x_i2l 61 hC dX7_letter_60 rfl ?_
      cases hf
      exact x_lret hC dX7_letter_61 hQ rfl rfl
    · have hf := if_f hf c_3
      by_cases c_5 : p2 = (1 : Int32)
      · have hf := if_t hf c_5
        refine x_tabIn 62 hC (1 : Int32) c_5 43 dX7_letter_19 (by decide) (by decide) rfl (by decide) ?_
        refine x_aload_n 63 0 hC dX7_letter_62 rfl rfl rfl ?_
        refine x_get 66 0 0 hC in_X7_letter_X7 rfl rfl (by decide) (List.mem_of_getElem? (i := 1) (by decide +kernel)) rfl rfl dX7_letter_63 rfl ?_
        refine x_get 69 1 13 hC in_X7_letter_X5 rfl rfl (by decide) (List.mem_of_getElem? (i := 2) (by decide +kernel)) rfl rfl dX7_letter_66 rfl ?_
        refine x_get 72 2 1 hC in_X7_letter_X1 rfl rfl (by decide) (List.mem_of_getElem? (i := 5) (by decide +kernel)) rfl rfl dX7_letter_69 rfl ?_
        refine x_iload_n 73 1 hC dX7_letter_72 rfl rfl rfl ?_
        obtain ⟨h_6, hf⟩ := ck_e hf
        refine x_iald 74 7 0 hC rfl rfl h_6 dX7_letter_73 rfl ?_
        refine x_i2l 75 hC dX7_letter_74 rfl ?_
        cases hf
        exact x_lret hC dX7_letter_75 hQ rfl rfl
      · have hf := if_f hf c_5
        by_cases c_7 : p2 = (2 : Int32)
        · have hf := if_t hf c_7
          refine x_tabIn 76 hC (2 : Int32) c_7 57 dX7_letter_19 (by decide) (by decide) rfl (by decide) ?_
          refine x_aload_n 77 0 hC dX7_letter_76 rfl rfl rfl ?_
          refine x_get 80 0 0 hC in_X7_letter_X7 rfl rfl (by decide) (List.mem_of_getElem? (i := 1) (by decide +kernel)) rfl rfl dX7_letter_77 rfl ?_
          refine x_get 83 1 13 hC in_X7_letter_X5 rfl rfl (by decide) (List.mem_of_getElem? (i := 2) (by decide +kernel)) rfl rfl dX7_letter_80 rfl ?_
          refine x_get 86 2 2 hC in_X7_letter_X1 rfl rfl (by decide) (List.mem_of_getElem? (i := 6) (by decide +kernel)) rfl rfl dX7_letter_83 rfl ?_
          refine x_iload_n 87 1 hC dX7_letter_86 rfl rfl rfl ?_
          refine x_iconst 88 hC (0 : Int32) dX7_letter_87 rfl (by decide) ?_
          obtain ⟨R_8, h_R_8, hf⟩ := bd_e hf
          refine x_callVl 91 0 2 [3, 4, 5] [(a_this, .inr (7, [.ref a_now, r_history, r_open, r_search, r_planned, .int v_plannedTalks])), (a_now, .inr (5, [.int v_now_members, .int v_now_here, .int v_now_seed, .int v_now_talks, r_now_values, r_now_greatest, r_now_least, r_now_heard, r_now_joined, r_now_tickets, r_now_masses, r_now_books, r_now_owed, .ref a_now_letters])), (a_now_letters, .inr (1, [.ref a_now_letters_from, .ref a_now_letters_to, .ref a_now_letters_contents])), (a_now_letters_contents, .inr (3, [.ref a_now_letters_contents_sums, .ref a_now_letters_contents_weights])), (a_now_letters_contents_sums, .inl (cJ, 8, .inr (.inl v_now_letters_contents_sums))), (a_now_letters_contents_weights, .inl (cJ, 8, .inr (.inl v_now_letters_contents_weights))), (a_now_letters_from, .inl (cI, 8, .inl v_now_letters_from)), (a_now_letters_to, .inl (cI, 8, .inl v_now_letters_to))] hC (As := [.int p1, .int (0 : Int32)]) (c_X3_at l D cI cJ cQ a_now_letters_contents a_now_letters_contents_sums a_now_letters_contents_weights 8 v_now_letters_contents_sums v_now_letters_contents_weights p1 (0 : Int32) R_8 h_R_8) rfl rfl gX7_letter_X3_at rfl ⟨rfl, rfl⟩ hd_X3_at ⟨Nat.le_of_ble_eq_true rfl, Nat.le_of_ble_eq_true rfl⟩ rfl rfl rfl rfl rfl rfl (Nat.le_of_ble_eq_true rfl) ⟨Nat.le_of_ble_eq_true rfl, Nat.le_of_ble_eq_true rfl⟩ dX7_letter_88 rfl ?_
          cases hf
          exact x_lret hC dX7_letter_91 hQ rfl rfl
        · have hf := if_f hf c_7
          by_cases c_9 : p2 = (3 : Int32)
          · have hf := if_t hf c_9
            refine x_tabIn 92 hC (3 : Int32) c_9 73 dX7_letter_19 (by decide) (by decide) rfl (by decide) ?_
            refine x_aload_n 93 0 hC dX7_letter_92 rfl rfl rfl ?_
            refine x_get 96 0 0 hC in_X7_letter_X7 rfl rfl (by decide) (List.mem_of_getElem? (i := 1) (by decide +kernel)) rfl rfl dX7_letter_93 rfl ?_
            refine x_get 99 1 13 hC in_X7_letter_X5 rfl rfl (by decide) (List.mem_of_getElem? (i := 2) (by decide +kernel)) rfl rfl dX7_letter_96 rfl ?_
            refine x_get 102 2 2 hC in_X7_letter_X1 rfl rfl (by decide) (List.mem_of_getElem? (i := 6) (by decide +kernel)) rfl rfl dX7_letter_99 rfl ?_
            refine x_iload_n 103 1 hC dX7_letter_102 rfl rfl rfl ?_
            refine x_iconst 104 hC (1 : Int32) dX7_letter_103 rfl (by decide) ?_
            obtain ⟨R_10, h_R_10, hf⟩ := bd_e hf
            refine x_callVl 107 0 2 [3, 4, 5] [(a_this, .inr (7, [.ref a_now, r_history, r_open, r_search, r_planned, .int v_plannedTalks])), (a_now, .inr (5, [.int v_now_members, .int v_now_here, .int v_now_seed, .int v_now_talks, r_now_values, r_now_greatest, r_now_least, r_now_heard, r_now_joined, r_now_tickets, r_now_masses, r_now_books, r_now_owed, .ref a_now_letters])), (a_now_letters, .inr (1, [.ref a_now_letters_from, .ref a_now_letters_to, .ref a_now_letters_contents])), (a_now_letters_contents, .inr (3, [.ref a_now_letters_contents_sums, .ref a_now_letters_contents_weights])), (a_now_letters_contents_sums, .inl (cJ, 8, .inr (.inl v_now_letters_contents_sums))), (a_now_letters_contents_weights, .inl (cJ, 8, .inr (.inl v_now_letters_contents_weights))), (a_now_letters_from, .inl (cI, 8, .inl v_now_letters_from)), (a_now_letters_to, .inl (cI, 8, .inl v_now_letters_to))] hC (As := [.int p1, .int (1 : Int32)]) (c_X3_at l D cI cJ cQ a_now_letters_contents a_now_letters_contents_sums a_now_letters_contents_weights 8 v_now_letters_contents_sums v_now_letters_contents_weights p1 (1 : Int32) R_10 h_R_10) rfl rfl gX7_letter_X3_at rfl ⟨rfl, rfl⟩ hd_X3_at ⟨Nat.le_of_ble_eq_true rfl, Nat.le_of_ble_eq_true rfl⟩ rfl rfl rfl rfl rfl rfl (Nat.le_of_ble_eq_true rfl) ⟨Nat.le_of_ble_eq_true rfl, Nat.le_of_ble_eq_true rfl⟩ dX7_letter_104 rfl ?_
            cases hf
            exact x_lret hC dX7_letter_107 hQ rfl rfl
          · have hf := if_f hf c_9
            have t_c_3 : p2.toInt ≠ 0 := x_neI c_3 (by decide)
            have t_c_5 : p2.toInt ≠ 1 := x_neI c_5 (by decide)
            have t_c_7 : p2.toInt ≠ 2 := x_neI c_7 (by decide)
            have t_c_9 : p2.toInt ≠ 3 := x_neI c_9 (by decide)
            refine x_tabOut 108 hC dX7_letter_19 (by omega) (by decide) ?_
            refine x_ldc2 111 hC (v := (-1 : Int64)) (List.mem_of_getElem? (i := 3) (by decide +kernel)) dX7_letter_108 rfl ?_
            cases hf
            exact x_lret hC dX7_letter_111 hQ rfl rfl
  · have hf := if_f hf c_2
    refine x_ldc2 17 hC (v := (-1 : Int64)) (List.mem_of_getElem? (i := 3) (by decide +kernel)) dX7_letter_14 rfl ?_
    cases hf
    exact x_lret hC dX7_letter_17 hQ rfl rfl

theorem hd_X7_owed : yX7_owed.cls = RX7 ∧ yX7_owed.cls ≠ "java/lang/invoke/MethodHandle" ∧ yX7_owed.cls ≠ "java/lang/invoke/VarHandle" ∧ (parseMethodDescriptor yX7_owed.desc).map (fun d => d.parameters.length) = some 1 := by decide +kernel
theorem in_X7_owed_X7 : ∀ w ∈ u_ws RX7 TX7 6, w ∈ wsX7_owed := fun w h => List.mem_cons_of_mem _ (List.mem_append_left _ (List.mem_append_left _ (List.mem_append_right _ h)))
theorem in_X7_owed_X5 : ∀ w ∈ u_ws RX5 TX5 14, w ∈ wsX7_owed := fun w h => List.mem_cons_of_mem _ (List.mem_append_left _ (List.mem_append_right _ h))
noncomputable def f_X7_owed (v_now_owed_sums : Nat → Int64) (v_now_owed_weights : Nat → Int64) (p1 : Int32) : Option (Int64) := bd (f_X3_total 100 v_now_owed_sums v_now_owed_weights p1) fun R_1 => some (R_1)
set_option maxHeartbeats 4000000 in
set_option maxRecDepth 100000 in
theorem c_X7_owed (l : Launch) (D : va_G) (cI cJ cQ : ClassId) (a_this : Nat) (a_now : Nat) (a_now_owed : Nat) (a_now_owed_sums : Nat) (a_now_owed_weights : Nat) (r_history : Value) (r_open : Value) (r_search : Value) (r_planned : Value) (r_now_values : Value) (r_now_greatest : Value) (r_now_least : Value) (r_now_heard : Value) (r_now_joined : Value) (r_now_tickets : Value) (r_now_masses : Value) (r_now_books : Value) (r_now_letters : Value) (v_plannedTalks : Int32) (v_now_members : Int32) (v_now_here : Int32) (v_now_seed : Int32) (v_now_talks : Int32) (v_now_owed_sums : Nat → Int64) (v_now_owed_weights : Nat → Int64) (p1 : Int32) (R0 : Int64) (hf : f_X7_owed v_now_owed_sums v_now_owed_weights p1 = some R0) : Cl l yX7_owed wsX7_owed ({ frames := 2, cells := 0, slots := 0, locals := 87 } : Room) D [(cI, .int), (cJ, .long), (cQ, .object "WhisperCrowd$State")] [.ref a_this, .int p1] [(a_this, .inr (7, [.ref a_now, r_history, r_open, r_search, r_planned, .int v_plannedTalks])), (a_now, .inr (5, [.int v_now_members, .int v_now_here, .int v_now_seed, .int v_now_talks, r_now_values, r_now_greatest, r_now_least, r_now_heard, r_now_joined, r_now_tickets, r_now_masses, r_now_books, .ref a_now_owed, r_now_letters])), (a_now_owed, .inr (3, [.ref a_now_owed_sums, .ref a_now_owed_weights])), (a_now_owed_sums, .inl (cJ, 100, .inr (.inl v_now_owed_sums))), (a_now_owed_weights, .inl (cJ, 100, .inr (.inl v_now_owed_weights)))] [(a_this, .inr (7, [.ref a_now, r_history, r_open, r_search, r_planned, .int v_plannedTalks])), (a_now, .inr (5, [.int v_now_members, .int v_now_here, .int v_now_seed, .int v_now_talks, r_now_values, r_now_greatest, r_now_least, r_now_heard, r_now_joined, r_now_tickets, r_now_masses, r_now_books, .ref a_now_owed, r_now_letters])), (a_now_owed, .inr (3, [.ref a_now_owed_sums, .ref a_now_owed_weights])), (a_now_owed_sums, .inl (cJ, 100, .inr (.inl v_now_owed_sums))), (a_now_owed_weights, .inl (cJ, 100, .inr (.inl v_now_owed_weights)))] R0 := by
  refine x_entl (cc := cX7_owed) (maxL := 2) (rt := (some .long)) (lv := [(0, .ref a_this), (1, .int p1)]) (by decide) rfl (Nat.le_of_ble_eq_true rfl) rfl ?_
  intro p e s m args below meth c A Q hQ hC
  unfold f_X7_owed at hf
  refine x_aload_n 1 0 hC dX7_owed_0 rfl rfl rfl ?_
  refine x_get 4 0 0 hC in_X7_owed_X7 rfl rfl (by decide) (List.mem_of_getElem? (i := 1) (by decide +kernel)) rfl rfl dX7_owed_1 rfl ?_
  refine x_get 7 1 12 hC in_X7_owed_X5 rfl rfl (by decide) (List.mem_of_getElem? (i := 2) (by decide +kernel)) rfl rfl dX7_owed_4 rfl ?_
  refine x_iload_n 8 1 hC dX7_owed_7 rfl rfl rfl ?_
  obtain ⟨R_1, h_R_1, hf⟩ := bd_e hf
  refine x_callVl 11 0 1 [2, 3, 4] [(a_this, .inr (7, [.ref a_now, r_history, r_open, r_search, r_planned, .int v_plannedTalks])), (a_now, .inr (5, [.int v_now_members, .int v_now_here, .int v_now_seed, .int v_now_talks, r_now_values, r_now_greatest, r_now_least, r_now_heard, r_now_joined, r_now_tickets, r_now_masses, r_now_books, .ref a_now_owed, r_now_letters])), (a_now_owed, .inr (3, [.ref a_now_owed_sums, .ref a_now_owed_weights])), (a_now_owed_sums, .inl (cJ, 100, .inr (.inl v_now_owed_sums))), (a_now_owed_weights, .inl (cJ, 100, .inr (.inl v_now_owed_weights)))] hC (As := [.int p1]) (c_X3_total l D cI cJ cQ a_now_owed a_now_owed_sums a_now_owed_weights 100 v_now_owed_sums v_now_owed_weights p1 R_1 h_R_1) rfl rfl gX7_owed_X3_total rfl ⟨rfl, rfl⟩ hd_X3_total ⟨Nat.le_of_ble_eq_true rfl, Nat.le_of_ble_eq_true rfl⟩ rfl rfl rfl rfl rfl rfl (Nat.le_of_ble_eq_true rfl) ⟨Nat.le_of_ble_eq_true rfl, Nat.le_of_ble_eq_true rfl⟩ dX7_owed_8 rfl ?_
  cases hf
  exact x_lret hC dX7_owed_11 hQ rfl rfl

theorem hd_X7_all : yX7_all.cls = RX7 ∧ yX7_all.cls ≠ "java/lang/invoke/MethodHandle" ∧ yX7_all.cls ≠ "java/lang/invoke/VarHandle" ∧ (parseMethodDescriptor yX7_all.desc).map (fun d => d.parameters.length) = some 1 := by decide +kernel
theorem in_X7_all_X7 : ∀ w ∈ u_ws RX7 TX7 6, w ∈ wsX7_all := fun w h => List.mem_cons_of_mem _ (List.mem_append_left _ (List.mem_append_left _ (List.mem_append_left _ (List.mem_append_right _ h))))
theorem in_X7_all_X5 : ∀ w ∈ u_ws RX5 TX5 14, w ∈ wsX7_all := fun w h => List.mem_cons_of_mem _ (List.mem_append_left _ (List.mem_append_left _ (List.mem_append_right _ h)))
theorem in_X7_all_X1 : ∀ w ∈ u_ws RX1 TX1 3, w ∈ wsX7_all := fun w h => List.mem_cons_of_mem _ (List.mem_append_left _ (List.mem_append_right _ h))
noncomputable def f_X7_all (v_now_letters_contents_sums : Nat → Int64) (v_now_letters_contents_weights : Nat → Int64) (v_now_masses_sums : Nat → Int64) (v_now_masses_weights : Nat → Int64) (v_now_owed_sums : Nat → Int64) (v_now_owed_weights : Nat → Int64) (p1 : Int32) : Option (Int64) := bd (f_X3_total 10 v_now_masses_sums v_now_masses_weights p1) fun R_1 => bd (f_X3_total 8 v_now_letters_contents_sums v_now_letters_contents_weights p1) fun R_2 => bd (f_X3_total 100 v_now_owed_sums v_now_owed_weights p1) fun R_3 => some (((R_1 + R_2) + R_3))
set_option maxHeartbeats 4000000 in
set_option maxRecDepth 100000 in
theorem c_X7_all (l : Launch) (D : va_G) (cI cJ cQ : ClassId) (a_this : Nat) (a_now : Nat) (a_now_letters : Nat) (a_now_letters_contents : Nat) (a_now_letters_contents_sums : Nat) (a_now_letters_contents_weights : Nat) (a_now_masses : Nat) (a_now_masses_sums : Nat) (a_now_masses_weights : Nat) (a_now_owed : Nat) (a_now_owed_sums : Nat) (a_now_owed_weights : Nat) (r_history : Value) (r_open : Value) (r_search : Value) (r_planned : Value) (r_now_values : Value) (r_now_greatest : Value) (r_now_least : Value) (r_now_heard : Value) (r_now_joined : Value) (r_now_tickets : Value) (r_now_books : Value) (r_now_letters_from : Value) (r_now_letters_to : Value) (v_plannedTalks : Int32) (v_now_members : Int32) (v_now_here : Int32) (v_now_seed : Int32) (v_now_talks : Int32) (v_now_letters_contents_sums : Nat → Int64) (v_now_letters_contents_weights : Nat → Int64) (v_now_masses_sums : Nat → Int64) (v_now_masses_weights : Nat → Int64) (v_now_owed_sums : Nat → Int64) (v_now_owed_weights : Nat → Int64) (p1 : Int32) (R0 : Int64) (hf : f_X7_all v_now_letters_contents_sums v_now_letters_contents_weights v_now_masses_sums v_now_masses_weights v_now_owed_sums v_now_owed_weights p1 = some R0) : Cl l yX7_all wsX7_all ({ frames := 2, cells := 0, slots := 0, locals := 87 } : Room) D [(cI, .int), (cJ, .long), (cQ, .object "WhisperCrowd$State")] [.ref a_this, .int p1] [(a_this, .inr (7, [.ref a_now, r_history, r_open, r_search, r_planned, .int v_plannedTalks])), (a_now, .inr (5, [.int v_now_members, .int v_now_here, .int v_now_seed, .int v_now_talks, r_now_values, r_now_greatest, r_now_least, r_now_heard, r_now_joined, r_now_tickets, .ref a_now_masses, r_now_books, .ref a_now_owed, .ref a_now_letters])), (a_now_letters, .inr (1, [r_now_letters_from, r_now_letters_to, .ref a_now_letters_contents])), (a_now_letters_contents, .inr (3, [.ref a_now_letters_contents_sums, .ref a_now_letters_contents_weights])), (a_now_letters_contents_sums, .inl (cJ, 8, .inr (.inl v_now_letters_contents_sums))), (a_now_letters_contents_weights, .inl (cJ, 8, .inr (.inl v_now_letters_contents_weights))), (a_now_masses, .inr (3, [.ref a_now_masses_sums, .ref a_now_masses_weights])), (a_now_masses_sums, .inl (cJ, 10, .inr (.inl v_now_masses_sums))), (a_now_masses_weights, .inl (cJ, 10, .inr (.inl v_now_masses_weights))), (a_now_owed, .inr (3, [.ref a_now_owed_sums, .ref a_now_owed_weights])), (a_now_owed_sums, .inl (cJ, 100, .inr (.inl v_now_owed_sums))), (a_now_owed_weights, .inl (cJ, 100, .inr (.inl v_now_owed_weights)))] [(a_this, .inr (7, [.ref a_now, r_history, r_open, r_search, r_planned, .int v_plannedTalks])), (a_now, .inr (5, [.int v_now_members, .int v_now_here, .int v_now_seed, .int v_now_talks, r_now_values, r_now_greatest, r_now_least, r_now_heard, r_now_joined, r_now_tickets, .ref a_now_masses, r_now_books, .ref a_now_owed, .ref a_now_letters])), (a_now_letters, .inr (1, [r_now_letters_from, r_now_letters_to, .ref a_now_letters_contents])), (a_now_letters_contents, .inr (3, [.ref a_now_letters_contents_sums, .ref a_now_letters_contents_weights])), (a_now_letters_contents_sums, .inl (cJ, 8, .inr (.inl v_now_letters_contents_sums))), (a_now_letters_contents_weights, .inl (cJ, 8, .inr (.inl v_now_letters_contents_weights))), (a_now_masses, .inr (3, [.ref a_now_masses_sums, .ref a_now_masses_weights])), (a_now_masses_sums, .inl (cJ, 10, .inr (.inl v_now_masses_sums))), (a_now_masses_weights, .inl (cJ, 10, .inr (.inl v_now_masses_weights))), (a_now_owed, .inr (3, [.ref a_now_owed_sums, .ref a_now_owed_weights])), (a_now_owed_sums, .inl (cJ, 100, .inr (.inl v_now_owed_sums))), (a_now_owed_weights, .inl (cJ, 100, .inr (.inl v_now_owed_weights)))] R0 := by
  refine x_entl (cc := cX7_all) (maxL := 2) (rt := (some .long)) (lv := [(0, .ref a_this), (1, .int p1)]) (by decide) rfl (Nat.le_of_ble_eq_true rfl) rfl ?_
  intro p e s m args below meth c A Q hQ hC
  unfold f_X7_all at hf
  refine x_aload_n 1 0 hC dX7_all_0 rfl rfl rfl ?_
  refine x_get 4 0 0 hC in_X7_all_X7 rfl rfl (by decide) (List.mem_of_getElem? (i := 1) (by decide +kernel)) rfl rfl dX7_all_1 rfl ?_
  refine x_get 7 1 10 hC in_X7_all_X5 rfl rfl (by decide) (List.mem_of_getElem? (i := 2) (by decide +kernel)) rfl rfl dX7_all_4 rfl ?_
  refine x_iload_n 8 1 hC dX7_all_7 rfl rfl rfl ?_
  obtain ⟨R_1, h_R_1, hf⟩ := bd_e hf
  refine x_callVl 11 0 1 [6, 7, 8] [(a_this, .inr (7, [.ref a_now, r_history, r_open, r_search, r_planned, .int v_plannedTalks])), (a_now, .inr (5, [.int v_now_members, .int v_now_here, .int v_now_seed, .int v_now_talks, r_now_values, r_now_greatest, r_now_least, r_now_heard, r_now_joined, r_now_tickets, .ref a_now_masses, r_now_books, .ref a_now_owed, .ref a_now_letters])), (a_now_letters, .inr (1, [r_now_letters_from, r_now_letters_to, .ref a_now_letters_contents])), (a_now_letters_contents, .inr (3, [.ref a_now_letters_contents_sums, .ref a_now_letters_contents_weights])), (a_now_letters_contents_sums, .inl (cJ, 8, .inr (.inl v_now_letters_contents_sums))), (a_now_letters_contents_weights, .inl (cJ, 8, .inr (.inl v_now_letters_contents_weights))), (a_now_masses, .inr (3, [.ref a_now_masses_sums, .ref a_now_masses_weights])), (a_now_masses_sums, .inl (cJ, 10, .inr (.inl v_now_masses_sums))), (a_now_masses_weights, .inl (cJ, 10, .inr (.inl v_now_masses_weights))), (a_now_owed, .inr (3, [.ref a_now_owed_sums, .ref a_now_owed_weights])), (a_now_owed_sums, .inl (cJ, 100, .inr (.inl v_now_owed_sums))), (a_now_owed_weights, .inl (cJ, 100, .inr (.inl v_now_owed_weights)))] hC (As := [.int p1]) (c_X3_total l D cI cJ cQ a_now_masses a_now_masses_sums a_now_masses_weights 10 v_now_masses_sums v_now_masses_weights p1 R_1 h_R_1) rfl rfl gX7_all_X3_total rfl ⟨rfl, rfl⟩ hd_X3_total ⟨Nat.le_of_ble_eq_true rfl, Nat.le_of_ble_eq_true rfl⟩ rfl rfl rfl rfl rfl rfl (Nat.le_of_ble_eq_true rfl) ⟨Nat.le_of_ble_eq_true rfl, Nat.le_of_ble_eq_true rfl⟩ dX7_all_8 rfl ?_
  refine x_aload_n 12 0 hC dX7_all_11 rfl rfl rfl ?_
  refine x_get 15 0 0 hC in_X7_all_X7 rfl rfl (by decide) (List.mem_of_getElem? (i := 1) (by decide +kernel)) rfl rfl dX7_all_12 rfl ?_
  refine x_get 18 1 13 hC in_X7_all_X5 rfl rfl (by decide) (List.mem_of_getElem? (i := 3) (by decide +kernel)) rfl rfl dX7_all_15 rfl ?_
  refine x_get 21 2 2 hC in_X7_all_X1 rfl rfl (by decide) (List.mem_of_getElem? (i := 4) (by decide +kernel)) rfl rfl dX7_all_18 rfl ?_
  refine x_iload_n 22 1 hC dX7_all_21 rfl rfl rfl ?_
  obtain ⟨R_2, h_R_2, hf⟩ := bd_e hf
  refine x_callVl 25 0 1 [3, 4, 5] [(a_this, .inr (7, [.ref a_now, r_history, r_open, r_search, r_planned, .int v_plannedTalks])), (a_now, .inr (5, [.int v_now_members, .int v_now_here, .int v_now_seed, .int v_now_talks, r_now_values, r_now_greatest, r_now_least, r_now_heard, r_now_joined, r_now_tickets, .ref a_now_masses, r_now_books, .ref a_now_owed, .ref a_now_letters])), (a_now_letters, .inr (1, [r_now_letters_from, r_now_letters_to, .ref a_now_letters_contents])), (a_now_letters_contents, .inr (3, [.ref a_now_letters_contents_sums, .ref a_now_letters_contents_weights])), (a_now_letters_contents_sums, .inl (cJ, 8, .inr (.inl v_now_letters_contents_sums))), (a_now_letters_contents_weights, .inl (cJ, 8, .inr (.inl v_now_letters_contents_weights))), (a_now_masses, .inr (3, [.ref a_now_masses_sums, .ref a_now_masses_weights])), (a_now_masses_sums, .inl (cJ, 10, .inr (.inl v_now_masses_sums))), (a_now_masses_weights, .inl (cJ, 10, .inr (.inl v_now_masses_weights))), (a_now_owed, .inr (3, [.ref a_now_owed_sums, .ref a_now_owed_weights])), (a_now_owed_sums, .inl (cJ, 100, .inr (.inl v_now_owed_sums))), (a_now_owed_weights, .inl (cJ, 100, .inr (.inl v_now_owed_weights)))] hC (As := [.int p1]) (c_X3_total l D cI cJ cQ a_now_letters_contents a_now_letters_contents_sums a_now_letters_contents_weights 8 v_now_letters_contents_sums v_now_letters_contents_weights p1 R_2 h_R_2) rfl rfl gX7_all_X3_total rfl ⟨rfl, rfl⟩ hd_X3_total ⟨Nat.le_of_ble_eq_true rfl, Nat.le_of_ble_eq_true rfl⟩ rfl rfl rfl rfl rfl rfl (Nat.le_of_ble_eq_true rfl) ⟨Nat.le_of_ble_eq_true rfl, Nat.le_of_ble_eq_true rfl⟩ dX7_all_22 rfl ?_
  refine x_ladd 26 hC dX7_all_25 rfl ?_
  refine x_aload_n 27 0 hC dX7_all_26 rfl rfl rfl ?_
  refine x_get 30 0 0 hC in_X7_all_X7 rfl rfl (by decide) (List.mem_of_getElem? (i := 1) (by decide +kernel)) rfl rfl dX7_all_27 rfl ?_
  refine x_get 33 1 12 hC in_X7_all_X5 rfl rfl (by decide) (List.mem_of_getElem? (i := 5) (by decide +kernel)) rfl rfl dX7_all_30 rfl ?_
  refine x_iload_n 34 1 hC dX7_all_33 rfl rfl rfl ?_
  obtain ⟨R_3, h_R_3, hf⟩ := bd_e hf
  refine x_callVl 37 0 1 [9, 10, 11] [(a_this, .inr (7, [.ref a_now, r_history, r_open, r_search, r_planned, .int v_plannedTalks])), (a_now, .inr (5, [.int v_now_members, .int v_now_here, .int v_now_seed, .int v_now_talks, r_now_values, r_now_greatest, r_now_least, r_now_heard, r_now_joined, r_now_tickets, .ref a_now_masses, r_now_books, .ref a_now_owed, .ref a_now_letters])), (a_now_letters, .inr (1, [r_now_letters_from, r_now_letters_to, .ref a_now_letters_contents])), (a_now_letters_contents, .inr (3, [.ref a_now_letters_contents_sums, .ref a_now_letters_contents_weights])), (a_now_letters_contents_sums, .inl (cJ, 8, .inr (.inl v_now_letters_contents_sums))), (a_now_letters_contents_weights, .inl (cJ, 8, .inr (.inl v_now_letters_contents_weights))), (a_now_masses, .inr (3, [.ref a_now_masses_sums, .ref a_now_masses_weights])), (a_now_masses_sums, .inl (cJ, 10, .inr (.inl v_now_masses_sums))), (a_now_masses_weights, .inl (cJ, 10, .inr (.inl v_now_masses_weights))), (a_now_owed, .inr (3, [.ref a_now_owed_sums, .ref a_now_owed_weights])), (a_now_owed_sums, .inl (cJ, 100, .inr (.inl v_now_owed_sums))), (a_now_owed_weights, .inl (cJ, 100, .inr (.inl v_now_owed_weights)))] hC (As := [.int p1]) (c_X3_total l D cI cJ cQ a_now_owed a_now_owed_sums a_now_owed_weights 100 v_now_owed_sums v_now_owed_weights p1 R_3 h_R_3) rfl rfl gX7_all_X3_total rfl ⟨rfl, rfl⟩ hd_X3_total ⟨Nat.le_of_ble_eq_true rfl, Nat.le_of_ble_eq_true rfl⟩ rfl rfl rfl rfl rfl rfl (Nat.le_of_ble_eq_true rfl) ⟨Nat.le_of_ble_eq_true rfl, Nat.le_of_ble_eq_true rfl⟩ dX7_all_34 rfl ?_
  refine x_ladd 38 hC dX7_all_37 rfl ?_
  cases hf
  exact x_lret hC dX7_all_38 hQ rfl rfl
