theorem hd_X1_isUnderWay : yX1_isUnderWay.cls = RX1 ∧ yX1_isUnderWay.cls ≠ "java/lang/invoke/MethodHandle" ∧ yX1_isUnderWay.cls ≠ "java/lang/invoke/VarHandle" ∧ (parseMethodDescriptor yX1_isUnderWay.desc).map (fun d => d.parameters.length) = some 1 := by decide +kernel
theorem in_X1_isUnderWay_X1 : ∀ w ∈ u_ws RX1 TX1 3, w ∈ wsX1_isUnderWay := fun w h => List.mem_cons_of_mem _ (List.mem_append_right _ h)
noncomputable def f_X1_isUnderWay (v_from : Nat → Int32) (p1 : Int32) : Option (Int32) := if p1 < 0 then (some ((0 : Int32))) else (if (8 : Int32) ≤ p1 then (some ((0 : Int32))) else (ck p1 8 <| if (v_from p1.toNatClampNeg) = (-1 : Int32) then (some ((0 : Int32))) else (some ((1 : Int32)))))
set_option maxHeartbeats 4000000 in
set_option maxRecDepth 100000 in
theorem c_X1_isUnderWay (l : Launch) (D : va_G) (cI cJ cQ : ClassId) (a_this : Nat) (a_from : Nat) (r_to : Value) (r_contents : Value) (v_from : Nat → Int32) (p1 : Int32) (R0 : Int32) (hf : f_X1_isUnderWay v_from p1 = some R0) : Ci l yX1_isUnderWay wsX1_isUnderWay ({ frames := 1, cells := 0, slots := 0, locals := 60 } : Room) D [(cI, .int), (cJ, .long), (cQ, .object "WhisperCrowd$State")] [.ref a_this, .int p1] [(a_this, .inr (1, [.ref a_from, r_to, r_contents])), (a_from, .inl (cI, 8, .inl v_from))] [(a_this, .inr (1, [.ref a_from, r_to, r_contents])), (a_from, .inl (cI, 8, .inl v_from))] R0 := by
  refine x_enti (cc := cX1_isUnderWay) (maxL := 2) (rt := (some .boolean)) (lv := [(0, .ref a_this), (1, .int p1)]) (by decide) rfl (Nat.le_of_ble_eq_true rfl) rfl ?_
  intro p e s m args below meth c A Q hQ hC
  unfold f_X1_isUnderWay at hf
  refine x_iload_n 1 1 hC dX1_isUnderWay_0 rfl rfl rfl ?_
  refine x_if_lt 24 4 hC dX1_isUnderWay_1 (by decide) rfl (fun c_1 => ?_) (fun c_1 => ?_)
  · have hf := if_t hf c_1
    refine x_iconst 25 hC (0 : Int32) dX1_isUnderWay_24 rfl (by decide) ?_
    cases hf
    exact x_zret hC rfl dX1_isUnderWay_25 hQ rfl rfl
  · have hf := if_f hf c_1
    refine x_iload_n 5 1 hC dX1_isUnderWay_4 rfl rfl rfl ?_
    refine x_bipush 7 hC (8 : Int32) dX1_isUnderWay_5 rfl (by decide) ?_
    refine x_icmp_ge 24 10 hC dX1_isUnderWay_7 (by decide) rfl (fun c_2 => ?_) (fun c_2 => ?_)
    · have hf := if_t hf c_2
      refine x_iconst 25 hC (0 : Int32) dX1_isUnderWay_24 rfl (by decide) ?_
      cases hf
      exact x_zret hC rfl dX1_isUnderWay_25 hQ rfl rfl
    · have hf := if_f hf c_2
      refine x_aload_n 11 0 hC dX1_isUnderWay_10 rfl rfl rfl ?_
      refine x_get 14 0 0 hC in_X1_isUnderWay_X1 rfl rfl (by decide) (List.mem_of_getElem? (i := 1) (by decide +kernel)) rfl rfl dX1_isUnderWay_11 rfl ?_
      refine x_iload_n 15 1 hC dX1_isUnderWay_14 rfl rfl rfl ?_
      obtain ⟨h_3, hf⟩ := ck_e hf
      refine x_iald 16 1 0 hC rfl rfl h_3 dX1_isUnderWay_15 rfl ?_
      refine x_iconst 17 hC (-1 : Int32) dX1_isUnderWay_16 rfl (by decide) ?_
      refine x_icmp_eq 24 20 hC dX1_isUnderWay_17 (by decide) rfl (fun c_4 => ?_) (fun c_4 => ?_)
      · have hf := if_t hf c_4
        refine x_iconst 25 hC (0 : Int32) dX1_isUnderWay_24 rfl (by decide) ?_
        cases hf
        exact x_zret hC rfl dX1_isUnderWay_25 hQ rfl rfl
      · have hf := if_f hf c_4
        refine x_iconst 21 hC (1 : Int32) dX1_isUnderWay_20 rfl (by decide) ?_
        refine x_goto 25 hC dX1_isUnderWay_21 (by decide) ?_
        cases hf
        exact x_zret hC rfl dX1_isUnderWay_25 hQ rfl rfl

theorem hd_X1_firstFree : yX1_firstFree.cls = RX1 ∧ yX1_firstFree.cls ≠ "java/lang/invoke/MethodHandle" ∧ yX1_firstFree.cls ≠ "java/lang/invoke/VarHandle" ∧ (parseMethodDescriptor yX1_firstFree.desc).map (fun d => d.parameters.length) = some 0 := by decide +kernel
noncomputable def f_X1_firstFree_c2 (v_from : Nat → Int32) : Nat → Int32 → Option (Int32)
  | 0, _ => none
  | n + 1, k2_l1 => if (8 : Int32) ≤ k2_l1 then (some (k2_l1)) else (bd (f_X1_isUnderWay v_from k2_l1) fun R_2 => if R_2 = 0 then (some (k2_l1)) else (nm (k2_l1 + (1 : Int32)) fun x_4 => (fun k2_l1 => f_X1_firstFree_c2 v_from n k2_l1) x_4))
noncomputable def f_X1_firstFree (v_from : Nat → Int32) : Option (Int32) := f_X1_firstFree_c2 v_from fu (0 : Int32)
set_option maxHeartbeats 4000000 in
set_option maxRecDepth 100000 in
theorem c_X1_firstFree (l : Launch) (D : va_G) (cI cJ cQ : ClassId) (a_this : Nat) (a_from : Nat) (r_to : Value) (r_contents : Value) (v_from : Nat → Int32) (R0 : Int32) (hf : f_X1_firstFree v_from = some R0) : Ci l yX1_firstFree wsX1_firstFree ({ frames := 2, cells := 0, slots := 0, locals := 83 } : Room) D [(cI, .int), (cJ, .long), (cQ, .object "WhisperCrowd$State")] [.ref a_this] [(a_this, .inr (1, [.ref a_from, r_to, r_contents])), (a_from, .inl (cI, 8, .inl v_from))] [(a_this, .inr (1, [.ref a_from, r_to, r_contents])), (a_from, .inl (cI, 8, .inl v_from))] R0 := by
  refine x_enti (cc := cX1_firstFree) (maxL := 2) (rt := (some .int)) (lv := [(0, .ref a_this)]) (by decide) rfl (Nat.le_of_ble_eq_true rfl) rfl ?_
  intro p e s m args below meth c A Q hQ hC
  have J_2 : ∀ (n : Nat) (k2_l1 : Int32), f_X1_firstFree_c2 v_from n k2_l1 = some R0 → XW p l e ({ frames := 2, cells := 0, slots := 0, locals := 83 } : Room) s m args below meth c D A 2 0 0 Q [(a_this, .inr (1, [.ref a_from, r_to, r_contents])), (a_from, .inl (cI, 8, .inl v_from))] [] [(0, .ref a_this), (1, .int k2_l1)] 2 [] := by
    intro n
    induction n with
    | zero => intro k2_l1 hf; exact nomatch (show (none : Option (Int32)) = some R0 from hf)
    | succ n_2 ih_2 =>
      intro k2_l1 hf
      unfold f_X1_firstFree_c2 at hf
      refine x_iload_n 3 1 hC dX1_firstFree_2 rfl rfl rfl ?_
      refine x_bipush 5 hC (8 : Int32) dX1_firstFree_3 rfl (by decide) ?_
      refine x_icmp_ge 22 8 hC dX1_firstFree_5 (by decide) rfl (fun c_1 => ?_) (fun c_1 => ?_)
      · have hf := if_t hf c_1
        refine x_iload_n 23 1 hC dX1_firstFree_22 rfl rfl rfl ?_
        cases hf
        exact x_iret hC dX1_firstFree_23 hQ rfl rfl
      · have hf := if_f hf c_1
        refine x_aload_n 9 0 hC dX1_firstFree_8 rfl rfl rfl ?_
        refine x_iload_n 10 1 hC dX1_firstFree_9 rfl rfl rfl ?_
        obtain ⟨R_2, h_R_2, hf⟩ := bd_e hf
        refine x_callVi 13 0 1 [0, 1] [(a_this, .inr (1, [.ref a_from, r_to, r_contents])), (a_from, .inl (cI, 8, .inl v_from))] hC (As := [.int k2_l1]) (c_X1_isUnderWay l D cI cJ cQ a_this a_from r_to r_contents v_from k2_l1 R_2 h_R_2) rfl rfl gX1_firstFree_X1_isUnderWay rfl ⟨rfl, rfl⟩ hd_X1_isUnderWay ⟨Nat.le_of_ble_eq_true rfl, Nat.le_of_ble_eq_true rfl⟩ rfl rfl rfl rfl rfl rfl (Nat.le_of_ble_eq_true rfl) ⟨Nat.le_of_ble_eq_true rfl, Nat.le_of_ble_eq_true rfl⟩ dX1_firstFree_10 rfl ?_
        refine x_if_eq 22 16 hC dX1_firstFree_13 (by decide) rfl (fun c_3 => ?_) (fun c_3 => ?_)
        · have hf := if_t hf c_3
          refine x_iload_n 23 1 hC dX1_firstFree_22 rfl rfl rfl ?_
          cases hf
          exact x_iret hC dX1_firstFree_23 hQ rfl rfl
        · have hf := if_f hf c_3
          obtain ⟨x_4, e_x_4, hf⟩ := nmx_e hf
          refine x_iinc 19 1 [(1, .int x_4), (0, .ref a_this)] hC dX1_firstFree_16 rfl rfl e_x_4 (by decide) (by decide) rfl ?_
          refine x_goto 2 hC dX1_firstFree_19 (by decide) ?_
          refine x_lv [(0, .ref a_this), (1, .int x_4)] [1, 0] rfl ?_
          exact ih_2 x_4 hf
  unfold f_X1_firstFree at hf
  refine x_iconst 1 hC (0 : Int32) dX1_firstFree_0 rfl (by decide) ?_
  refine x_istore_n 2 [(1, .int (0 : Int32)), (0, .ref a_this)] hC dX1_firstFree_1 rfl rfl rfl (by decide) rfl ?_
  refine x_lv [(0, .ref a_this), (1, .int (0 : Int32))] [1, 0] rfl ?_
  exact J_2 fu (0 : Int32) hf

theorem hd_X1_underWayCount : yX1_underWayCount.cls = RX1 ∧ yX1_underWayCount.cls ≠ "java/lang/invoke/MethodHandle" ∧ yX1_underWayCount.cls ≠ "java/lang/invoke/VarHandle" ∧ (parseMethodDescriptor yX1_underWayCount.desc).map (fun d => d.parameters.length) = some 0 := by decide +kernel
noncomputable def f_X1_underWayCount_c24 (k4 : Int32 → Int32 → Option (Int32)) (v_from : Nat → Int32) (k24_l2 : Int32) (k24_s0 : Int32) (k24_s1 : Int32) : Option (Int32) := nm (k24_s1 + k24_s0) fun x_1 => nm (k24_l2 + (1 : Int32)) fun x_2 => k4 x_1 x_2
noncomputable def f_X1_underWayCount_c4 (v_from : Nat → Int32) : Nat → Int32 → Int32 → Option (Int32)
  | 0, _, _ => none
  | n + 1, k4_l1, k4_l2 => if (8 : Int32) ≤ k4_l2 then (some (k4_l1)) else (bd (f_X1_isUnderWay v_from k4_l2) fun R_4 => if R_4 = 0 then (f_X1_underWayCount_c24 (fun k4_l1 k4_l2 => f_X1_underWayCount_c4 v_from n k4_l1 k4_l2) v_from k4_l2 (0 : Int32) k4_l1) else (f_X1_underWayCount_c24 (fun k4_l1 k4_l2 => f_X1_underWayCount_c4 v_from n k4_l1 k4_l2) v_from k4_l2 (1 : Int32) k4_l1))
noncomputable def f_X1_underWayCount (v_from : Nat → Int32) : Option (Int32) := f_X1_underWayCount_c4 v_from fu (0 : Int32) (0 : Int32)
set_option maxHeartbeats 4000000 in
set_option maxRecDepth 100000 in
theorem c_X1_underWayCount (l : Launch) (D : va_G) (cI cJ cQ : ClassId) (a_this : Nat) (a_from : Nat) (r_to : Value) (r_contents : Value) (v_from : Nat → Int32) (R0 : Int32) (hf : f_X1_underWayCount v_from = some R0) : Ci l yX1_underWayCount wsX1_underWayCount ({ frames := 2, cells := 0, slots := 0, locals := 83 } : Room) D [(cI, .int), (cJ, .long), (cQ, .object "WhisperCrowd$State")] [.ref a_this] [(a_this, .inr (1, [.ref a_from, r_to, r_contents])), (a_from, .inl (cI, 8, .inl v_from))] [(a_this, .inr (1, [.ref a_from, r_to, r_contents])), (a_from, .inl (cI, 8, .inl v_from))] R0 := by
  refine x_enti (cc := cX1_underWayCount) (maxL := 3) (rt := (some .int)) (lv := [(0, .ref a_this)]) (by decide) rfl (Nat.le_of_ble_eq_true rfl) rfl ?_
  intro p e s m args below meth c A Q hQ hC
  have J_4 : ∀ (n : Nat) (k4_l1 : Int32) (k4_l2 : Int32), f_X1_underWayCount_c4 v_from n k4_l1 k4_l2 = some R0 → XW p l e ({ frames := 2, cells := 0, slots := 0, locals := 83 } : Room) s m args below meth c D A 3 0 0 Q [(a_this, .inr (1, [.ref a_from, r_to, r_contents])), (a_from, .inl (cI, 8, .inl v_from))] [] [(0, .ref a_this), (1, .int k4_l1), (2, .int k4_l2)] 4 [] := by
    intro n
    induction n with
    | zero => intro k4_l1 k4_l2 hf; exact nomatch (show (none : Option (Int32)) = some R0 from hf)
    | succ n_4 ih_4 =>
      have J_24 : ∀ (k24_l2 : Int32) (k24_s0 : Int32) (k24_s1 : Int32), f_X1_underWayCount_c24 (fun k4_l1 k4_l2 => f_X1_underWayCount_c4 v_from n_4 k4_l1 k4_l2) v_from k24_l2 k24_s0 k24_s1 = some R0 → XW p l e ({ frames := 2, cells := 0, slots := 0, locals := 83 } : Room) s m args below meth c D A 3 0 0 Q [(a_this, .inr (1, [.ref a_from, r_to, r_contents])), (a_from, .inl (cI, 8, .inl v_from))] [] [(0, .ref a_this), (2, .int k24_l2)] 24 [.int k24_s0, .int k24_s1] := by
        intro k24_l2 k24_s0 k24_s1 hf
        unfold f_X1_underWayCount_c24 at hf
        refine x_iadd 25 hC dX1_underWayCount_24 rfl ?_
        obtain ⟨x_1, e_x_1, hf⟩ := nmx_e hf
        refine x_istore_n 26 [(1, .int x_1), (0, .ref a_this), (2, .int k24_l2)] hC dX1_underWayCount_25 rfl rfl e_x_1 (by decide) rfl ?_
        obtain ⟨x_2, e_x_2, hf⟩ := nmx_e hf
        refine x_iinc 29 2 [(2, .int x_2), (1, .int x_1), (0, .ref a_this)] hC dX1_underWayCount_26 rfl rfl e_x_2 (by decide) (by decide) rfl ?_
        refine x_goto 4 hC dX1_underWayCount_29 (by decide) ?_
        refine x_lv [(0, .ref a_this), (1, .int x_1), (2, .int x_2)] [2, 1, 0] rfl ?_
        exact ih_4 x_1 x_2 hf
      intro k4_l1 k4_l2 hf
      unfold f_X1_underWayCount_c4 at hf
      refine x_iload_n 5 2 hC dX1_underWayCount_4 rfl rfl rfl ?_
      refine x_bipush 7 hC (8 : Int32) dX1_underWayCount_5 rfl (by decide) ?_
      refine x_icmp_ge 32 10 hC dX1_underWayCount_7 (by decide) rfl (fun c_3 => ?_) (fun c_3 => ?_)
      · have hf := if_t hf c_3
        refine x_iload_n 33 1 hC dX1_underWayCount_32 rfl rfl rfl ?_
        cases hf
        exact x_iret hC dX1_underWayCount_33 hQ rfl rfl
      · have hf := if_f hf c_3
        refine x_iload_n 11 1 hC dX1_underWayCount_10 rfl rfl rfl ?_
        refine x_aload_n 12 0 hC dX1_underWayCount_11 rfl rfl rfl ?_
        refine x_iload_n 13 2 hC dX1_underWayCount_12 rfl rfl rfl ?_
        obtain ⟨R_4, h_R_4, hf⟩ := bd_e hf
        refine x_callVi 16 0 1 [0, 1] [(a_this, .inr (1, [.ref a_from, r_to, r_contents])), (a_from, .inl (cI, 8, .inl v_from))] hC (As := [.int k4_l2]) (c_X1_isUnderWay l D cI cJ cQ a_this a_from r_to r_contents v_from k4_l2 R_4 h_R_4) rfl rfl gX1_underWayCount_X1_isUnderWay rfl ⟨rfl, rfl⟩ hd_X1_isUnderWay ⟨Nat.le_of_ble_eq_true rfl, Nat.le_of_ble_eq_true rfl⟩ rfl rfl rfl rfl rfl rfl (Nat.le_of_ble_eq_true rfl) ⟨Nat.le_of_ble_eq_true rfl, Nat.le_of_ble_eq_true rfl⟩ dX1_underWayCount_13 rfl ?_
        refine x_if_eq 23 19 hC dX1_underWayCount_16 (by decide) rfl (fun c_5 => ?_) (fun c_5 => ?_)
        · have hf := if_t hf c_5
          refine x_iconst 24 hC (0 : Int32) dX1_underWayCount_23 rfl (by decide) ?_
          refine x_lv [(0, .ref a_this), (2, .int k4_l2)] [0, 2] rfl ?_
          exact J_24 k4_l2 (0 : Int32) k4_l1 hf
        · have hf := if_f hf c_5
          refine x_iconst 20 hC (1 : Int32) dX1_underWayCount_19 rfl (by decide) ?_
          refine x_goto 24 hC dX1_underWayCount_20 (by decide) ?_
          refine x_lv [(0, .ref a_this), (2, .int k4_l2)] [0, 2] rfl ?_
          exact J_24 k4_l2 (1 : Int32) k4_l1 hf
  unfold f_X1_underWayCount at hf
  refine x_iconst 1 hC (0 : Int32) dX1_underWayCount_0 rfl (by decide) ?_
  refine x_istore_n 2 [(1, .int (0 : Int32)), (0, .ref a_this)] hC dX1_underWayCount_1 rfl rfl rfl (by decide) rfl ?_
  refine x_iconst 3 hC (0 : Int32) dX1_underWayCount_2 rfl (by decide) ?_
  refine x_istore_n 4 [(2, .int (0 : Int32)), (1, .int (0 : Int32)), (0, .ref a_this)] hC dX1_underWayCount_3 rfl rfl rfl (by decide) rfl ?_
  refine x_lv [(0, .ref a_this), (1, .int (0 : Int32)), (2, .int (0 : Int32))] [2, 1, 0] rfl ?_
  exact J_4 fu (0 : Int32) (0 : Int32) hf

theorem hd_X1_isOf : yX1_isOf.cls = RX1 ∧ yX1_isOf.cls ≠ "java/lang/invoke/MethodHandle" ∧ yX1_isOf.cls ≠ "java/lang/invoke/VarHandle" ∧ (parseMethodDescriptor yX1_isOf.desc).map (fun d => d.parameters.length) = some 2 := by decide +kernel
theorem in_X1_isOf_X1 : ∀ w ∈ u_ws RX1 TX1 3, w ∈ wsX1_isOf := fun w h => List.mem_cons_of_mem _ (List.mem_append_right _ h)
noncomputable def f_X1_isOf (v_from : Nat → Int32) (v_to : Nat → Int32) (p1 : Int32) (p2 : Int32) : Option (Int32) := bd (f_X1_isUnderWay v_from p1) fun R_1 => if R_1 = 0 then (some ((0 : Int32))) else (ck p1 8 <| if (v_from p1.toNatClampNeg) = p2 then (some ((1 : Int32))) else (ck p1 8 <| if ¬ (v_to p1.toNatClampNeg) = p2 then (some ((0 : Int32))) else (some ((1 : Int32)))))
set_option maxHeartbeats 4000000 in
set_option maxRecDepth 100000 in
theorem c_X1_isOf (l : Launch) (D : va_G) (cI cJ cQ : ClassId) (a_this : Nat) (a_from : Nat) (a_to : Nat) (r_contents : Value) (v_from : Nat → Int32) (v_to : Nat → Int32) (p1 : Int32) (p2 : Int32) (R0 : Int32) (hf : f_X1_isOf v_from v_to p1 p2 = some R0) : Ci l yX1_isOf wsX1_isOf ({ frames := 2, cells := 0, slots := 0, locals := 83 } : Room) D [(cI, .int), (cJ, .long), (cQ, .object "WhisperCrowd$State")] [.ref a_this, .int p1, .int p2] [(a_this, .inr (1, [.ref a_from, .ref a_to, r_contents])), (a_from, .inl (cI, 8, .inl v_from)), (a_to, .inl (cI, 8, .inl v_to))] [(a_this, .inr (1, [.ref a_from, .ref a_to, r_contents])), (a_from, .inl (cI, 8, .inl v_from)), (a_to, .inl (cI, 8, .inl v_to))] R0 := by
  refine x_enti (cc := cX1_isOf) (maxL := 3) (rt := (some .boolean)) (lv := [(0, .ref a_this), (1, .int p1), (2, .int p2)]) (by decide) rfl (Nat.le_of_ble_eq_true rfl) rfl ?_
  intro p e s m args below meth c A Q hQ hC
  unfold f_X1_isOf at hf
  refine x_aload_n 1 0 hC dX1_isOf_0 rfl rfl rfl ?_
  refine x_iload_n 2 1 hC dX1_isOf_1 rfl rfl rfl ?_
  obtain ⟨R_1, h_R_1, hf⟩ := bd_e hf
  refine x_callVi 5 0 1 [0, 1] [(a_this, .inr (1, [.ref a_from, .ref a_to, r_contents])), (a_from, .inl (cI, 8, .inl v_from)), (a_to, .inl (cI, 8, .inl v_to))] hC (As := [.int p1]) (c_X1_isUnderWay l D cI cJ cQ a_this a_from (.ref a_to) r_contents v_from p1 R_1 h_R_1) rfl rfl gX1_isOf_X1_isUnderWay rfl ⟨rfl, rfl⟩ hd_X1_isUnderWay ⟨Nat.le_of_ble_eq_true rfl, Nat.le_of_ble_eq_true rfl⟩ rfl rfl rfl rfl rfl rfl (Nat.le_of_ble_eq_true rfl) ⟨Nat.le_of_ble_eq_true rfl, Nat.le_of_ble_eq_true rfl⟩ dX1_isOf_2 rfl ?_
  refine x_if_eq 32 8 hC dX1_isOf_5 (by decide) rfl (fun c_2 => ?_) (fun c_2 => ?_)
  · have hf := if_t hf c_2
    refine x_iconst 33 hC (0 : Int32) dX1_isOf_32 rfl (by decide) ?_
    cases hf
    exact x_zret hC rfl dX1_isOf_33 hQ rfl rfl
  · have hf := if_f hf c_2
    refine x_aload_n 9 0 hC dX1_isOf_8 rfl rfl rfl ?_
    refine x_get 12 0 0 hC in_X1_isOf_X1 rfl rfl (by decide) (List.mem_of_getElem? (i := 1) (by decide +kernel)) rfl rfl dX1_isOf_9 rfl ?_
    refine x_iload_n 13 1 hC dX1_isOf_12 rfl rfl rfl ?_
    obtain ⟨h_3, hf⟩ := ck_e hf
    refine x_iald 14 1 0 hC rfl rfl h_3 dX1_isOf_13 rfl ?_
    refine x_iload_n 15 2 hC dX1_isOf_14 rfl rfl rfl ?_
    refine x_icmp_eq 28 18 hC dX1_isOf_15 (by decide) rfl (fun c_4 => ?_) (fun c_4 => ?_)
    · have hf := if_t hf c_4
      refine x_iconst 29 hC (1 : Int32) dX1_isOf_28 rfl (by decide) ?_
      refine x_goto 33 hC dX1_isOf_29 (by decide) ?_
      cases hf
      exact x_zret hC rfl dX1_isOf_33 hQ rfl rfl
    · have hf := if_f hf c_4
      refine x_aload_n 19 0 hC dX1_isOf_18 rfl rfl rfl ?_
      refine x_get 22 0 1 hC in_X1_isOf_X1 rfl rfl (by decide) (List.mem_of_getElem? (i := 2) (by decide +kernel)) rfl rfl dX1_isOf_19 rfl ?_
      refine x_iload_n 23 1 hC dX1_isOf_22 rfl rfl rfl ?_
      obtain ⟨h_5, hf⟩ := ck_e hf
      refine x_iald 24 2 0 hC rfl rfl h_5 dX1_isOf_23 rfl ?_
      refine x_iload_n 25 2 hC dX1_isOf_24 rfl rfl rfl ?_
      refine x_icmp_ne 32 28 hC dX1_isOf_25 (by decide) rfl (fun c_6 => ?_) (fun c_6 => ?_)
      · have hf := if_t hf c_6
        refine x_iconst 33 hC (0 : Int32) dX1_isOf_32 rfl (by decide) ?_
        cases hf
        exact x_zret hC rfl dX1_isOf_33 hQ rfl rfl
      · have hf := if_f hf c_6
        refine x_iconst 29 hC (1 : Int32) dX1_isOf_28 rfl (by decide) ?_
        refine x_goto 33 hC dX1_isOf_29 (by decide) ?_
        cases hf
        exact x_zret hC rfl dX1_isOf_33 hQ rfl rfl

theorem hd_X1_countOf : yX1_countOf.cls = RX1 ∧ yX1_countOf.cls ≠ "java/lang/invoke/MethodHandle" ∧ yX1_countOf.cls ≠ "java/lang/invoke/VarHandle" ∧ (parseMethodDescriptor yX1_countOf.desc).map (fun d => d.parameters.length) = some 1 := by decide +kernel
noncomputable def f_X1_countOf_c25 (k4 : Int32 → Int32 → Int32 → Option (Int32)) (v_from : Nat → Int32) (v_to : Nat → Int32) (k25_l1 : Int32) (k25_l3 : Int32) (k25_s0 : Int32) (k25_s1 : Int32) : Option (Int32) := nm (k25_s1 + k25_s0) fun x_1 => nm (k25_l3 + (1 : Int32)) fun x_2 => k4 k25_l1 x_1 x_2
noncomputable def f_X1_countOf_c4 (v_from : Nat → Int32) (v_to : Nat → Int32) : Nat → Int32 → Int32 → Int32 → Option (Int32)
  | 0, _, _, _ => none
  | n + 1, k4_l1, k4_l2, k4_l3 => if (8 : Int32) ≤ k4_l3 then (some (k4_l2)) else (bd (f_X1_isOf v_from v_to k4_l3 k4_l1) fun R_4 => if R_4 = 0 then (f_X1_countOf_c25 (fun k4_l1 k4_l2 k4_l3 => f_X1_countOf_c4 v_from v_to n k4_l1 k4_l2 k4_l3) v_from v_to k4_l1 k4_l3 (0 : Int32) k4_l2) else (f_X1_countOf_c25 (fun k4_l1 k4_l2 k4_l3 => f_X1_countOf_c4 v_from v_to n k4_l1 k4_l2 k4_l3) v_from v_to k4_l1 k4_l3 (1 : Int32) k4_l2))
noncomputable def f_X1_countOf (v_from : Nat → Int32) (v_to : Nat → Int32) (p1 : Int32) : Option (Int32) := f_X1_countOf_c4 v_from v_to fu p1 (0 : Int32) (0 : Int32)
set_option maxHeartbeats 4000000 in
set_option maxRecDepth 100000 in
theorem c_X1_countOf (l : Launch) (D : va_G) (cI cJ cQ : ClassId) (a_this : Nat) (a_from : Nat) (a_to : Nat) (r_contents : Value) (v_from : Nat → Int32) (v_to : Nat → Int32) (p1 : Int32) (R0 : Int32) (hf : f_X1_countOf v_from v_to p1 = some R0) : Ci l yX1_countOf wsX1_countOf ({ frames := 3, cells := 0, slots := 0, locals := 107 } : Room) D [(cI, .int), (cJ, .long), (cQ, .object "WhisperCrowd$State")] [.ref a_this, .int p1] [(a_this, .inr (1, [.ref a_from, .ref a_to, r_contents])), (a_from, .inl (cI, 8, .inl v_from)), (a_to, .inl (cI, 8, .inl v_to))] [(a_this, .inr (1, [.ref a_from, .ref a_to, r_contents])), (a_from, .inl (cI, 8, .inl v_from)), (a_to, .inl (cI, 8, .inl v_to))] R0 := by
  refine x_enti (cc := cX1_countOf) (maxL := 4) (rt := (some .int)) (lv := [(0, .ref a_this), (1, .int p1)]) (by decide) rfl (Nat.le_of_ble_eq_true rfl) rfl ?_
  intro p e s m args below meth c A Q hQ hC
  have J_4 : ∀ (n : Nat) (k4_l1 : Int32) (k4_l2 : Int32) (k4_l3 : Int32), f_X1_countOf_c4 v_from v_to n k4_l1 k4_l2 k4_l3 = some R0 → XW p l e ({ frames := 3, cells := 0, slots := 0, locals := 107 } : Room) s m args below meth c D A 4 0 0 Q [(a_this, .inr (1, [.ref a_from, .ref a_to, r_contents])), (a_from, .inl (cI, 8, .inl v_from)), (a_to, .inl (cI, 8, .inl v_to))] [] [(0, .ref a_this), (1, .int k4_l1), (2, .int k4_l2), (3, .int k4_l3)] 4 [] := by
    intro n
    induction n with
    | zero => intro k4_l1 k4_l2 k4_l3 hf; exact nomatch (show (none : Option (Int32)) = some R0 from hf)
    | succ n_4 ih_4 =>
      have J_25 : ∀ (k25_l1 : Int32) (k25_l3 : Int32) (k25_s0 : Int32) (k25_s1 : Int32), f_X1_countOf_c25 (fun k4_l1 k4_l2 k4_l3 => f_X1_countOf_c4 v_from v_to n_4 k4_l1 k4_l2 k4_l3) v_from v_to k25_l1 k25_l3 k25_s0 k25_s1 = some R0 → XW p l e ({ frames := 3, cells := 0, slots := 0, locals := 107 } : Room) s m args below meth c D A 4 0 0 Q [(a_this, .inr (1, [.ref a_from, .ref a_to, r_contents])), (a_from, .inl (cI, 8, .inl v_from)), (a_to, .inl (cI, 8, .inl v_to))] [] [(0, .ref a_this), (1, .int k25_l1), (3, .int k25_l3)] 25 [.int k25_s0, .int k25_s1] := by
        intro k25_l1 k25_l3 k25_s0 k25_s1 hf
        unfold f_X1_countOf_c25 at hf
        refine x_iadd 26 hC dX1_countOf_25 rfl ?_
        obtain ⟨x_1, e_x_1, hf⟩ := nmx_e hf
        refine x_istore_n 27 [(2, .int x_1), (0, .ref a_this), (1, .int k25_l1), (3, .int k25_l3)] hC dX1_countOf_26 rfl rfl e_x_1 (by decide) rfl ?_
        obtain ⟨x_2, e_x_2, hf⟩ := nmx_e hf
        refine x_iinc 30 3 [(3, .int x_2), (2, .int x_1), (0, .ref a_this), (1, .int k25_l1)] hC dX1_countOf_27 rfl rfl e_x_2 (by decide) (by decide) rfl ?_
        refine x_goto 4 hC dX1_countOf_30 (by decide) ?_
        refine x_lv [(0, .ref a_this), (1, .int k25_l1), (2, .int x_1), (3, .int x_2)] [2, 3, 1, 0] rfl ?_
        exact ih_4 k25_l1 x_1 x_2 hf
      intro k4_l1 k4_l2 k4_l3 hf
      unfold f_X1_countOf_c4 at hf
      refine x_iload_n 5 3 hC dX1_countOf_4 rfl rfl rfl ?_
      refine x_bipush 7 hC (8 : Int32) dX1_countOf_5 rfl (by decide) ?_
      refine x_icmp_ge 33 10 hC dX1_countOf_7 (by decide) rfl (fun c_3 => ?_) (fun c_3 => ?_)
      · have hf := if_t hf c_3
        refine x_iload_n 34 2 hC dX1_countOf_33 rfl rfl rfl ?_
        cases hf
        exact x_iret hC dX1_countOf_34 hQ rfl rfl
      · have hf := if_f hf c_3
        refine x_iload_n 11 2 hC dX1_countOf_10 rfl rfl rfl ?_
        refine x_aload_n 12 0 hC dX1_countOf_11 rfl rfl rfl ?_
        refine x_iload_n 13 3 hC dX1_countOf_12 rfl rfl rfl ?_
        refine x_iload_n 14 1 hC dX1_countOf_13 rfl rfl rfl ?_
        obtain ⟨R_4, h_R_4, hf⟩ := bd_e hf
        refine x_callVi 17 0 2 [0, 1, 2] [(a_this, .inr (1, [.ref a_from, .ref a_to, r_contents])), (a_from, .inl (cI, 8, .inl v_from)), (a_to, .inl (cI, 8, .inl v_to))] hC (As := [.int k4_l3, .int k4_l1]) (c_X1_isOf l D cI cJ cQ a_this a_from a_to r_contents v_from v_to k4_l3 k4_l1 R_4 h_R_4) rfl rfl gX1_countOf_X1_isOf rfl ⟨rfl, rfl⟩ hd_X1_isOf ⟨Nat.le_of_ble_eq_true rfl, Nat.le_of_ble_eq_true rfl⟩ rfl rfl rfl rfl rfl rfl (Nat.le_of_ble_eq_true rfl) ⟨Nat.le_of_ble_eq_true rfl, Nat.le_of_ble_eq_true rfl⟩ dX1_countOf_14 rfl ?_
        refine x_if_eq 24 20 hC dX1_countOf_17 (by decide) rfl (fun c_5 => ?_) (fun c_5 => ?_)
        · have hf := if_t hf c_5
          refine x_iconst 25 hC (0 : Int32) dX1_countOf_24 rfl (by decide) ?_
          refine x_lv [(0, .ref a_this), (1, .int k4_l1), (3, .int k4_l3)] [0, 1, 3] rfl ?_
          exact J_25 k4_l1 k4_l3 (0 : Int32) k4_l2 hf
        · have hf := if_f hf c_5
          refine x_iconst 21 hC (1 : Int32) dX1_countOf_20 rfl (by decide) ?_
          refine x_goto 25 hC dX1_countOf_21 (by decide) ?_
          refine x_lv [(0, .ref a_this), (1, .int k4_l1), (3, .int k4_l3)] [0, 1, 3] rfl ?_
          exact J_25 k4_l1 k4_l3 (1 : Int32) k4_l2 hf
  unfold f_X1_countOf at hf
  refine x_iconst 1 hC (0 : Int32) dX1_countOf_0 rfl (by decide) ?_
  refine x_istore_n 2 [(2, .int (0 : Int32)), (0, .ref a_this), (1, .int p1)] hC dX1_countOf_1 rfl rfl rfl (by decide) rfl ?_
  refine x_iconst 3 hC (0 : Int32) dX1_countOf_2 rfl (by decide) ?_
  refine x_istore_n 4 [(3, .int (0 : Int32)), (2, .int (0 : Int32)), (0, .ref a_this), (1, .int p1)] hC dX1_countOf_3 rfl rfl rfl (by decide) rfl ?_
  refine x_lv [(0, .ref a_this), (1, .int p1), (2, .int (0 : Int32)), (3, .int (0 : Int32))] [2, 3, 1, 0] rfl ?_
  exact J_4 fu p1 (0 : Int32) (0 : Int32) hf

theorem hd_X1_anyOver : yX1_anyOver.cls = RX1 ∧ yX1_anyOver.cls ≠ "java/lang/invoke/MethodHandle" ∧ yX1_anyOver.cls ≠ "java/lang/invoke/VarHandle" ∧ (parseMethodDescriptor yX1_anyOver.desc).map (fun d => d.parameters.length) = some 2 := by decide +kernel
noncomputable def f_X1_anyOver_c28 (k2 : Int32 → Int32 → Int32 → Option (Int32)) (v_from : Nat → Int32) (v_to : Nat → Int32) (k28_l1 : Int32) (k28_l2 : Int32) (k28_l3 : Int32) : Option (Int32) := nm (k28_l3 + (1 : Int32)) fun x_1 => k2 k28_l1 k28_l2 x_1
noncomputable def f_X1_anyOver_c2 (v_from : Nat → Int32) (v_to : Nat → Int32) : Nat → Int32 → Int32 → Int32 → Option (Int32)
  | 0, _, _, _ => none
  | n + 1, k2_l1, k2_l2, k2_l3 => if (8 : Int32) ≤ k2_l3 then (some ((0 : Int32))) else (bd (f_X1_isOf v_from v_to k2_l3 k2_l1) fun R_3 => if R_3 = 0 then (f_X1_anyOver_c28 (fun k2_l1 k2_l2 k2_l3 => f_X1_anyOver_c2 v_from v_to n k2_l1 k2_l2 k2_l3) v_from v_to k2_l1 k2_l2 k2_l3) else (bd (f_X1_isOf v_from v_to k2_l3 k2_l2) fun R_5 => if R_5 = 0 then (f_X1_anyOver_c28 (fun k2_l1 k2_l2 k2_l3 => f_X1_anyOver_c2 v_from v_to n k2_l1 k2_l2 k2_l3) v_from v_to k2_l1 k2_l2 k2_l3) else (some ((1 : Int32)))))
noncomputable def f_X1_anyOver (v_from : Nat → Int32) (v_to : Nat → Int32) (p1 : Int32) (p2 : Int32) : Option (Int32) := f_X1_anyOver_c2 v_from v_to fu p1 p2 (0 : Int32)
set_option maxHeartbeats 4000000 in
set_option maxRecDepth 100000 in
theorem c_X1_anyOver (l : Launch) (D : va_G) (cI cJ cQ : ClassId) (a_this : Nat) (a_from : Nat) (a_to : Nat) (r_contents : Value) (v_from : Nat → Int32) (v_to : Nat → Int32) (p1 : Int32) (p2 : Int32) (R0 : Int32) (hf : f_X1_anyOver v_from v_to p1 p2 = some R0) : Ci l yX1_anyOver wsX1_anyOver ({ frames := 3, cells := 0, slots := 0, locals := 107 } : Room) D [(cI, .int), (cJ, .long), (cQ, .object "WhisperCrowd$State")] [.ref a_this, .int p1, .int p2] [(a_this, .inr (1, [.ref a_from, .ref a_to, r_contents])), (a_from, .inl (cI, 8, .inl v_from)), (a_to, .inl (cI, 8, .inl v_to))] [(a_this, .inr (1, [.ref a_from, .ref a_to, r_contents])), (a_from, .inl (cI, 8, .inl v_from)), (a_to, .inl (cI, 8, .inl v_to))] R0 := by
  refine x_enti (cc := cX1_anyOver) (maxL := 4) (rt := (some .boolean)) (lv := [(0, .ref a_this), (1, .int p1), (2, .int p2)]) (by decide) rfl (Nat.le_of_ble_eq_true rfl) rfl ?_
  intro p e s m args below meth c A Q hQ hC
  have J_2 : ∀ (n : Nat) (k2_l1 : Int32) (k2_l2 : Int32) (k2_l3 : Int32), f_X1_anyOver_c2 v_from v_to n k2_l1 k2_l2 k2_l3 = some R0 → XW p l e ({ frames := 3, cells := 0, slots := 0, locals := 107 } : Room) s m args below meth c D A 4 0 0 Q [(a_this, .inr (1, [.ref a_from, .ref a_to, r_contents])), (a_from, .inl (cI, 8, .inl v_from)), (a_to, .inl (cI, 8, .inl v_to))] [] [(0, .ref a_this), (1, .int k2_l1), (2, .int k2_l2), (3, .int k2_l3)] 2 [] := by
    intro n
    induction n with
    | zero => intro k2_l1 k2_l2 k2_l3 hf; exact nomatch (show (none : Option (Int32)) = some R0 from hf)
    | succ n_2 ih_2 =>
      have J_28 : ∀ (k28_l1 : Int32) (k28_l2 : Int32) (k28_l3 : Int32), f_X1_anyOver_c28 (fun k2_l1 k2_l2 k2_l3 => f_X1_anyOver_c2 v_from v_to n_2 k2_l1 k2_l2 k2_l3) v_from v_to k28_l1 k28_l2 k28_l3 = some R0 → XW p l e ({ frames := 3, cells := 0, slots := 0, locals := 107 } : Room) s m args below meth c D A 4 0 0 Q [(a_this, .inr (1, [.ref a_from, .ref a_to, r_contents])), (a_from, .inl (cI, 8, .inl v_from)), (a_to, .inl (cI, 8, .inl v_to))] [] [(0, .ref a_this), (1, .int k28_l1), (2, .int k28_l2), (3, .int k28_l3)] 28 [] := by
        intro k28_l1 k28_l2 k28_l3 hf
        unfold f_X1_anyOver_c28 at hf
        obtain ⟨x_1, e_x_1, hf⟩ := nmx_e hf
        refine x_iinc 31 3 [(3, .int x_1), (0, .ref a_this), (1, .int k28_l1), (2, .int k28_l2)] hC dX1_anyOver_28 rfl rfl e_x_1 (by decide) (by decide) rfl ?_
        refine x_goto 2 hC dX1_anyOver_31 (by decide) ?_
        refine x_lv [(0, .ref a_this), (1, .int k28_l1), (2, .int k28_l2), (3, .int x_1)] [1, 2, 3, 0] rfl ?_
        exact ih_2 k28_l1 k28_l2 x_1 hf
      intro k2_l1 k2_l2 k2_l3 hf
      unfold f_X1_anyOver_c2 at hf
      refine x_iload_n 3 3 hC dX1_anyOver_2 rfl rfl rfl ?_
      refine x_bipush 5 hC (8 : Int32) dX1_anyOver_3 rfl (by decide) ?_
      refine x_icmp_ge 34 8 hC dX1_anyOver_5 (by decide) rfl (fun c_2 => ?_) (fun c_2 => ?_)
      · have hf := if_t hf c_2
        refine x_iconst 35 hC (0 : Int32) dX1_anyOver_34 rfl (by decide) ?_
        cases hf
        exact x_zret hC rfl dX1_anyOver_35 hQ rfl rfl
      · have hf := if_f hf c_2
        refine x_aload_n 9 0 hC dX1_anyOver_8 rfl rfl rfl ?_
        refine x_iload_n 10 3 hC dX1_anyOver_9 rfl rfl rfl ?_
        refine x_iload_n 11 1 hC dX1_anyOver_10 rfl rfl rfl ?_
        obtain ⟨R_3, h_R_3, hf⟩ := bd_e hf
        refine x_callVi 14 0 2 [0, 1, 2] [(a_this, .inr (1, [.ref a_from, .ref a_to, r_contents])), (a_from, .inl (cI, 8, .inl v_from)), (a_to, .inl (cI, 8, .inl v_to))] hC (As := [.int k2_l3, .int k2_l1]) (c_X1_isOf l D cI cJ cQ a_this a_from a_to r_contents v_from v_to k2_l3 k2_l1 R_3 h_R_3) rfl rfl gX1_anyOver_X1_isOf rfl ⟨rfl, rfl⟩ hd_X1_isOf ⟨Nat.le_of_ble_eq_true rfl, Nat.le_of_ble_eq_true rfl⟩ rfl rfl rfl rfl rfl rfl (Nat.le_of_ble_eq_true rfl) ⟨Nat.le_of_ble_eq_true rfl, Nat.le_of_ble_eq_true rfl⟩ dX1_anyOver_11 rfl ?_
        refine x_if_eq 28 17 hC dX1_anyOver_14 (by decide) rfl (fun c_4 => ?_) (fun c_4 => ?_)
        · have hf := if_t hf c_4
          refine x_lv [(0, .ref a_this), (1, .int k2_l1), (2, .int k2_l2), (3, .int k2_l3)] [0, 1, 2, 3] rfl ?_
          exact J_28 k2_l1 k2_l2 k2_l3 hf
        · have hf := if_f hf c_4
          refine x_aload_n 18 0 hC dX1_anyOver_17 rfl rfl rfl ?_
          refine x_iload_n 19 3 hC dX1_anyOver_18 rfl rfl rfl ?_
          refine x_iload_n 20 2 hC dX1_anyOver_19 rfl rfl rfl ?_
          obtain ⟨R_5, h_R_5, hf⟩ := bd_e hf
          refine x_callVi 23 0 2 [0, 1, 2] [(a_this, .inr (1, [.ref a_from, .ref a_to, r_contents])), (a_from, .inl (cI, 8, .inl v_from)), (a_to, .inl (cI, 8, .inl v_to))] hC (As := [.int k2_l3, .int k2_l2]) (c_X1_isOf l D cI cJ cQ a_this a_from a_to r_contents v_from v_to k2_l3 k2_l2 R_5 h_R_5) rfl rfl gX1_anyOver_X1_isOf rfl ⟨rfl, rfl⟩ hd_X1_isOf ⟨Nat.le_of_ble_eq_true rfl, Nat.le_of_ble_eq_true rfl⟩ rfl rfl rfl rfl rfl rfl (Nat.le_of_ble_eq_true rfl) ⟨Nat.le_of_ble_eq_true rfl, Nat.le_of_ble_eq_true rfl⟩ dX1_anyOver_20 rfl ?_
          refine x_if_eq 28 26 hC dX1_anyOver_23 (by decide) rfl (fun c_6 => ?_) (fun c_6 => ?_)
          · have hf := if_t hf c_6
            refine x_lv [(0, .ref a_this), (1, .int k2_l1), (2, .int k2_l2), (3, .int k2_l3)] [0, 1, 2, 3] rfl ?_
            exact J_28 k2_l1 k2_l2 k2_l3 hf
          · have hf := if_f hf c_6
            refine x_iconst 27 hC (1 : Int32) dX1_anyOver_26 rfl (by decide) ?_
            cases hf
            exact x_zret hC rfl dX1_anyOver_27 hQ rfl rfl
  unfold f_X1_anyOver at hf
  refine x_iconst 1 hC (0 : Int32) dX1_anyOver_0 rfl (by decide) ?_
  refine x_istore_n 2 [(3, .int (0 : Int32)), (0, .ref a_this), (1, .int p1), (2, .int p2)] hC dX1_anyOver_1 rfl rfl rfl (by decide) rfl ?_
  refine x_lv [(0, .ref a_this), (1, .int p1), (2, .int p2), (3, .int (0 : Int32))] [1, 2, 3, 0] rfl ?_
  exact J_2 fu p1 p2 (0 : Int32) hf

theorem hd_X1_write : yX1_write.cls = RX1 ∧ yX1_write.cls ≠ "java/lang/invoke/MethodHandle" ∧ yX1_write.cls ≠ "java/lang/invoke/VarHandle" ∧ (parseMethodDescriptor yX1_write.desc).map (fun d => d.parameters.length) = some 5 := by decide +kernel
theorem in_X1_write_X1 : ∀ w ∈ u_ws RX1 TX1 3, w ∈ wsX1_write := fun w h => List.mem_cons_of_mem _ (List.mem_append_left _ (List.mem_append_right _ h))
noncomputable def f_X1_write (v_contents_sums : Nat → Int64) (v_contents_weights : Nat → Int64) (v_from : Nat → Int32) (v_to : Nat → Int32) (p1 : Int32) (p2 : Int32) (p3 : Int32) (p4 : Int64) (p5 : Int64) : Option ((Nat → Int64) × (Nat → Int64) × (Nat → Int32) × (Nat → Int32)) := ck p1 8 <| nm (upd v_from p1.toNatClampNeg p2) fun g_2 => ck p1 8 <| nm (upd v_to p1.toNatClampNeg p3) fun g_4 => bd (f_X3_put 8 v_contents_sums v_contents_weights p1 p4 p5) fun R_5 => some (R_5.1, R_5.2, g_2, g_4)
set_option maxHeartbeats 4000000 in
set_option maxRecDepth 100000 in
theorem c_X1_write (l : Launch) (D : va_G) (cI cJ cQ : ClassId) (a_this : Nat) (a_contents : Nat) (a_contents_sums : Nat) (a_contents_weights : Nat) (a_from : Nat) (a_to : Nat) (v_contents_sums : Nat → Int64) (v_contents_weights : Nat → Int64) (v_from : Nat → Int32) (v_to : Nat → Int32) (p1 : Int32) (p2 : Int32) (p3 : Int32) (p4 : Int64) (p5 : Int64) (R0 : (Nat → Int64) × (Nat → Int64) × (Nat → Int32) × (Nat → Int32)) (hf : f_X1_write v_contents_sums v_contents_weights v_from v_to p1 p2 p3 p4 p5 = some R0) : Cv l yX1_write wsX1_write ({ frames := 2, cells := 0, slots := 0, locals := 87 } : Room) D [(cI, .int), (cJ, .long), (cQ, .object "WhisperCrowd$State")] [.ref a_this, .int p1, .int p2, .int p3, .long p4, .long p5] [(a_this, .inr (1, [.ref a_from, .ref a_to, .ref a_contents])), (a_contents, .inr (3, [.ref a_contents_sums, .ref a_contents_weights])), (a_contents_sums, .inl (cJ, 8, .inr (.inl v_contents_sums))), (a_contents_weights, .inl (cJ, 8, .inr (.inl v_contents_weights))), (a_from, .inl (cI, 8, .inl v_from)), (a_to, .inl (cI, 8, .inl v_to))] [(a_this, .inr (1, [.ref a_from, .ref a_to, .ref a_contents])), (a_contents, .inr (3, [.ref a_contents_sums, .ref a_contents_weights])), (a_contents_sums, .inl (cJ, 8, .inr (.inl R0.1))), (a_contents_weights, .inl (cJ, 8, .inr (.inl R0.2.1))), (a_from, .inl (cI, 8, .inl R0.2.2.1)), (a_to, .inl (cI, 8, .inl R0.2.2.2))] := by
  refine x_entv (cc := cX1_write) (maxL := 8) (rt := none) (lv := [(0, .ref a_this), (1, .int p1), (2, .int p2), (3, .int p3), (4, .long p4), (6, .long p5)]) (by decide) rfl (Nat.le_of_ble_eq_true rfl) rfl ?_
  intro p e s m args below meth c A Q hQ hC
  unfold f_X1_write at hf
  refine x_aload_n 1 0 hC dX1_write_0 rfl rfl rfl ?_
  refine x_get 4 0 0 hC in_X1_write_X1 rfl rfl (by decide) (List.mem_of_getElem? (i := 1) (by decide +kernel)) rfl rfl dX1_write_1 rfl ?_
  refine x_iload_n 5 1 hC dX1_write_4 rfl rfl rfl ?_
  refine x_iload_n 6 2 hC dX1_write_5 rfl rfl rfl ?_
  obtain ⟨h_1, hf⟩ := ck_e hf
  obtain ⟨g_2, e_g_2, hf⟩ := nmx_e hf
  refine x_iast 7 4 0 [(a_this, .inr (1, [.ref a_from, .ref a_to, .ref a_contents])), (a_contents, .inr (3, [.ref a_contents_sums, .ref a_contents_weights])), (a_contents_sums, .inl (cJ, 8, .inr (.inl v_contents_sums))), (a_contents_weights, .inl (cJ, 8, .inr (.inl v_contents_weights))), (a_from, .inl (cI, 8, .inl g_2)), (a_to, .inl (cI, 8, .inl v_to))] hC rfl rfl h_1 e_g_2 rfl dX1_write_6 rfl ?_
  refine x_aload_n 8 0 hC dX1_write_7 rfl rfl rfl ?_
  refine x_get 11 0 1 hC in_X1_write_X1 rfl rfl (by decide) (List.mem_of_getElem? (i := 2) (by decide +kernel)) rfl rfl dX1_write_8 rfl ?_
  refine x_iload_n 12 1 hC dX1_write_11 rfl rfl rfl ?_
  refine x_iload_n 13 3 hC dX1_write_12 rfl rfl rfl ?_
  obtain ⟨h_3, hf⟩ := ck_e hf
  obtain ⟨g_4, e_g_4, hf⟩ := nmx_e hf
  refine x_iast 14 5 0 [(a_this, .inr (1, [.ref a_from, .ref a_to, .ref a_contents])), (a_contents, .inr (3, [.ref a_contents_sums, .ref a_contents_weights])), (a_contents_sums, .inl (cJ, 8, .inr (.inl v_contents_sums))), (a_contents_weights, .inl (cJ, 8, .inr (.inl v_contents_weights))), (a_from, .inl (cI, 8, .inl g_2)), (a_to, .inl (cI, 8, .inl g_4))] hC rfl rfl h_3 e_g_4 rfl dX1_write_13 rfl ?_
  refine x_aload_n 15 0 hC dX1_write_14 rfl rfl rfl ?_
  refine x_get 18 0 2 hC in_X1_write_X1 rfl rfl (by decide) (List.mem_of_getElem? (i := 3) (by decide +kernel)) rfl rfl dX1_write_15 rfl ?_
  refine x_iload_n 19 1 hC dX1_write_18 rfl rfl rfl ?_
  refine x_lload 21 4 hC dX1_write_19 rfl rfl ?_
  refine x_lload 23 5 hC dX1_write_21 rfl rfl ?_
  obtain ⟨R_5, h_R_5, hf⟩ := bd_e hf
  refine x_callVv 26 0 3 [1, 2, 3] [(a_this, .inr (1, [.ref a_from, .ref a_to, .ref a_contents])), (a_contents, .inr (3, [.ref a_contents_sums, .ref a_contents_weights])), (a_contents_sums, .inl (cJ, 8, .inr (.inl R_5.1))), (a_contents_weights, .inl (cJ, 8, .inr (.inl R_5.2))), (a_from, .inl (cI, 8, .inl g_2)), (a_to, .inl (cI, 8, .inl g_4))] hC (As := [.int p1, .long p4, .long p5]) (c_X3_put l D cI cJ cQ a_contents a_contents_sums a_contents_weights 8 v_contents_sums v_contents_weights p1 p4 p5 R_5 h_R_5) rfl rfl gX1_write_X3_put rfl ⟨rfl, rfl⟩ hd_X3_put ⟨Nat.le_of_ble_eq_true rfl, Nat.le_of_ble_eq_true rfl⟩ rfl rfl rfl rfl rfl rfl (Nat.le_of_ble_eq_true rfl) ⟨Nat.le_of_ble_eq_true rfl, Nat.le_of_ble_eq_true rfl⟩ dX1_write_23 rfl ?_
  cases hf
  exact x_vret hC dX1_write_26 hQ rfl

theorem hd_X1_drop : yX1_drop.cls = RX1 ∧ yX1_drop.cls ≠ "java/lang/invoke/MethodHandle" ∧ yX1_drop.cls ≠ "java/lang/invoke/VarHandle" ∧ (parseMethodDescriptor yX1_drop.desc).map (fun d => d.parameters.length) = some 1 := by decide +kernel
noncomputable def f_X1_drop (v_contents_sums : Nat → Int64) (v_contents_weights : Nat → Int64) (v_from : Nat → Int32) (v_to : Nat → Int32) (p1 : Int32) : Option ((Nat → Int64) × (Nat → Int64) × (Nat → Int32) × (Nat → Int32)) := bd (f_X1_write v_contents_sums v_contents_weights v_from v_to p1 (-1 : Int32) (-1 : Int32) (0 : Int64) (0 : Int64)) fun R_1 => some (R_1.1, R_1.2.1, R_1.2.2.1, R_1.2.2.2)
set_option maxHeartbeats 4000000 in
set_option maxRecDepth 100000 in
theorem c_X1_drop (l : Launch) (D : va_G) (cI cJ cQ : ClassId) (a_this : Nat) (a_contents : Nat) (a_contents_sums : Nat) (a_contents_weights : Nat) (a_from : Nat) (a_to : Nat) (v_contents_sums : Nat → Int64) (v_contents_weights : Nat → Int64) (v_from : Nat → Int32) (v_to : Nat → Int32) (p1 : Int32) (R0 : (Nat → Int64) × (Nat → Int64) × (Nat → Int32) × (Nat → Int32)) (hf : f_X1_drop v_contents_sums v_contents_weights v_from v_to p1 = some R0) : Cv l yX1_drop wsX1_drop ({ frames := 3, cells := 0, slots := 0, locals := 116 } : Room) D [(cI, .int), (cJ, .long), (cQ, .object "WhisperCrowd$State")] [.ref a_this, .int p1] [(a_this, .inr (1, [.ref a_from, .ref a_to, .ref a_contents])), (a_contents, .inr (3, [.ref a_contents_sums, .ref a_contents_weights])), (a_contents_sums, .inl (cJ, 8, .inr (.inl v_contents_sums))), (a_contents_weights, .inl (cJ, 8, .inr (.inl v_contents_weights))), (a_from, .inl (cI, 8, .inl v_from)), (a_to, .inl (cI, 8, .inl v_to))] [(a_this, .inr (1, [.ref a_from, .ref a_to, .ref a_contents])), (a_contents, .inr (3, [.ref a_contents_sums, .ref a_contents_weights])), (a_contents_sums, .inl (cJ, 8, .inr (.inl R0.1))), (a_contents_weights, .inl (cJ, 8, .inr (.inl R0.2.1))), (a_from, .inl (cI, 8, .inl R0.2.2.1)), (a_to, .inl (cI, 8, .inl R0.2.2.2))] := by
  refine x_entv (cc := cX1_drop) (maxL := 2) (rt := none) (lv := [(0, .ref a_this), (1, .int p1)]) (by decide) rfl (Nat.le_of_ble_eq_true rfl) rfl ?_
  intro p e s m args below meth c A Q hQ hC
  unfold f_X1_drop at hf
  refine x_aload_n 1 0 hC dX1_drop_0 rfl rfl rfl ?_
  refine x_iload_n 2 1 hC dX1_drop_1 rfl rfl rfl ?_
  refine x_iconst 3 hC (-1 : Int32) dX1_drop_2 rfl (by decide) ?_
  refine x_iconst 4 hC (-1 : Int32) dX1_drop_3 rfl (by decide) ?_
  refine x_lconst 5 hC (0 : Int64) dX1_drop_4 rfl (by decide) ?_
  refine x_lconst 6 hC (0 : Int64) dX1_drop_5 rfl (by decide) ?_
  obtain ⟨R_1, h_R_1, hf⟩ := bd_e hf
  refine x_callVv 9 0 5 [0, 1, 2, 3, 4, 5] [(a_this, .inr (1, [.ref a_from, .ref a_to, .ref a_contents])), (a_contents, .inr (3, [.ref a_contents_sums, .ref a_contents_weights])), (a_contents_sums, .inl (cJ, 8, .inr (.inl R_1.1))), (a_contents_weights, .inl (cJ, 8, .inr (.inl R_1.2.1))), (a_from, .inl (cI, 8, .inl R_1.2.2.1)), (a_to, .inl (cI, 8, .inl R_1.2.2.2))] hC (As := [.int p1, .int (-1 : Int32), .int (-1 : Int32), .long (0 : Int64), .long (0 : Int64)]) (c_X1_write l D cI cJ cQ a_this a_contents a_contents_sums a_contents_weights a_from a_to v_contents_sums v_contents_weights v_from v_to p1 (-1 : Int32) (-1 : Int32) (0 : Int64) (0 : Int64) R_1 h_R_1) rfl rfl gX1_drop_X1_write rfl ⟨rfl, rfl⟩ hd_X1_write ⟨Nat.le_of_ble_eq_true rfl, Nat.le_of_ble_eq_true rfl⟩ rfl rfl rfl rfl rfl rfl (Nat.le_of_ble_eq_true rfl) ⟨Nat.le_of_ble_eq_true rfl, Nat.le_of_ble_eq_true rfl⟩ dX1_drop_6 rfl ?_
  cases hf
  exact x_vret hC dX1_drop_9 hQ rfl

theorem hd_X1_dropAllOf : yX1_dropAllOf.cls = RX1 ∧ yX1_dropAllOf.cls ≠ "java/lang/invoke/MethodHandle" ∧ yX1_dropAllOf.cls ≠ "java/lang/invoke/VarHandle" ∧ (parseMethodDescriptor yX1_dropAllOf.desc).map (fun d => d.parameters.length) = some 1 := by decide +kernel
noncomputable def f_X1_dropAllOf_c22 (k2 : (Nat → Int64) → (Nat → Int64) → (Nat → Int32) → (Nat → Int32) → Int32 → Int32 → Option ((Nat → Int64) × (Nat → Int64) × (Nat → Int32) × (Nat → Int32))) (k22_contents_sums : Nat → Int64) (k22_contents_weights : Nat → Int64) (k22_from : Nat → Int32) (k22_to : Nat → Int32) (k22_l1 : Int32) (k22_l2 : Int32) : Option ((Nat → Int64) × (Nat → Int64) × (Nat → Int32) × (Nat → Int32)) := nm (k22_l2 + (1 : Int32)) fun x_1 => k2 k22_contents_sums k22_contents_weights k22_from k22_to k22_l1 x_1
noncomputable def f_X1_dropAllOf_c2 : Nat → (Nat → Int64) → (Nat → Int64) → (Nat → Int32) → (Nat → Int32) → Int32 → Int32 → Option ((Nat → Int64) × (Nat → Int64) × (Nat → Int32) × (Nat → Int32))
  | 0, _, _, _, _, _, _ => none
  | n + 1, k2_contents_sums, k2_contents_weights, k2_from, k2_to, k2_l1, k2_l2 => if (8 : Int32) ≤ k2_l2 then (some (k2_contents_sums, k2_contents_weights, k2_from, k2_to)) else (bd (f_X1_isOf k2_from k2_to k2_l2 k2_l1) fun R_3 => if R_3 = 0 then (f_X1_dropAllOf_c22 (fun k2_contents_sums k2_contents_weights k2_from k2_to k2_l1 k2_l2 => f_X1_dropAllOf_c2 n k2_contents_sums k2_contents_weights k2_from k2_to k2_l1 k2_l2) k2_contents_sums k2_contents_weights k2_from k2_to k2_l1 k2_l2) else (bd (f_X1_drop k2_contents_sums k2_contents_weights k2_from k2_to k2_l2) fun R_5 => f_X1_dropAllOf_c22 (fun k2_contents_sums k2_contents_weights k2_from k2_to k2_l1 k2_l2 => f_X1_dropAllOf_c2 n k2_contents_sums k2_contents_weights k2_from k2_to k2_l1 k2_l2) R_5.1 R_5.2.1 R_5.2.2.1 R_5.2.2.2 k2_l1 k2_l2))
noncomputable def f_X1_dropAllOf (v_contents_sums : Nat → Int64) (v_contents_weights : Nat → Int64) (v_from : Nat → Int32) (v_to : Nat → Int32) (p1 : Int32) : Option ((Nat → Int64) × (Nat → Int64) × (Nat → Int32) × (Nat → Int32)) := f_X1_dropAllOf_c2 fu v_contents_sums v_contents_weights v_from v_to p1 (0 : Int32)
set_option maxHeartbeats 4000000 in
set_option maxRecDepth 100000 in
theorem c_X1_dropAllOf (l : Launch) (D : va_G) (cI cJ cQ : ClassId) (a_this : Nat) (a_contents : Nat) (a_contents_sums : Nat) (a_contents_weights : Nat) (a_from : Nat) (a_to : Nat) (v_contents_sums : Nat → Int64) (v_contents_weights : Nat → Int64) (v_from : Nat → Int32) (v_to : Nat → Int32) (p1 : Int32) (R0 : (Nat → Int64) × (Nat → Int64) × (Nat → Int32) × (Nat → Int32)) (hf : f_X1_dropAllOf v_contents_sums v_contents_weights v_from v_to p1 = some R0) : Cv l yX1_dropAllOf wsX1_dropAllOf ({ frames := 4, cells := 0, slots := 0, locals := 139 } : Room) D [(cI, .int), (cJ, .long), (cQ, .object "WhisperCrowd$State")] [.ref a_this, .int p1] [(a_this, .inr (1, [.ref a_from, .ref a_to, .ref a_contents])), (a_contents, .inr (3, [.ref a_contents_sums, .ref a_contents_weights])), (a_contents_sums, .inl (cJ, 8, .inr (.inl v_contents_sums))), (a_contents_weights, .inl (cJ, 8, .inr (.inl v_contents_weights))), (a_from, .inl (cI, 8, .inl v_from)), (a_to, .inl (cI, 8, .inl v_to))] [(a_this, .inr (1, [.ref a_from, .ref a_to, .ref a_contents])), (a_contents, .inr (3, [.ref a_contents_sums, .ref a_contents_weights])), (a_contents_sums, .inl (cJ, 8, .inr (.inl R0.1))), (a_contents_weights, .inl (cJ, 8, .inr (.inl R0.2.1))), (a_from, .inl (cI, 8, .inl R0.2.2.1)), (a_to, .inl (cI, 8, .inl R0.2.2.2))] := by
  refine x_entv (cc := cX1_dropAllOf) (maxL := 3) (rt := none) (lv := [(0, .ref a_this), (1, .int p1)]) (by decide) rfl (Nat.le_of_ble_eq_true rfl) rfl ?_
  intro p e s m args below meth c A Q hQ hC
  have J_2 : ∀ (n : Nat) (k2_contents_sums : Nat → Int64) (k2_contents_weights : Nat → Int64) (k2_from : Nat → Int32) (k2_to : Nat → Int32) (k2_l1 : Int32) (k2_l2 : Int32), f_X1_dropAllOf_c2 n k2_contents_sums k2_contents_weights k2_from k2_to k2_l1 k2_l2 = some R0 → XW p l e ({ frames := 4, cells := 0, slots := 0, locals := 139 } : Room) s m args below meth c D A 3 0 0 Q [(a_this, .inr (1, [.ref a_from, .ref a_to, .ref a_contents])), (a_contents, .inr (3, [.ref a_contents_sums, .ref a_contents_weights])), (a_contents_sums, .inl (cJ, 8, .inr (.inl k2_contents_sums))), (a_contents_weights, .inl (cJ, 8, .inr (.inl k2_contents_weights))), (a_from, .inl (cI, 8, .inl k2_from)), (a_to, .inl (cI, 8, .inl k2_to))] [] [(0, .ref a_this), (1, .int k2_l1), (2, .int k2_l2)] 2 [] := by
    intro n
    induction n with
    | zero => intro k2_contents_sums k2_contents_weights k2_from k2_to k2_l1 k2_l2 hf; exact nomatch (show (none : Option ((Nat → Int64) × (Nat → Int64) × (Nat → Int32) × (Nat → Int32))) = some R0 from hf)
    | succ n_2 ih_2 =>
      have J_22 : ∀ (k22_contents_sums : Nat → Int64) (k22_contents_weights : Nat → Int64) (k22_from : Nat → Int32) (k22_to : Nat → Int32) (k22_l1 : Int32) (k22_l2 : Int32), f_X1_dropAllOf_c22 (fun k2_contents_sums k2_contents_weights k2_from k2_to k2_l1 k2_l2 => f_X1_dropAllOf_c2 n_2 k2_contents_sums k2_contents_weights k2_from k2_to k2_l1 k2_l2) k22_contents_sums k22_contents_weights k22_from k22_to k22_l1 k22_l2 = some R0 → XW p l e ({ frames := 4, cells := 0, slots := 0, locals := 139 } : Room) s m args below meth c D A 3 0 0 Q [(a_this, .inr (1, [.ref a_from, .ref a_to, .ref a_contents])), (a_contents, .inr (3, [.ref a_contents_sums, .ref a_contents_weights])), (a_contents_sums, .inl (cJ, 8, .inr (.inl k22_contents_sums))), (a_contents_weights, .inl (cJ, 8, .inr (.inl k22_contents_weights))), (a_from, .inl (cI, 8, .inl k22_from)), (a_to, .inl (cI, 8, .inl k22_to))] [] [(0, .ref a_this), (1, .int k22_l1), (2, .int k22_l2)] 22 [] := by
        intro k22_contents_sums k22_contents_weights k22_from k22_to k22_l1 k22_l2 hf
        unfold f_X1_dropAllOf_c22 at hf
        obtain ⟨x_1, e_x_1, hf⟩ := nmx_e hf
        refine x_iinc 25 2 [(2, .int x_1), (0, .ref a_this), (1, .int k22_l1)] hC dX1_dropAllOf_22 rfl rfl e_x_1 (by decide) (by decide) rfl ?_
        refine x_goto 2 hC dX1_dropAllOf_25 (by decide) ?_
        refine x_lv [(0, .ref a_this), (1, .int k22_l1), (2, .int x_1)] [1, 2, 0] rfl ?_
        exact ih_2 k22_contents_sums k22_contents_weights k22_from k22_to k22_l1 x_1 hf
      intro k2_contents_sums k2_contents_weights k2_from k2_to k2_l1 k2_l2 hf
      unfold f_X1_dropAllOf_c2 at hf
      refine x_iload_n 3 2 hC dX1_dropAllOf_2 rfl rfl rfl ?_
      refine x_bipush 5 hC (8 : Int32) dX1_dropAllOf_3 rfl (by decide) ?_
      refine x_icmp_ge 28 8 hC dX1_dropAllOf_5 (by decide) rfl (fun c_2 => ?_) (fun c_2 => ?_)
      · have hf := if_t hf c_2
        cases hf
        exact x_vret hC dX1_dropAllOf_28 hQ rfl
      · have hf := if_f hf c_2
        refine x_aload_n 9 0 hC dX1_dropAllOf_8 rfl rfl rfl ?_
        refine x_iload_n 10 2 hC dX1_dropAllOf_9 rfl rfl rfl ?_
        refine x_iload_n 11 1 hC dX1_dropAllOf_10 rfl rfl rfl ?_
        obtain ⟨R_3, h_R_3, hf⟩ := bd_e hf
        refine x_callVi 14 0 2 [0, 4, 5] [(a_this, .inr (1, [.ref a_from, .ref a_to, .ref a_contents])), (a_contents, .inr (3, [.ref a_contents_sums, .ref a_contents_weights])), (a_contents_sums, .inl (cJ, 8, .inr (.inl k2_contents_sums))), (a_contents_weights, .inl (cJ, 8, .inr (.inl k2_contents_weights))), (a_from, .inl (cI, 8, .inl k2_from)), (a_to, .inl (cI, 8, .inl k2_to))] hC (As := [.int k2_l2, .int k2_l1]) (c_X1_isOf l D cI cJ cQ a_this a_from a_to (.ref a_contents) k2_from k2_to k2_l2 k2_l1 R_3 h_R_3) rfl rfl gX1_dropAllOf_X1_isOf rfl ⟨rfl, rfl⟩ hd_X1_isOf ⟨Nat.le_of_ble_eq_true rfl, Nat.le_of_ble_eq_true rfl⟩ rfl rfl rfl rfl rfl rfl (Nat.le_of_ble_eq_true rfl) ⟨Nat.le_of_ble_eq_true rfl, Nat.le_of_ble_eq_true rfl⟩ dX1_dropAllOf_11 rfl ?_
        refine x_if_eq 22 17 hC dX1_dropAllOf_14 (by decide) rfl (fun c_4 => ?_) (fun c_4 => ?_)
        · have hf := if_t hf c_4
          refine x_lv [(0, .ref a_this), (1, .int k2_l1), (2, .int k2_l2)] [0, 1, 2] rfl ?_
          exact J_22 k2_contents_sums k2_contents_weights k2_from k2_to k2_l1 k2_l2 hf
        · have hf := if_f hf c_4
          refine x_aload_n 18 0 hC dX1_dropAllOf_17 rfl rfl rfl ?_
          refine x_iload_n 19 2 hC dX1_dropAllOf_18 rfl rfl rfl ?_
          obtain ⟨R_5, h_R_5, hf⟩ := bd_e hf
          refine x_callVv 22 0 1 [0, 1, 2, 3, 4, 5] [(a_this, .inr (1, [.ref a_from, .ref a_to, .ref a_contents])), (a_contents, .inr (3, [.ref a_contents_sums, .ref a_contents_weights])), (a_contents_sums, .inl (cJ, 8, .inr (.inl R_5.1))), (a_contents_weights, .inl (cJ, 8, .inr (.inl R_5.2.1))), (a_from, .inl (cI, 8, .inl R_5.2.2.1)), (a_to, .inl (cI, 8, .inl R_5.2.2.2))] hC (As := [.int k2_l2]) (c_X1_drop l D cI cJ cQ a_this a_contents a_contents_sums a_contents_weights a_from a_to k2_contents_sums k2_contents_weights k2_from k2_to k2_l2 R_5 h_R_5) rfl rfl gX1_dropAllOf_X1_drop rfl ⟨rfl, rfl⟩ hd_X1_drop ⟨Nat.le_of_ble_eq_true rfl, Nat.le_of_ble_eq_true rfl⟩ rfl rfl rfl rfl rfl rfl (Nat.le_of_ble_eq_true rfl) ⟨Nat.le_of_ble_eq_true rfl, Nat.le_of_ble_eq_true rfl⟩ dX1_dropAllOf_19 rfl ?_
          refine x_lv [(0, .ref a_this), (1, .int k2_l1), (2, .int k2_l2)] [0, 1, 2] rfl ?_
          exact J_22 R_5.1 R_5.2.1 R_5.2.2.1 R_5.2.2.2 k2_l1 k2_l2 hf
  unfold f_X1_dropAllOf at hf
  refine x_iconst 1 hC (0 : Int32) dX1_dropAllOf_0 rfl (by decide) ?_
  refine x_istore_n 2 [(2, .int (0 : Int32)), (0, .ref a_this), (1, .int p1)] hC dX1_dropAllOf_1 rfl rfl rfl (by decide) rfl ?_
  refine x_lv [(0, .ref a_this), (1, .int p1), (2, .int (0 : Int32))] [1, 2, 0] rfl ?_
  exact J_2 fu v_contents_sums v_contents_weights v_from v_to p1 (0 : Int32) hf

theorem hd_X1_copyFrom : yX1_copyFrom.cls = RX1 ∧ yX1_copyFrom.cls ≠ "java/lang/invoke/MethodHandle" ∧ yX1_copyFrom.cls ≠ "java/lang/invoke/VarHandle" ∧ (parseMethodDescriptor yX1_copyFrom.desc).map (fun d => d.parameters.length) = some 1 := by decide +kernel
theorem in_X1_copyFrom_X1 : ∀ w ∈ u_ws RX1 TX1 3, w ∈ wsX1_copyFrom := fun w h => List.mem_cons_of_mem _ (List.mem_append_left _ (List.mem_append_right _ h))
noncomputable def f_X1_copyFrom (v_p1_contents_sums : Nat → Int64) (v_p1_contents_weights : Nat → Int64) (v_p1_from : Nat → Int32) (v_p1_to : Nat → Int32) (v_contents_sums : Nat → Int64) (v_contents_weights : Nat → Int64) (v_from : Nat → Int32) (v_to : Nat → Int32) : Option ((Nat → Int64) × (Nat → Int64) × (Nat → Int32) × (Nat → Int32)) := ckp (¬ (0 : Int32) < 0 ∧ ¬ (0 : Int32) < 0 ∧ ¬ (8 : Int32) < 0 ∧ (0 : Int32).toNatClampNeg + (8 : Int32).toNatClampNeg ≤ 8 ∧ (0 : Int32).toNatClampNeg + (8 : Int32).toNatClampNeg ≤ 8) (Classical.propDecidable _) <| nm (va_cpy v_p1_from v_from (0 : Int32).toNatClampNeg (0 : Int32).toNatClampNeg (8 : Int32).toNatClampNeg) fun g_2 => ckp (¬ (0 : Int32) < 0 ∧ ¬ (0 : Int32) < 0 ∧ ¬ (8 : Int32) < 0 ∧ (0 : Int32).toNatClampNeg + (8 : Int32).toNatClampNeg ≤ 8 ∧ (0 : Int32).toNatClampNeg + (8 : Int32).toNatClampNeg ≤ 8) (Classical.propDecidable _) <| nm (va_cpy v_p1_to v_to (0 : Int32).toNatClampNeg (0 : Int32).toNatClampNeg (8 : Int32).toNatClampNeg) fun g_4 => bd (f_X3_copyFrom 8 8 v_p1_contents_sums v_p1_contents_weights v_contents_sums v_contents_weights) fun R_5 => some (R_5.1, R_5.2, g_2, g_4)
set_option maxHeartbeats 4000000 in
set_option maxRecDepth 100000 in
theorem c_X1_copyFrom (l : Launch) (D : va_G) (cI cJ cQ : ClassId) (a_p1 : Nat) (a_p1_contents : Nat) (a_p1_contents_sums : Nat) (a_p1_contents_weights : Nat) (a_p1_from : Nat) (a_p1_to : Nat) (a_this : Nat) (a_contents : Nat) (a_contents_sums : Nat) (a_contents_weights : Nat) (a_from : Nat) (a_to : Nat) (v_p1_contents_sums : Nat → Int64) (v_p1_contents_weights : Nat → Int64) (v_p1_from : Nat → Int32) (v_p1_to : Nat → Int32) (v_contents_sums : Nat → Int64) (v_contents_weights : Nat → Int64) (v_from : Nat → Int32) (v_to : Nat → Int32) (R0 : (Nat → Int64) × (Nat → Int64) × (Nat → Int32) × (Nat → Int32)) (hf : f_X1_copyFrom v_p1_contents_sums v_p1_contents_weights v_p1_from v_p1_to v_contents_sums v_contents_weights v_from v_to = some R0) : Cv l yX1_copyFrom wsX1_copyFrom ({ frames := 2, cells := 0, slots := 0, locals := 83 } : Room) D [(cI, .int), (cJ, .long), (cQ, .object "WhisperCrowd$State")] [.ref a_this, .ref a_p1] [(a_p1, .inr (1, [.ref a_p1_from, .ref a_p1_to, .ref a_p1_contents])), (a_p1_contents, .inr (3, [.ref a_p1_contents_sums, .ref a_p1_contents_weights])), (a_p1_contents_sums, .inl (cJ, 8, .inr (.inl v_p1_contents_sums))), (a_p1_contents_weights, .inl (cJ, 8, .inr (.inl v_p1_contents_weights))), (a_p1_from, .inl (cI, 8, .inl v_p1_from)), (a_p1_to, .inl (cI, 8, .inl v_p1_to)), (a_this, .inr (1, [.ref a_from, .ref a_to, .ref a_contents])), (a_contents, .inr (3, [.ref a_contents_sums, .ref a_contents_weights])), (a_contents_sums, .inl (cJ, 8, .inr (.inl v_contents_sums))), (a_contents_weights, .inl (cJ, 8, .inr (.inl v_contents_weights))), (a_from, .inl (cI, 8, .inl v_from)), (a_to, .inl (cI, 8, .inl v_to))] [(a_p1, .inr (1, [.ref a_p1_from, .ref a_p1_to, .ref a_p1_contents])), (a_p1_contents, .inr (3, [.ref a_p1_contents_sums, .ref a_p1_contents_weights])), (a_p1_contents_sums, .inl (cJ, 8, .inr (.inl v_p1_contents_sums))), (a_p1_contents_weights, .inl (cJ, 8, .inr (.inl v_p1_contents_weights))), (a_p1_from, .inl (cI, 8, .inl v_p1_from)), (a_p1_to, .inl (cI, 8, .inl v_p1_to)), (a_this, .inr (1, [.ref a_from, .ref a_to, .ref a_contents])), (a_contents, .inr (3, [.ref a_contents_sums, .ref a_contents_weights])), (a_contents_sums, .inl (cJ, 8, .inr (.inl R0.1))), (a_contents_weights, .inl (cJ, 8, .inr (.inl R0.2.1))), (a_from, .inl (cI, 8, .inl R0.2.2.1)), (a_to, .inl (cI, 8, .inl R0.2.2.2))] := by
  refine x_entv (cc := cX1_copyFrom) (maxL := 2) (rt := none) (lv := [(0, .ref a_this), (1, .ref a_p1)]) (by decide) rfl (Nat.le_of_ble_eq_true rfl) rfl ?_
  intro p e s m args below meth c A Q hQ hC
  unfold f_X1_copyFrom at hf
  refine x_aload_n 1 1 hC dX1_copyFrom_0 rfl rfl rfl ?_
  refine x_get 4 0 0 hC in_X1_copyFrom_X1 rfl rfl (by decide) (List.mem_of_getElem? (i := 1) (by decide +kernel)) rfl rfl dX1_copyFrom_1 rfl ?_
  refine x_iconst 5 hC (0 : Int32) dX1_copyFrom_4 rfl (by decide) ?_
  refine x_aload_n 6 0 hC dX1_copyFrom_5 rfl rfl rfl ?_
  refine x_get 9 6 0 hC in_X1_copyFrom_X1 rfl rfl (by decide) (List.mem_of_getElem? (i := 1) (by decide +kernel)) rfl rfl dX1_copyFrom_6 rfl ?_
  refine x_iconst 10 hC (0 : Int32) dX1_copyFrom_9 rfl (by decide) ?_
  refine x_bipush 12 hC (8 : Int32) dX1_copyFrom_10 rfl (by decide) ?_
  obtain ⟨h_1, hf⟩ := ckp_e hf
  obtain ⟨g_2, e_g_2, hf⟩ := nmx_e hf
  refine x_copyi 15 4 10 0 [(a_p1, .inr (1, [.ref a_p1_from, .ref a_p1_to, .ref a_p1_contents])), (a_p1_contents, .inr (3, [.ref a_p1_contents_sums, .ref a_p1_contents_weights])), (a_p1_contents_sums, .inl (cJ, 8, .inr (.inl v_p1_contents_sums))), (a_p1_contents_weights, .inl (cJ, 8, .inr (.inl v_p1_contents_weights))), (a_p1_from, .inl (cI, 8, .inl v_p1_from)), (a_p1_to, .inl (cI, 8, .inl v_p1_to)), (a_this, .inr (1, [.ref a_from, .ref a_to, .ref a_contents])), (a_contents, .inr (3, [.ref a_contents_sums, .ref a_contents_weights])), (a_contents_sums, .inl (cJ, 8, .inr (.inl v_contents_sums))), (a_contents_weights, .inl (cJ, 8, .inr (.inl v_contents_weights))), (a_from, .inl (cI, 8, .inl g_2)), (a_to, .inl (cI, 8, .inl v_to))] hC (List.mem_of_getElem? (i := 2) (by decide +kernel)) (List.mem_of_getElem? (i := 3) (by decide +kernel)) (List.mem_of_getElem? (i := 4) (by decide +kernel)) (List.mem_of_getElem? (i := 5) (by decide +kernel)) rfl rfl rfl h_1 e_g_2 rfl (Nat.le_of_ble_eq_true rfl) (by decide) dX1_copyFrom_12 rfl ?_
  refine x_aload_n 16 1 hC dX1_copyFrom_15 rfl rfl rfl ?_
  refine x_get 19 0 1 hC in_X1_copyFrom_X1 rfl rfl (by decide) (List.mem_of_getElem? (i := 6) (by decide +kernel)) rfl rfl dX1_copyFrom_16 rfl ?_
  refine x_iconst 20 hC (0 : Int32) dX1_copyFrom_19 rfl (by decide) ?_
  refine x_aload_n 21 0 hC dX1_copyFrom_20 rfl rfl rfl ?_
  refine x_get 24 6 1 hC in_X1_copyFrom_X1 rfl rfl (by decide) (List.mem_of_getElem? (i := 6) (by decide +kernel)) rfl rfl dX1_copyFrom_21 rfl ?_
  refine x_iconst 25 hC (0 : Int32) dX1_copyFrom_24 rfl (by decide) ?_
  refine x_bipush 27 hC (8 : Int32) dX1_copyFrom_25 rfl (by decide) ?_
  obtain ⟨h_3, hf⟩ := ckp_e hf
  obtain ⟨g_4, e_g_4, hf⟩ := nmx_e hf
  refine x_copyi 30 5 11 0 [(a_p1, .inr (1, [.ref a_p1_from, .ref a_p1_to, .ref a_p1_contents])), (a_p1_contents, .inr (3, [.ref a_p1_contents_sums, .ref a_p1_contents_weights])), (a_p1_contents_sums, .inl (cJ, 8, .inr (.inl v_p1_contents_sums))), (a_p1_contents_weights, .inl (cJ, 8, .inr (.inl v_p1_contents_weights))), (a_p1_from, .inl (cI, 8, .inl v_p1_from)), (a_p1_to, .inl (cI, 8, .inl v_p1_to)), (a_this, .inr (1, [.ref a_from, .ref a_to, .ref a_contents])), (a_contents, .inr (3, [.ref a_contents_sums, .ref a_contents_weights])), (a_contents_sums, .inl (cJ, 8, .inr (.inl v_contents_sums))), (a_contents_weights, .inl (cJ, 8, .inr (.inl v_contents_weights))), (a_from, .inl (cI, 8, .inl g_2)), (a_to, .inl (cI, 8, .inl g_4))] hC (List.mem_of_getElem? (i := 2) (by decide +kernel)) (List.mem_of_getElem? (i := 3) (by decide +kernel)) (List.mem_of_getElem? (i := 4) (by decide +kernel)) (List.mem_of_getElem? (i := 5) (by decide +kernel)) rfl rfl rfl h_3 e_g_4 rfl (Nat.le_of_ble_eq_true rfl) (by decide) dX1_copyFrom_27 rfl ?_
  refine x_aload_n 31 0 hC dX1_copyFrom_30 rfl rfl rfl ?_
  refine x_get 34 6 2 hC in_X1_copyFrom_X1 rfl rfl (by decide) (List.mem_of_getElem? (i := 7) (by decide +kernel)) rfl rfl dX1_copyFrom_31 rfl ?_
  refine x_aload_n 35 1 hC dX1_copyFrom_34 rfl rfl rfl ?_
  refine x_get 38 0 2 hC in_X1_copyFrom_X1 rfl rfl (by decide) (List.mem_of_getElem? (i := 7) (by decide +kernel)) rfl rfl dX1_copyFrom_35 rfl ?_
  obtain ⟨R_5, h_R_5, hf⟩ := bd_e hf
  refine x_callVv 41 3 1 [1, 2, 3, 7, 8, 9] [(a_p1, .inr (1, [.ref a_p1_from, .ref a_p1_to, .ref a_p1_contents])), (a_p1_contents, .inr (3, [.ref a_p1_contents_sums, .ref a_p1_contents_weights])), (a_p1_contents_sums, .inl (cJ, 8, .inr (.inl v_p1_contents_sums))), (a_p1_contents_weights, .inl (cJ, 8, .inr (.inl v_p1_contents_weights))), (a_p1_from, .inl (cI, 8, .inl v_p1_from)), (a_p1_to, .inl (cI, 8, .inl v_p1_to)), (a_this, .inr (1, [.ref a_from, .ref a_to, .ref a_contents])), (a_contents, .inr (3, [.ref a_contents_sums, .ref a_contents_weights])), (a_contents_sums, .inl (cJ, 8, .inr (.inl R_5.1))), (a_contents_weights, .inl (cJ, 8, .inr (.inl R_5.2))), (a_from, .inl (cI, 8, .inl g_2)), (a_to, .inl (cI, 8, .inl g_4))] hC (As := [.ref a_p1_contents]) (c_X3_copyFrom l D cI cJ cQ a_p1_contents a_p1_contents_sums a_p1_contents_weights a_contents a_contents_sums a_contents_weights 8 8 v_p1_contents_sums v_p1_contents_weights v_contents_sums v_contents_weights R_5 h_R_5) rfl rfl gX1_copyFrom_X3_copyFrom rfl ⟨rfl, rfl⟩ hd_X3_copyFrom ⟨Nat.le_of_ble_eq_true rfl, Nat.le_of_ble_eq_true rfl⟩ rfl rfl rfl rfl rfl rfl (Nat.le_of_ble_eq_true rfl) ⟨Nat.le_of_ble_eq_true rfl, Nat.le_of_ble_eq_true rfl⟩ dX1_copyFrom_38 rfl ?_
  cases hf
  exact x_vret hC dX1_copyFrom_41 hQ rfl
