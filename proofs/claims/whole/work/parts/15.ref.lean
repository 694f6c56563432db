theorem hd_X8_digest : yX8_digest.cls = RX8 ∧ yX8_digest.cls ≠ "java/lang/invoke/MethodHandle" ∧ yX8_digest.cls ≠ "java/lang/invoke/VarHandle" ∧ (parseMethodDescriptor yX8_digest.desc).map (fun d => d.parameters.length) = some 0 := by decide +kernel
theorem in_X8_digest_X8 : ∀ w ∈ u_ws RX8 TX8 13, w ∈ wsX8_digest := fun w h => List.mem_cons_of_mem _ (List.mem_append_right _ h)
noncomputable def f_X8_digest_c387 (k336 : Int64 → Int32 → Option (Int64)) (v_s : Nat → Int64) (k387_l1 : Int64) (k387_l3 : Int32) : Option (Int64) := nm (k387_l3 + (1 : Int32)) fun x_1 => k336 k387_l1 x_1
noncomputable def f_X8_digest_c345 (k336 : Int64 → Int32 → Option (Int64)) (v_s : Nat → Int64) : Nat → Int64 → Int32 → Int32 → Option (Int64)
  | 0, _, _, _ => none
  | n + 1, k345_l1, k345_l3, k345_l4 => if (5 : Int32) ≤ k345_l4 then (f_X8_digest_c387 k336 v_s k345_l1 k345_l3) else (bd (f_X8_isUnderWay v_s k345_l3) fun R_3 => if R_3 = 0 then (f_X8_digest_c387 k336 v_s k345_l1 k345_l3) else (ck (((173 : Int32) + ((5 : Int32) * k345_l3)) + k345_l4) 613 <| nm (((31 : Int64) * k345_l1) + (v_s (((173 : Int32) + ((5 : Int32) * k345_l3)) + k345_l4).toNatClampNeg)) fun x_6 => nm (k345_l4 + (1 : Int32)) fun x_7 => (fun k345_l1 k345_l3 k345_l4 => f_X8_digest_c345 k336 v_s n k345_l1 k345_l3 k345_l4) x_6 k345_l3 x_7))
noncomputable def f_X8_digest_c336 (v_s : Nat → Int64) : Nat → Int64 → Int32 → Option (Int64)
  | 0, _, _ => none
  | n + 1, k336_l1, k336_l3 => if (8 : Int32) ≤ k336_l3 then (bd (f_X8_owed v_s (0 : Int32)) fun R_9 => bd (f_X8_owed v_s (1 : Int32)) fun R_10 => ck (1 : Int32) 613 <| some ((((31 : Int64) * (((31 : Int64) * (((31 : Int64) * k336_l1) + R_9)) + R_10)) + (v_s (1 : Int32).toNatClampNeg)))) else (f_X8_digest_c345 (fun k336_l1 k336_l3 => f_X8_digest_c336 v_s n k336_l1 k336_l3) v_s fu k336_l1 k336_l3 (1 : Int32))
noncomputable def f_X8_digest_c265 (k250 : Int64 → Int32 → Option (Int64)) (v_s : Nat → Int64) : Nat → Int64 → Int32 → Int32 → Option (Int64)
  | 0, _, _, _ => none
  | n + 1, k265_l1, k265_l3, k265_l4 => ck (0 : Int32) 613 <| if (v_s (0 : Int32).toNatClampNeg) ≤ (k265_l4.toInt64) then (nm (k265_l3 + (1 : Int32)) fun x_14 => k250 k265_l1 x_14) else (ck (((213 : Int32) + ((10 : Int32) * k265_l3)) + k265_l4) 613 <| ck (((313 : Int32) + ((10 : Int32) * k265_l3)) + k265_l4) 613 <| nm (((31 : Int64) * (((31 : Int64) * k265_l1) + (v_s (((213 : Int32) + ((10 : Int32) * k265_l3)) + k265_l4).toNatClampNeg))) + (v_s (((313 : Int32) + ((10 : Int32) * k265_l3)) + k265_l4).toNatClampNeg)) fun x_17 => nm (k265_l4 + (1 : Int32)) fun x_18 => (fun k265_l1 k265_l3 k265_l4 => f_X8_digest_c265 k250 v_s n k265_l1 k265_l3 k265_l4) x_17 k265_l3 x_18)
noncomputable def f_X8_digest_c250 (v_s : Nat → Int64) : Nat → Int64 → Int32 → Option (Int64)
  | 0, _, _ => none
  | n + 1, k250_l1, k250_l3 => ck (0 : Int32) 613 <| if (v_s (0 : Int32).toNatClampNeg) ≤ (k250_l3.toInt64) then (f_X8_digest_c336 v_s fu k250_l1 (0 : Int32)) else (f_X8_digest_c265 (fun k250_l1 k250_l3 => f_X8_digest_c250 v_s n k250_l1 k250_l3) v_s fu k250_l1 k250_l3 (0 : Int32))
noncomputable def f_X8_digest_c234 (k184 : Int64 → Int32 → Option (Int64)) (k201 : Int64 → Int32 → Int32 → Option (Int64)) (v_s : Nat → Int64) (k234_l3 : Int32) (k234_l4 : Int32) (k234_s0 : Int64) (k234_s1 : Int64) : Option (Int64) := nm (k234_s1 + k234_s0) fun x_21 => nm (k234_l4 + (1 : Int32)) fun x_22 => k201 x_21 k234_l3 x_22
noncomputable def f_X8_digest_c201 (k184 : Int64 → Int32 → Option (Int64)) (v_s : Nat → Int64) : Nat → Int64 → Int32 → Int32 → Option (Int64)
  | 0, _, _, _ => none
  | n + 1, k201_l1, k201_l3, k201_l4 => ck (0 : Int32) 613 <| if (v_s (0 : Int32).toNatClampNeg) ≤ (k201_l4.toInt64) then (nm (k201_l3 + (1 : Int32)) fun x_25 => k184 k201_l1 x_25) else (bd (f_X8_areJoined v_s k201_l3 k201_l4) fun R_26 => if R_26 = 0 then (f_X8_digest_c234 k184 (fun k201_l1 k201_l3 k201_l4 => f_X8_digest_c201 k184 v_s n k201_l1 k201_l3 k201_l4) v_s k201_l3 k201_l4 (0 : Int64) ((31 : Int64) * k201_l1)) else (f_X8_digest_c234 k184 (fun k201_l1 k201_l3 k201_l4 => f_X8_digest_c201 k184 v_s n k201_l1 k201_l3 k201_l4) v_s k201_l3 k201_l4 (1 : Int64) ((31 : Int64) * k201_l1)))
noncomputable def f_X8_digest_c184 (v_s : Nat → Int64) : Nat → Int64 → Int32 → Option (Int64)
  | 0, _, _ => none
  | n + 1, k184_l1, k184_l3 => ck (0 : Int32) 613 <| if (v_s (0 : Int32).toNatClampNeg) ≤ (k184_l3.toInt64) then (f_X8_digest_c250 v_s fu k184_l1 (0 : Int32)) else (nm (k184_l3 + (1 : Int32)) fun x_30 => f_X8_digest_c201 (fun k184_l1 k184_l3 => f_X8_digest_c184 v_s n k184_l1 k184_l3) v_s fu k184_l1 k184_l3 x_30)
noncomputable def f_X8_digest_c176 (k6 : Int64 → Int32 → Option (Int64)) (v_s : Nat → Int64) (k176_l1 : Int64) (k176_l3 : Int32) : Option (Int64) := nm (k176_l3 + (1 : Int32)) fun x_31 => k6 k176_l1 x_31
noncomputable def f_X8_digest_c133 (k6 : Int64 → Int32 → Option (Int64)) (v_s : Nat → Int64) : Nat → Int64 → Int32 → Int32 → Option (Int64)
  | 0, _, _, _ => none
  | n + 1, k133_l1, k133_l3, k133_l4 => ck ((83 : Int32) + k133_l3) 613 <| if (v_s ((83 : Int32) + k133_l3).toNatClampNeg) ≤ (k133_l4.toInt64) then (f_X8_digest_c176 k6 v_s k133_l1 k133_l3) else (ck (((93 : Int32) + ((4 : Int32) * k133_l3)) + k133_l4) 613 <| nm (((31 : Int64) * k133_l1) + (v_s (((93 : Int32) + ((4 : Int32) * k133_l3)) + k133_l4).toNatClampNeg)) fun x_35 => nm (k133_l4 + (1 : Int32)) fun x_36 => (fun k133_l1 k133_l3 k133_l4 => f_X8_digest_c133 k6 v_s n k133_l1 k133_l3 k133_l4) x_35 k133_l3 x_36)
noncomputable def f_X8_digest_c6 (v_s : Nat → Int64) : Nat → Int64 → Int32 → Option (Int64)
  | 0, _, _ => none
  | n + 1, k6_l1, k6_l3 => ck (0 : Int32) 613 <| if (v_s (0 : Int32).toNatClampNeg) ≤ (k6_l3.toInt64) then (f_X8_digest_c184 v_s fu k6_l1 (0 : Int32)) else (ck ((13 : Int32) + k6_l3) 613 <| nm (((31 : Int64) * k6_l1) + (v_s ((13 : Int32) + k6_l3).toNatClampNeg)) fun x_40 => bd (f_X8_isHere v_s k6_l3) fun R_41 => if R_41 = 0 then (f_X8_digest_c176 (fun k6_l1 k6_l3 => f_X8_digest_c6 v_s n k6_l1 k6_l3) v_s x_40 k6_l3) else (ck ((23 : Int32) + k6_l3) 613 <| ck ((33 : Int32) + k6_l3) 613 <| ck ((43 : Int32) + k6_l3) 613 <| nm (((31 : Int64) * (((31 : Int64) * (((31 : Int64) * x_40) + (v_s ((23 : Int32) + k6_l3).toNatClampNeg))) + (v_s ((33 : Int32) + k6_l3).toNatClampNeg))) + (v_s ((43 : Int32) + k6_l3).toNatClampNeg)) fun x_46 => ck ((53 : Int32) + k6_l3) 613 <| ck ((63 : Int32) + k6_l3) 613 <| ck ((73 : Int32) + k6_l3) 613 <| nm (((31 : Int64) * (((31 : Int64) * (((31 : Int64) * x_46) + (v_s ((53 : Int32) + k6_l3).toNatClampNeg))) + (v_s ((63 : Int32) + k6_l3).toNatClampNeg))) + (v_s ((73 : Int32) + k6_l3).toNatClampNeg)) fun x_50 => f_X8_digest_c133 (fun k6_l1 k6_l3 => f_X8_digest_c6 v_s n k6_l1 k6_l3) v_s fu x_50 k6_l3 (0 : Int32)))
noncomputable def f_X8_digest (v_s : Nat → Int64) : Option (Int64) := f_X8_digest_c6 v_s fu (17 : Int64) (0 : Int32)
set_option maxHeartbeats 4000000 in
set_option maxRecDepth 100000 in
theorem c_X8_digest (l : Launch) (D : va_G) (cI cJ cQ : ClassId) (a_this : Nat) (a_s : Nat) (r_kept : Value) (r_known : Value) (r_whose : Value) (r_lesser : Value) (r_other : Value) (r_sums : Value) (r_weights : Value) (r_row : Value) (r_plan : Value) (v_undos : Int32) (v_open : Int32) (v_planned : Int32) (v_s : Nat → Int64) (R0 : Int64) (hf : f_X8_digest v_s = some R0) : Cl l yX8_digest wsX8_digest ({ frames := 4, cells := 0, slots := 0, locals := 133 } : Room) D [(cI, .int), (cJ, .long), (cQ, .object "WhisperCrowd$State")] [.ref a_this] [(a_this, .inr (8, [.ref a_s, r_kept, .int v_undos, r_known, r_whose, r_lesser, r_other, .int v_open, r_sums, r_weights, r_row, r_plan, .int v_planned])), (a_s, .inl (cJ, 613, .inr (.inl v_s)))] [(a_this, .inr (8, [.ref a_s, r_kept, .int v_undos, r_known, r_whose, r_lesser, r_other, .int v_open, r_sums, r_weights, r_row, r_plan, .int v_planned])), (a_s, .inl (cJ, 613, .inr (.inl v_s)))] R0 := by
  refine x_entl (cc := cX8_digest) (maxL := 5) (rt := (some .long)) (lv := [(0, .ref a_this)]) (by decide) rfl (Nat.le_of_ble_eq_true rfl) rfl ?_
  intro p e s m args below meth c A Q hQ hC
  have J_336 : ∀ (n : Nat) (k336_l1 : Int64) (k336_l3 : Int32), f_X8_digest_c336 v_s n k336_l1 k336_l3 = some R0 → XW p l e ({ frames := 4, cells := 0, slots := 0, locals := 133 } : Room) s m args below meth c D A 5 0 0 Q [(a_this, .inr (8, [.ref a_s, r_kept, .int v_undos, r_known, r_whose, r_lesser, r_other, .int v_open, r_sums, r_weights, r_row, r_plan, .int v_planned])), (a_s, .inl (cJ, 613, .inr (.inl v_s)))] [] [(0, .ref a_this), (1, .long k336_l1), (3, .int k336_l3)] 336 [] := by
    intro n
    induction n with
    | zero => intro k336_l1 k336_l3 hf; exact nomatch (show (none : Option (Int64)) = some R0 from hf)
    | succ n_336 ih_336 =>
      have J_387 : ∀ (k387_l1 : Int64) (k387_l3 : Int32), f_X8_digest_c387 (fun k336_l1 k336_l3 => f_X8_digest_c336 v_s n_336 k336_l1 k336_l3) v_s k387_l1 k387_l3 = some R0 → XW p l e ({ frames := 4, cells := 0, slots := 0, locals := 133 } : Room) s m args below meth c D A 5 0 0 Q [(a_this, .inr (8, [.ref a_s, r_kept, .int v_undos, r_known, r_whose, r_lesser, r_other, .int v_open, r_sums, r_weights, r_row, r_plan, .int v_planned])), (a_s, .inl (cJ, 613, .inr (.inl v_s)))] [] [(0, .ref a_this), (1, .long k387_l1), (3, .int k387_l3)] 387 [] := by
        intro k387_l1 k387_l3 hf
        unfold f_X8_digest_c387 at hf
        obtain ⟨x_1, e_x_1, hf⟩ := nmx_e hf
        refine x_iinc 390 2 [(3, .int x_1), (0, .ref a_this), (1, .long k387_l1)] hC dX8_digest_387 rfl rfl e_x_1 (by decide) (by decide) rfl ?_
        refine x_goto 336 hC dX8_digest_390 (by decide) ?_
        refine x_lv [(0, .ref a_this), (1, .long k387_l1), (3, .int x_1)] [1, 2, 0] rfl ?_
        exact ih_336 k387_l1 x_1 hf
      have J_345 : ∀ (n : Nat) (k345_l1 : Int64) (k345_l3 : Int32) (k345_l4 : Int32), f_X8_digest_c345 (fun k336_l1 k336_l3 => f_X8_digest_c336 v_s n_336 k336_l1 k336_l3) v_s n k345_l1 k345_l3 k345_l4 = some R0 → XW p l e ({ frames := 4, cells := 0, slots := 0, locals := 133 } : Room) s m args below meth c D A 5 0 0 Q [(a_this, .inr (8, [.ref a_s, r_kept, .int v_undos, r_known, r_whose, r_lesser, r_other, .int v_open, r_sums, r_weights, r_row, r_plan, .int v_planned])), (a_s, .inl (cJ, 613, .inr (.inl v_s)))] [] [(0, .ref a_this), (1, .long k345_l1), (3, .int k345_l3), (4, .int k345_l4)] 345 [] := by
        intro n
        induction n with
        | zero => intro k345_l1 k345_l3 k345_l4 hf; exact nomatch (show (none : Option (Int64)) = some R0 from hf)
        | succ n_345 ih_345 =>
          intro k345_l1 k345_l3 k345_l4 hf
          unfold f_X8_digest_c345 at hf
          refine x_iload 347 3 hC dX8_digest_345 rfl rfl ?_
          refine x_iconst 348 hC (5 : Int32) dX8_digest_347 rfl (by decide) ?_
          refine x_icmp_ge 387 351 hC dX8_digest_348 (by decide) rfl (fun c_2 => ?_) (fun c_2 => ?_)
          · have hf := if_t hf c_2
            refine x_lv [(0, .ref a_this), (1, .long k345_l1), (3, .int k345_l3)] [0, 1, 2] rfl ?_
            exact J_387 k345_l1 k345_l3 hf
          · have hf := if_f hf c_2
            refine x_aload_n 352 0 hC dX8_digest_351 rfl rfl rfl ?_
            refine x_iload_n 353 2 hC dX8_digest_352 rfl rfl rfl ?_
            obtain ⟨R_3, h_R_3, hf⟩ := bd_e hf
            refine x_callVi 356 0 1 [0, 1] [(a_this, .inr (8, [.ref a_s, r_kept, .int v_undos, r_known, r_whose, r_lesser, r_other, .int v_open, r_sums, r_weights, r_row, r_plan, .int v_planned])), (a_s, .inl (cJ, 613, .inr (.inl v_s)))] hC (As := [.int k345_l3]) (c_X8_isUnderWay l D cI cJ cQ a_this a_s r_kept r_known r_whose r_lesser r_other r_sums r_weights r_row r_plan v_undos v_open v_planned v_s k345_l3 R_3 h_R_3) rfl rfl gX8_digest_X8_isUnderWay rfl ⟨rfl, rfl⟩ hd_X8_isUnderWay ⟨Nat.le_of_ble_eq_true rfl, Nat.le_of_ble_eq_true rfl⟩ rfl rfl rfl rfl rfl rfl (Nat.le_of_ble_eq_true rfl) ⟨Nat.le_of_ble_eq_true rfl, Nat.le_of_ble_eq_true rfl⟩ dX8_digest_353 rfl ?_
            refine x_if_eq 387 359 hC dX8_digest_356 (by decide) rfl (fun c_4 => ?_) (fun c_4 => ?_)
            · have hf := if_t hf c_4
              refine x_lv [(0, .ref a_this), (1, .long k345_l1), (3, .int k345_l3)] [0, 1, 2] rfl ?_
              exact J_387 k345_l1 k345_l3 hf
            · have hf := if_f hf c_4
              refine x_ldc2 362 hC (v := (31 : Int64)) (List.mem_of_getElem? (i := 3) (by decide +kernel)) dX8_digest_359 rfl ?_
              refine x_lload_n 363 1 hC dX8_digest_362 rfl rfl rfl ?_
              refine x_lmul 364 hC dX8_digest_363 rfl ?_
              refine x_aload_n 365 0 hC dX8_digest_364 rfl rfl rfl ?_
              refine x_get 368 0 0 hC in_X8_digest_X8 rfl rfl (by decide) (List.mem_of_getElem? (i := 2) (by decide +kernel)) rfl rfl dX8_digest_365 rfl ?_
              refine x_sipush 371 hC (173 : Int32) dX8_digest_368 rfl (by decide) ?_
              refine x_iconst 372 hC (5 : Int32) dX8_digest_371 rfl (by decide) ?_
              refine x_iload_n 373 2 hC dX8_digest_372 rfl rfl rfl ?_
              refine x_imul 374 hC dX8_digest_373 rfl ?_
              refine x_iadd 375 hC dX8_digest_374 rfl ?_
              refine x_iload 377 3 hC dX8_digest_375 rfl rfl ?_
              refine x_iadd 378 hC dX8_digest_377 rfl ?_
              obtain ⟨h_5, hf⟩ := ck_e hf
              refine x_lald 379 1 1 hC rfl rfl h_5 dX8_digest_378 rfl ?_
              refine x_ladd 380 hC dX8_digest_379 rfl ?_
              obtain ⟨x_6, e_x_6, hf⟩ := nmx_e hf
              refine x_lstore_n 381 [(1, .long x_6), (0, .ref a_this), (3, .int k345_l3), (4, .int k345_l4)] hC dX8_digest_380 rfl rfl e_x_6 (by decide) rfl ?_
              obtain ⟨x_7, e_x_7, hf⟩ := nmx_e hf
              refine x_iinc 384 3 [(4, .int x_7), (1, .long x_6), (0, .ref a_this), (3, .int k345_l3)] hC dX8_digest_381 rfl rfl e_x_7 (by decide) (by decide) rfl ?_
              refine x_goto 345 hC dX8_digest_384 (by decide) ?_
              refine x_lv [(0, .ref a_this), (1, .long x_6), (3, .int k345_l3), (4, .int x_7)] [2, 1, 3, 0] rfl ?_
              exact ih_345 x_6 k345_l3 x_7 hf
      intro k336_l1 k336_l3 hf
      unfold f_X8_digest_c336 at hf
      refine x_iload_n 337 2 hC dX8_digest_336 rfl rfl rfl ?_
      refine x_bipush 339 hC (8 : Int32) dX8_digest_337 rfl (by decide) ?_
      refine x_icmp_ge 393 342 hC dX8_digest_339 (by decide) rfl (fun c_8 => ?_) (fun c_8 => ?_)
      · have hf := if_t hf c_8
        refine x_ldc2 396 hC (v := (31 : Int64)) (List.mem_of_getElem? (i := 3) (by decide +kernel)) dX8_digest_393 rfl ?_
        refine x_ldc2 399 hC (v := (31 : Int64)) (List.mem_of_getElem? (i := 3) (by decide +kernel)) dX8_digest_396 rfl ?_
        refine x_ldc2 402 hC (v := (31 : Int64)) (List.mem_of_getElem? (i := 3) (by decide +kernel)) dX8_digest_399 rfl ?_
        refine x_lload_n 403 1 hC dX8_digest_402 rfl rfl rfl ?_
        refine x_lmul 404 hC dX8_digest_403 rfl ?_
        refine x_aload_n 405 0 hC dX8_digest_404 rfl rfl rfl ?_
        refine x_iconst 406 hC (0 : Int32) dX8_digest_405 rfl (by decide) ?_
        obtain ⟨R_9, h_R_9, hf⟩ := bd_e hf
        refine x_callVl 409 0 1 [0, 1] [(a_this, .inr (8, [.ref a_s, r_kept, .int v_undos, r_known, r_whose, r_lesser, r_other, .int v_open, r_sums, r_weights, r_row, r_plan, .int v_planned])), (a_s, .inl (cJ, 613, .inr (.inl v_s)))] hC (As := [.int (0 : Int32)]) (c_X8_owed l D cI cJ cQ a_this a_s r_kept r_known r_whose r_lesser r_other r_sums r_weights r_row r_plan v_undos v_open v_planned v_s (0 : Int32) R_9 h_R_9) rfl rfl gX8_digest_X8_owed rfl ⟨rfl, rfl⟩ hd_X8_owed ⟨Nat.le_of_ble_eq_true rfl, Nat.le_of_ble_eq_true rfl⟩ rfl rfl rfl rfl rfl rfl (Nat.le_of_ble_eq_true rfl) ⟨Nat.le_of_ble_eq_true rfl, Nat.le_of_ble_eq_true rfl⟩ dX8_digest_406 rfl ?_
        refine x_ladd 410 hC dX8_digest_409 rfl ?_
        refine x_lmul 411 hC dX8_digest_410 rfl ?_
        refine x_aload_n 412 0 hC dX8_digest_411 rfl rfl rfl ?_
        refine x_iconst 413 hC (1 : Int32) dX8_digest_412 rfl (by decide) ?_
        obtain ⟨R_10, h_R_10, hf⟩ := bd_e hf
        refine x_callVl 416 0 1 [0, 1] [(a_this, .inr (8, [.ref a_s, r_kept, .int v_undos, r_known, r_whose, r_lesser, r_other, .int v_open, r_sums, r_weights, r_row, r_plan, .int v_planned])), (a_s, .inl (cJ, 613, .inr (.inl v_s)))] hC (As := [.int (1 : Int32)]) (c_X8_owed l D cI cJ cQ a_this a_s r_kept r_known r_whose r_lesser r_other r_sums r_weights r_row r_plan v_undos v_open v_planned v_s (1 : Int32) R_10 h_R_10) rfl rfl gX8_digest_X8_owed rfl ⟨rfl, rfl⟩ hd_X8_owed ⟨Nat.le_of_ble_eq_true rfl, Nat.le_of_ble_eq_true rfl⟩ rfl rfl rfl rfl rfl rfl (Nat.le_of_ble_eq_true rfl) ⟨Nat.le_of_ble_eq_true rfl, Nat.le_of_ble_eq_true rfl⟩ dX8_digest_413 rfl ?_
        refine x_ladd 417 hC dX8_digest_416 rfl ?_
        refine x_lmul 418 hC dX8_digest_417 rfl ?_
        refine x_aload_n 419 0 hC dX8_digest_418 rfl rfl rfl ?_
        refine x_get 422 0 0 hC in_X8_digest_X8 rfl rfl (by decide) (List.mem_of_getElem? (i := 2) (by decide +kernel)) rfl rfl dX8_digest_419 rfl ?_
        refine x_iconst 423 hC (1 : Int32) dX8_digest_422 rfl (by decide) ?_
        obtain ⟨h_11, hf⟩ := ck_e hf
        refine x_lald 424 1 1 hC rfl rfl h_11 dX8_digest_423 rfl ?_
        refine x_ladd 425 hC dX8_digest_424 rfl ?_
        cases hf
        exact x_lret hC dX8_digest_425 hQ rfl rfl
      · have hf := if_f hf c_8
        refine x_iconst 343 hC (1 : Int32) dX8_digest_342 rfl (by decide) ?_
        refine x_istore 345 [(4, .int (1 : Int32)), (0, .ref a_this), (1, .long k336_l1), (3, .int k336_l3)] hC dX8_digest_343 rfl rfl (by decide) rfl ?_
        refine x_lv [(0, .ref a_this), (1, .long k336_l1), (3, .int k336_l3), (4, .int (1 : Int32))] [1, 2, 3, 0] rfl ?_
        exact J_345 fu k336_l1 k336_l3 (1 : Int32) hf
  have J_250 : ∀ (n : Nat) (k250_l1 : Int64) (k250_l3 : Int32), f_X8_digest_c250 v_s n k250_l1 k250_l3 = some R0 → XW p l e ({ frames := 4, cells := 0, slots := 0, locals := 133 } : Room) s m args below meth c D A 5 0 0 Q [(a_this, .inr (8, [.ref a_s, r_kept, .int v_undos, r_known, r_whose, r_lesser, r_other, .int v_open, r_sums, r_weights, r_row, r_plan, .int v_planned])), (a_s, .inl (cJ, 613, .inr (.inl v_s)))] [] [(0, .ref a_this), (1, .long k250_l1), (3, .int k250_l3)] 250 [] := by
    intro n
    induction n with
    | zero => intro k250_l1 k250_l3 hf; exact nomatch (show (none : Option (Int64)) = some R0 from hf)
    | succ n_250 ih_250 =>
      have J_265 : ∀ (n : Nat) (k265_l1 : Int64) (k265_l3 : Int32) (k265_l4 : Int32), f_X8_digest_c265 (fun k250_l1 k250_l3 => f_X8_digest_c250 v_s n_250 k250_l1 k250_l3) v_s n k265_l1 k265_l3 k265_l4 = some R0 → XW p l e ({ frames := 4, cells := 0, slots := 0, locals := 133 } : Room) s m args below meth c D A 5 0 0 Q [(a_this, .inr (8, [.ref a_s, r_kept, .int v_undos, r_known, r_whose, r_lesser, r_other, .int v_open, r_sums, r_weights, r_row, r_plan, .int v_planned])), (a_s, .inl (cJ, 613, .inr (.inl v_s)))] [] [(0, .ref a_this), (1, .long k265_l1), (3, .int k265_l3), (4, .int k265_l4)] 265 [] := by
        intro n
        induction n with
        | zero => intro k265_l1 k265_l3 k265_l4 hf; exact nomatch (show (none : Option (Int64)) = some R0 from hf)
        | succ n_265 ih_265 =>
          intro k265_l1 k265_l3 k265_l4 hf
          unfold f_X8_digest_c265 at hf
          refine x_iload 267 3 hC dX8_digest_265 rfl rfl ?_
          refine x_i2l 268 hC dX8_digest_267 rfl ?_
          refine x_aload_n 269 0 hC dX8_digest_268 rfl rfl rfl ?_
          refine x_get 272 0 0 hC in_X8_digest_X8 rfl rfl (by decide) (List.mem_of_getElem? (i := 2) (by decide +kernel)) rfl rfl dX8_digest_269 rfl ?_
          refine x_iconst 273 hC (0 : Int32) dX8_digest_272 rfl (by decide) ?_
          obtain ⟨h_12, hf⟩ := ck_e hf
          refine x_lald 274 1 1 hC rfl rfl h_12 dX8_digest_273 rfl ?_
          refine x_lcmp_ge 328 278 hC dX8_digest_274 dX8_digest_275 (by decide) rfl (fun c_13 => ?_) (fun c_13 => ?_)
          · have hf := if_t hf c_13
            obtain ⟨x_14, e_x_14, hf⟩ := nmx_e hf
            refine x_iinc 331 2 [(3, .int x_14), (0, .ref a_this), (1, .long k265_l1), (4, .int k265_l4)] hC dX8_digest_328 rfl rfl e_x_14 (by decide) (by decide) rfl ?_
            refine x_goto 250 hC dX8_digest_331 (by decide) ?_
            refine x_lv [(0, .ref a_this), (1, .long k265_l1), (3, .int x_14)] [1, 2, 0] rfl ?_
            exact ih_250 k265_l1 x_14 hf
          · have hf := if_f hf c_13
            refine x_ldc2 281 hC (v := (31 : Int64)) (List.mem_of_getElem? (i := 3) (by decide +kernel)) dX8_digest_278 rfl ?_
            refine x_ldc2 284 hC (v := (31 : Int64)) (List.mem_of_getElem? (i := 3) (by decide +kernel)) dX8_digest_281 rfl ?_
            refine x_lload_n 285 1 hC dX8_digest_284 rfl rfl rfl ?_
            refine x_lmul 286 hC dX8_digest_285 rfl ?_
            refine x_aload_n 287 0 hC dX8_digest_286 rfl rfl rfl ?_
            refine x_get 290 0 0 hC in_X8_digest_X8 rfl rfl (by decide) (List.mem_of_getElem? (i := 2) (by decide +kernel)) rfl rfl dX8_digest_287 rfl ?_
            refine x_sipush 293 hC (213 : Int32) dX8_digest_290 rfl (by decide) ?_
            refine x_bipush 295 hC (10 : Int32) dX8_digest_293 rfl (by decide) ?_
            refine x_iload_n 296 2 hC dX8_digest_295 rfl rfl rfl ?_
            refine x_imul 297 hC dX8_digest_296 rfl ?_
            refine x_iadd 298 hC dX8_digest_297 rfl ?_
            refine x_iload 300 3 hC dX8_digest_298 rfl rfl ?_
            refine x_iadd 301 hC dX8_digest_300 rfl ?_
            obtain ⟨h_15, hf⟩ := ck_e hf
            refine x_lald 302 1 1 hC rfl rfl h_15 dX8_digest_301 rfl ?_
            refine x_ladd 303 hC dX8_digest_302 rfl ?_
            refine x_lmul 304 hC dX8_digest_303 rfl ?_
            refine x_aload_n 305 0 hC dX8_digest_304 rfl rfl rfl ?_
            refine x_get 308 0 0 hC in_X8_digest_X8 rfl rfl (by decide) (List.mem_of_getElem? (i := 2) (by decide +kernel)) rfl rfl dX8_digest_305 rfl ?_
            refine x_sipush 311 hC (313 : Int32) dX8_digest_308 rfl (by decide) ?_
            refine x_bipush 313 hC (10 : Int32) dX8_digest_311 rfl (by decide) ?_
            refine x_iload_n 314 2 hC dX8_digest_313 rfl rfl rfl ?_
            refine x_imul 315 hC dX8_digest_314 rfl ?_
            refine x_iadd 316 hC dX8_digest_315 rfl ?_
            refine x_iload 318 3 hC dX8_digest_316 rfl rfl ?_
            refine x_iadd 319 hC dX8_digest_318 rfl ?_
            obtain ⟨h_16, hf⟩ := ck_e hf
            refine x_lald 320 1 1 hC rfl rfl h_16 dX8_digest_319 rfl ?_
            refine x_ladd 321 hC dX8_digest_320 rfl ?_
            obtain ⟨x_17, e_x_17, hf⟩ := nmx_e hf
            refine x_lstore_n 322 [(1, .long x_17), (0, .ref a_this), (3, .int k265_l3), (4, .int k265_l4)] hC dX8_digest_321 rfl rfl e_x_17 (by decide) rfl ?_
            obtain ⟨x_18, e_x_18, hf⟩ := nmx_e hf
            refine x_iinc 325 3 [(4, .int x_18), (1, .long x_17), (0, .ref a_this), (3, .int k265_l3)] hC dX8_digest_322 rfl rfl e_x_18 (by decide) (by decide) rfl ?_
            refine x_goto 265 hC dX8_digest_325 (by decide) ?_
            refine x_lv [(0, .ref a_this), (1, .long x_17), (3, .int k265_l3), (4, .int x_18)] [2, 1, 3, 0] rfl ?_
            exact ih_265 x_17 k265_l3 x_18 hf
      intro k250_l1 k250_l3 hf
      unfold f_X8_digest_c250 at hf
      refine x_iload_n 251 2 hC dX8_digest_250 rfl rfl rfl ?_
      refine x_i2l 252 hC dX8_digest_251 rfl ?_
      refine x_aload_n 253 0 hC dX8_digest_252 rfl rfl rfl ?_
      refine x_get 256 0 0 hC in_X8_digest_X8 rfl rfl (by decide) (List.mem_of_getElem? (i := 2) (by decide +kernel)) rfl rfl dX8_digest_253 rfl ?_
      refine x_iconst 257 hC (0 : Int32) dX8_digest_256 rfl (by decide) ?_
      obtain ⟨h_19, hf⟩ := ck_e hf
      refine x_lald 258 1 1 hC rfl rfl h_19 dX8_digest_257 rfl ?_
      refine x_lcmp_ge 334 262 hC dX8_digest_258 dX8_digest_259 (by decide) rfl (fun c_20 => ?_) (fun c_20 => ?_)
      · have hf := if_t hf c_20
        refine x_iconst 335 hC (0 : Int32) dX8_digest_334 rfl (by decide) ?_
        refine x_istore_n 336 [(3, .int (0 : Int32)), (0, .ref a_this), (1, .long k250_l1)] hC dX8_digest_335 rfl rfl rfl (by decide) rfl ?_
        refine x_lv [(0, .ref a_this), (1, .long k250_l1), (3, .int (0 : Int32))] [1, 2, 0] rfl ?_
        exact J_336 fu k250_l1 (0 : Int32) hf
      · have hf := if_f hf c_20
        refine x_iconst 263 hC (0 : Int32) dX8_digest_262 rfl (by decide) ?_
        refine x_istore 265 [(4, .int (0 : Int32)), (0, .ref a_this), (1, .long k250_l1), (3, .int k250_l3)] hC dX8_digest_263 rfl rfl (by decide) rfl ?_
        refine x_lv [(0, .ref a_this), (1, .long k250_l1), (3, .int k250_l3), (4, .int (0 : Int32))] [1, 2, 3, 0] rfl ?_
        exact J_265 fu k250_l1 k250_l3 (0 : Int32) hf
  have J_184 : ∀ (n : Nat) (k184_l1 : Int64) (k184_l3 : Int32), f_X8_digest_c184 v_s n k184_l1 k184_l3 = some R0 → XW p l e ({ frames := 4, cells := 0, slots := 0, locals := 133 } : Room) s m args below meth c D A 5 0 0 Q [(a_this, .inr (8, [.ref a_s, r_kept, .int v_undos, r_known, r_whose, r_lesser, r_other, .int v_open, r_sums, r_weights, r_row, r_plan, .int v_planned])), (a_s, .inl (cJ, 613, .inr (.inl v_s)))] [] [(0, .ref a_this), (1, .long k184_l1), (3, .int k184_l3)] 184 [] := by
    intro n
    induction n with
    | zero => intro k184_l1 k184_l3 hf; exact nomatch (show (none : Option (Int64)) = some R0 from hf)
    | succ n_184 ih_184 =>
      have J_201 : ∀ (n : Nat) (k201_l1 : Int64) (k201_l3 : Int32) (k201_l4 : Int32), f_X8_digest_c201 (fun k184_l1 k184_l3 => f_X8_digest_c184 v_s n_184 k184_l1 k184_l3) v_s n k201_l1 k201_l3 k201_l4 = some R0 → XW p l e ({ frames := 4, cells := 0, slots := 0, locals := 133 } : Room) s m args below meth c D A 5 0 0 Q [(a_this, .inr (8, [.ref a_s, r_kept, .int v_undos, r_known, r_whose, r_lesser, r_other, .int v_open, r_sums, r_weights, r_row, r_plan, .int v_planned])), (a_s, .inl (cJ, 613, .inr (.inl v_s)))] [] [(0, .ref a_this), (1, .long k201_l1), (3, .int k201_l3), (4, .int k201_l4)] 201 [] := by
        intro n
        induction n with
        | zero => intro k201_l1 k201_l3 k201_l4 hf; exact nomatch (show (none : Option (Int64)) = some R0 from hf)
        | succ n_201 ih_201 =>
          have J_234 : ∀ (k234_l3 : Int32) (k234_l4 : Int32) (k234_s0 : Int64) (k234_s1 : Int64), f_X8_digest_c234 (fun k184_l1 k184_l3 => f_X8_digest_c184 v_s n_184 k184_l1 k184_l3) (fun k201_l1 k201_l3 k201_l4 => f_X8_digest_c201 (fun k184_l1 k184_l3 => f_X8_digest_c184 v_s n_184 k184_l1 k184_l3) v_s n_201 k201_l1 k201_l3 k201_l4) v_s k234_l3 k234_l4 k234_s0 k234_s1 = some R0 → XW p l e ({ frames := 4, cells := 0, slots := 0, locals := 133 } : Room) s m args below meth c D A 5 0 0 Q [(a_this, .inr (8, [.ref a_s, r_kept, .int v_undos, r_known, r_whose, r_lesser, r_other, .int v_open, r_sums, r_weights, r_row, r_plan, .int v_planned])), (a_s, .inl (cJ, 613, .inr (.inl v_s)))] [] [(0, .ref a_this), (3, .int k234_l3), (4, .int k234_l4)] 234 [.long k234_s0, .long k234_s1] := by
            intro k234_l3 k234_l4 k234_s0 k234_s1 hf
            unfold f_X8_digest_c234 at hf
            refine x_ladd 235 hC dX8_digest_234 rfl ?_
            obtain ⟨x_21, e_x_21, hf⟩ := nmx_e hf
            refine x_lstore_n 236 [(1, .long x_21), (0, .ref a_this), (3, .int k234_l3), (4, .int k234_l4)] hC dX8_digest_235 rfl rfl e_x_21 (by decide) rfl ?_
            obtain ⟨x_22, e_x_22, hf⟩ := nmx_e hf
            refine x_iinc 239 3 [(4, .int x_22), (1, .long x_21), (0, .ref a_this), (3, .int k234_l3)] hC dX8_digest_236 rfl rfl e_x_22 (by decide) (by decide) rfl ?_
            refine x_goto 201 hC dX8_digest_239 (by decide) ?_
            refine x_lv [(0, .ref a_this), (1, .long x_21), (3, .int k234_l3), (4, .int x_22)] [2, 1, 3, 0] rfl ?_
            exact ih_201 x_21 k234_l3 x_22 hf
          intro k201_l1 k201_l3 k201_l4 hf
          unfold f_X8_digest_c201 at hf
          refine x_iload 203 3 hC dX8_digest_201 rfl rfl ?_
          refine x_i2l 204 hC dX8_digest_203 rfl ?_
          refine x_aload_n 205 0 hC dX8_digest_204 rfl rfl rfl ?_
          refine x_get 208 0 0 hC in_X8_digest_X8 rfl rfl (by decide) (List.mem_of_getElem? (i := 2) (by decide +kernel)) rfl rfl dX8_digest_205 rfl ?_
          refine x_iconst 209 hC (0 : Int32) dX8_digest_208 rfl (by decide) ?_
          obtain ⟨h_23, hf⟩ := ck_e hf
          refine x_lald 210 1 1 hC rfl rfl h_23 dX8_digest_209 rfl ?_
          refine x_lcmp_ge 242 214 hC dX8_digest_210 dX8_digest_211 (by decide) rfl (fun c_24 => ?_) (fun c_24 => ?_)
          · have hf := if_t hf c_24
            obtain ⟨x_25, e_x_25, hf⟩ := nmx_e hf
            refine x_iinc 245 2 [(3, .int x_25), (0, .ref a_this), (1, .long k201_l1), (4, .int k201_l4)] hC dX8_digest_242 rfl rfl e_x_25 (by decide) (by decide) rfl ?_
            refine x_goto 184 hC dX8_digest_245 (by decide) ?_
            refine x_lv [(0, .ref a_this), (1, .long k201_l1), (3, .int x_25)] [1, 2, 0] rfl ?_
            exact ih_184 k201_l1 x_25 hf
          · have hf := if_f hf c_24
            refine x_ldc2 217 hC (v := (31 : Int64)) (List.mem_of_getElem? (i := 3) (by decide +kernel)) dX8_digest_214 rfl ?_
            refine x_lload_n 218 1 hC dX8_digest_217 rfl rfl rfl ?_
            refine x_lmul 219 hC dX8_digest_218 rfl ?_
            refine x_aload_n 220 0 hC dX8_digest_219 rfl rfl rfl ?_
            refine x_iload_n 221 2 hC dX8_digest_220 rfl rfl rfl ?_
            refine x_iload 223 3 hC dX8_digest_221 rfl rfl ?_
            obtain ⟨R_26, h_R_26, hf⟩ := bd_e hf
            refine x_callVi 226 0 2 [0, 1] [(a_this, .inr (8, [.ref a_s, r_kept, .int v_undos, r_known, r_whose, r_lesser, r_other, .int v_open, r_sums, r_weights, r_row, r_plan, .int v_planned])), (a_s, .inl (cJ, 613, .inr (.inl v_s)))] hC (As := [.int k201_l3, .int k201_l4]) (c_X8_areJoined l D cI cJ cQ a_this a_s r_kept r_known r_whose r_lesser r_other r_sums r_weights r_row r_plan v_undos v_open v_planned v_s k201_l3 k201_l4 R_26 h_R_26) rfl rfl gX8_digest_X8_areJoined rfl ⟨rfl, rfl⟩ hd_X8_areJoined ⟨Nat.le_of_ble_eq_true rfl, Nat.le_of_ble_eq_true rfl⟩ rfl rfl rfl rfl rfl rfl (Nat.le_of_ble_eq_true rfl) ⟨Nat.le_of_ble_eq_true rfl, Nat.le_of_ble_eq_true rfl⟩ dX8_digest_223 rfl ?_
            refine x_if_eq 233 229 hC dX8_digest_226 (by decide) rfl (fun c_27 => ?_) (fun c_27 => ?_)
            · have hf := if_t hf c_27
              refine x_lconst 234 hC (0 : Int64) dX8_digest_233 rfl (by decide) ?_
              refine x_lv [(0, .ref a_this), (3, .int k201_l3), (4, .int k201_l4)] [0, 2, 3] rfl ?_
              exact J_234 k201_l3 k201_l4 (0 : Int64) ((31 : Int64) * k201_l1) hf
            · have hf := if_f hf c_27
              refine x_lconst 230 hC (1 : Int64) dX8_digest_229 rfl (by decide) ?_
              refine x_goto 234 hC dX8_digest_230 (by decide) ?_
              refine x_lv [(0, .ref a_this), (3, .int k201_l3), (4, .int k201_l4)] [0, 2, 3] rfl ?_
              exact J_234 k201_l3 k201_l4 (1 : Int64) ((31 : Int64) * k201_l1) hf
      intro k184_l1 k184_l3 hf
      unfold f_X8_digest_c184 at hf
      refine x_iload_n 185 2 hC dX8_digest_184 rfl rfl rfl ?_
      refine x_i2l 186 hC dX8_digest_185 rfl ?_
      refine x_aload_n 187 0 hC dX8_digest_186 rfl rfl rfl ?_
      refine x_get 190 0 0 hC in_X8_digest_X8 rfl rfl (by decide) (List.mem_of_getElem? (i := 2) (by decide +kernel)) rfl rfl dX8_digest_187 rfl ?_
      refine x_iconst 191 hC (0 : Int32) dX8_digest_190 rfl (by decide) ?_
      obtain ⟨h_28, hf⟩ := ck_e hf
      refine x_lald 192 1 1 hC rfl rfl h_28 dX8_digest_191 rfl ?_
      refine x_lcmp_ge 248 196 hC dX8_digest_192 dX8_digest_193 (by decide) rfl (fun c_29 => ?_) (fun c_29 => ?_)
      · have hf := if_t hf c_29
        refine x_iconst 249 hC (0 : Int32) dX8_digest_248 rfl (by decide) ?_
        refine x_istore_n 250 [(3, .int (0 : Int32)), (0, .ref a_this), (1, .long k184_l1)] hC dX8_digest_249 rfl rfl rfl (by decide) rfl ?_
        refine x_lv [(0, .ref a_this), (1, .long k184_l1), (3, .int (0 : Int32))] [1, 2, 0] rfl ?_
        exact J_250 fu k184_l1 (0 : Int32) hf
      · have hf := if_f hf c_29
        refine x_iload_n 197 2 hC dX8_digest_196 rfl rfl rfl ?_
        refine x_iconst 198 hC (1 : Int32) dX8_digest_197 rfl (by decide) ?_
        refine x_iadd 199 hC dX8_digest_198 rfl ?_
        obtain ⟨x_30, e_x_30, hf⟩ := nmx_e hf
        refine x_istore 201 [(4, .int x_30), (0, .ref a_this), (1, .long k184_l1), (3, .int k184_l3)] hC dX8_digest_199 rfl e_x_30 (by decide) rfl ?_
        refine x_lv [(0, .ref a_this), (1, .long k184_l1), (3, .int k184_l3), (4, .int x_30)] [1, 2, 3, 0] rfl ?_
        exact J_201 fu k184_l1 k184_l3 x_30 hf
  have J_6 : ∀ (n : Nat) (k6_l1 : Int64) (k6_l3 : Int32), f_X8_digest_c6 v_s n k6_l1 k6_l3 = some R0 → XW p l e ({ frames := 4, cells := 0, slots := 0, locals := 133 } : Room) s m args below meth c D A 5 0 0 Q [(a_this, .inr (8, [.ref a_s, r_kept, .int v_undos, r_known, r_whose, r_lesser, r_other, .int v_open, r_sums, r_weights, r_row, r_plan, .int v_planned])), (a_s, .inl (cJ, 613, .inr (.inl v_s)))] [] [(0, .ref a_this), (1, .long k6_l1), (3, .int k6_l3)] 6 [] := by
    intro n
    induction n with
    | zero => intro k6_l1 k6_l3 hf; exact nomatch (show (none : Option (Int64)) = some R0 from hf)
    | succ n_6 ih_6 =>
      have J_176 : ∀ (k176_l1 : Int64) (k176_l3 : Int32), f_X8_digest_c176 (fun k6_l1 k6_l3 => f_X8_digest_c6 v_s n_6 k6_l1 k6_l3) v_s k176_l1 k176_l3 = some R0 → XW p l e ({ frames := 4, cells := 0, slots := 0, locals := 133 } : Room) s m args below meth c D A 5 0 0 Q [(a_this, .inr (8, [.ref a_s, r_kept, .int v_undos, r_known, r_whose, r_lesser, r_other, .int v_open, r_sums, r_weights, r_row, r_plan, .int v_planned])), (a_s, .inl (cJ, 613, .inr (.inl v_s)))] [] [(0, .ref a_this), (1, .long k176_l1), (3, .int k176_l3)] 176 [] := by
        intro k176_l1 k176_l3 hf
        unfold f_X8_digest_c176 at hf
        obtain ⟨x_31, e_x_31, hf⟩ := nmx_e hf
        refine x_iinc 179 2 [(3, .int x_31), (0, .ref a_this), (1, .long k176_l1)] hC dX8_digest_176 rfl rfl e_x_31 (by decide) (by decide) rfl ?_
        refine x_goto 6 hC dX8_digest_179 (by decide) ?_
        refine x_lv [(0, .ref a_this), (1, .long k176_l1), (3, .int x_31)] [1, 2, 0] rfl ?_
        exact ih_6 k176_l1 x_31 hf
      have J_133 : ∀ (n : Nat) (k133_l1 : Int64) (k133_l3 : Int32) (k133_l4 : Int32), f_X8_digest_c133 (fun k6_l1 k6_l3 => f_X8_digest_c6 v_s n_6 k6_l1 k6_l3) v_s n k133_l1 k133_l3 k133_l4 = some R0 → XW p l e ({ frames := 4, cells := 0, slots := 0, locals := 133 } : Room) s m args below meth c D A 5 0 0 Q [(a_this, .inr (8, [.ref a_s, r_kept, .int v_undos, r_known, r_whose, r_lesser, r_other, .int v_open, r_sums, r_weights, r_row, r_plan, .int v_planned])), (a_s, .inl (cJ, 613, .inr (.inl v_s)))] [] [(0, .ref a_this), (1, .long k133_l1), (3, .int k133_l3), (4, .int k133_l4)] 133 [] := by
        intro n
        induction n with
        | zero => intro k133_l1 k133_l3 k133_l4 hf; exact nomatch (show (none : Option (Int64)) = some R0 from hf)
        | succ n_133 ih_133 =>
          intro k133_l1 k133_l3 k133_l4 hf
          unfold f_X8_digest_c133 at hf
          refine x_iload 135 3 hC dX8_digest_133 rfl rfl ?_
          refine x_i2l 136 hC dX8_digest_135 rfl ?_
          refine x_aload_n 137 0 hC dX8_digest_136 rfl rfl rfl ?_
          refine x_get 140 0 0 hC in_X8_digest_X8 rfl rfl (by decide) (List.mem_of_getElem? (i := 2) (by decide +kernel)) rfl rfl dX8_digest_137 rfl ?_
          refine x_bipush 142 hC (83 : Int32) dX8_digest_140 rfl (by decide) ?_
          refine x_iload_n 143 2 hC dX8_digest_142 rfl rfl rfl ?_
          refine x_iadd 144 hC dX8_digest_143 rfl ?_
          obtain ⟨h_32, hf⟩ := ck_e hf
          refine x_lald 145 1 1 hC rfl rfl h_32 dX8_digest_144 rfl ?_
          refine x_lcmp_ge 176 149 hC dX8_digest_145 dX8_digest_146 (by decide) rfl (fun c_33 => ?_) (fun c_33 => ?_)
          · have hf := if_t hf c_33
            refine x_lv [(0, .ref a_this), (1, .long k133_l1), (3, .int k133_l3)] [0, 1, 2] rfl ?_
            exact J_176 k133_l1 k133_l3 hf
          · have hf := if_f hf c_33
            refine x_ldc2 152 hC (v := (31 : Int64)) (List.mem_of_getElem? (i := 3) (by decide +kernel)) dX8_digest_149 rfl ?_
            refine x_lload_n 153 1 hC dX8_digest_152 rfl rfl rfl ?_
            refine x_lmul 154 hC dX8_digest_153 rfl ?_
            refine x_aload_n 155 0 hC dX8_digest_154 rfl rfl rfl ?_
            refine x_get 158 0 0 hC in_X8_digest_X8 rfl rfl (by decide) (List.mem_of_getElem? (i := 2) (by decide +kernel)) rfl rfl dX8_digest_155 rfl ?_
            refine x_bipush 160 hC (93 : Int32) dX8_digest_158 rfl (by decide) ?_
            refine x_iconst 161 hC (4 : Int32) dX8_digest_160 rfl (by decide) ?_
            refine x_iload_n 162 2 hC dX8_digest_161 rfl rfl rfl ?_
            refine x_imul 163 hC dX8_digest_162 rfl ?_
            refine x_iadd 164 hC dX8_digest_163 rfl ?_
            refine x_iload 166 3 hC dX8_digest_164 rfl rfl ?_
            refine x_iadd 167 hC dX8_digest_166 rfl ?_
            obtain ⟨h_34, hf⟩ := ck_e hf
            refine x_lald 168 1 1 hC rfl rfl h_34 dX8_digest_167 rfl ?_
            refine x_ladd 169 hC dX8_digest_168 rfl ?_
            obtain ⟨x_35, e_x_35, hf⟩ := nmx_e hf
            refine x_lstore_n 170 [(1, .long x_35), (0, .ref a_this), (3, .int k133_l3), (4, .int k133_l4)] hC dX8_digest_169 rfl rfl e_x_35 (by decide) rfl ?_
            obtain ⟨x_36, e_x_36, hf⟩ := nmx_e hf
            refine x_iinc 173 3 [(4, .int x_36), (1, .long x_35), (0, .ref a_this), (3, .int k133_l3)] hC dX8_digest_170 rfl rfl e_x_36 (by decide) (by decide) rfl ?_
            refine x_goto 133 hC dX8_digest_173 (by decide) ?_
            refine x_lv [(0, .ref a_this), (1, .long x_35), (3, .int k133_l3), (4, .int x_36)] [2, 1, 3, 0] rfl ?_
            exact ih_133 x_35 k133_l3 x_36 hf
      intro k6_l1 k6_l3 hf
      unfold f_X8_digest_c6 at hf
      refine x_iload_n 7 2 hC dX8_digest_6 rfl rfl rfl ?_
      refine x_i2l 8 hC dX8_digest_7 rfl ?_
      refine x_aload_n 9 0 hC dX8_digest_8 rfl rfl rfl ?_
      refine x_get 12 0 0 hC in_X8_digest_X8 rfl rfl (by decide) (List.mem_of_getElem? (i := 2) (by decide +kernel)) rfl rfl dX8_digest_9 rfl ?_
      refine x_iconst 13 hC (0 : Int32) dX8_digest_12 rfl (by decide) ?_
      obtain ⟨h_37, hf⟩ := ck_e hf
      refine x_lald 14 1 1 hC rfl rfl h_37 dX8_digest_13 rfl ?_
      refine x_lcmp_ge 182 18 hC dX8_digest_14 dX8_digest_15 (by decide) rfl (fun c_38 => ?_) (fun c_38 => ?_)
      · have hf := if_t hf c_38
        refine x_iconst 183 hC (0 : Int32) dX8_digest_182 rfl (by decide) ?_
        refine x_istore_n 184 [(3, .int (0 : Int32)), (0, .ref a_this), (1, .long k6_l1)] hC dX8_digest_183 rfl rfl rfl (by decide) rfl ?_
        refine x_lv [(0, .ref a_this), (1, .long k6_l1), (3, .int (0 : Int32))] [1, 2, 0] rfl ?_
        exact J_184 fu k6_l1 (0 : Int32) hf
      · have hf := if_f hf c_38
        refine x_ldc2 21 hC (v := (31 : Int64)) (List.mem_of_getElem? (i := 3) (by decide +kernel)) dX8_digest_18 rfl ?_
        refine x_lload_n 22 1 hC dX8_digest_21 rfl rfl rfl ?_
        refine x_lmul 23 hC dX8_digest_22 rfl ?_
        refine x_aload_n 24 0 hC dX8_digest_23 rfl rfl rfl ?_
        refine x_get 27 0 0 hC in_X8_digest_X8 rfl rfl (by decide) (List.mem_of_getElem? (i := 2) (by decide +kernel)) rfl rfl dX8_digest_24 rfl ?_
        refine x_bipush 29 hC (13 : Int32) dX8_digest_27 rfl (by decide) ?_
        refine x_iload_n 30 2 hC dX8_digest_29 rfl rfl rfl ?_
        refine x_iadd 31 hC dX8_digest_30 rfl ?_
        obtain ⟨h_39, hf⟩ := ck_e hf
        refine x_lald 32 1 1 hC rfl rfl h_39 dX8_digest_31 rfl ?_
        refine x_ladd 33 hC dX8_digest_32 rfl ?_
        obtain ⟨x_40, e_x_40, hf⟩ := nmx_e hf
        refine x_lstore_n 34 [(1, .long x_40), (0, .ref a_this), (3, .int k6_l3)] hC dX8_digest_33 rfl rfl e_x_40 (by decide) rfl ?_
        refine x_aload_n 35 1 hC dX8_digest_34 rfl rfl rfl ?_
        refine x_iload_n 36 2 hC dX8_digest_35 rfl rfl rfl ?_
        obtain ⟨R_41, h_R_41, hf⟩ := bd_e hf
        refine x_callVi 39 0 1 [0, 1] [(a_this, .inr (8, [.ref a_s, r_kept, .int v_undos, r_known, r_whose, r_lesser, r_other, .int v_open, r_sums, r_weights, r_row, r_plan, .int v_planned])), (a_s, .inl (cJ, 613, .inr (.inl v_s)))] hC (As := [.int k6_l3]) (c_X8_isHere l D cI cJ cQ a_this a_s r_kept r_known r_whose r_lesser r_other r_sums r_weights r_row r_plan v_undos v_open v_planned v_s k6_l3 R_41 h_R_41) rfl rfl gX8_digest_X8_isHere rfl ⟨rfl, rfl⟩ hd_X8_isHere ⟨Nat.le_of_ble_eq_true rfl, Nat.le_of_ble_eq_true rfl⟩ rfl rfl rfl rfl rfl rfl (Nat.le_of_ble_eq_true rfl) ⟨Nat.le_of_ble_eq_true rfl, Nat.le_of_ble_eq_true rfl⟩ dX8_digest_36 rfl ?_
        refine x_if_eq 176 42 hC dX8_digest_39 (by decide) rfl (fun c_42 => ?_) (fun c_42 => ?_)
        · have hf := if_t hf c_42
          refine x_lv [(0, .ref a_this), (1, .long x_40), (3, .int k6_l3)] [1, 0, 2] rfl ?_
          exact J_176 x_40 k6_l3 hf
        · have hf := if_f hf c_42
          refine x_ldc2 45 hC (v := (31 : Int64)) (List.mem_of_getElem? (i := 3) (by decide +kernel)) dX8_digest_42 rfl ?_
          refine x_ldc2 48 hC (v := (31 : Int64)) (List.mem_of_getElem? (i := 3) (by decide +kernel)) dX8_digest_45 rfl ?_
          refine x_ldc2 51 hC (v := (31 : Int64)) (List.mem_of_getElem? (i := 3) (by decide +kernel)) dX8_digest_48 rfl ?_
          refine x_lload_n 52 0 hC dX8_digest_51 rfl rfl rfl ?_
          refine x_lmul 53 hC dX8_digest_52 rfl ?_
          refine x_aload_n 54 1 hC dX8_digest_53 rfl rfl rfl ?_
          refine x_get 57 0 0 hC in_X8_digest_X8 rfl rfl (by decide) (List.mem_of_getElem? (i := 2) (by decide +kernel)) rfl rfl dX8_digest_54 rfl ?_
          refine x_bipush 59 hC (23 : Int32) dX8_digest_57 rfl (by decide) ?_
          refine x_iload_n 60 2 hC dX8_digest_59 rfl rfl rfl ?_
          refine x_iadd 61 hC dX8_digest_60 rfl ?_
          obtain ⟨h_43, hf⟩ := ck_e hf
          refine x_lald 62 1 1 hC rfl rfl h_43 dX8_digest_61 rfl ?_
          refine x_ladd 63 hC dX8_digest_62 rfl ?_
          refine x_lmul 64 hC dX8_digest_63 rfl ?_
          refine x_aload_n 65 1 hC dX8_digest_64 rfl rfl rfl ?_
          refine x_get 68 0 0 hC in_X8_digest_X8 rfl rfl (by decide) (List.mem_of_getElem? (i := 2) (by decide +kernel)) rfl rfl dX8_digest_65 rfl ?_
          refine x_bipush 70 hC (33 : Int32) dX8_digest_68 rfl (by decide) ?_
          refine x_iload_n 71 2 hC dX8_digest_70 rfl rfl rfl ?_
          refine x_iadd 72 hC dX8_digest_71 rfl ?_
          obtain ⟨h_44, hf⟩ := ck_e hf
          refine x_lald 73 1 1 hC rfl rfl h_44 dX8_digest_72 rfl ?_
          refine x_ladd 74 hC dX8_digest_73 rfl ?_
          refine x_lmul 75 hC dX8_digest_74 rfl ?_
          refine x_aload_n 76 1 hC dX8_digest_75 rfl rfl rfl ?_
          refine x_get 79 0 0 hC in_X8_digest_X8 rfl rfl (by decide) (List.mem_of_getElem? (i := 2) (by decide +kernel)) rfl rfl dX8_digest_76 rfl ?_
          refine x_bipush 81 hC (43 : Int32) dX8_digest_79 rfl (by decide) ?_
          refine x_iload_n 82 2 hC dX8_digest_81 rfl rfl rfl ?_
          refine x_iadd 83 hC dX8_digest_82 rfl ?_
          obtain ⟨h_45, hf⟩ := ck_e hf
          refine x_lald 84 1 1 hC rfl rfl h_45 dX8_digest_83 rfl ?_
          refine x_ladd 85 hC dX8_digest_84 rfl ?_
          obtain ⟨x_46, e_x_46, hf⟩ := nmx_e hf
          refine x_lstore_n 86 [(1, .long x_46), (0, .ref a_this), (3, .int k6_l3)] hC dX8_digest_85 rfl rfl e_x_46 (by decide) rfl ?_
          refine x_ldc2 89 hC (v := (31 : Int64)) (List.mem_of_getElem? (i := 3) (by decide +kernel)) dX8_digest_86 rfl ?_
          refine x_ldc2 92 hC (v := (31 : Int64)) (List.mem_of_getElem? (i := 3) (by decide +kernel)) dX8_digest_89 rfl ?_
          refine x_ldc2 95 hC (v := (31 : Int64)) (List.mem_of_getElem? (i := 3) (by decide +kernel)) dX8_digest_92 rfl ?_
          refine x_lload_n 96 0 hC dX8_digest_95 rfl rfl rfl ?_
          refine x_lmul 97 hC dX8_digest_96 rfl ?_
          refine x_aload_n 98 1 hC dX8_digest_97 rfl rfl rfl ?_
          refine x_get 101 0 0 hC in_X8_digest_X8 rfl rfl (by decide) (List.mem_of_getElem? (i := 2) (by decide +kernel)) rfl rfl dX8_digest_98 rfl ?_
          refine x_bipush 103 hC (53 : Int32) dX8_digest_101 rfl (by decide) ?_
          refine x_iload_n 104 2 hC dX8_digest_103 rfl rfl rfl ?_
          refine x_iadd 105 hC dX8_digest_104 rfl ?_
          obtain ⟨h_47, hf⟩ := ck_e hf
          refine x_lald 106 1 1 hC rfl rfl h_47 dX8_digest_105 rfl ?_
          refine x_ladd 107 hC dX8_digest_106 rfl ?_
          refine x_lmul 108 hC dX8_digest_107 rfl ?_
          refine x_aload_n 109 1 hC dX8_digest_108 rfl rfl rfl ?_
          refine x_get 112 0 0 hC in_X8_digest_X8 rfl rfl (by decide) (List.mem_of_getElem? (i := 2) (by decide +kernel)) rfl rfl dX8_digest_109 rfl ?_
          refine x_bipush 114 hC (63 : Int32) dX8_digest_112 rfl (by decide) ?_
          refine x_iload_n 115 2 hC dX8_digest_114 rfl rfl rfl ?_
          refine x_iadd 116 hC dX8_digest_115 rfl ?_
          obtain ⟨h_48, hf⟩ := ck_e hf
          refine x_lald 117 1 1 hC rfl rfl h_48 dX8_digest_116 rfl ?_
          refine x_ladd 118 hC dX8_digest_117 rfl ?_
          refine x_lmul 119 hC dX8_digest_118 rfl ?_
          refine x_aload_n 120 1 hC dX8_digest_119 rfl rfl rfl ?_
          refine x_get 123 0 0 hC in_X8_digest_X8 rfl rfl (by decide) (List.mem_of_getElem? (i := 2) (by decide +kernel)) rfl rfl dX8_digest_120 rfl ?_
          refine x_bipush 125 hC (73 : Int32) dX8_digest_123 rfl (by decide) ?_
          refine x_iload_n 126 2 hC dX8_digest_125 rfl rfl rfl ?_
          refine x_iadd 127 hC dX8_digest_126 rfl ?_
          obtain ⟨h_49, hf⟩ := ck_e hf
          refine x_lald 128 1 1 hC rfl rfl h_49 dX8_digest_127 rfl ?_
          refine x_ladd 129 hC dX8_digest_128 rfl ?_
          obtain ⟨x_50, e_x_50, hf⟩ := nmx_e hf
          refine x_lstore_n 130 [(1, .long x_50), (0, .ref a_this), (3, .int k6_l3)] hC dX8_digest_129 rfl rfl e_x_50 (by decide) rfl ?_
          refine x_iconst 131 hC (0 : Int32) dX8_digest_130 rfl (by decide) ?_
          refine x_istore 133 [(4, .int (0 : Int32)), (1, .long x_50), (0, .ref a_this), (3, .int k6_l3)] hC dX8_digest_131 rfl rfl (by decide) rfl ?_
          refine x_lv [(0, .ref a_this), (1, .long x_50), (3, .int k6_l3), (4, .int (0 : Int32))] [2, 1, 3, 0] rfl ?_
          exact J_133 fu x_50 k6_l3 (0 : Int32) hf
  unfold f_X8_digest at hf
  refine x_ldc2 3 hC (v := (17 : Int64)) (List.mem_of_getElem? (i := 1) (by decide +kernel)) dX8_digest_0 rfl ?_
  refine x_lstore_n 4 [(1, .long (17 : Int64)), (0, .ref a_this)] hC dX8_digest_3 rfl rfl rfl (by decide) rfl ?_
  refine x_iconst 5 hC (0 : Int32) dX8_digest_4 rfl (by decide) ?_
  refine x_istore_n 6 [(3, .int (0 : Int32)), (1, .long (17 : Int64)), (0, .ref a_this)] hC dX8_digest_5 rfl rfl rfl (by decide) rfl ?_
  refine x_lv [(0, .ref a_this), (1, .long (17 : Int64)), (3, .int (0 : Int32))] [2, 1, 0] rfl ?_
  exact J_6 fu (17 : Int64) (0 : Int32) hf
