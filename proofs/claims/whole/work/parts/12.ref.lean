theorem hd_X8_even : yX8_even.cls = RX8 ∧ yX8_even.cls ≠ "java/lang/invoke/MethodHandle" ∧ yX8_even.cls ≠ "java/lang/invoke/VarHandle" ∧ (parseMethodDescriptor yX8_even.desc).map (fun d => d.parameters.length) = some 2 := by decide +kernel
theorem in_X8_even_X8 : ∀ w ∈ u_ws RX8 TX8 13, w ∈ wsX8_even := fun w h => List.mem_cons_of_mem _ (List.mem_append_right _ h)
noncomputable def f_X8_even (v_s : Nat → Int64) (p1 : Int32) (p2 : Int32) : Option ((Nat → Int64)) := ck ((33 : Int32) + p1) 613 <| ck ((33 : Int32) + p2) 613 <| nm ((v_s ((33 : Int32) + p1).toNatClampNeg) + (v_s ((33 : Int32) + p2).toNatClampNeg)) fun x_3 => ck ((43 : Int32) + p1) 613 <| ck ((43 : Int32) + p2) 613 <| nm ((v_s ((43 : Int32) + p1).toNatClampNeg) + (v_s ((43 : Int32) + p2).toNatClampNeg)) fun x_6 => nm (x_3 >>> ((1 : Int32).toInt64 &&& 63)) fun x_7 => nm (x_6 >>> ((1 : Int32).toInt64 &&& 63)) fun x_8 => ck (((213 : Int32) + ((10 : Int32) * p1)) + p2) 613 <| ck ((33 : Int32) + p2) 613 <| ck (((213 : Int32) + ((10 : Int32) * p1)) + p2) 613 <| nm (vp_updL v_s (((213 : Int32) + ((10 : Int32) * p1)) + p2).toNatClampNeg ((v_s (((213 : Int32) + ((10 : Int32) * p1)) + p2).toNatClampNeg) + (x_7 - (v_s ((33 : Int32) + p2).toNatClampNeg)))) fun g_12 => ck (((313 : Int32) + ((10 : Int32) * p1)) + p2) 613 <| ck ((43 : Int32) + p2) 613 <| ck (((313 : Int32) + ((10 : Int32) * p1)) + p2) 613 <| nm (vp_updL g_12 (((313 : Int32) + ((10 : Int32) * p1)) + p2).toNatClampNeg ((g_12 (((313 : Int32) + ((10 : Int32) * p1)) + p2).toNatClampNeg) + (x_8 - (g_12 ((43 : Int32) + p2).toNatClampNeg)))) fun g_16 => ck (((213 : Int32) + ((10 : Int32) * p2)) + p1) 613 <| ck ((33 : Int32) + p1) 613 <| ck (((213 : Int32) + ((10 : Int32) * p2)) + p1) 613 <| nm (vp_updL g_16 (((213 : Int32) + ((10 : Int32) * p2)) + p1).toNatClampNeg ((g_16 (((213 : Int32) + ((10 : Int32) * p2)) + p1).toNatClampNeg) + ((x_3 - x_7) - (g_16 ((33 : Int32) + p1).toNatClampNeg)))) fun g_20 => ck (((313 : Int32) + ((10 : Int32) * p2)) + p1) 613 <| ck ((43 : Int32) + p1) 613 <| ck (((313 : Int32) + ((10 : Int32) * p2)) + p1) 613 <| nm (vp_updL g_20 (((313 : Int32) + ((10 : Int32) * p2)) + p1).toNatClampNeg ((g_20 (((313 : Int32) + ((10 : Int32) * p2)) + p1).toNatClampNeg) + ((x_6 - x_8) - (g_20 ((43 : Int32) + p1).toNatClampNeg)))) fun g_24 => ck ((33 : Int32) + p1) 613 <| nm (vp_updL g_24 ((33 : Int32) + p1).toNatClampNeg (x_3 - x_7)) fun g_26 => ck ((33 : Int32) + p2) 613 <| nm (vp_updL g_26 ((33 : Int32) + p2).toNatClampNeg x_7) fun g_28 => ck ((43 : Int32) + p1) 613 <| nm (vp_updL g_28 ((43 : Int32) + p1).toNatClampNeg (x_6 - x_8)) fun g_30 => ck ((43 : Int32) + p2) 613 <| nm (vp_updL g_30 ((43 : Int32) + p2).toNatClampNeg x_8) fun g_32 => some (g_32)
set_option maxHeartbeats 4000000 in
set_option maxRecDepth 100000 in
theorem c_X8_even (l : Launch) (D : va_G) (cI cJ cQ : ClassId) (a_this : Nat) (a_s : Nat) (r_kept : Value) (r_known : Value) (r_whose : Value) (r_lesser : Value) (r_other : Value) (r_sums : Value) (r_weights : Value) (r_row : Value) (r_plan : Value) (v_undos : Int32) (v_open : Int32) (v_planned : Int32) (v_s : Nat → Int64) (p1 : Int32) (p2 : Int32) (R0 : (Nat → Int64)) (hf : f_X8_even v_s p1 p2 = some R0) : Cv l yX8_even wsX8_even ({ frames := 1, cells := 0, slots := 0, locals := 60 } : Room) D [(cI, .int), (cJ, .long), (cQ, .object "WhisperCrowd$State")] [.ref a_this, .int p1, .int p2] [(a_this, .inr (8, [.ref a_s, r_kept, .int v_undos, r_known, r_whose, r_lesser, r_other, .int v_open, r_sums, r_weights, r_row, r_plan, .int v_planned])), (a_s, .inl (cJ, 613, .inr (.inl v_s)))] [(a_this, .inr (8, [.ref a_s, r_kept, .int v_undos, r_known, r_whose, r_lesser, r_other, .int v_open, r_sums, r_weights, r_row, r_plan, .int v_planned])), (a_s, .inl (cJ, 613, .inr (.inl R0)))] := by
  refine x_entv (cc := cX8_even) (maxL := 11) (rt := none) (lv := [(0, .ref a_this), (1, .int p1), (2, .int p2)]) (by decide) rfl (Nat.le_of_ble_eq_true rfl) rfl ?_
  intro p e s m args below meth c A Q hQ hC
  unfold f_X8_even at hf
  refine x_aload_n 1 0 hC dX8_even_0 rfl rfl rfl ?_
  refine x_get 4 0 0 hC in_X8_even_X8 rfl rfl (by decide) (List.mem_of_getElem? (i := 1) (by decide +kernel)) rfl rfl dX8_even_1 rfl ?_
  refine x_bipush 6 hC (33 : Int32) dX8_even_4 rfl (by decide) ?_
  refine x_iload_n 7 1 hC dX8_even_6 rfl rfl rfl ?_
  refine x_iadd 8 hC dX8_even_7 rfl ?_
  obtain ⟨h_1, hf⟩ := ck_e hf
  refine x_lald 9 1 1 hC rfl rfl h_1 dX8_even_8 rfl ?_
  refine x_aload_n 10 0 hC dX8_even_9 rfl rfl rfl ?_
  refine x_get 13 0 0 hC in_X8_even_X8 rfl rfl (by decide) (List.mem_of_getElem? (i := 1) (by decide +kernel)) rfl rfl dX8_even_10 rfl ?_
  refine x_bipush 15 hC (33 : Int32) dX8_even_13 rfl (by decide) ?_
  refine x_iload_n 16 2 hC dX8_even_15 rfl rfl rfl ?_
  refine x_iadd 17 hC dX8_even_16 rfl ?_
  obtain ⟨h_2, hf⟩ := ck_e hf
  refine x_lald 18 1 1 hC rfl rfl h_2 dX8_even_17 rfl ?_
  refine x_ladd 19 hC dX8_even_18 rfl ?_
  obtain ⟨x_3, e_x_3, hf⟩ := nmx_e hf
  refine x_lstore_n 20 [(3, .long x_3), (0, .ref a_this), (1, .int p1), (2, .int p2)] hC dX8_even_19 rfl rfl e_x_3 (by decide) rfl ?_
  refine x_aload_n 21 1 hC dX8_even_20 rfl rfl rfl ?_
  refine x_get 24 0 0 hC in_X8_even_X8 rfl rfl (by decide) (List.mem_of_getElem? (i := 1) (by decide +kernel)) rfl rfl dX8_even_21 rfl ?_
  refine x_bipush 26 hC (43 : Int32) dX8_even_24 rfl (by decide) ?_
  refine x_iload_n 27 2 hC dX8_even_26 rfl rfl rfl ?_
  refine x_iadd 28 hC dX8_even_27 rfl ?_
  obtain ⟨h_4, hf⟩ := ck_e hf
  refine x_lald 29 1 1 hC rfl rfl h_4 dX8_even_28 rfl ?_
  refine x_aload_n 30 1 hC dX8_even_29 rfl rfl rfl ?_
  refine x_get 33 0 0 hC in_X8_even_X8 rfl rfl (by decide) (List.mem_of_getElem? (i := 1) (by decide +kernel)) rfl rfl dX8_even_30 rfl ?_
  refine x_bipush 35 hC (43 : Int32) dX8_even_33 rfl (by decide) ?_
  refine x_iload_n 36 3 hC dX8_even_35 rfl rfl rfl ?_
  refine x_iadd 37 hC dX8_even_36 rfl ?_
  obtain ⟨h_5, hf⟩ := ck_e hf
  refine x_lald 38 1 1 hC rfl rfl h_5 dX8_even_37 rfl ?_
  refine x_ladd 39 hC dX8_even_38 rfl ?_
  obtain ⟨x_6, e_x_6, hf⟩ := nmx_e hf
  refine x_lstore 41 [(5, .long x_6), (3, .long x_3), (0, .ref a_this), (1, .int p1), (2, .int p2)] hC dX8_even_39 rfl e_x_6 (by decide) rfl ?_
  refine x_lload_n 42 1 hC dX8_even_41 rfl rfl rfl ?_
  refine x_iconst 43 hC (1 : Int32) dX8_even_42 rfl (by decide) ?_
  refine x_lshr 44 hC dX8_even_43 rfl ?_
  obtain ⟨x_7, e_x_7, hf⟩ := nmx_e hf
  refine x_lstore 46 [(7, .long x_7), (5, .long x_6), (3, .long x_3), (0, .ref a_this), (1, .int p1), (2, .int p2)] hC dX8_even_44 rfl e_x_7 (by decide) rfl ?_
  refine x_lload 48 1 hC dX8_even_46 rfl rfl ?_
  refine x_iconst 49 hC (1 : Int32) dX8_even_48 rfl (by decide) ?_
  refine x_lshr 50 hC dX8_even_49 rfl ?_
  obtain ⟨x_8, e_x_8, hf⟩ := nmx_e hf
  refine x_lstore 52 [(9, .long x_8), (7, .long x_7), (5, .long x_6), (3, .long x_3), (0, .ref a_this), (1, .int p1), (2, .int p2)] hC dX8_even_50 rfl e_x_8 (by decide) rfl ?_
  refine x_aload_n 53 4 hC dX8_even_52 rfl rfl rfl ?_
  refine x_get 56 0 0 hC in_X8_even_X8 rfl rfl (by decide) (List.mem_of_getElem? (i := 1) (by decide +kernel)) rfl rfl dX8_even_53 rfl ?_
  refine x_sipush 59 hC (213 : Int32) dX8_even_56 rfl (by decide) ?_
  refine x_bipush 61 hC (10 : Int32) dX8_even_59 rfl (by decide) ?_
  refine x_iload_n 62 5 hC dX8_even_61 rfl rfl rfl ?_
  refine x_imul 63 hC dX8_even_62 rfl ?_
  refine x_iadd 64 hC dX8_even_63 rfl ?_
  refine x_iload_n 65 6 hC dX8_even_64 rfl rfl rfl ?_
  refine x_iadd 66 hC dX8_even_65 rfl ?_
  refine x_dup2_11 67 hC dX8_even_66 rfl rfl rfl ?_
  obtain ⟨h_9, hf⟩ := ck_e hf
  refine x_lald 68 1 1 hC rfl rfl h_9 dX8_even_67 rfl ?_
  refine x_lload 70 1 hC dX8_even_68 rfl rfl ?_
  refine x_aload_n 71 4 hC dX8_even_70 rfl rfl rfl ?_
  refine x_get 74 0 0 hC in_X8_even_X8 rfl rfl (by decide) (List.mem_of_getElem? (i := 1) (by decide +kernel)) rfl rfl dX8_even_71 rfl ?_
  refine x_bipush 76 hC (33 : Int32) dX8_even_74 rfl (by decide) ?_
  refine x_iload_n 77 6 hC dX8_even_76 rfl rfl rfl ?_
  refine x_iadd 78 hC dX8_even_77 rfl ?_
  obtain ⟨h_10, hf⟩ := ck_e hf
  refine x_lald 79 1 1 hC rfl rfl h_10 dX8_even_78 rfl ?_
  refine x_lsub 80 hC dX8_even_79 rfl ?_
  refine x_ladd 81 hC dX8_even_80 rfl ?_
  obtain ⟨h_11, hf⟩ := ck_e hf
  obtain ⟨g_12, e_g_12, hf⟩ := nmx_e hf
  refine x_last 82 1 1 [(a_this, .inr (8, [.ref a_s, r_kept, .int v_undos, r_known, r_whose, r_lesser, r_other, .int v_open, r_sums, r_weights, r_row, r_plan, .int v_planned])), (a_s, .inl (cJ, 613, .inr (.inl g_12)))] hC rfl rfl h_11 e_g_12 rfl dX8_even_81 rfl ?_
  refine x_aload_n 83 4 hC dX8_even_82 rfl rfl rfl ?_
  refine x_get 86 0 0 hC in_X8_even_X8 rfl rfl (by decide) (List.mem_of_getElem? (i := 1) (by decide +kernel)) rfl rfl dX8_even_83 rfl ?_
  refine x_sipush 89 hC (313 : Int32) dX8_even_86 rfl (by decide) ?_
  refine x_bipush 91 hC (10 : Int32) dX8_even_89 rfl (by decide) ?_
  refine x_iload_n 92 5 hC dX8_even_91 rfl rfl rfl ?_
  refine x_imul 93 hC dX8_even_92 rfl ?_
  refine x_iadd 94 hC dX8_even_93 rfl ?_
  refine x_iload_n 95 6 hC dX8_even_94 rfl rfl rfl ?_
  refine x_iadd 96 hC dX8_even_95 rfl ?_
  refine x_dup2_11 97 hC dX8_even_96 rfl rfl rfl ?_
  obtain ⟨h_13, hf⟩ := ck_e hf
  refine x_lald 98 1 1 hC rfl rfl h_13 dX8_even_97 rfl ?_
  refine x_lload 100 0 hC dX8_even_98 rfl rfl ?_
  refine x_aload_n 101 4 hC dX8_even_100 rfl rfl rfl ?_
  refine x_get 104 0 0 hC in_X8_even_X8 rfl rfl (by decide) (List.mem_of_getElem? (i := 1) (by decide +kernel)) rfl rfl dX8_even_101 rfl ?_
  refine x_bipush 106 hC (43 : Int32) dX8_even_104 rfl (by decide) ?_
  refine x_iload_n 107 6 hC dX8_even_106 rfl rfl rfl ?_
  refine x_iadd 108 hC dX8_even_107 rfl ?_
  obtain ⟨h_14, hf⟩ := ck_e hf
  refine x_lald 109 1 1 hC rfl rfl h_14 dX8_even_108 rfl ?_
  refine x_lsub 110 hC dX8_even_109 rfl ?_
  refine x_ladd 111 hC dX8_even_110 rfl ?_
  obtain ⟨h_15, hf⟩ := ck_e hf
  obtain ⟨g_16, e_g_16, hf⟩ := nmx_e hf
  refine x_last 112 1 1 [(a_this, .inr (8, [.ref a_s, r_kept, .int v_undos, r_known, r_whose, r_lesser, r_other, .int v_open, r_sums, r_weights, r_row, r_plan, .int v_planned])), (a_s, .inl (cJ, 613, .inr (.inl g_16)))] hC rfl rfl h_15 e_g_16 rfl dX8_even_111 rfl ?_
  refine x_aload_n 113 4 hC dX8_even_112 rfl rfl rfl ?_
  refine x_get 116 0 0 hC in_X8_even_X8 rfl rfl (by decide) (List.mem_of_getElem? (i := 1) (by decide +kernel)) rfl rfl dX8_even_113 rfl ?_
  refine x_sipush 119 hC (213 : Int32) dX8_even_116 rfl (by decide) ?_
  refine x_bipush 121 hC (10 : Int32) dX8_even_119 rfl (by decide) ?_
  refine x_iload_n 122 6 hC dX8_even_121 rfl rfl rfl ?_
  refine x_imul 123 hC dX8_even_122 rfl ?_
  refine x_iadd 124 hC dX8_even_123 rfl ?_
  refine x_iload_n 125 5 hC dX8_even_124 rfl rfl rfl ?_
  refine x_iadd 126 hC dX8_even_125 rfl ?_
  refine x_dup2_11 127 hC dX8_even_126 rfl rfl rfl ?_
  obtain ⟨h_17, hf⟩ := ck_e hf
  refine x_lald 128 1 1 hC rfl rfl h_17 dX8_even_127 rfl ?_
  refine x_lload_n 129 3 hC dX8_even_128 rfl rfl rfl ?_
  refine x_lload 131 1 hC dX8_even_129 rfl rfl ?_
  refine x_lsub 132 hC dX8_even_131 rfl ?_
  refine x_aload_n 133 4 hC dX8_even_132 rfl rfl rfl ?_
  refine x_get 136 0 0 hC in_X8_even_X8 rfl rfl (by decide) (List.mem_of_getElem? (i := 1) (by decide +kernel)) rfl rfl dX8_even_133 rfl ?_
  refine x_bipush 138 hC (33 : Int32) dX8_even_136 rfl (by decide) ?_
  refine x_iload_n 139 5 hC dX8_even_138 rfl rfl rfl ?_
  refine x_iadd 140 hC dX8_even_139 rfl ?_
  obtain ⟨h_18, hf⟩ := ck_e hf
  refine x_lald 141 1 1 hC rfl rfl h_18 dX8_even_140 rfl ?_
  refine x_lsub 142 hC dX8_even_141 rfl ?_
  refine x_ladd 143 hC dX8_even_142 rfl ?_
  obtain ⟨h_19, hf⟩ := ck_e hf
  obtain ⟨g_20, e_g_20, hf⟩ := nmx_e hf
  refine x_last 144 1 1 [(a_this, .inr (8, [.ref a_s, r_kept, .int v_undos, r_known, r_whose, r_lesser, r_other, .int v_open, r_sums, r_weights, r_row, r_plan, .int v_planned])), (a_s, .inl (cJ, 613, .inr (.inl g_20)))] hC rfl rfl h_19 e_g_20 rfl dX8_even_143 rfl ?_
  refine x_aload_n 145 4 hC dX8_even_144 rfl rfl rfl ?_
  refine x_get 148 0 0 hC in_X8_even_X8 rfl rfl (by decide) (List.mem_of_getElem? (i := 1) (by decide +kernel)) rfl rfl dX8_even_145 rfl ?_
  refine x_sipush 151 hC (313 : Int32) dX8_even_148 rfl (by decide) ?_
  refine x_bipush 153 hC (10 : Int32) dX8_even_151 rfl (by decide) ?_
  refine x_iload_n 154 6 hC dX8_even_153 rfl rfl rfl ?_
  refine x_imul 155 hC dX8_even_154 rfl ?_
  refine x_iadd 156 hC dX8_even_155 rfl ?_
  refine x_iload_n 157 5 hC dX8_even_156 rfl rfl rfl ?_
  refine x_iadd 158 hC dX8_even_157 rfl ?_
  refine x_dup2_11 159 hC dX8_even_158 rfl rfl rfl ?_
  obtain ⟨h_21, hf⟩ := ck_e hf
  refine x_lald 160 1 1 hC rfl rfl h_21 dX8_even_159 rfl ?_
  refine x_lload 162 2 hC dX8_even_160 rfl rfl ?_
  refine x_lload 164 0 hC dX8_even_162 rfl rfl ?_
  refine x_lsub 165 hC dX8_even_164 rfl ?_
  refine x_aload_n 166 4 hC dX8_even_165 rfl rfl rfl ?_
  refine x_get 169 0 0 hC in_X8_even_X8 rfl rfl (by decide) (List.mem_of_getElem? (i := 1) (by decide +kernel)) rfl rfl dX8_even_166 rfl ?_
  refine x_bipush 171 hC (43 : Int32) dX8_even_169 rfl (by decide) ?_
  refine x_iload_n 172 5 hC dX8_even_171 rfl rfl rfl ?_
  refine x_iadd 173 hC dX8_even_172 rfl ?_
  obtain ⟨h_22, hf⟩ := ck_e hf
  refine x_lald 174 1 1 hC rfl rfl h_22 dX8_even_173 rfl ?_
  refine x_lsub 175 hC dX8_even_174 rfl ?_
  refine x_ladd 176 hC dX8_even_175 rfl ?_
  obtain ⟨h_23, hf⟩ := ck_e hf
  obtain ⟨g_24, e_g_24, hf⟩ := nmx_e hf
  refine x_last 177 1 1 [(a_this, .inr (8, [.ref a_s, r_kept, .int v_undos, r_known, r_whose, r_lesser, r_other, .int v_open, r_sums, r_weights, r_row, r_plan, .int v_planned])), (a_s, .inl (cJ, 613, .inr (.inl g_24)))] hC rfl rfl h_23 e_g_24 rfl dX8_even_176 rfl ?_
  refine x_aload_n 178 4 hC dX8_even_177 rfl rfl rfl ?_
  refine x_get 181 0 0 hC in_X8_even_X8 rfl rfl (by decide) (List.mem_of_getElem? (i := 1) (by decide +kernel)) rfl rfl dX8_even_178 rfl ?_
  refine x_bipush 183 hC (33 : Int32) dX8_even_181 rfl (by decide) ?_
  refine x_iload_n 184 5 hC dX8_even_183 rfl rfl rfl ?_
  refine x_iadd 185 hC dX8_even_184 rfl ?_
  refine x_lload_n 186 3 hC dX8_even_185 rfl rfl rfl ?_
  refine x_lload 188 1 hC dX8_even_186 rfl rfl ?_
  refine x_lsub 189 hC dX8_even_188 rfl ?_
  obtain ⟨h_25, hf⟩ := ck_e hf
  obtain ⟨g_26, e_g_26, hf⟩ := nmx_e hf
  refine x_last 190 1 1 [(a_this, .inr (8, [.ref a_s, r_kept, .int v_undos, r_known, r_whose, r_lesser, r_other, .int v_open, r_sums, r_weights, r_row, r_plan, .int v_planned])), (a_s, .inl (cJ, 613, .inr (.inl g_26)))] hC rfl rfl h_25 e_g_26 rfl dX8_even_189 rfl ?_
  refine x_aload_n 191 4 hC dX8_even_190 rfl rfl rfl ?_
  refine x_get 194 0 0 hC in_X8_even_X8 rfl rfl (by decide) (List.mem_of_getElem? (i := 1) (by decide +kernel)) rfl rfl dX8_even_191 rfl ?_
  refine x_bipush 196 hC (33 : Int32) dX8_even_194 rfl (by decide) ?_
  refine x_iload_n 197 6 hC dX8_even_196 rfl rfl rfl ?_
  refine x_iadd 198 hC dX8_even_197 rfl ?_
  refine x_lload 200 1 hC dX8_even_198 rfl rfl ?_
  obtain ⟨h_27, hf⟩ := ck_e hf
  obtain ⟨g_28, e_g_28, hf⟩ := nmx_e hf
  refine x_last 201 1 1 [(a_this, .inr (8, [.ref a_s, r_kept, .int v_undos, r_known, r_whose, r_lesser, r_other, .int v_open, r_sums, r_weights, r_row, r_plan, .int v_planned])), (a_s, .inl (cJ, 613, .inr (.inl g_28)))] hC rfl rfl h_27 e_g_28 rfl dX8_even_200 rfl ?_
  refine x_aload_n 202 4 hC dX8_even_201 rfl rfl rfl ?_
  refine x_get 205 0 0 hC in_X8_even_X8 rfl rfl (by decide) (List.mem_of_getElem? (i := 1) (by decide +kernel)) rfl rfl dX8_even_202 rfl ?_
  refine x_bipush 207 hC (43 : Int32) dX8_even_205 rfl (by decide) ?_
  refine x_iload_n 208 5 hC dX8_even_207 rfl rfl rfl ?_
  refine x_iadd 209 hC dX8_even_208 rfl ?_
  refine x_lload 211 2 hC dX8_even_209 rfl rfl ?_
  refine x_lload 213 0 hC dX8_even_211 rfl rfl ?_
  refine x_lsub 214 hC dX8_even_213 rfl ?_
  obtain ⟨h_29, hf⟩ := ck_e hf
  obtain ⟨g_30, e_g_30, hf⟩ := nmx_e hf
  refine x_last 215 1 1 [(a_this, .inr (8, [.ref a_s, r_kept, .int v_undos, r_known, r_whose, r_lesser, r_other, .int v_open, r_sums, r_weights, r_row, r_plan, .int v_planned])), (a_s, .inl (cJ, 613, .inr (.inl g_30)))] hC rfl rfl h_29 e_g_30 rfl dX8_even_214 rfl ?_
  refine x_aload_n 216 4 hC dX8_even_215 rfl rfl rfl ?_
  refine x_get 219 0 0 hC in_X8_even_X8 rfl rfl (by decide) (List.mem_of_getElem? (i := 1) (by decide +kernel)) rfl rfl dX8_even_216 rfl ?_
  refine x_bipush 221 hC (43 : Int32) dX8_even_219 rfl (by decide) ?_
  refine x_iload_n 222 6 hC dX8_even_221 rfl rfl rfl ?_
  refine x_iadd 223 hC dX8_even_222 rfl ?_
  refine x_lload 225 0 hC dX8_even_223 rfl rfl ?_
  obtain ⟨h_31, hf⟩ := ck_e hf
  obtain ⟨g_32, e_g_32, hf⟩ := nmx_e hf
  refine x_last 226 1 1 [(a_this, .inr (8, [.ref a_s, r_kept, .int v_undos, r_known, r_whose, r_lesser, r_other, .int v_open, r_sums, r_weights, r_row, r_plan, .int v_planned])), (a_s, .inl (cJ, 613, .inr (.inl g_32)))] hC rfl rfl h_31 e_g_32 rfl dX8_even_225 rfl ?_
  cases hf
  exact x_vret hC dX8_even_226 hQ rfl

theorem hd_X8_great : yX8_great.cls = RX8 ∧ yX8_great.cls ≠ "java/lang/invoke/MethodHandle" ∧ yX8_great.cls ≠ "java/lang/invoke/VarHandle" ∧ (parseMethodDescriptor yX8_great.desc).map (fun d => d.parameters.length) = some 2 := by decide +kernel
theorem in_X8_great_X8 : ∀ w ∈ u_ws RX8 TX8 13, w ∈ wsX8_great := fun w h => List.mem_cons_of_mem _ (List.mem_append_right _ h)
noncomputable def f_X8_great_c129 (k113 : (Nat → Int64) → Int32 → Int32 → Int64 → Int64 → Int64 → Int32 → Option ((Nat → Int64))) (k129_s : Nat → Int64) (k129_l1 : Int32) (k129_l2 : Int32) (k129_l3 : Int64) (k129_l5 : Int64) (k129_l7 : Int64) (k129_l9 : Int32) (k129_s0 : Int32) : Option ((Nat → Int64)) := ck ((53 : Int32) + k129_s0) 613 <| nm (vp_updL k129_s ((53 : Int32) + k129_s0).toNatClampNeg k129_l3) fun g_2 => ck ((63 : Int32) + k129_s0) 613 <| nm (vp_updL g_2 ((63 : Int32) + k129_s0).toNatClampNeg k129_l5) fun g_4 => ck ((73 : Int32) + k129_s0) 613 <| nm (vp_updL g_4 ((73 : Int32) + k129_s0).toNatClampNeg k129_l7) fun g_6 => nm (k129_l9 + (1 : Int32)) fun x_7 => k113 g_6 k129_l1 k129_l2 k129_l3 k129_l5 k129_l7 x_7
noncomputable def f_X8_great_c113 : Nat → (Nat → Int64) → Int32 → Int32 → Int64 → Int64 → Int64 → Int32 → Option ((Nat → Int64))
  | 0, _, _, _, _, _, _, _ => none
  | n + 1, k113_s, k113_l1, k113_l2, k113_l3, k113_l5, k113_l7, k113_l9 => if (2 : Int32) ≤ k113_l9 then (some (k113_s)) else (if ¬ k113_l9 = 0 then (f_X8_great_c129 (fun k113_s k113_l1 k113_l2 k113_l3 k113_l5 k113_l7 k113_l9 => f_X8_great_c113 n k113_s k113_l1 k113_l2 k113_l3 k113_l5 k113_l7 k113_l9) k113_s k113_l1 k113_l2 k113_l3 k113_l5 k113_l7 k113_l9 k113_l2) else (f_X8_great_c129 (fun k113_s k113_l1 k113_l2 k113_l3 k113_l5 k113_l7 k113_l9 => f_X8_great_c113 n k113_s k113_l1 k113_l2 k113_l3 k113_l5 k113_l7 k113_l9) k113_s k113_l1 k113_l2 k113_l3 k113_l5 k113_l7 k113_l9 k113_l1))
noncomputable def f_X8_great_c87 (k87_s : Nat → Int64) (k87_l1 : Int32) (k87_l2 : Int32) (k87_l3 : Int64) (k87_s0 : Int64) : Option ((Nat → Int64)) := ck ((73 : Int32) + k87_l1) 613 <| ck ((73 : Int32) + k87_l2) 613 <| nm ((k87_s ((73 : Int32) + k87_l1).toNatClampNeg) ||| (k87_s ((73 : Int32) + k87_l2).toNatClampNeg)) fun x_12 => f_X8_great_c113 fu k87_s k87_l1 k87_l2 k87_l3 k87_s0 x_12 (0 : Int32)
noncomputable def f_X8_great_c43 (k43_s : Nat → Int64) (k43_l1 : Int32) (k43_l2 : Int32) (k43_s0 : Int64) : Option ((Nat → Int64)) := ck ((63 : Int32) + k43_l1) 613 <| ck ((63 : Int32) + k43_l2) 613 <| if (k43_s ((63 : Int32) + k43_l2).toNatClampNeg) ≤ (k43_s ((63 : Int32) + k43_l1).toNatClampNeg) then (ck ((63 : Int32) + k43_l2) 613 <| f_X8_great_c87 k43_s k43_l1 k43_l2 k43_s0 (k43_s ((63 : Int32) + k43_l2).toNatClampNeg)) else (ck ((63 : Int32) + k43_l1) 613 <| f_X8_great_c87 k43_s k43_l1 k43_l2 k43_s0 (k43_s ((63 : Int32) + k43_l1).toNatClampNeg))
noncomputable def f_X8_great (v_s : Nat → Int64) (p1 : Int32) (p2 : Int32) : Option ((Nat → Int64)) := ck ((53 : Int32) + p1) 613 <| ck ((53 : Int32) + p2) 613 <| if (v_s ((53 : Int32) + p1).toNatClampNeg) ≤ (v_s ((53 : Int32) + p2).toNatClampNeg) then (ck ((53 : Int32) + p2) 613 <| f_X8_great_c43 v_s p1 p2 (v_s ((53 : Int32) + p2).toNatClampNeg)) else (ck ((53 : Int32) + p1) 613 <| f_X8_great_c43 v_s p1 p2 (v_s ((53 : Int32) + p1).toNatClampNeg))
set_option maxHeartbeats 4000000 in
set_option maxRecDepth 100000 in
theorem c_X8_great (l : Launch) (D : va_G) (cI cJ cQ : ClassId) (a_this : Nat) (a_s : Nat) (r_kept : Value) (r_known : Value) (r_whose : Value) (r_lesser : Value) (r_other : Value) (r_sums : Value) (r_weights : Value) (r_row : Value) (r_plan : Value) (v_undos : Int32) (v_open : Int32) (v_planned : Int32) (v_s : Nat → Int64) (p1 : Int32) (p2 : Int32) (R0 : (Nat → Int64)) (hf : f_X8_great v_s p1 p2 = some R0) : Cv l yX8_great wsX8_great ({ frames := 1, cells := 0, slots := 0, locals := 60 } : Room) D [(cI, .int), (cJ, .long), (cQ, .object "WhisperCrowd$State")] [.ref a_this, .int p1, .int p2] [(a_this, .inr (8, [.ref a_s, r_kept, .int v_undos, r_known, r_whose, r_lesser, r_other, .int v_open, r_sums, r_weights, r_row, r_plan, .int v_planned])), (a_s, .inl (cJ, 613, .inr (.inl v_s)))] [(a_this, .inr (8, [.ref a_s, r_kept, .int v_undos, r_known, r_whose, r_lesser, r_other, .int v_open, r_sums, r_weights, r_row, r_plan, .int v_planned])), (a_s, .inl (cJ, 613, .inr (.inl R0)))] := by
  refine x_entv (cc := cX8_great) (maxL := 11) (rt := none) (lv := [(0, .ref a_this), (1, .int p1), (2, .int p2)]) (by decide) rfl (Nat.le_of_ble_eq_true rfl) rfl ?_
  intro p e s m args below meth c A Q hQ hC
  have J_113 : ∀ (n : Nat) (k113_s : Nat → Int64) (k113_l1 : Int32) (k113_l2 : Int32) (k113_l3 : Int64) (k113_l5 : Int64) (k113_l7 : Int64) (k113_l9 : Int32), f_X8_great_c113 n k113_s k113_l1 k113_l2 k113_l3 k113_l5 k113_l7 k113_l9 = some R0 → XW p l e ({ frames := 1, cells := 0, slots := 0, locals := 60 } : Room) s m args below meth c D A 11 0 0 Q [(a_this, .inr (8, [.ref a_s, r_kept, .int v_undos, r_known, r_whose, r_lesser, r_other, .int v_open, r_sums, r_weights, r_row, r_plan, .int v_planned])), (a_s, .inl (cJ, 613, .inr (.inl k113_s)))] [] [(0, .ref a_this), (1, .int k113_l1), (2, .int k113_l2), (3, .long k113_l3), (5, .long k113_l5), (7, .long k113_l7), (9, .int k113_l9)] 113 [] := by
    intro n
    induction n with
    | zero => intro k113_s k113_l1 k113_l2 k113_l3 k113_l5 k113_l7 k113_l9 hf; exact nomatch (show (none : Option ((Nat → Int64))) = some R0 from hf)
    | succ n_113 ih_113 =>
      have J_129 : ∀ (k129_s : Nat → Int64) (k129_l1 : Int32) (k129_l2 : Int32) (k129_l3 : Int64) (k129_l5 : Int64) (k129_l7 : Int64) (k129_l9 : Int32) (k129_s0 : Int32), f_X8_great_c129 (fun k113_s k113_l1 k113_l2 k113_l3 k113_l5 k113_l7 k113_l9 => f_X8_great_c113 n_113 k113_s k113_l1 k113_l2 k113_l3 k113_l5 k113_l7 k113_l9) k129_s k129_l1 k129_l2 k129_l3 k129_l5 k129_l7 k129_l9 k129_s0 = some R0 → XW p l e ({ frames := 1, cells := 0, slots := 0, locals := 60 } : Room) s m args below meth c D A 11 0 0 Q [(a_this, .inr (8, [.ref a_s, r_kept, .int v_undos, r_known, r_whose, r_lesser, r_other, .int v_open, r_sums, r_weights, r_row, r_plan, .int v_planned])), (a_s, .inl (cJ, 613, .inr (.inl k129_s)))] [] [(0, .ref a_this), (1, .int k129_l1), (2, .int k129_l2), (3, .long k129_l3), (5, .long k129_l5), (7, .long k129_l7), (9, .int k129_l9)] 129 [.int k129_s0] := by
        intro k129_s k129_l1 k129_l2 k129_l3 k129_l5 k129_l7 k129_l9 k129_s0 hf
        unfold f_X8_great_c129 at hf
        refine x_istore 131 [(10, .int k129_s0), (0, .ref a_this), (1, .int k129_l1), (2, .int k129_l2), (3, .long k129_l3), (5, .long k129_l5), (7, .long k129_l7), (9, .int k129_l9)] hC dX8_great_129 rfl rfl (by decide) rfl ?_
        refine x_aload_n 132 1 hC dX8_great_131 rfl rfl rfl ?_
        refine x_get 135 0 0 hC in_X8_great_X8 rfl rfl (by decide) (List.mem_of_getElem? (i := 1) (by decide +kernel)) rfl rfl dX8_great_132 rfl ?_
        refine x_bipush 137 hC (53 : Int32) dX8_great_135 rfl (by decide) ?_
        refine x_iload 139 0 hC dX8_great_137 rfl rfl ?_
        refine x_iadd 140 hC dX8_great_139 rfl ?_
        refine x_lload_n 141 4 hC dX8_great_140 rfl rfl rfl ?_
        obtain ⟨h_1, hf⟩ := ck_e hf
        obtain ⟨g_2, e_g_2, hf⟩ := nmx_e hf
        refine x_last 142 1 1 [(a_this, .inr (8, [.ref a_s, r_kept, .int v_undos, r_known, r_whose, r_lesser, r_other, .int v_open, r_sums, r_weights, r_row, r_plan, .int v_planned])), (a_s, .inl (cJ, 613, .inr (.inl g_2)))] hC rfl rfl h_1 e_g_2 rfl dX8_great_141 rfl ?_
        refine x_aload_n 143 1 hC dX8_great_142 rfl rfl rfl ?_
        refine x_get 146 0 0 hC in_X8_great_X8 rfl rfl (by decide) (List.mem_of_getElem? (i := 1) (by decide +kernel)) rfl rfl dX8_great_143 rfl ?_
        refine x_bipush 148 hC (63 : Int32) dX8_great_146 rfl (by decide) ?_
        refine x_iload 150 0 hC dX8_great_148 rfl rfl ?_
        refine x_iadd 151 hC dX8_great_150 rfl ?_
        refine x_lload 153 5 hC dX8_great_151 rfl rfl ?_
        obtain ⟨h_3, hf⟩ := ck_e hf
        obtain ⟨g_4, e_g_4, hf⟩ := nmx_e hf
        refine x_last 154 1 1 [(a_this, .inr (8, [.ref a_s, r_kept, .int v_undos, r_known, r_whose, r_lesser, r_other, .int v_open, r_sums, r_weights, r_row, r_plan, .int v_planned])), (a_s, .inl (cJ, 613, .inr (.inl g_4)))] hC rfl rfl h_3 e_g_4 rfl dX8_great_153 rfl ?_
        refine x_aload_n 155 1 hC dX8_great_154 rfl rfl rfl ?_
        refine x_get 158 0 0 hC in_X8_great_X8 rfl rfl (by decide) (List.mem_of_getElem? (i := 1) (by decide +kernel)) rfl rfl dX8_great_155 rfl ?_
        refine x_bipush 160 hC (73 : Int32) dX8_great_158 rfl (by decide) ?_
        refine x_iload 162 0 hC dX8_great_160 rfl rfl ?_
        refine x_iadd 163 hC dX8_great_162 rfl ?_
        refine x_lload 165 6 hC dX8_great_163 rfl rfl ?_
        obtain ⟨h_5, hf⟩ := ck_e hf
        obtain ⟨g_6, e_g_6, hf⟩ := nmx_e hf
        refine x_last 166 1 1 [(a_this, .inr (8, [.ref a_s, r_kept, .int v_undos, r_known, r_whose, r_lesser, r_other, .int v_open, r_sums, r_weights, r_row, r_plan, .int v_planned])), (a_s, .inl (cJ, 613, .inr (.inl g_6)))] hC rfl rfl h_5 e_g_6 rfl dX8_great_165 rfl ?_
        obtain ⟨x_7, e_x_7, hf⟩ := nmx_e hf
        refine x_iinc 169 7 [(9, .int x_7), (10, .int k129_s0), (0, .ref a_this), (1, .int k129_l1), (2, .int k129_l2), (3, .long k129_l3), (5, .long k129_l5), (7, .long k129_l7)] hC dX8_great_166 rfl rfl e_x_7 (by decide) (by decide) rfl ?_
        refine x_goto 113 hC dX8_great_169 (by decide) ?_
        refine x_lv [(0, .ref a_this), (1, .int k129_l1), (2, .int k129_l2), (3, .long k129_l3), (5, .long k129_l5), (7, .long k129_l7), (9, .int x_7)] [2, 3, 4, 5, 6, 7, 0] rfl ?_
        exact ih_113 g_6 k129_l1 k129_l2 k129_l3 k129_l5 k129_l7 x_7 hf
      intro k113_s k113_l1 k113_l2 k113_l3 k113_l5 k113_l7 k113_l9 hf
      unfold f_X8_great_c113 at hf
      refine x_iload 115 6 hC dX8_great_113 rfl rfl ?_
      refine x_iconst 116 hC (2 : Int32) dX8_great_115 rfl (by decide) ?_
      refine x_icmp_ge 172 119 hC dX8_great_116 (by decide) rfl (fun c_8 => ?_) (fun c_8 => ?_)
      · have hf := if_t hf c_8
        cases hf
        exact x_vret hC dX8_great_172 hQ rfl
      · have hf := if_f hf c_8
        refine x_iload 121 6 hC dX8_great_119 rfl rfl ?_
        refine x_if_ne 128 124 hC dX8_great_121 (by decide) rfl (fun c_9 => ?_) (fun c_9 => ?_)
        · have hf := if_t hf c_9
          refine x_iload_n 129 2 hC dX8_great_128 rfl rfl rfl ?_
          refine x_lv [(0, .ref a_this), (1, .int k113_l1), (2, .int k113_l2), (3, .long k113_l3), (5, .long k113_l5), (7, .long k113_l7), (9, .int k113_l9)] [0, 1, 2, 3, 4, 5, 6] rfl ?_
          exact J_129 k113_s k113_l1 k113_l2 k113_l3 k113_l5 k113_l7 k113_l9 k113_l2 hf
        · have hf := if_f hf c_9
          refine x_iload_n 125 1 hC dX8_great_124 rfl rfl rfl ?_
          refine x_goto 129 hC dX8_great_125 (by decide) ?_
          refine x_lv [(0, .ref a_this), (1, .int k113_l1), (2, .int k113_l2), (3, .long k113_l3), (5, .long k113_l5), (7, .long k113_l7), (9, .int k113_l9)] [0, 1, 2, 3, 4, 5, 6] rfl ?_
          exact J_129 k113_s k113_l1 k113_l2 k113_l3 k113_l5 k113_l7 k113_l9 k113_l1 hf
  have J_87 : ∀ (k87_s : Nat → Int64) (k87_l1 : Int32) (k87_l2 : Int32) (k87_l3 : Int64) (k87_s0 : Int64), f_X8_great_c87 k87_s k87_l1 k87_l2 k87_l3 k87_s0 = some R0 → XW p l e ({ frames := 1, cells := 0, slots := 0, locals := 60 } : Room) s m args below meth c D A 11 0 0 Q [(a_this, .inr (8, [.ref a_s, r_kept, .int v_undos, r_known, r_whose, r_lesser, r_other, .int v_open, r_sums, r_weights, r_row, r_plan, .int v_planned])), (a_s, .inl (cJ, 613, .inr (.inl k87_s)))] [] [(0, .ref a_this), (1, .int k87_l1), (2, .int k87_l2), (3, .long k87_l3)] 87 [.long k87_s0] := by
    intro k87_s k87_l1 k87_l2 k87_l3 k87_s0 hf
    unfold f_X8_great_c87 at hf
    refine x_lstore 89 [(5, .long k87_s0), (0, .ref a_this), (1, .int k87_l1), (2, .int k87_l2), (3, .long k87_l3)] hC dX8_great_87 rfl rfl (by decide) rfl ?_
    refine x_aload_n 90 1 hC dX8_great_89 rfl rfl rfl ?_
    refine x_get 93 0 0 hC in_X8_great_X8 rfl rfl (by decide) (List.mem_of_getElem? (i := 1) (by decide +kernel)) rfl rfl dX8_great_90 rfl ?_
    refine x_bipush 95 hC (73 : Int32) dX8_great_93 rfl (by decide) ?_
    refine x_iload_n 96 2 hC dX8_great_95 rfl rfl rfl ?_
    refine x_iadd 97 hC dX8_great_96 rfl ?_
    obtain ⟨h_10, hf⟩ := ck_e hf
    refine x_lald 98 1 1 hC rfl rfl h_10 dX8_great_97 rfl ?_
    refine x_aload_n 99 1 hC dX8_great_98 rfl rfl rfl ?_
    refine x_get 102 0 0 hC in_X8_great_X8 rfl rfl (by decide) (List.mem_of_getElem? (i := 1) (by decide +kernel)) rfl rfl dX8_great_99 rfl ?_
    refine x_bipush 104 hC (73 : Int32) dX8_great_102 rfl (by decide) ?_
    refine x_iload_n 105 3 hC dX8_great_104 rfl rfl rfl ?_
    refine x_iadd 106 hC dX8_great_105 rfl ?_
    obtain ⟨h_11, hf⟩ := ck_e hf
    refine x_lald 107 1 1 hC rfl rfl h_11 dX8_great_106 rfl ?_
    refine x_lor 108 hC dX8_great_107 rfl ?_
    obtain ⟨x_12, e_x_12, hf⟩ := nmx_e hf
    refine x_lstore 110 [(7, .long x_12), (5, .long k87_s0), (0, .ref a_this), (1, .int k87_l1), (2, .int k87_l2), (3, .long k87_l3)] hC dX8_great_108 rfl e_x_12 (by decide) rfl ?_
    refine x_iconst 111 hC (0 : Int32) dX8_great_110 rfl (by decide) ?_
    refine x_istore 113 [(9, .int (0 : Int32)), (7, .long x_12), (5, .long k87_s0), (0, .ref a_this), (1, .int k87_l1), (2, .int k87_l2), (3, .long k87_l3)] hC dX8_great_111 rfl rfl (by decide) rfl ?_
    refine x_lv [(0, .ref a_this), (1, .int k87_l1), (2, .int k87_l2), (3, .long k87_l3), (5, .long k87_s0), (7, .long x_12), (9, .int (0 : Int32))] [3, 4, 5, 6, 2, 1, 0] rfl ?_
    exact J_113 fu k87_s k87_l1 k87_l2 k87_l3 k87_s0 x_12 (0 : Int32) hf
  have J_43 : ∀ (k43_s : Nat → Int64) (k43_l1 : Int32) (k43_l2 : Int32) (k43_s0 : Int64), f_X8_great_c43 k43_s k43_l1 k43_l2 k43_s0 = some R0 → XW p l e ({ frames := 1, cells := 0, slots := 0, locals := 60 } : Room) s m args below meth c D A 11 0 0 Q [(a_this, .inr (8, [.ref a_s, r_kept, .int v_undos, r_known, r_whose, r_lesser, r_other, .int v_open, r_sums, r_weights, r_row, r_plan, .int v_planned])), (a_s, .inl (cJ, 613, .inr (.inl k43_s)))] [] [(0, .ref a_this), (1, .int k43_l1), (2, .int k43_l2)] 43 [.long k43_s0] := by
    intro k43_s k43_l1 k43_l2 k43_s0 hf
    unfold f_X8_great_c43 at hf
    refine x_lstore_n 44 [(3, .long k43_s0), (0, .ref a_this), (1, .int k43_l1), (2, .int k43_l2)] hC dX8_great_43 rfl rfl rfl (by decide) rfl ?_
    refine x_aload_n 45 1 hC dX8_great_44 rfl rfl rfl ?_
    refine x_get 48 0 0 hC in_X8_great_X8 rfl rfl (by decide) (List.mem_of_getElem? (i := 1) (by decide +kernel)) rfl rfl dX8_great_45 rfl ?_
    refine x_bipush 50 hC (63 : Int32) dX8_great_48 rfl (by decide) ?_
    refine x_iload_n 51 2 hC dX8_great_50 rfl rfl rfl ?_
    refine x_iadd 52 hC dX8_great_51 rfl ?_
    obtain ⟨h_13, hf⟩ := ck_e hf
    refine x_lald 53 1 1 hC rfl rfl h_13 dX8_great_52 rfl ?_
    refine x_aload_n 54 1 hC dX8_great_53 rfl rfl rfl ?_
    refine x_get 57 0 0 hC in_X8_great_X8 rfl rfl (by decide) (List.mem_of_getElem? (i := 1) (by decide +kernel)) rfl rfl dX8_great_54 rfl ?_
    refine x_bipush 59 hC (63 : Int32) dX8_great_57 rfl (by decide) ?_
    refine x_iload_n 60 3 hC dX8_great_59 rfl rfl rfl ?_
    refine x_iadd 61 hC dX8_great_60 rfl ?_
    obtain ⟨h_14, hf⟩ := ck_e hf
    refine x_lald 62 1 1 hC rfl rfl h_14 dX8_great_61 rfl ?_
    refine x_lcmp_ge 78 66 hC dX8_great_62 dX8_great_63 (by decide) rfl (fun c_15 => ?_) (fun c_15 => ?_)
    · have hf := if_t hf c_15
      refine x_aload_n 79 1 hC dX8_great_78 rfl rfl rfl ?_
      refine x_get 82 0 0 hC in_X8_great_X8 rfl rfl (by decide) (List.mem_of_getElem? (i := 1) (by decide +kernel)) rfl rfl dX8_great_79 rfl ?_
      refine x_bipush 84 hC (63 : Int32) dX8_great_82 rfl (by decide) ?_
      refine x_iload_n 85 3 hC dX8_great_84 rfl rfl rfl ?_
      refine x_iadd 86 hC dX8_great_85 rfl ?_
      obtain ⟨h_16, hf⟩ := ck_e hf
      refine x_lald 87 1 1 hC rfl rfl h_16 dX8_great_86 rfl ?_
      refine x_lv [(0, .ref a_this), (1, .int k43_l1), (2, .int k43_l2), (3, .long k43_s0)] [1, 2, 3, 0] rfl ?_
      exact J_87 k43_s k43_l1 k43_l2 k43_s0 (k43_s ((63 : Int32) + k43_l2).toNatClampNeg) hf
    · have hf := if_f hf c_15
      refine x_aload_n 67 1 hC dX8_great_66 rfl rfl rfl ?_
      refine x_get 70 0 0 hC in_X8_great_X8 rfl rfl (by decide) (List.mem_of_getElem? (i := 1) (by decide +kernel)) rfl rfl dX8_great_67 rfl ?_
      refine x_bipush 72 hC (63 : Int32) dX8_great_70 rfl (by decide) ?_
      refine x_iload_n 73 2 hC dX8_great_72 rfl rfl rfl ?_
      refine x_iadd 74 hC dX8_great_73 rfl ?_
      obtain ⟨h_17, hf⟩ := ck_e hf
      refine x_lald 75 1 1 hC rfl rfl h_17 dX8_great_74 rfl ?_
      refine x_goto 87 hC dX8_great_75 (by decide) ?_
      refine x_lv [(0, .ref a_this), (1, .int k43_l1), (2, .int k43_l2), (3, .long k43_s0)] [1, 2, 3, 0] rfl ?_
      exact J_87 k43_s k43_l1 k43_l2 k43_s0 (k43_s ((63 : Int32) + k43_l1).toNatClampNeg) hf
  unfold f_X8_great at hf
  refine x_aload_n 1 0 hC dX8_great_0 rfl rfl rfl ?_
  refine x_get 4 0 0 hC in_X8_great_X8 rfl rfl (by decide) (List.mem_of_getElem? (i := 1) (by decide +kernel)) rfl rfl dX8_great_1 rfl ?_
  refine x_bipush 6 hC (53 : Int32) dX8_great_4 rfl (by decide) ?_
  refine x_iload_n 7 1 hC dX8_great_6 rfl rfl rfl ?_
  refine x_iadd 8 hC dX8_great_7 rfl ?_
  obtain ⟨h_18, hf⟩ := ck_e hf
  refine x_lald 9 1 1 hC rfl rfl h_18 dX8_great_8 rfl ?_
  refine x_aload_n 10 0 hC dX8_great_9 rfl rfl rfl ?_
  refine x_get 13 0 0 hC in_X8_great_X8 rfl rfl (by decide) (List.mem_of_getElem? (i := 1) (by decide +kernel)) rfl rfl dX8_great_10 rfl ?_
  refine x_bipush 15 hC (53 : Int32) dX8_great_13 rfl (by decide) ?_
  refine x_iload_n 16 2 hC dX8_great_15 rfl rfl rfl ?_
  refine x_iadd 17 hC dX8_great_16 rfl ?_
  obtain ⟨h_19, hf⟩ := ck_e hf
  refine x_lald 18 1 1 hC rfl rfl h_19 dX8_great_17 rfl ?_
  refine x_lcmp_le 34 22 hC dX8_great_18 dX8_great_19 (by decide) rfl (fun c_20 => ?_) (fun c_20 => ?_)
  · have hf := if_t hf c_20
    refine x_aload_n 35 0 hC dX8_great_34 rfl rfl rfl ?_
    refine x_get 38 0 0 hC in_X8_great_X8 rfl rfl (by decide) (List.mem_of_getElem? (i := 1) (by decide +kernel)) rfl rfl dX8_great_35 rfl ?_
    refine x_bipush 40 hC (53 : Int32) dX8_great_38 rfl (by decide) ?_
    refine x_iload_n 41 2 hC dX8_great_40 rfl rfl rfl ?_
    refine x_iadd 42 hC dX8_great_41 rfl ?_
    obtain ⟨h_21, hf⟩ := ck_e hf
    refine x_lald 43 1 1 hC rfl rfl h_21 dX8_great_42 rfl ?_
    refine x_lv [(0, .ref a_this), (1, .int p1), (2, .int p2)] [0, 1, 2] rfl ?_
    exact J_43 v_s p1 p2 (v_s ((53 : Int32) + p2).toNatClampNeg) hf
  · have hf := if_f hf c_20
    refine x_aload_n 23 0 hC dX8_great_22 rfl rfl rfl ?_
    refine x_get 26 0 0 hC in_X8_great_X8 rfl rfl (by decide) (List.mem_of_getElem? (i := 1) (by decide +kernel)) rfl rfl dX8_great_23 rfl ?_
    refine x_bipush 28 hC (53 : Int32) dX8_great_26 rfl (by decide) ?_
    refine x_iload_n 29 1 hC dX8_great_28 rfl rfl rfl ?_
    refine x_iadd 30 hC dX8_great_29 rfl ?_
    obtain ⟨h_22, hf⟩ := ck_e hf
    refine x_lald 31 1 1 hC rfl rfl h_22 dX8_great_30 rfl ?_
    refine x_goto 43 hC dX8_great_31 (by decide) ?_
    refine x_lv [(0, .ref a_this), (1, .int p1), (2, .int p2)] [0, 1, 2] rfl ?_
    exact J_43 v_s p1 p2 (v_s ((53 : Int32) + p1).toNatClampNeg) hf

theorem hd_X8_knows : yX8_knows.cls = RX8 ∧ yX8_knows.cls ≠ "java/lang/invoke/MethodHandle" ∧ yX8_knows.cls ≠ "java/lang/invoke/VarHandle" ∧ (parseMethodDescriptor yX8_knows.desc).map (fun d => d.parameters.length) = some 2 := by decide +kernel
theorem in_X8_knows_X8 : ∀ w ∈ u_ws RX8 TX8 13, w ∈ wsX8_knows := fun w h => List.mem_cons_of_mem _ (List.mem_append_right _ h)
noncomputable def f_X8_knows_c3 (v_s : Nat → Int64) : Nat → Int32 → Int64 → Int32 → Option (Int32)
  | 0, _, _, _ => none
  | n + 1, k3_l1, k3_l2, k3_l4 => ck ((83 : Int32) + k3_l1) 613 <| if (v_s ((83 : Int32) + k3_l1).toNatClampNeg) ≤ (k3_l4.toInt64) then (some ((0 : Int32))) else (ck (((133 : Int32) + ((4 : Int32) * k3_l1)) + k3_l4) 613 <| if ¬ (v_s (((133 : Int32) + ((4 : Int32) * k3_l1)) + k3_l4).toNatClampNeg) = k3_l2 then (nm (k3_l4 + (1 : Int32)) fun x_5 => (fun k3_l1 k3_l2 k3_l4 => f_X8_knows_c3 v_s n k3_l1 k3_l2 k3_l4) k3_l1 k3_l2 x_5) else (some ((1 : Int32))))
noncomputable def f_X8_knows (v_s : Nat → Int64) (p1 : Int32) (p2 : Int64) : Option (Int32) := f_X8_knows_c3 v_s fu p1 p2 (0 : Int32)
set_option maxHeartbeats 4000000 in
set_option maxRecDepth 100000 in
theorem c_X8_knows (l : Launch) (D : va_G) (cI cJ cQ : ClassId) (a_this : Nat) (a_s : Nat) (r_kept : Value) (r_known : Value) (r_whose : Value) (r_lesser : Value) (r_other : Value) (r_sums : Value) (r_weights : Value) (r_row : Value) (r_plan : Value) (v_undos : Int32) (v_open : Int32) (v_planned : Int32) (v_s : Nat → Int64) (p1 : Int32) (p2 : Int64) (R0 : Int32) (hf : f_X8_knows v_s p1 p2 = some R0) : Ci l yX8_knows wsX8_knows ({ frames := 1, cells := 0, slots := 0, locals := 60 } : Room) D [(cI, .int), (cJ, .long), (cQ, .object "WhisperCrowd$State")] [.ref a_this, .int p1, .long p2] [(a_this, .inr (8, [.ref a_s, r_kept, .int v_undos, r_known, r_whose, r_lesser, r_other, .int v_open, r_sums, r_weights, r_row, r_plan, .int v_planned])), (a_s, .inl (cJ, 613, .inr (.inl v_s)))] [(a_this, .inr (8, [.ref a_s, r_kept, .int v_undos, r_known, r_whose, r_lesser, r_other, .int v_open, r_sums, r_weights, r_row, r_plan, .int v_planned])), (a_s, .inl (cJ, 613, .inr (.inl v_s)))] R0 := by
  refine x_enti (cc := cX8_knows) (maxL := 5) (rt := (some .boolean)) (lv := [(0, .ref a_this), (1, .int p1), (2, .long p2)]) (by decide) rfl (Nat.le_of_ble_eq_true rfl) rfl ?_
  intro p e s m args below meth c A Q hQ hC
  have J_3 : ∀ (n : Nat) (k3_l1 : Int32) (k3_l2 : Int64) (k3_l4 : Int32), f_X8_knows_c3 v_s n k3_l1 k3_l2 k3_l4 = some R0 → XW p l e ({ frames := 1, cells := 0, slots := 0, locals := 60 } : Room) s m args below meth c D A 5 0 0 Q [(a_this, .inr (8, [.ref a_s, r_kept, .int v_undos, r_known, r_whose, r_lesser, r_other, .int v_open, r_sums, r_weights, r_row, r_plan, .int v_planned])), (a_s, .inl (cJ, 613, .inr (.inl v_s)))] [] [(0, .ref a_this), (1, .int k3_l1), (2, .long k3_l2), (4, .int k3_l4)] 3 [] := by
    intro n
    induction n with
    | zero => intro k3_l1 k3_l2 k3_l4 hf; exact nomatch (show (none : Option (Int32)) = some R0 from hf)
    | succ n_3 ih_3 =>
      intro k3_l1 k3_l2 k3_l4 hf
      unfold f_X8_knows_c3 at hf
      refine x_iload 5 3 hC dX8_knows_3 rfl rfl ?_
      refine x_i2l 6 hC dX8_knows_5 rfl ?_
      refine x_aload_n 7 0 hC dX8_knows_6 rfl rfl rfl ?_
      refine x_get 10 0 0 hC in_X8_knows_X8 rfl rfl (by decide) (List.mem_of_getElem? (i := 1) (by decide +kernel)) rfl rfl dX8_knows_7 rfl ?_
      refine x_bipush 12 hC (83 : Int32) dX8_knows_10 rfl (by decide) ?_
      refine x_iload_n 13 1 hC dX8_knows_12 rfl rfl rfl ?_
      refine x_iadd 14 hC dX8_knows_13 rfl ?_
      obtain ⟨h_1, hf⟩ := ck_e hf
      refine x_lald 15 1 1 hC rfl rfl h_1 dX8_knows_14 rfl ?_
      refine x_lcmp_ge 47 19 hC dX8_knows_15 dX8_knows_16 (by decide) rfl (fun c_2 => ?_) (fun c_2 => ?_)
      · have hf := if_t hf c_2
        refine x_iconst 48 hC (0 : Int32) dX8_knows_47 rfl (by decide) ?_
        cases hf
        exact x_zret hC rfl dX8_knows_48 hQ rfl rfl
      · have hf := if_f hf c_2
        refine x_aload_n 20 0 hC dX8_knows_19 rfl rfl rfl ?_
        refine x_get 23 0 0 hC in_X8_knows_X8 rfl rfl (by decide) (List.mem_of_getElem? (i := 1) (by decide +kernel)) rfl rfl dX8_knows_20 rfl ?_
        refine x_sipush 26 hC (133 : Int32) dX8_knows_23 rfl (by decide) ?_
        refine x_iconst 27 hC (4 : Int32) dX8_knows_26 rfl (by decide) ?_
        refine x_iload_n 28 1 hC dX8_knows_27 rfl rfl rfl ?_
        refine x_imul 29 hC dX8_knows_28 rfl ?_
        refine x_iadd 30 hC dX8_knows_29 rfl ?_
        refine x_iload 32 3 hC dX8_knows_30 rfl rfl ?_
        refine x_iadd 33 hC dX8_knows_32 rfl ?_
        obtain ⟨h_3, hf⟩ := ck_e hf
        refine x_lald 34 1 1 hC rfl rfl h_3 dX8_knows_33 rfl ?_
        refine x_lload_n 35 2 hC dX8_knows_34 rfl rfl rfl ?_
        refine x_lcmp_ne 41 39 hC dX8_knows_35 dX8_knows_36 (by decide) rfl (fun c_4 => ?_) (fun c_4 => ?_)
        · have hf := if_t hf c_4
          obtain ⟨x_5, e_x_5, hf⟩ := nmx_e hf
          refine x_iinc 44 3 [(4, .int x_5), (0, .ref a_this), (1, .int k3_l1), (2, .long k3_l2)] hC dX8_knows_41 rfl rfl e_x_5 (by decide) (by decide) rfl ?_
          refine x_goto 3 hC dX8_knows_44 (by decide) ?_
          refine x_lv [(0, .ref a_this), (1, .int k3_l1), (2, .long k3_l2), (4, .int x_5)] [1, 2, 3, 0] rfl ?_
          exact ih_3 k3_l1 k3_l2 x_5 hf
        · have hf := if_f hf c_4
          refine x_iconst 40 hC (1 : Int32) dX8_knows_39 rfl (by decide) ?_
          cases hf
          exact x_zret hC rfl dX8_knows_40 hQ rfl rfl
  unfold f_X8_knows at hf
  refine x_iconst 1 hC (0 : Int32) dX8_knows_0 rfl (by decide) ?_
  refine x_istore 3 [(4, .int (0 : Int32)), (0, .ref a_this), (1, .int p1), (2, .long p2)] hC dX8_knows_1 rfl rfl (by decide) rfl ?_
  refine x_lv [(0, .ref a_this), (1, .int p1), (2, .long p2), (4, .int (0 : Int32))] [1, 2, 3, 0] rfl ?_
  exact J_3 fu p1 p2 (0 : Int32) hf

theorem hd_X8_tickets : yX8_tickets.cls = RX8 ∧ yX8_tickets.cls ≠ "java/lang/invoke/MethodHandle" ∧ yX8_tickets.cls ≠ "java/lang/invoke/VarHandle" ∧ (parseMethodDescriptor yX8_tickets.desc).map (fun d => d.parameters.length) = some 2 := by decide +kernel
theorem in_X8_tickets_X8 : ∀ w ∈ u_ws RX8 TX8 13, w ∈ wsX8_tickets := fun w h => List.mem_cons_of_mem _ (List.mem_append_right _ h)
noncomputable def f_X8_tickets_c272 : Nat → (Nat → Int64) → (Nat → Int64) → (Nat → Int64) → Int32 → Int32 → Int32 → Int32 → Option ((Nat → Int64) × (Nat → Int64) × (Nat → Int64))
  | 0, _, _, _, _, _, _, _ => none
  | n + 1, k272_known, k272_s, k272_whose, k272_l1, k272_l2, k272_l4, k272_l5 => if k272_l4 ≤ k272_l5 then (some (k272_known, k272_s, k272_whose)) else (ck k272_l5 8 <| ck (((93 : Int32) + ((4 : Int32) * k272_l1)) + k272_l5) 613 <| nm (vp_updL k272_s (((93 : Int32) + ((4 : Int32) * k272_l1)) + k272_l5).toNatClampNeg (k272_known k272_l5.toNatClampNeg)) fun g_4 => ck k272_l5 8 <| ck (((133 : Int32) + ((4 : Int32) * k272_l1)) + k272_l5) 613 <| nm (vp_updL g_4 (((133 : Int32) + ((4 : Int32) * k272_l1)) + k272_l5).toNatClampNeg (k272_whose k272_l5.toNatClampNeg)) fun g_7 => ck k272_l5 8 <| ck (((93 : Int32) + ((4 : Int32) * k272_l2)) + k272_l5) 613 <| nm (vp_updL g_7 (((93 : Int32) + ((4 : Int32) * k272_l2)) + k272_l5).toNatClampNeg (k272_known k272_l5.toNatClampNeg)) fun g_10 => ck k272_l5 8 <| ck (((133 : Int32) + ((4 : Int32) * k272_l2)) + k272_l5) 613 <| nm (vp_updL g_10 (((133 : Int32) + ((4 : Int32) * k272_l2)) + k272_l5).toNatClampNeg (k272_whose k272_l5.toNatClampNeg)) fun g_13 => nm (k272_l5 + (1 : Int32)) fun x_14 => (fun k272_known k272_s k272_whose k272_l1 k272_l2 k272_l4 k272_l5 => f_X8_tickets_c272 n k272_known k272_s k272_whose k272_l1 k272_l2 k272_l4 k272_l5) k272_known g_13 k272_whose k272_l1 k272_l2 k272_l4 x_14)
noncomputable def f_X8_tickets_c243 (k243_known : Nat → Int64) (k243_s : Nat → Int64) (k243_whose : Nat → Int64) (k243_l1 : Int32) (k243_l2 : Int32) (k243_s0 : Int32) : Option ((Nat → Int64) × (Nat → Int64) × (Nat → Int64)) := ck ((83 : Int32) + k243_l1) 613 <| nm (vp_updL k243_s ((83 : Int32) + k243_l1).toNatClampNeg (k243_s0.toInt64)) fun g_16 => ck ((83 : Int32) + k243_l2) 613 <| nm (vp_updL g_16 ((83 : Int32) + k243_l2).toNatClampNeg (k243_s0.toInt64)) fun g_18 => f_X8_tickets_c272 fu k243_known g_18 k243_whose k243_l1 k243_l2 k243_s0 (0 : Int32)
noncomputable def f_X8_tickets_c227 (k5 : (Nat → Int64) → (Nat → Int64) → (Nat → Int64) → Int32 → Int32 → Int32 → Int32 → Option ((Nat → Int64) × (Nat → Int64) × (Nat → Int64))) (k227_known : Nat → Int64) (k227_s : Nat → Int64) (k227_whose : Nat → Int64) (k227_l1 : Int32) (k227_l2 : Int32) (k227_l3 : Int32) (k227_l4 : Int32) : Option ((Nat → Int64) × (Nat → Int64) × (Nat → Int64)) := nm (k227_l4 + (1 : Int32)) fun x_19 => k5 k227_known k227_s k227_whose k227_l1 k227_l2 k227_l3 x_19
noncomputable def f_X8_tickets_c206 (k5 : (Nat → Int64) → (Nat → Int64) → (Nat → Int64) → Int32 → Int32 → Int32 → Int32 → Option ((Nat → Int64) × (Nat → Int64) × (Nat → Int64))) (k206_known : Nat → Int64) (k206_s : Nat → Int64) (k206_whose : Nat → Int64) (k206_l1 : Int32) (k206_l2 : Int32) (k206_l3 : Int32) (k206_l4 : Int32) (k206_l6 : Int32) (k206_l7 : Int64) (k206_l9 : Int64) : Option ((Nat → Int64) × (Nat → Int64) × (Nat → Int64)) := ck k206_l6 8 <| nm (vp_updL k206_known k206_l6.toNatClampNeg k206_l7) fun g_21 => ck k206_l6 8 <| nm (vp_updL k206_whose k206_l6.toNatClampNeg k206_l9) fun g_23 => nm (k206_l3 + (1 : Int32)) fun x_24 => f_X8_tickets_c227 k5 g_21 k206_s g_23 k206_l1 k206_l2 x_24 k206_l4
noncomputable def f_X8_tickets_c168 (k5 : (Nat → Int64) → (Nat → Int64) → (Nat → Int64) → Int32 → Int32 → Int32 → Int32 → Option ((Nat → Int64) × (Nat → Int64) × (Nat → Int64))) (k118 : (Nat → Int64) → (Nat → Int64) → (Nat → Int64) → Int32 → Int32 → Int32 → Int32 → Int32 → Int64 → Int64 → Option ((Nat → Int64) × (Nat → Int64) × (Nat → Int64))) (k168_known : Nat → Int64) (k168_s : Nat → Int64) (k168_whose : Nat → Int64) (k168_l1 : Int32) (k168_l2 : Int32) (k168_l3 : Int32) (k168_l4 : Int32) (k168_l6 : Int32) (k168_l7 : Int64) (k168_l9 : Int64) : Option ((Nat → Int64) × (Nat → Int64) × (Nat → Int64)) := ck (k168_l6 - (1 : Int32)) 8 <| ck k168_l6 8 <| nm (vp_updL k168_known k168_l6.toNatClampNeg (k168_known (k168_l6 - (1 : Int32)).toNatClampNeg)) fun g_27 => ck (k168_l6 - (1 : Int32)) 8 <| ck k168_l6 8 <| nm (vp_updL k168_whose k168_l6.toNatClampNeg (k168_whose (k168_l6 - (1 : Int32)).toNatClampNeg)) fun g_30 => nm (k168_l6 + (-1 : Int32)) fun x_31 => k118 g_27 k168_s g_30 k168_l1 k168_l2 k168_l3 k168_l4 x_31 k168_l7 k168_l9
noncomputable def f_X8_tickets_c118 (k5 : (Nat → Int64) → (Nat → Int64) → (Nat → Int64) → Int32 → Int32 → Int32 → Int32 → Option ((Nat → Int64) × (Nat → Int64) × (Nat → Int64))) : Nat → (Nat → Int64) → (Nat → Int64) → (Nat → Int64) → Int32 → Int32 → Int32 → Int32 → Int32 → Int64 → Int64 → Option ((Nat → Int64) × (Nat → Int64) × (Nat → Int64))
  | 0, _, _, _, _, _, _, _, _, _, _ => none
  | n + 1, k118_known, k118_s, k118_whose, k118_l1, k118_l2, k118_l3, k118_l4, k118_l6, k118_l7, k118_l9 => if k118_l6 ≤ 0 then (f_X8_tickets_c206 k5 k118_known k118_s k118_whose k118_l1 k118_l2 k118_l3 k118_l4 k118_l6 k118_l7 k118_l9) else (ck (k118_l6 - (1 : Int32)) 8 <| if k118_l7 < (k118_known (k118_l6 - (1 : Int32)).toNatClampNeg) then (f_X8_tickets_c168 k5 (fun k118_known k118_s k118_whose k118_l1 k118_l2 k118_l3 k118_l4 k118_l6 k118_l7 k118_l9 => f_X8_tickets_c118 k5 n k118_known k118_s k118_whose k118_l1 k118_l2 k118_l3 k118_l4 k118_l6 k118_l7 k118_l9) k118_known k118_s k118_whose k118_l1 k118_l2 k118_l3 k118_l4 k118_l6 k118_l7 k118_l9) else (ck (k118_l6 - (1 : Int32)) 8 <| if ¬ (k118_known (k118_l6 - (1 : Int32)).toNatClampNeg) = k118_l7 then (f_X8_tickets_c206 k5 k118_known k118_s k118_whose k118_l1 k118_l2 k118_l3 k118_l4 k118_l6 k118_l7 k118_l9) else (ck (k118_l6 - (1 : Int32)) 8 <| if (k118_whose (k118_l6 - (1 : Int32)).toNatClampNeg) ≤ k118_l9 then (f_X8_tickets_c206 k5 k118_known k118_s k118_whose k118_l1 k118_l2 k118_l3 k118_l4 k118_l6 k118_l7 k118_l9) else (f_X8_tickets_c168 k5 (fun k118_known k118_s k118_whose k118_l1 k118_l2 k118_l3 k118_l4 k118_l6 k118_l7 k118_l9 => f_X8_tickets_c118 k5 n k118_known k118_s k118_whose k118_l1 k118_l2 k118_l3 k118_l4 k118_l6 k118_l7 k118_l9) k118_known k118_s k118_whose k118_l1 k118_l2 k118_l3 k118_l4 k118_l6 k118_l7 k118_l9))))
noncomputable def f_X8_tickets_c76 (k5 : (Nat → Int64) → (Nat → Int64) → (Nat → Int64) → Int32 → Int32 → Int32 → Int32 → Option ((Nat → Int64) × (Nat → Int64) × (Nat → Int64))) (k76_known : Nat → Int64) (k76_s : Nat → Int64) (k76_whose : Nat → Int64) (k76_l1 : Int32) (k76_l2 : Int32) (k76_l3 : Int32) (k76_l4 : Int32) (k76_l5 : Int32) : Option ((Nat → Int64) × (Nat → Int64) × (Nat → Int64)) := ckp (¬ (4 : Int32) = 0) (Classical.propDecidable _) <| ck (((93 : Int32) + ((4 : Int32) * k76_l5)) + (k76_l4 - k76_l4 / (4 : Int32) * (4 : Int32))) 613 <| nm (k76_s (((93 : Int32) + ((4 : Int32) * k76_l5)) + (k76_l4 - k76_l4 / (4 : Int32) * (4 : Int32))).toNatClampNeg) fun x_41 => ckp (¬ (4 : Int32) = 0) (Classical.propDecidable _) <| ck (((133 : Int32) + ((4 : Int32) * k76_l5)) + (k76_l4 - k76_l4 / (4 : Int32) * (4 : Int32))) 613 <| nm (k76_s (((133 : Int32) + ((4 : Int32) * k76_l5)) + (k76_l4 - k76_l4 / (4 : Int32) * (4 : Int32))).toNatClampNeg) fun x_44 => f_X8_tickets_c118 k5 fu k76_known k76_s k76_whose k76_l1 k76_l2 k76_l3 k76_l4 k76_l3 x_41 x_44
noncomputable def f_X8_tickets_c23 (k5 : (Nat → Int64) → (Nat → Int64) → (Nat → Int64) → Int32 → Int32 → Int32 → Int32 → Option ((Nat → Int64) × (Nat → Int64) × (Nat → Int64))) (k23_known : Nat → Int64) (k23_s : Nat → Int64) (k23_whose : Nat → Int64) (k23_l1 : Int32) (k23_l2 : Int32) (k23_l3 : Int32) (k23_l4 : Int32) (k23_s0 : Int32) : Option ((Nat → Int64) × (Nat → Int64) × (Nat → Int64)) := ckp (¬ (4 : Int32) = 0) (Classical.propDecidable _) <| ck ((83 : Int32) + k23_s0) 613 <| if (k23_s ((83 : Int32) + k23_s0).toNatClampNeg) ≤ ((k23_l4 - k23_l4 / (4 : Int32) * (4 : Int32)).toInt64) then (f_X8_tickets_c227 k5 k23_known k23_s k23_whose k23_l1 k23_l2 k23_l3 k23_l4) else (if k23_l4 < (4 : Int32) then (f_X8_tickets_c76 k5 k23_known k23_s k23_whose k23_l1 k23_l2 k23_l3 k23_l4 k23_s0) else (ckp (¬ (4 : Int32) = 0) (Classical.propDecidable _) <| ck (((133 : Int32) + ((4 : Int32) * k23_s0)) + (k23_l4 - k23_l4 / (4 : Int32) * (4 : Int32))) 613 <| bd (f_X8_knows k23_s k23_l1 (k23_s (((133 : Int32) + ((4 : Int32) * k23_s0)) + (k23_l4 - k23_l4 / (4 : Int32) * (4 : Int32))).toNatClampNeg)) fun R_51 => if ¬ R_51 = 0 then (f_X8_tickets_c227 k5 k23_known k23_s k23_whose k23_l1 k23_l2 k23_l3 k23_l4) else (f_X8_tickets_c76 k5 k23_known k23_s k23_whose k23_l1 k23_l2 k23_l3 k23_l4 k23_s0)))
noncomputable def f_X8_tickets_c5 : Nat → (Nat → Int64) → (Nat → Int64) → (Nat → Int64) → Int32 → Int32 → Int32 → Int32 → Option ((Nat → Int64) × (Nat → Int64) × (Nat → Int64))
  | 0, _, _, _, _, _, _, _ => none
  | n + 1, k5_known, k5_s, k5_whose, k5_l1, k5_l2, k5_l3, k5_l4 => if (8 : Int32) ≤ k5_l4 then (if (4 : Int32) ≤ k5_l3 then (f_X8_tickets_c243 k5_known k5_s k5_whose k5_l1 k5_l2 (4 : Int32)) else (f_X8_tickets_c243 k5_known k5_s k5_whose k5_l1 k5_l2 k5_l3)) else (if (4 : Int32) ≤ k5_l4 then (f_X8_tickets_c23 (fun k5_known k5_s k5_whose k5_l1 k5_l2 k5_l3 k5_l4 => f_X8_tickets_c5 n k5_known k5_s k5_whose k5_l1 k5_l2 k5_l3 k5_l4) k5_known k5_s k5_whose k5_l1 k5_l2 k5_l3 k5_l4 k5_l2) else (f_X8_tickets_c23 (fun k5_known k5_s k5_whose k5_l1 k5_l2 k5_l3 k5_l4 => f_X8_tickets_c5 n k5_known k5_s k5_whose k5_l1 k5_l2 k5_l3 k5_l4) k5_known k5_s k5_whose k5_l1 k5_l2 k5_l3 k5_l4 k5_l1))
noncomputable def f_X8_tickets (v_known : Nat → Int64) (v_s : Nat → Int64) (v_whose : Nat → Int64) (p1 : Int32) (p2 : Int32) : Option ((Nat → Int64) × (Nat → Int64) × (Nat → Int64)) := f_X8_tickets_c5 fu v_known v_s v_whose p1 p2 (0 : Int32) (0 : Int32)
set_option maxHeartbeats 4000000 in
set_option maxRecDepth 100000 in
theorem c_X8_tickets (l : Launch) (D : va_G) (cI cJ cQ : ClassId) (a_this : Nat) (a_known : Nat) (a_s : Nat) (a_whose : Nat) (r_kept : Value) (r_lesser : Value) (r_other : Value) (r_sums : Value) (r_weights : Value) (r_row : Value) (r_plan : Value) (v_undos : Int32) (v_open : Int32) (v_planned : Int32) (v_known : Nat → Int64) (v_s : Nat → Int64) (v_whose : Nat → Int64) (p1 : Int32) (p2 : Int32) (R0 : (Nat → Int64) × (Nat → Int64) × (Nat → Int64)) (hf : f_X8_tickets v_known v_s v_whose p1 p2 = some R0) : Cv l yX8_tickets wsX8_tickets ({ frames := 2, cells := 0, slots := 0, locals := 86 } : Room) D [(cI, .int), (cJ, .long), (cQ, .object "WhisperCrowd$State")] [.ref a_this, .int p1, .int p2] [(a_this, .inr (8, [.ref a_s, r_kept, .int v_undos, .ref a_known, .ref a_whose, r_lesser, r_other, .int v_open, r_sums, r_weights, r_row, r_plan, .int v_planned])), (a_known, .inl (cJ, 8, .inr (.inl v_known))), (a_s, .inl (cJ, 613, .inr (.inl v_s))), (a_whose, .inl (cJ, 8, .inr (.inl v_whose)))] [(a_this, .inr (8, [.ref a_s, r_kept, .int v_undos, .ref a_known, .ref a_whose, r_lesser, r_other, .int v_open, r_sums, r_weights, r_row, r_plan, .int v_planned])), (a_known, .inl (cJ, 8, .inr (.inl R0.1))), (a_s, .inl (cJ, 613, .inr (.inl R0.2.1))), (a_whose, .inl (cJ, 8, .inr (.inl R0.2.2)))] := by
  refine x_entv (cc := cX8_tickets) (maxL := 11) (rt := none) (lv := [(0, .ref a_this), (1, .int p1), (2, .int p2)]) (by decide) rfl (Nat.le_of_ble_eq_true rfl) rfl ?_
  intro p e s m args below meth c A Q hQ hC
  have J_272 : ∀ (n : Nat) (k272_known : Nat → Int64) (k272_s : Nat → Int64) (k272_whose : Nat → Int64) (k272_l1 : Int32) (k272_l2 : Int32) (k272_l4 : Int32) (k272_l5 : Int32), f_X8_tickets_c272 n k272_known k272_s k272_whose k272_l1 k272_l2 k272_l4 k272_l5 = some R0 → XW p l e ({ frames := 2, cells := 0, slots := 0, locals := 86 } : Room) s m args below meth c D A 11 0 0 Q [(a_this, .inr (8, [.ref a_s, r_kept, .int v_undos, .ref a_known, .ref a_whose, r_lesser, r_other, .int v_open, r_sums, r_weights, r_row, r_plan, .int v_planned])), (a_known, .inl (cJ, 8, .inr (.inl k272_known))), (a_s, .inl (cJ, 613, .inr (.inl k272_s))), (a_whose, .inl (cJ, 8, .inr (.inl k272_whose)))] [] [(0, .ref a_this), (1, .int k272_l1), (2, .int k272_l2), (4, .int k272_l4), (5, .int k272_l5)] 272 [] := by
    intro n
    induction n with
    | zero => intro k272_known k272_s k272_whose k272_l1 k272_l2 k272_l4 k272_l5 hf; exact nomatch (show (none : Option ((Nat → Int64) × (Nat → Int64) × (Nat → Int64))) = some R0 from hf)
    | succ n_272 ih_272 =>
      intro k272_known k272_s k272_whose k272_l1 k272_l2 k272_l4 k272_l5 hf
      unfold f_X8_tickets_c272 at hf
      refine x_iload 274 4 hC dX8_tickets_272 rfl rfl ?_
      refine x_iload 276 3 hC dX8_tickets_274 rfl rfl ?_
      refine x_icmp_ge 371 279 hC dX8_tickets_276 (by decide) rfl (fun c_1 => ?_) (fun c_1 => ?_)
      · have hf := if_t hf c_1
        cases hf
        exact x_vret hC dX8_tickets_371 hQ rfl
      · have hf := if_f hf c_1
        refine x_aload_n 280 0 hC dX8_tickets_279 rfl rfl rfl ?_
        refine x_get 283 0 0 hC in_X8_tickets_X8 rfl rfl (by decide) (List.mem_of_getElem? (i := 1) (by decide +kernel)) rfl rfl dX8_tickets_280 rfl ?_
        refine x_bipush 285 hC (93 : Int32) dX8_tickets_283 rfl (by decide) ?_
        refine x_iconst 286 hC (4 : Int32) dX8_tickets_285 rfl (by decide) ?_
        refine x_iload_n 287 1 hC dX8_tickets_286 rfl rfl rfl ?_
        refine x_imul 288 hC dX8_tickets_287 rfl ?_
        refine x_iadd 289 hC dX8_tickets_288 rfl ?_
        refine x_iload 291 4 hC dX8_tickets_289 rfl rfl ?_
        refine x_iadd 292 hC dX8_tickets_291 rfl ?_
        refine x_aload_n 293 0 hC dX8_tickets_292 rfl rfl rfl ?_
        refine x_get 296 0 3 hC in_X8_tickets_X8 rfl rfl (by decide) (List.mem_of_getElem? (i := 2) (by decide +kernel)) rfl rfl dX8_tickets_293 rfl ?_
        refine x_iload 298 4 hC dX8_tickets_296 rfl rfl ?_
        obtain ⟨h_2, hf⟩ := ck_e hf
        refine x_lald 299 1 1 hC rfl rfl h_2 dX8_tickets_298 rfl ?_
        obtain ⟨h_3, hf⟩ := ck_e hf
        obtain ⟨g_4, e_g_4, hf⟩ := nmx_e hf
        refine x_last 300 2 1 [(a_this, .inr (8, [.ref a_s, r_kept, .int v_undos, .ref a_known, .ref a_whose, r_lesser, r_other, .int v_open, r_sums, r_weights, r_row, r_plan, .int v_planned])), (a_known, .inl (cJ, 8, .inr (.inl k272_known))), (a_s, .inl (cJ, 613, .inr (.inl g_4))), (a_whose, .inl (cJ, 8, .inr (.inl k272_whose)))] hC rfl rfl h_3 e_g_4 rfl dX8_tickets_299 rfl ?_
        refine x_aload_n 301 0 hC dX8_tickets_300 rfl rfl rfl ?_
        refine x_get 304 0 0 hC in_X8_tickets_X8 rfl rfl (by decide) (List.mem_of_getElem? (i := 1) (by decide +kernel)) rfl rfl dX8_tickets_301 rfl ?_
        refine x_sipush 307 hC (133 : Int32) dX8_tickets_304 rfl (by decide) ?_
        refine x_iconst 308 hC (4 : Int32) dX8_tickets_307 rfl (by decide) ?_
        refine x_iload_n 309 1 hC dX8_tickets_308 rfl rfl rfl ?_
        refine x_imul 310 hC dX8_tickets_309 rfl ?_
        refine x_iadd 311 hC dX8_tickets_310 rfl ?_
        refine x_iload 313 4 hC dX8_tickets_311 rfl rfl ?_
        refine x_iadd 314 hC dX8_tickets_313 rfl ?_
        refine x_aload_n 315 0 hC dX8_tickets_314 rfl rfl rfl ?_
        refine x_get 318 0 4 hC in_X8_tickets_X8 rfl rfl (by decide) (List.mem_of_getElem? (i := 3) (by decide +kernel)) rfl rfl dX8_tickets_315 rfl ?_
        refine x_iload 320 4 hC dX8_tickets_318 rfl rfl ?_
        obtain ⟨h_5, hf⟩ := ck_e hf
        refine x_lald 321 3 1 hC rfl rfl h_5 dX8_tickets_320 rfl ?_
        obtain ⟨h_6, hf⟩ := ck_e hf
        obtain ⟨g_7, e_g_7, hf⟩ := nmx_e hf
        refine x_last 322 2 1 [(a_this, .inr (8, [.ref a_s, r_kept, .int v_undos, .ref a_known, .ref a_whose, r_lesser, r_other, .int v_open, r_sums, r_weights, r_row, r_plan, .int v_planned])), (a_known, .inl (cJ, 8, .inr (.inl k272_known))), (a_s, .inl (cJ, 613, .inr (.inl g_7))), (a_whose, .inl (cJ, 8, .inr (.inl k272_whose)))] hC rfl rfl h_6 e_g_7 rfl dX8_tickets_321 rfl ?_
        refine x_aload_n 323 0 hC dX8_tickets_322 rfl rfl rfl ?_
        refine x_get 326 0 0 hC in_X8_tickets_X8 rfl rfl (by decide) (List.mem_of_getElem? (i := 1) (by decide +kernel)) rfl rfl dX8_tickets_323 rfl ?_
        refine x_bipush 328 hC (93 : Int32) dX8_tickets_326 rfl (by decide) ?_
        refine x_iconst 329 hC (4 : Int32) dX8_tickets_328 rfl (by decide) ?_
        refine x_iload_n 330 2 hC dX8_tickets_329 rfl rfl rfl ?_
        refine x_imul 331 hC dX8_tickets_330 rfl ?_
        refine x_iadd 332 hC dX8_tickets_331 rfl ?_
        refine x_iload 334 4 hC dX8_tickets_332 rfl rfl ?_
        refine x_iadd 335 hC dX8_tickets_334 rfl ?_
        refine x_aload_n 336 0 hC dX8_tickets_335 rfl rfl rfl ?_
        refine x_get 339 0 3 hC in_X8_tickets_X8 rfl rfl (by decide) (List.mem_of_getElem? (i := 2) (by decide +kernel)) rfl rfl dX8_tickets_336 rfl ?_
        refine x_iload 341 4 hC dX8_tickets_339 rfl rfl ?_
        obtain ⟨h_8, hf⟩ := ck_e hf
        refine x_lald 342 1 1 hC rfl rfl h_8 dX8_tickets_341 rfl ?_
        obtain ⟨h_9, hf⟩ := ck_e hf
        obtain ⟨g_10, e_g_10, hf⟩ := nmx_e hf
        refine x_last 343 2 1 [(a_this, .inr (8, [.ref a_s, r_kept, .int v_undos, .ref a_known, .ref a_whose, r_lesser, r_other, .int v_open, r_sums, r_weights, r_row, r_plan, .int v_planned])), (a_known, .inl (cJ, 8, .inr (.inl k272_known))), (a_s, .inl (cJ, 613, .inr (.inl g_10))), (a_whose, .inl (cJ, 8, .inr (.inl k272_whose)))] hC rfl rfl h_9 e_g_10 rfl dX8_tickets_342 rfl ?_
        refine x_aload_n 344 0 hC dX8_tickets_343 rfl rfl rfl ?_
        refine x_get 347 0 0 hC in_X8_tickets_X8 rfl rfl (by decide) (List.mem_of_getElem? (i := 1) (by decide +kernel)) rfl rfl dX8_tickets_344 rfl ?_
        refine x_sipush 350 hC (133 : Int32) dX8_tickets_347 rfl (by decide) ?_
        refine x_iconst 351 hC (4 : Int32) dX8_tickets_350 rfl (by decide) ?_
        refine x_iload_n 352 2 hC dX8_tickets_351 rfl rfl rfl ?_
        refine x_imul 353 hC dX8_tickets_352 rfl ?_
        refine x_iadd 354 hC dX8_tickets_353 rfl ?_
        refine x_iload 356 4 hC dX8_tickets_354 rfl rfl ?_
        refine x_iadd 357 hC dX8_tickets_356 rfl ?_
        refine x_aload_n 358 0 hC dX8_tickets_357 rfl rfl rfl ?_
        refine x_get 361 0 4 hC in_X8_tickets_X8 rfl rfl (by decide) (List.mem_of_getElem? (i := 3) (by decide +kernel)) rfl rfl dX8_tickets_358 rfl ?_
        refine x_iload 363 4 hC dX8_tickets_361 rfl rfl ?_
        obtain ⟨h_11, hf⟩ := ck_e hf
        refine x_lald 364 3 1 hC rfl rfl h_11 dX8_tickets_363 rfl ?_
        obtain ⟨h_12, hf⟩ := ck_e hf
        obtain ⟨g_13, e_g_13, hf⟩ := nmx_e hf
        refine x_last 365 2 1 [(a_this, .inr (8, [.ref a_s, r_kept, .int v_undos, .ref a_known, .ref a_whose, r_lesser, r_other, .int v_open, r_sums, r_weights, r_row, r_plan, .int v_planned])), (a_known, .inl (cJ, 8, .inr (.inl k272_known))), (a_s, .inl (cJ, 613, .inr (.inl g_13))), (a_whose, .inl (cJ, 8, .inr (.inl k272_whose)))] hC rfl rfl h_12 e_g_13 rfl dX8_tickets_364 rfl ?_
        obtain ⟨x_14, e_x_14, hf⟩ := nmx_e hf
        refine x_iinc 368 4 [(5, .int x_14), (0, .ref a_this), (1, .int k272_l1), (2, .int k272_l2), (4, .int k272_l4)] hC dX8_tickets_365 rfl rfl e_x_14 (by decide) (by decide) rfl ?_
        refine x_goto 272 hC dX8_tickets_368 (by decide) ?_
        refine x_lv [(0, .ref a_this), (1, .int k272_l1), (2, .int k272_l2), (4, .int k272_l4), (5, .int x_14)] [1, 2, 3, 4, 0] rfl ?_
        exact ih_272 k272_known g_13 k272_whose k272_l1 k272_l2 k272_l4 x_14 hf
  have J_243 : ∀ (k243_known : Nat → Int64) (k243_s : Nat → Int64) (k243_whose : Nat → Int64) (k243_l1 : Int32) (k243_l2 : Int32) (k243_s0 : Int32), f_X8_tickets_c243 k243_known k243_s k243_whose k243_l1 k243_l2 k243_s0 = some R0 → XW p l e ({ frames := 2, cells := 0, slots := 0, locals := 86 } : Room) s m args below meth c D A 11 0 0 Q [(a_this, .inr (8, [.ref a_s, r_kept, .int v_undos, .ref a_known, .ref a_whose, r_lesser, r_other, .int v_open, r_sums, r_weights, r_row, r_plan, .int v_planned])), (a_known, .inl (cJ, 8, .inr (.inl k243_known))), (a_s, .inl (cJ, 613, .inr (.inl k243_s))), (a_whose, .inl (cJ, 8, .inr (.inl k243_whose)))] [] [(0, .ref a_this), (1, .int k243_l1), (2, .int k243_l2)] 243 [.int k243_s0] := by
    intro k243_known k243_s k243_whose k243_l1 k243_l2 k243_s0 hf
    unfold f_X8_tickets_c243 at hf
    refine x_istore 245 [(4, .int k243_s0), (0, .ref a_this), (1, .int k243_l1), (2, .int k243_l2)] hC dX8_tickets_243 rfl rfl (by decide) rfl ?_
    refine x_aload_n 246 1 hC dX8_tickets_245 rfl rfl rfl ?_
    refine x_get 249 0 0 hC in_X8_tickets_X8 rfl rfl (by decide) (List.mem_of_getElem? (i := 1) (by decide +kernel)) rfl rfl dX8_tickets_246 rfl ?_
    refine x_bipush 251 hC (83 : Int32) dX8_tickets_249 rfl (by decide) ?_
    refine x_iload_n 252 2 hC dX8_tickets_251 rfl rfl rfl ?_
    refine x_iadd 253 hC dX8_tickets_252 rfl ?_
    refine x_iload 255 0 hC dX8_tickets_253 rfl rfl ?_
    refine x_i2l 256 hC dX8_tickets_255 rfl ?_
    obtain ⟨h_15, hf⟩ := ck_e hf
    obtain ⟨g_16, e_g_16, hf⟩ := nmx_e hf
    refine x_last 257 2 1 [(a_this, .inr (8, [.ref a_s, r_kept, .int v_undos, .ref a_known, .ref a_whose, r_lesser, r_other, .int v_open, r_sums, r_weights, r_row, r_plan, .int v_planned])), (a_known, .inl (cJ, 8, .inr (.inl k243_known))), (a_s, .inl (cJ, 613, .inr (.inl g_16))), (a_whose, .inl (cJ, 8, .inr (.inl k243_whose)))] hC rfl rfl h_15 e_g_16 rfl dX8_tickets_256 rfl ?_
    refine x_aload_n 258 1 hC dX8_tickets_257 rfl rfl rfl ?_
    refine x_get 261 0 0 hC in_X8_tickets_X8 rfl rfl (by decide) (List.mem_of_getElem? (i := 1) (by decide +kernel)) rfl rfl dX8_tickets_258 rfl ?_
    refine x_bipush 263 hC (83 : Int32) dX8_tickets_261 rfl (by decide) ?_
    refine x_iload_n 264 3 hC dX8_tickets_263 rfl rfl rfl ?_
    refine x_iadd 265 hC dX8_tickets_264 rfl ?_
    refine x_iload 267 0 hC dX8_tickets_265 rfl rfl ?_
    refine x_i2l 268 hC dX8_tickets_267 rfl ?_
    obtain ⟨h_17, hf⟩ := ck_e hf
    obtain ⟨g_18, e_g_18, hf⟩ := nmx_e hf
    refine x_last 269 2 1 [(a_this, .inr (8, [.ref a_s, r_kept, .int v_undos, .ref a_known, .ref a_whose, r_lesser, r_other, .int v_open, r_sums, r_weights, r_row, r_plan, .int v_planned])), (a_known, .inl (cJ, 8, .inr (.inl k243_known))), (a_s, .inl (cJ, 613, .inr (.inl g_18))), (a_whose, .inl (cJ, 8, .inr (.inl k243_whose)))] hC rfl rfl h_17 e_g_18 rfl dX8_tickets_268 rfl ?_
    refine x_iconst 270 hC (0 : Int32) dX8_tickets_269 rfl (by decide) ?_
    refine x_istore 272 [(5, .int (0 : Int32)), (4, .int k243_s0), (0, .ref a_this), (1, .int k243_l1), (2, .int k243_l2)] hC dX8_tickets_270 rfl rfl (by decide) rfl ?_
    refine x_lv [(0, .ref a_this), (1, .int k243_l1), (2, .int k243_l2), (4, .int k243_s0), (5, .int (0 : Int32))] [2, 3, 4, 1, 0] rfl ?_
    exact J_272 fu k243_known g_18 k243_whose k243_l1 k243_l2 k243_s0 (0 : Int32) hf
  have J_5 : ∀ (n : Nat) (k5_known : Nat → Int64) (k5_s : Nat → Int64) (k5_whose : Nat → Int64) (k5_l1 : Int32) (k5_l2 : Int32) (k5_l3 : Int32) (k5_l4 : Int32), f_X8_tickets_c5 n k5_known k5_s k5_whose k5_l1 k5_l2 k5_l3 k5_l4 = some R0 → XW p l e ({ frames := 2, cells := 0, slots := 0, locals := 86 } : Room) s m args below meth c D A 11 0 0 Q [(a_this, .inr (8, [.ref a_s, r_kept, .int v_undos, .ref a_known, .ref a_whose, r_lesser, r_other, .int v_open, r_sums, r_weights, r_row, r_plan, .int v_planned])), (a_known, .inl (cJ, 8, .inr (.inl k5_known))), (a_s, .inl (cJ, 613, .inr (.inl k5_s))), (a_whose, .inl (cJ, 8, .inr (.inl k5_whose)))] [] [(0, .ref a_this), (1, .int k5_l1), (2, .int k5_l2), (3, .int k5_l3), (4, .int k5_l4)] 5 [] := by
    intro n
    induction n with
    | zero => intro k5_known k5_s k5_whose k5_l1 k5_l2 k5_l3 k5_l4 hf; exact nomatch (show (none : Option ((Nat → Int64) × (Nat → Int64) × (Nat → Int64))) = some R0 from hf)
    | succ n_5 ih_5 =>
      have J_227 : ∀ (k227_known : Nat → Int64) (k227_s : Nat → Int64) (k227_whose : Nat → Int64) (k227_l1 : Int32) (k227_l2 : Int32) (k227_l3 : Int32) (k227_l4 : Int32), f_X8_tickets_c227 (fun k5_known k5_s k5_whose k5_l1 k5_l2 k5_l3 k5_l4 => f_X8_tickets_c5 n_5 k5_known k5_s k5_whose k5_l1 k5_l2 k5_l3 k5_l4) k227_known k227_s k227_whose k227_l1 k227_l2 k227_l3 k227_l4 = some R0 → XW p l e ({ frames := 2, cells := 0, slots := 0, locals := 86 } : Room) s m args below meth c D A 11 0 0 Q [(a_this, .inr (8, [.ref a_s, r_kept, .int v_undos, .ref a_known, .ref a_whose, r_lesser, r_other, .int v_open, r_sums, r_weights, r_row, r_plan, .int v_planned])), (a_known, .inl (cJ, 8, .inr (.inl k227_known))), (a_s, .inl (cJ, 613, .inr (.inl k227_s))), (a_whose, .inl (cJ, 8, .inr (.inl k227_whose)))] [] [(0, .ref a_this), (1, .int k227_l1), (2, .int k227_l2), (3, .int k227_l3), (4, .int k227_l4)] 227 [] := by
        intro k227_known k227_s k227_whose k227_l1 k227_l2 k227_l3 k227_l4 hf
        unfold f_X8_tickets_c227 at hf
        obtain ⟨x_19, e_x_19, hf⟩ := nmx_e hf
        refine x_iinc 230 4 [(4, .int x_19), (0, .ref a_this), (1, .int k227_l1), (2, .int k227_l2), (3, .int k227_l3)] hC dX8_tickets_227 rfl rfl e_x_19 (by decide) (by decide) rfl ?_
        refine x_goto 5 hC dX8_tickets_230 (by decide) ?_
        refine x_lv [(0, .ref a_this), (1, .int k227_l1), (2, .int k227_l2), (3, .int k227_l3), (4, .int x_19)] [1, 2, 3, 4, 0] rfl ?_
        exact ih_5 k227_known k227_s k227_whose k227_l1 k227_l2 k227_l3 x_19 hf
      have J_206 : ∀ (k206_known : Nat → Int64) (k206_s : Nat → Int64) (k206_whose : Nat → Int64) (k206_l1 : Int32) (k206_l2 : Int32) (k206_l3 : Int32) (k206_l4 : Int32) (k206_l6 : Int32) (k206_l7 : Int64) (k206_l9 : Int64), f_X8_tickets_c206 (fun k5_known k5_s k5_whose k5_l1 k5_l2 k5_l3 k5_l4 => f_X8_tickets_c5 n_5 k5_known k5_s k5_whose k5_l1 k5_l2 k5_l3 k5_l4) k206_known k206_s k206_whose k206_l1 k206_l2 k206_l3 k206_l4 k206_l6 k206_l7 k206_l9 = some R0 → XW p l e ({ frames := 2, cells := 0, slots := 0, locals := 86 } : Room) s m args below meth c D A 11 0 0 Q [(a_this, .inr (8, [.ref a_s, r_kept, .int v_undos, .ref a_known, .ref a_whose, r_lesser, r_other, .int v_open, r_sums, r_weights, r_row, r_plan, .int v_planned])), (a_known, .inl (cJ, 8, .inr (.inl k206_known))), (a_s, .inl (cJ, 613, .inr (.inl k206_s))), (a_whose, .inl (cJ, 8, .inr (.inl k206_whose)))] [] [(0, .ref a_this), (1, .int k206_l1), (2, .int k206_l2), (3, .int k206_l3), (4, .int k206_l4), (6, .int k206_l6), (7, .long k206_l7), (9, .long k206_l9)] 206 [] := by
        intro k206_known k206_s k206_whose k206_l1 k206_l2 k206_l3 k206_l4 k206_l6 k206_l7 k206_l9 hf
        unfold f_X8_tickets_c206 at hf
        refine x_aload_n 207 0 hC dX8_tickets_206 rfl rfl rfl ?_
        refine x_get 210 0 3 hC in_X8_tickets_X8 rfl rfl (by decide) (List.mem_of_getElem? (i := 2) (by decide +kernel)) rfl rfl dX8_tickets_207 rfl ?_
        refine x_iload 212 5 hC dX8_tickets_210 rfl rfl ?_
        refine x_lload 214 6 hC dX8_tickets_212 rfl rfl ?_
        obtain ⟨h_20, hf⟩ := ck_e hf
        obtain ⟨g_21, e_g_21, hf⟩ := nmx_e hf
        refine x_last 215 1 1 [(a_this, .inr (8, [.ref a_s, r_kept, .int v_undos, .ref a_known, .ref a_whose, r_lesser, r_other, .int v_open, r_sums, r_weights, r_row, r_plan, .int v_planned])), (a_known, .inl (cJ, 8, .inr (.inl g_21))), (a_s, .inl (cJ, 613, .inr (.inl k206_s))), (a_whose, .inl (cJ, 8, .inr (.inl k206_whose)))] hC rfl rfl h_20 e_g_21 rfl dX8_tickets_214 rfl ?_
        refine x_aload_n 216 0 hC dX8_tickets_215 rfl rfl rfl ?_
        refine x_get 219 0 4 hC in_X8_tickets_X8 rfl rfl (by decide) (List.mem_of_getElem? (i := 3) (by decide +kernel)) rfl rfl dX8_tickets_216 rfl ?_
        refine x_iload 221 5 hC dX8_tickets_219 rfl rfl ?_
        refine x_lload 223 7 hC dX8_tickets_221 rfl rfl ?_
        obtain ⟨h_22, hf⟩ := ck_e hf
        obtain ⟨g_23, e_g_23, hf⟩ := nmx_e hf
        refine x_last 224 3 1 [(a_this, .inr (8, [.ref a_s, r_kept, .int v_undos, .ref a_known, .ref a_whose, r_lesser, r_other, .int v_open, r_sums, r_weights, r_row, r_plan, .int v_planned])), (a_known, .inl (cJ, 8, .inr (.inl g_21))), (a_s, .inl (cJ, 613, .inr (.inl k206_s))), (a_whose, .inl (cJ, 8, .inr (.inl g_23)))] hC rfl rfl h_22 e_g_23 rfl dX8_tickets_223 rfl ?_
        obtain ⟨x_24, e_x_24, hf⟩ := nmx_e hf
        refine x_iinc 227 3 [(3, .int x_24), (0, .ref a_this), (1, .int k206_l1), (2, .int k206_l2), (4, .int k206_l4), (6, .int k206_l6), (7, .long k206_l7), (9, .long k206_l9)] hC dX8_tickets_224 rfl rfl e_x_24 (by decide) (by decide) rfl ?_
        refine x_lv [(0, .ref a_this), (1, .int k206_l1), (2, .int k206_l2), (3, .int x_24), (4, .int k206_l4)] [1, 2, 3, 0, 4] rfl ?_
        exact J_227 g_21 k206_s g_23 k206_l1 k206_l2 x_24 k206_l4 hf
      have J_118 : ∀ (n : Nat) (k118_known : Nat → Int64) (k118_s : Nat → Int64) (k118_whose : Nat → Int64) (k118_l1 : Int32) (k118_l2 : Int32) (k118_l3 : Int32) (k118_l4 : Int32) (k118_l6 : Int32) (k118_l7 : Int64) (k118_l9 : Int64), f_X8_tickets_c118 (fun k5_known k5_s k5_whose k5_l1 k5_l2 k5_l3 k5_l4 => f_X8_tickets_c5 n_5 k5_known k5_s k5_whose k5_l1 k5_l2 k5_l3 k5_l4) n k118_known k118_s k118_whose k118_l1 k118_l2 k118_l3 k118_l4 k118_l6 k118_l7 k118_l9 = some R0 → XW p l e ({ frames := 2, cells := 0, slots := 0, locals := 86 } : Room) s m args below meth c D A 11 0 0 Q [(a_this, .inr (8, [.ref a_s, r_kept, .int v_undos, .ref a_known, .ref a_whose, r_lesser, r_other, .int v_open, r_sums, r_weights, r_row, r_plan, .int v_planned])), (a_known, .inl (cJ, 8, .inr (.inl k118_known))), (a_s, .inl (cJ, 613, .inr (.inl k118_s))), (a_whose, .inl (cJ, 8, .inr (.inl k118_whose)))] [] [(0, .ref a_this), (1, .int k118_l1), (2, .int k118_l2), (3, .int k118_l3), (4, .int k118_l4), (6, .int k118_l6), (7, .long k118_l7), (9, .long k118_l9)] 118 [] := by
        intro n
        induction n with
        | zero => intro k118_known k118_s k118_whose k118_l1 k118_l2 k118_l3 k118_l4 k118_l6 k118_l7 k118_l9 hf; exact nomatch (show (none : Option ((Nat → Int64) × (Nat → Int64) × (Nat → Int64))) = some R0 from hf)
        | succ n_118 ih_118 =>
          have J_168 : ∀ (k168_known : Nat → Int64) (k168_s : Nat → Int64) (k168_whose : Nat → Int64) (k168_l1 : Int32) (k168_l2 : Int32) (k168_l3 : Int32) (k168_l4 : Int32) (k168_l6 : Int32) (k168_l7 : Int64) (k168_l9 : Int64), f_X8_tickets_c168 (fun k5_known k5_s k5_whose k5_l1 k5_l2 k5_l3 k5_l4 => f_X8_tickets_c5 n_5 k5_known k5_s k5_whose k5_l1 k5_l2 k5_l3 k5_l4) (fun k118_known k118_s k118_whose k118_l1 k118_l2 k118_l3 k118_l4 k118_l6 k118_l7 k118_l9 => f_X8_tickets_c118 (fun k5_known k5_s k5_whose k5_l1 k5_l2 k5_l3 k5_l4 => f_X8_tickets_c5 n_5 k5_known k5_s k5_whose k5_l1 k5_l2 k5_l3 k5_l4) n_118 k118_known k118_s k118_whose k118_l1 k118_l2 k118_l3 k118_l4 k118_l6 k118_l7 k118_l9) k168_known k168_s k168_whose k168_l1 k168_l2 k168_l3 k168_l4 k168_l6 k168_l7 k168_l9 = some R0 → XW p l e ({ frames := 2, cells := 0, slots := 0, locals := 86 } : Room) s m args below meth c D A 11 0 0 Q [(a_this, .inr (8, [.ref a_s, r_kept, .int v_undos, .ref a_known, .ref a_whose, r_lesser, r_other, .int v_open, r_sums, r_weights, r_row, r_plan, .int v_planned])), (a_known, .inl (cJ, 8, .inr (.inl k168_known))), (a_s, .inl (cJ, 613, .inr (.inl k168_s))), (a_whose, .inl (cJ, 8, .inr (.inl k168_whose)))] [] [(0, .ref a_this), (1, .int k168_l1), (2, .int k168_l2), (3, .int k168_l3), (4, .int k168_l4), (6, .int k168_l6), (7, .long k168_l7), (9, .long k168_l9)] 168 [] := by
            intro k168_known k168_s k168_whose k168_l1 k168_l2 k168_l3 k168_l4 k168_l6 k168_l7 k168_l9 hf
            unfold f_X8_tickets_c168 at hf
            refine x_aload_n 169 0 hC dX8_tickets_168 rfl rfl rfl ?_
            refine x_get 172 0 3 hC in_X8_tickets_X8 rfl rfl (by decide) (List.mem_of_getElem? (i := 2) (by decide +kernel)) rfl rfl dX8_tickets_169 rfl ?_
            refine x_iload 174 5 hC dX8_tickets_172 rfl rfl ?_
            refine x_aload_n 175 0 hC dX8_tickets_174 rfl rfl rfl ?_
            refine x_get 178 0 3 hC in_X8_tickets_X8 rfl rfl (by decide) (List.mem_of_getElem? (i := 2) (by decide +kernel)) rfl rfl dX8_tickets_175 rfl ?_
            refine x_iload 180 5 hC dX8_tickets_178 rfl rfl ?_
            refine x_iconst 181 hC (1 : Int32) dX8_tickets_180 rfl (by decide) ?_
            refine x_isub 182 hC dX8_tickets_181 rfl ?_
            obtain ⟨h_25, hf⟩ := ck_e hf
            refine x_lald 183 1 1 hC rfl rfl h_25 dX8_tickets_182 rfl ?_
            obtain ⟨h_26, hf⟩ := ck_e hf
            obtain ⟨g_27, e_g_27, hf⟩ := nmx_e hf
            refine x_last 184 1 1 [(a_this, .inr (8, [.ref a_s, r_kept, .int v_undos, .ref a_known, .ref a_whose, r_lesser, r_other, .int v_open, r_sums, r_weights, r_row, r_plan, .int v_planned])), (a_known, .inl (cJ, 8, .inr (.inl g_27))), (a_s, .inl (cJ, 613, .inr (.inl k168_s))), (a_whose, .inl (cJ, 8, .inr (.inl k168_whose)))] hC rfl rfl h_26 e_g_27 rfl dX8_tickets_183 rfl ?_
            refine x_aload_n 185 0 hC dX8_tickets_184 rfl rfl rfl ?_
            refine x_get 188 0 4 hC in_X8_tickets_X8 rfl rfl (by decide) (List.mem_of_getElem? (i := 3) (by decide +kernel)) rfl rfl dX8_tickets_185 rfl ?_
            refine x_iload 190 5 hC dX8_tickets_188 rfl rfl ?_
            refine x_aload_n 191 0 hC dX8_tickets_190 rfl rfl rfl ?_
            refine x_get 194 0 4 hC in_X8_tickets_X8 rfl rfl (by decide) (List.mem_of_getElem? (i := 3) (by decide +kernel)) rfl rfl dX8_tickets_191 rfl ?_
            refine x_iload 196 5 hC dX8_tickets_194 rfl rfl ?_
            refine x_iconst 197 hC (1 : Int32) dX8_tickets_196 rfl (by decide) ?_
            refine x_isub 198 hC dX8_tickets_197 rfl ?_
            obtain ⟨h_28, hf⟩ := ck_e hf
            refine x_lald 199 3 1 hC rfl rfl h_28 dX8_tickets_198 rfl ?_
            obtain ⟨h_29, hf⟩ := ck_e hf
            obtain ⟨g_30, e_g_30, hf⟩ := nmx_e hf
            refine x_last 200 3 1 [(a_this, .inr (8, [.ref a_s, r_kept, .int v_undos, .ref a_known, .ref a_whose, r_lesser, r_other, .int v_open, r_sums, r_weights, r_row, r_plan, .int v_planned])), (a_known, .inl (cJ, 8, .inr (.inl g_27))), (a_s, .inl (cJ, 613, .inr (.inl k168_s))), (a_whose, .inl (cJ, 8, .inr (.inl g_30)))] hC rfl rfl h_29 e_g_30 rfl dX8_tickets_199 rfl ?_
            obtain ⟨x_31, e_x_31, hf⟩ := nmx_e hf
            refine x_iinc 203 5 [(6, .int x_31), (0, .ref a_this), (1, .int k168_l1), (2, .int k168_l2), (3, .int k168_l3), (4, .int k168_l4), (7, .long k168_l7), (9, .long k168_l9)] hC dX8_tickets_200 rfl rfl e_x_31 (by decide) (by decide) rfl ?_
            refine x_goto 118 hC dX8_tickets_203 (by decide) ?_
            refine x_lv [(0, .ref a_this), (1, .int k168_l1), (2, .int k168_l2), (3, .int k168_l3), (4, .int k168_l4), (6, .int x_31), (7, .long k168_l7), (9, .long k168_l9)] [1, 2, 3, 4, 5, 0, 6, 7] rfl ?_
            exact ih_118 g_27 k168_s g_30 k168_l1 k168_l2 k168_l3 k168_l4 x_31 k168_l7 k168_l9 hf
          intro k118_known k118_s k118_whose k118_l1 k118_l2 k118_l3 k118_l4 k118_l6 k118_l7 k118_l9 hf
          unfold f_X8_tickets_c118 at hf
          refine x_iload 120 5 hC dX8_tickets_118 rfl rfl ?_
          refine x_if_le 206 123 hC dX8_tickets_120 (by decide) rfl (fun c_32 => ?_) (fun c_32 => ?_)
          · have hf := if_t hf c_32
            refine x_lv [(0, .ref a_this), (1, .int k118_l1), (2, .int k118_l2), (3, .int k118_l3), (4, .int k118_l4), (6, .int k118_l6), (7, .long k118_l7), (9, .long k118_l9)] [0, 1, 2, 3, 4, 5, 6, 7] rfl ?_
            exact J_206 k118_known k118_s k118_whose k118_l1 k118_l2 k118_l3 k118_l4 k118_l6 k118_l7 k118_l9 hf
          · have hf := if_f hf c_32
            refine x_aload_n 124 0 hC dX8_tickets_123 rfl rfl rfl ?_
            refine x_get 127 0 3 hC in_X8_tickets_X8 rfl rfl (by decide) (List.mem_of_getElem? (i := 2) (by decide +kernel)) rfl rfl dX8_tickets_124 rfl ?_
            refine x_iload 129 5 hC dX8_tickets_127 rfl rfl ?_
            refine x_iconst 130 hC (1 : Int32) dX8_tickets_129 rfl (by decide) ?_
            refine x_isub 131 hC dX8_tickets_130 rfl ?_
            obtain ⟨h_33, hf⟩ := ck_e hf
            refine x_lald 132 1 1 hC rfl rfl h_33 dX8_tickets_131 rfl ?_
            refine x_lload 134 6 hC dX8_tickets_132 rfl rfl ?_
            refine x_lcmp_gt 168 138 hC dX8_tickets_134 dX8_tickets_135 (by decide) rfl (fun c_34 => ?_) (fun c_34 => ?_)
            · have hf := if_t hf c_34
              refine x_lv [(0, .ref a_this), (1, .int k118_l1), (2, .int k118_l2), (3, .int k118_l3), (4, .int k118_l4), (6, .int k118_l6), (7, .long k118_l7), (9, .long k118_l9)] [0, 1, 2, 3, 4, 5, 6, 7] rfl ?_
              exact J_168 k118_known k118_s k118_whose k118_l1 k118_l2 k118_l3 k118_l4 k118_l6 k118_l7 k118_l9 hf
            · have hf := if_f hf c_34
              refine x_aload_n 139 0 hC dX8_tickets_138 rfl rfl rfl ?_
              refine x_get 142 0 3 hC in_X8_tickets_X8 rfl rfl (by decide) (List.mem_of_getElem? (i := 2) (by decide +kernel)) rfl rfl dX8_tickets_139 rfl ?_
              refine x_iload 144 5 hC dX8_tickets_142 rfl rfl ?_
              refine x_iconst 145 hC (1 : Int32) dX8_tickets_144 rfl (by decide) ?_
              refine x_isub 146 hC dX8_tickets_145 rfl ?_
              obtain ⟨h_35, hf⟩ := ck_e hf
              refine x_lald 147 1 1 hC rfl rfl h_35 dX8_tickets_146 rfl ?_
              refine x_lload 149 6 hC dX8_tickets_147 rfl rfl ?_
              refine x_lcmp_ne 206 153 hC dX8_tickets_149 dX8_tickets_150 (by decide) rfl (fun c_36 => ?_) (fun c_36 => ?_)
              · have hf := if_t hf c_36
                refine x_lv [(0, .ref a_this), (1, .int k118_l1), (2, .int k118_l2), (3, .int k118_l3), (4, .int k118_l4), (6, .int k118_l6), (7, .long k118_l7), (9, .long k118_l9)] [0, 1, 2, 3, 4, 5, 6, 7] rfl ?_
                exact J_206 k118_known k118_s k118_whose k118_l1 k118_l2 k118_l3 k118_l4 k118_l6 k118_l7 k118_l9 hf
              · have hf := if_f hf c_36
                refine x_aload_n 154 0 hC dX8_tickets_153 rfl rfl rfl ?_
                refine x_get 157 0 4 hC in_X8_tickets_X8 rfl rfl (by decide) (List.mem_of_getElem? (i := 3) (by decide +kernel)) rfl rfl dX8_tickets_154 rfl ?_
                refine x_iload 159 5 hC dX8_tickets_157 rfl rfl ?_
                refine x_iconst 160 hC (1 : Int32) dX8_tickets_159 rfl (by decide) ?_
                refine x_isub 161 hC dX8_tickets_160 rfl ?_
                obtain ⟨h_37, hf⟩ := ck_e hf
                refine x_lald 162 3 1 hC rfl rfl h_37 dX8_tickets_161 rfl ?_
                refine x_lload 164 7 hC dX8_tickets_162 rfl rfl ?_
                refine x_lcmp_le 206 168 hC dX8_tickets_164 dX8_tickets_165 (by decide) rfl (fun c_38 => ?_) (fun c_38 => ?_)
                · have hf := if_t hf c_38
                  refine x_lv [(0, .ref a_this), (1, .int k118_l1), (2, .int k118_l2), (3, .int k118_l3), (4, .int k118_l4), (6, .int k118_l6), (7, .long k118_l7), (9, .long k118_l9)] [0, 1, 2, 3, 4, 5, 6, 7] rfl ?_
                  exact J_206 k118_known k118_s k118_whose k118_l1 k118_l2 k118_l3 k118_l4 k118_l6 k118_l7 k118_l9 hf
                · have hf := if_f hf c_38
                  refine x_lv [(0, .ref a_this), (1, .int k118_l1), (2, .int k118_l2), (3, .int k118_l3), (4, .int k118_l4), (6, .int k118_l6), (7, .long k118_l7), (9, .long k118_l9)] [0, 1, 2, 3, 4, 5, 6, 7] rfl ?_
                  exact J_168 k118_known k118_s k118_whose k118_l1 k118_l2 k118_l3 k118_l4 k118_l6 k118_l7 k118_l9 hf
      have J_76 : ∀ (k76_known : Nat → Int64) (k76_s : Nat → Int64) (k76_whose : Nat → Int64) (k76_l1 : Int32) (k76_l2 : Int32) (k76_l3 : Int32) (k76_l4 : Int32) (k76_l5 : Int32), f_X8_tickets_c76 (fun k5_known k5_s k5_whose k5_l1 k5_l2 k5_l3 k5_l4 => f_X8_tickets_c5 n_5 k5_known k5_s k5_whose k5_l1 k5_l2 k5_l3 k5_l4) k76_known k76_s k76_whose k76_l1 k76_l2 k76_l3 k76_l4 k76_l5 = some R0 → XW p l e ({ frames := 2, cells := 0, slots := 0, locals := 86 } : Room) s m args below meth c D A 11 0 0 Q [(a_this, .inr (8, [.ref a_s, r_kept, .int v_undos, .ref a_known, .ref a_whose, r_lesser, r_other, .int v_open, r_sums, r_weights, r_row, r_plan, .int v_planned])), (a_known, .inl (cJ, 8, .inr (.inl k76_known))), (a_s, .inl (cJ, 613, .inr (.inl k76_s))), (a_whose, .inl (cJ, 8, .inr (.inl k76_whose)))] [] [(0, .ref a_this), (1, .int k76_l1), (2, .int k76_l2), (3, .int k76_l3), (4, .int k76_l4), (5, .int k76_l5)] 76 [] := by
        intro k76_known k76_s k76_whose k76_l1 k76_l2 k76_l3 k76_l4 k76_l5 hf
        unfold f_X8_tickets_c76 at hf
        refine x_iload_n 77 3 hC dX8_tickets_76 rfl rfl rfl ?_
        refine x_istore 79 [(6, .int k76_l3), (0, .ref a_this), (1, .int k76_l1), (2, .int k76_l2), (3, .int k76_l3), (4, .int k76_l4), (5, .int k76_l5)] hC dX8_tickets_77 rfl rfl (by decide) rfl ?_
        refine x_aload_n 80 1 hC dX8_tickets_79 rfl rfl rfl ?_
        refine x_get 83 0 0 hC in_X8_tickets_X8 rfl rfl (by decide) (List.mem_of_getElem? (i := 1) (by decide +kernel)) rfl rfl dX8_tickets_80 rfl ?_
        refine x_bipush 85 hC (93 : Int32) dX8_tickets_83 rfl (by decide) ?_
        refine x_iconst 86 hC (4 : Int32) dX8_tickets_85 rfl (by decide) ?_
        refine x_iload 88 6 hC dX8_tickets_86 rfl rfl ?_
        refine x_imul 89 hC dX8_tickets_88 rfl ?_
        refine x_iadd 90 hC dX8_tickets_89 rfl ?_
        refine x_iload 92 5 hC dX8_tickets_90 rfl rfl ?_
        refine x_iconst 93 hC (4 : Int32) dX8_tickets_92 rfl (by decide) ?_
        obtain ⟨h_39, hf⟩ := ckp_e hf
        refine x_irem 94 hC dX8_tickets_93 rfl h_39 ?_
        refine x_iadd 95 hC dX8_tickets_94 rfl ?_
        obtain ⟨h_40, hf⟩ := ck_e hf
        refine x_lald 96 2 1 hC rfl rfl h_40 dX8_tickets_95 rfl ?_
        obtain ⟨x_41, e_x_41, hf⟩ := nmx_e hf
        refine x_lstore 98 [(7, .long x_41), (6, .int k76_l3), (0, .ref a_this), (1, .int k76_l1), (2, .int k76_l2), (3, .int k76_l3), (4, .int k76_l4), (5, .int k76_l5)] hC dX8_tickets_96 rfl e_x_41 (by decide) rfl ?_
        refine x_aload_n 99 2 hC dX8_tickets_98 rfl rfl rfl ?_
        refine x_get 102 0 0 hC in_X8_tickets_X8 rfl rfl (by decide) (List.mem_of_getElem? (i := 1) (by decide +kernel)) rfl rfl dX8_tickets_99 rfl ?_
        refine x_sipush 105 hC (133 : Int32) dX8_tickets_102 rfl (by decide) ?_
        refine x_iconst 106 hC (4 : Int32) dX8_tickets_105 rfl (by decide) ?_
        refine x_iload 108 7 hC dX8_tickets_106 rfl rfl ?_
        refine x_imul 109 hC dX8_tickets_108 rfl ?_
        refine x_iadd 110 hC dX8_tickets_109 rfl ?_
        refine x_iload 112 6 hC dX8_tickets_110 rfl rfl ?_
        refine x_iconst 113 hC (4 : Int32) dX8_tickets_112 rfl (by decide) ?_
        obtain ⟨h_42, hf⟩ := ckp_e hf
        refine x_irem 114 hC dX8_tickets_113 rfl h_42 ?_
        refine x_iadd 115 hC dX8_tickets_114 rfl ?_
        obtain ⟨h_43, hf⟩ := ck_e hf
        refine x_lald 116 2 1 hC rfl rfl h_43 dX8_tickets_115 rfl ?_
        obtain ⟨x_44, e_x_44, hf⟩ := nmx_e hf
        refine x_lstore 118 [(9, .long x_44), (7, .long x_41), (6, .int k76_l3), (0, .ref a_this), (1, .int k76_l1), (2, .int k76_l2), (3, .int k76_l3), (4, .int k76_l4), (5, .int k76_l5)] hC dX8_tickets_116 rfl e_x_44 (by decide) rfl ?_
        refine x_lv [(0, .ref a_this), (1, .int k76_l1), (2, .int k76_l2), (3, .int k76_l3), (4, .int k76_l4), (6, .int k76_l3), (7, .long x_41), (9, .long x_44)] [3, 4, 5, 6, 7, 2, 1, 0] rfl ?_
        exact J_118 fu k76_known k76_s k76_whose k76_l1 k76_l2 k76_l3 k76_l4 k76_l3 x_41 x_44 hf
      have J_23 : ∀ (k23_known : Nat → Int64) (k23_s : Nat → Int64) (k23_whose : Nat → Int64) (k23_l1 : Int32) (k23_l2 : Int32) (k23_l3 : Int32) (k23_l4 : Int32) (k23_s0 : Int32), f_X8_tickets_c23 (fun k5_known k5_s k5_whose k5_l1 k5_l2 k5_l3 k5_l4 => f_X8_tickets_c5 n_5 k5_known k5_s k5_whose k5_l1 k5_l2 k5_l3 k5_l4) k23_known k23_s k23_whose k23_l1 k23_l2 k23_l3 k23_l4 k23_s0 = some R0 → XW p l e ({ frames := 2, cells := 0, slots := 0, locals := 86 } : Room) s m args below meth c D A 11 0 0 Q [(a_this, .inr (8, [.ref a_s, r_kept, .int v_undos, .ref a_known, .ref a_whose, r_lesser, r_other, .int v_open, r_sums, r_weights, r_row, r_plan, .int v_planned])), (a_known, .inl (cJ, 8, .inr (.inl k23_known))), (a_s, .inl (cJ, 613, .inr (.inl k23_s))), (a_whose, .inl (cJ, 8, .inr (.inl k23_whose)))] [] [(0, .ref a_this), (1, .int k23_l1), (2, .int k23_l2), (3, .int k23_l3), (4, .int k23_l4)] 23 [.int k23_s0] := by
        intro k23_known k23_s k23_whose k23_l1 k23_l2 k23_l3 k23_l4 k23_s0 hf
        unfold f_X8_tickets_c23 at hf
        refine x_istore 25 [(5, .int k23_s0), (0, .ref a_this), (1, .int k23_l1), (2, .int k23_l2), (3, .int k23_l3), (4, .int k23_l4)] hC dX8_tickets_23 rfl rfl (by decide) rfl ?_
        refine x_iload 27 5 hC dX8_tickets_25 rfl rfl ?_
        refine x_iconst 28 hC (4 : Int32) dX8_tickets_27 rfl (by decide) ?_
        obtain ⟨h_45, hf⟩ := ckp_e hf
        refine x_irem 29 hC dX8_tickets_28 rfl h_45 ?_
        refine x_i2l 30 hC dX8_tickets_29 rfl ?_
        refine x_aload_n 31 1 hC dX8_tickets_30 rfl rfl rfl ?_
        refine x_get 34 0 0 hC in_X8_tickets_X8 rfl rfl (by decide) (List.mem_of_getElem? (i := 1) (by decide +kernel)) rfl rfl dX8_tickets_31 rfl ?_
        refine x_bipush 36 hC (83 : Int32) dX8_tickets_34 rfl (by decide) ?_
        refine x_iload 38 0 hC dX8_tickets_36 rfl rfl ?_
        refine x_iadd 39 hC dX8_tickets_38 rfl ?_
        obtain ⟨h_46, hf⟩ := ck_e hf
        refine x_lald 40 2 1 hC rfl rfl h_46 dX8_tickets_39 rfl ?_
        refine x_lcmp_ge 227 44 hC dX8_tickets_40 dX8_tickets_41 (by decide) rfl (fun c_47 => ?_) (fun c_47 => ?_)
        · have hf := if_t hf c_47
          refine x_lv [(0, .ref a_this), (1, .int k23_l1), (2, .int k23_l2), (3, .int k23_l3), (4, .int k23_l4)] [1, 2, 3, 4, 5] rfl ?_
          exact J_227 k23_known k23_s k23_whose k23_l1 k23_l2 k23_l3 k23_l4 hf
        · have hf := if_f hf c_47
          refine x_iload 46 5 hC dX8_tickets_44 rfl rfl ?_
          refine x_iconst 47 hC (4 : Int32) dX8_tickets_46 rfl (by decide) ?_
          refine x_icmp_lt 76 50 hC dX8_tickets_47 (by decide) rfl (fun c_48 => ?_) (fun c_48 => ?_)
          · have hf := if_t hf c_48
            refine x_lv [(0, .ref a_this), (1, .int k23_l1), (2, .int k23_l2), (3, .int k23_l3), (4, .int k23_l4), (5, .int k23_s0)] [1, 2, 3, 4, 5, 0] rfl ?_
            exact J_76 k23_known k23_s k23_whose k23_l1 k23_l2 k23_l3 k23_l4 k23_s0 hf
          · have hf := if_f hf c_48
            refine x_aload_n 51 1 hC dX8_tickets_50 rfl rfl rfl ?_
            refine x_iload_n 52 2 hC dX8_tickets_51 rfl rfl rfl ?_
            refine x_aload_n 53 1 hC dX8_tickets_52 rfl rfl rfl ?_
            refine x_get 56 0 0 hC in_X8_tickets_X8 rfl rfl (by decide) (List.mem_of_getElem? (i := 1) (by decide +kernel)) rfl rfl dX8_tickets_53 rfl ?_
            refine x_sipush 59 hC (133 : Int32) dX8_tickets_56 rfl (by decide) ?_
            refine x_iconst 60 hC (4 : Int32) dX8_tickets_59 rfl (by decide) ?_
            refine x_iload 62 0 hC dX8_tickets_60 rfl rfl ?_
            refine x_imul 63 hC dX8_tickets_62 rfl ?_
            refine x_iadd 64 hC dX8_tickets_63 rfl ?_
            refine x_iload 66 5 hC dX8_tickets_64 rfl rfl ?_
            refine x_iconst 67 hC (4 : Int32) dX8_tickets_66 rfl (by decide) ?_
            obtain ⟨h_49, hf⟩ := ckp_e hf
            refine x_irem 68 hC dX8_tickets_67 rfl h_49 ?_
            refine x_iadd 69 hC dX8_tickets_68 rfl ?_
            obtain ⟨h_50, hf⟩ := ck_e hf
            refine x_lald 70 2 1 hC rfl rfl h_50 dX8_tickets_69 rfl ?_
            obtain ⟨R_51, h_R_51, hf⟩ := bd_e hf
            refine x_callVi 73 0 2 [0, 2] [(a_this, .inr (8, [.ref a_s, r_kept, .int v_undos, .ref a_known, .ref a_whose, r_lesser, r_other, .int v_open, r_sums, r_weights, r_row, r_plan, .int v_planned])), (a_known, .inl (cJ, 8, .inr (.inl k23_known))), (a_s, .inl (cJ, 613, .inr (.inl k23_s))), (a_whose, .inl (cJ, 8, .inr (.inl k23_whose)))] hC (As := [.int k23_l1, .long (k23_s (((133 : Int32) + ((4 : Int32) * k23_s0)) + (k23_l4 - k23_l4 / (4 : Int32) * (4 : Int32))).toNatClampNeg)]) (c_X8_knows l D cI cJ cQ a_this a_s r_kept (.ref a_known) (.ref a_whose) r_lesser r_other r_sums r_weights r_row r_plan v_undos v_open v_planned k23_s k23_l1 (k23_s (((133 : Int32) + ((4 : Int32) * k23_s0)) + (k23_l4 - k23_l4 / (4 : Int32) * (4 : Int32))).toNatClampNeg) R_51 h_R_51) rfl rfl gX8_tickets_X8_knows rfl ⟨rfl, rfl⟩ hd_X8_knows ⟨Nat.le_of_ble_eq_true rfl, Nat.le_of_ble_eq_true rfl⟩ rfl rfl rfl rfl rfl rfl (Nat.le_of_ble_eq_true rfl) ⟨Nat.le_of_ble_eq_true rfl, Nat.le_of_ble_eq_true rfl⟩ dX8_tickets_70 rfl ?_
            refine x_if_ne 227 76 hC dX8_tickets_73 (by decide) rfl (fun c_52 => ?_) (fun c_52 => ?_)
            · have hf := if_t hf c_52
              refine x_lv [(0, .ref a_this), (1, .int k23_l1), (2, .int k23_l2), (3, .int k23_l3), (4, .int k23_l4)] [1, 2, 3, 4, 5] rfl ?_
              exact J_227 k23_known k23_s k23_whose k23_l1 k23_l2 k23_l3 k23_l4 hf
            · have hf := if_f hf c_52
              refine x_lv [(0, .ref a_this), (1, .int k23_l1), (2, .int k23_l2), (3, .int k23_l3), (4, .int k23_l4), (5, .int k23_s0)] [1, 2, 3, 4, 5, 0] rfl ?_
              exact J_76 k23_known k23_s k23_whose k23_l1 k23_l2 k23_l3 k23_l4 k23_s0 hf
      intro k5_known k5_s k5_whose k5_l1 k5_l2 k5_l3 k5_l4 hf
      unfold f_X8_tickets_c5 at hf
      refine x_iload 7 4 hC dX8_tickets_5 rfl rfl ?_
      refine x_bipush 9 hC (8 : Int32) dX8_tickets_7 rfl (by decide) ?_
      refine x_icmp_ge 233 12 hC dX8_tickets_9 (by decide) rfl (fun c_53 => ?_) (fun c_53 => ?_)
      · have hf := if_t hf c_53
        refine x_iload_n 234 3 hC dX8_tickets_233 rfl rfl rfl ?_
        refine x_iconst 235 hC (4 : Int32) dX8_tickets_234 rfl (by decide) ?_
        refine x_icmp_ge 242 238 hC dX8_tickets_235 (by decide) rfl (fun c_54 => ?_) (fun c_54 => ?_)
        · have hf := if_t hf c_54
          refine x_iconst 243 hC (4 : Int32) dX8_tickets_242 rfl (by decide) ?_
          refine x_lv [(0, .ref a_this), (1, .int k5_l1), (2, .int k5_l2)] [0, 1, 2] rfl ?_
          exact J_243 k5_known k5_s k5_whose k5_l1 k5_l2 (4 : Int32) hf
        · have hf := if_f hf c_54
          refine x_iload_n 239 3 hC dX8_tickets_238 rfl rfl rfl ?_
          refine x_goto 243 hC dX8_tickets_239 (by decide) ?_
          refine x_lv [(0, .ref a_this), (1, .int k5_l1), (2, .int k5_l2)] [0, 1, 2] rfl ?_
          exact J_243 k5_known k5_s k5_whose k5_l1 k5_l2 k5_l3 hf
      · have hf := if_f hf c_53
        refine x_iload 14 4 hC dX8_tickets_12 rfl rfl ?_
        refine x_iconst 15 hC (4 : Int32) dX8_tickets_14 rfl (by decide) ?_
        refine x_icmp_ge 22 18 hC dX8_tickets_15 (by decide) rfl (fun c_55 => ?_) (fun c_55 => ?_)
        · have hf := if_t hf c_55
          refine x_iload_n 23 2 hC dX8_tickets_22 rfl rfl rfl ?_
          refine x_lv [(0, .ref a_this), (1, .int k5_l1), (2, .int k5_l2), (3, .int k5_l3), (4, .int k5_l4)] [0, 1, 2, 3, 4] rfl ?_
          exact J_23 k5_known k5_s k5_whose k5_l1 k5_l2 k5_l3 k5_l4 k5_l2 hf
        · have hf := if_f hf c_55
          refine x_iload_n 19 1 hC dX8_tickets_18 rfl rfl rfl ?_
          refine x_goto 23 hC dX8_tickets_19 (by decide) ?_
          refine x_lv [(0, .ref a_this), (1, .int k5_l1), (2, .int k5_l2), (3, .int k5_l3), (4, .int k5_l4)] [0, 1, 2, 3, 4] rfl ?_
          exact J_23 k5_known k5_s k5_whose k5_l1 k5_l2 k5_l3 k5_l4 k5_l1 hf
  unfold f_X8_tickets at hf
  refine x_iconst 1 hC (0 : Int32) dX8_tickets_0 rfl (by decide) ?_
  refine x_istore_n 2 [(3, .int (0 : Int32)), (0, .ref a_this), (1, .int p1), (2, .int p2)] hC dX8_tickets_1 rfl rfl rfl (by decide) rfl ?_
  refine x_iconst 3 hC (0 : Int32) dX8_tickets_2 rfl (by decide) ?_
  refine x_istore 5 [(4, .int (0 : Int32)), (3, .int (0 : Int32)), (0, .ref a_this), (1, .int p1), (2, .int p2)] hC dX8_tickets_3 rfl rfl (by decide) rfl ?_
  refine x_lv [(0, .ref a_this), (1, .int p1), (2, .int p2), (3, .int (0 : Int32)), (4, .int (0 : Int32))] [2, 3, 4, 1, 0] rfl ?_
  exact J_5 fu v_known v_s v_whose p1 p2 (0 : Int32) (0 : Int32) hf

theorem hd_X8_talks : yX8_talks.cls = RX8 ∧ yX8_talks.cls ≠ "java/lang/invoke/MethodHandle" ∧ yX8_talks.cls ≠ "java/lang/invoke/VarHandle" ∧ (parseMethodDescriptor yX8_talks.desc).map (fun d => d.parameters.length) = some 3 := by decide +kernel
theorem in_X8_talks_X8 : ∀ w ∈ u_ws RX8 TX8 13, w ∈ wsX8_talks := fun w h => List.mem_cons_of_mem _ (List.mem_append_right _ h)
noncomputable def f_X8_talks (v_known : Nat → Int64) (v_s : Nat → Int64) (v_whose : Nat → Int64) (p1 : Int32) (p2 : Int32) (p3 : Int32) : Option ((Nat → Int64) × (Nat → Int64) × (Nat → Int64)) := ck (2 : Int32) 613 <| ck (2 : Int32) 613 <| nm (vp_updL v_s (2 : Int32).toNatClampNeg ((v_s (2 : Int32).toNatClampNeg) + (1 : Int64))) fun g_3 => if ¬ p1 = 0 then (if ¬ p1 = (1 : Int32) then (bd (f_X8_tickets v_known g_3 v_whose p2 p3) fun R_6 => some (R_6.1, R_6.2.1, R_6.2.2)) else (bd (f_X8_great g_3 p2 p3) fun R_7 => some (v_known, R_7, v_whose))) else (bd (f_X8_even g_3 p2 p3) fun R_8 => some (v_known, R_8, v_whose))
set_option maxHeartbeats 4000000 in
set_option maxRecDepth 100000 in
theorem c_X8_talks (l : Launch) (D : va_G) (cI cJ cQ : ClassId) (a_this : Nat) (a_known : Nat) (a_s : Nat) (a_whose : Nat) (r_kept : Value) (r_lesser : Value) (r_other : Value) (r_sums : Value) (r_weights : Value) (r_row : Value) (r_plan : Value) (v_undos : Int32) (v_open : Int32) (v_planned : Int32) (v_known : Nat → Int64) (v_s : Nat → Int64) (v_whose : Nat → Int64) (p1 : Int32) (p2 : Int32) (p3 : Int32) (R0 : (Nat → Int64) × (Nat → Int64) × (Nat → Int64)) (hf : f_X8_talks v_known v_s v_whose p1 p2 p3 = some R0) : Cv l yX8_talks wsX8_talks ({ frames := 3, cells := 0, slots := 0, locals := 118 } : Room) D [(cI, .int), (cJ, .long), (cQ, .object "WhisperCrowd$State")] [.ref a_this, .int p1, .int p2, .int p3] [(a_this, .inr (8, [.ref a_s, r_kept, .int v_undos, .ref a_known, .ref a_whose, r_lesser, r_other, .int v_open, r_sums, r_weights, r_row, r_plan, .int v_planned])), (a_known, .inl (cJ, 8, .inr (.inl v_known))), (a_s, .inl (cJ, 613, .inr (.inl v_s))), (a_whose, .inl (cJ, 8, .inr (.inl v_whose)))] [(a_this, .inr (8, [.ref a_s, r_kept, .int v_undos, .ref a_known, .ref a_whose, r_lesser, r_other, .int v_open, r_sums, r_weights, r_row, r_plan, .int v_planned])), (a_known, .inl (cJ, 8, .inr (.inl R0.1))), (a_s, .inl (cJ, 613, .inr (.inl R0.2.1))), (a_whose, .inl (cJ, 8, .inr (.inl R0.2.2)))] := by
  refine x_entv (cc := cX8_talks) (maxL := 4) (rt := none) (lv := [(0, .ref a_this), (1, .int p1), (2, .int p2), (3, .int p3)]) (by decide) rfl (Nat.le_of_ble_eq_true rfl) rfl ?_
  intro p e s m args below meth c A Q hQ hC
  unfold f_X8_talks at hf
  refine x_aload_n 1 0 hC dX8_talks_0 rfl rfl rfl ?_
  refine x_get 4 0 0 hC in_X8_talks_X8 rfl rfl (by decide) (List.mem_of_getElem? (i := 1) (by decide +kernel)) rfl rfl dX8_talks_1 rfl ?_
  refine x_iconst 5 hC (2 : Int32) dX8_talks_4 rfl (by decide) ?_
  refine x_dup2_11 6 hC dX8_talks_5 rfl rfl rfl ?_
  obtain ⟨h_1, hf⟩ := ck_e hf
  refine x_lald 7 2 1 hC rfl rfl h_1 dX8_talks_6 rfl ?_
  refine x_lconst 8 hC (1 : Int64) dX8_talks_7 rfl (by decide) ?_
  refine x_ladd 9 hC dX8_talks_8 rfl ?_
  obtain ⟨h_2, hf⟩ := ck_e hf
  obtain ⟨g_3, e_g_3, hf⟩ := nmx_e hf
  refine x_last 10 2 1 [(a_this, .inr (8, [.ref a_s, r_kept, .int v_undos, .ref a_known, .ref a_whose, r_lesser, r_other, .int v_open, r_sums, r_weights, r_row, r_plan, .int v_planned])), (a_known, .inl (cJ, 8, .inr (.inl v_known))), (a_s, .inl (cJ, 613, .inr (.inl g_3))), (a_whose, .inl (cJ, 8, .inr (.inl v_whose)))] hC rfl rfl h_2 e_g_3 rfl dX8_talks_9 rfl ?_
  refine x_iload_n 11 1 hC dX8_talks_10 rfl rfl rfl ?_
  refine x_if_ne 23 14 hC dX8_talks_11 (by decide) rfl (fun c_4 => ?_) (fun c_4 => ?_)
  · have hf := if_t hf c_4
    refine x_iload_n 24 1 hC dX8_talks_23 rfl rfl rfl ?_
    refine x_iconst 25 hC (1 : Int32) dX8_talks_24 rfl (by decide) ?_
    refine x_icmp_ne 37 28 hC dX8_talks_25 (by decide) rfl (fun c_5 => ?_) (fun c_5 => ?_)
    · have hf := if_t hf c_5
      refine x_aload_n 38 0 hC dX8_talks_37 rfl rfl rfl ?_
      refine x_iload_n 39 2 hC dX8_talks_38 rfl rfl rfl ?_
      refine x_iload_n 40 3 hC dX8_talks_39 rfl rfl rfl ?_
      obtain ⟨R_6, h_R_6, hf⟩ := bd_e hf
      refine x_callVv 43 0 2 [0, 1, 2, 3] [(a_this, .inr (8, [.ref a_s, r_kept, .int v_undos, .ref a_known, .ref a_whose, r_lesser, r_other, .int v_open, r_sums, r_weights, r_row, r_plan, .int v_planned])), (a_known, .inl (cJ, 8, .inr (.inl R_6.1))), (a_s, .inl (cJ, 613, .inr (.inl R_6.2.1))), (a_whose, .inl (cJ, 8, .inr (.inl R_6.2.2)))] hC (As := [.int p2, .int p3]) (c_X8_tickets l D cI cJ cQ a_this a_known a_s a_whose r_kept r_lesser r_other r_sums r_weights r_row r_plan v_undos v_open v_planned v_known g_3 v_whose p2 p3 R_6 h_R_6) rfl rfl gX8_talks_X8_tickets rfl ⟨rfl, rfl⟩ hd_X8_tickets ⟨Nat.le_of_ble_eq_true rfl, Nat.le_of_ble_eq_true rfl⟩ rfl rfl rfl rfl rfl rfl (Nat.le_of_ble_eq_true rfl) ⟨Nat.le_of_ble_eq_true rfl, Nat.le_of_ble_eq_true rfl⟩ dX8_talks_40 rfl ?_
      cases hf
      exact x_vret hC dX8_talks_43 hQ rfl
    · have hf := if_f hf c_5
      refine x_aload_n 29 0 hC dX8_talks_28 rfl rfl rfl ?_
      refine x_iload_n 30 2 hC dX8_talks_29 rfl rfl rfl ?_
      refine x_iload_n 31 3 hC dX8_talks_30 rfl rfl rfl ?_
      obtain ⟨R_7, h_R_7, hf⟩ := bd_e hf
      refine x_callVv 34 0 2 [0, 2] [(a_this, .inr (8, [.ref a_s, r_kept, .int v_undos, .ref a_known, .ref a_whose, r_lesser, r_other, .int v_open, r_sums, r_weights, r_row, r_plan, .int v_planned])), (a_known, .inl (cJ, 8, .inr (.inl v_known))), (a_s, .inl (cJ, 613, .inr (.inl R_7))), (a_whose, .inl (cJ, 8, .inr (.inl v_whose)))] hC (As := [.int p2, .int p3]) (c_X8_great l D cI cJ cQ a_this a_s r_kept (.ref a_known) (.ref a_whose) r_lesser r_other r_sums r_weights r_row r_plan v_undos v_open v_planned g_3 p2 p3 R_7 h_R_7) rfl rfl gX8_talks_X8_great rfl ⟨rfl, rfl⟩ hd_X8_great ⟨Nat.le_of_ble_eq_true rfl, Nat.le_of_ble_eq_true rfl⟩ rfl rfl rfl rfl rfl rfl (Nat.le_of_ble_eq_true rfl) ⟨Nat.le_of_ble_eq_true rfl, Nat.le_of_ble_eq_true rfl⟩ dX8_talks_31 rfl ?_
      refine x_goto 43 hC dX8_talks_34 (by decide) ?_
      cases hf
      exact x_vret hC dX8_talks_43 hQ rfl
  · have hf := if_f hf c_4
    refine x_aload_n 15 0 hC dX8_talks_14 rfl rfl rfl ?_
    refine x_iload_n 16 2 hC dX8_talks_15 rfl rfl rfl ?_
    refine x_iload_n 17 3 hC dX8_talks_16 rfl rfl rfl ?_
    obtain ⟨R_8, h_R_8, hf⟩ := bd_e hf
    refine x_callVv 20 0 2 [0, 2] [(a_this, .inr (8, [.ref a_s, r_kept, .int v_undos, .ref a_known, .ref a_whose, r_lesser, r_other, .int v_open, r_sums, r_weights, r_row, r_plan, .int v_planned])), (a_known, .inl (cJ, 8, .inr (.inl v_known))), (a_s, .inl (cJ, 613, .inr (.inl R_8))), (a_whose, .inl (cJ, 8, .inr (.inl v_whose)))] hC (As := [.int p2, .int p3]) (c_X8_even l D cI cJ cQ a_this a_s r_kept (.ref a_known) (.ref a_whose) r_lesser r_other r_sums r_weights r_row r_plan v_undos v_open v_planned g_3 p2 p3 R_8 h_R_8) rfl rfl gX8_talks_X8_even rfl ⟨rfl, rfl⟩ hd_X8_even ⟨Nat.le_of_ble_eq_true rfl, Nat.le_of_ble_eq_true rfl⟩ rfl rfl rfl rfl rfl rfl (Nat.le_of_ble_eq_true rfl) ⟨Nat.le_of_ble_eq_true rfl, Nat.le_of_ble_eq_true rfl⟩ dX8_talks_17 rfl ?_
    refine x_goto 43 hC dX8_talks_20 (by decide) ?_
    cases hf
    exact x_vret hC dX8_talks_43 hQ rfl

theorem hd_X8_talk : yX8_talk.cls = RX8 ∧ yX8_talk.cls ≠ "java/lang/invoke/MethodHandle" ∧ yX8_talk.cls ≠ "java/lang/invoke/VarHandle" ∧ (parseMethodDescriptor yX8_talk.desc).map (fun d => d.parameters.length) = some 3 := by decide +kernel
noncomputable def f_X8_talk (v_undos : Int32) (v_kept : Nat → Int64) (v_known : Nat → Int64) (v_s : Nat → Int64) (v_whose : Nat → Int64) (p1 : Int32) (p2 : Int32) (p3 : Int32) : Option (Int32 × (Nat → Int64) × (Nat → Int64) × (Nat → Int64) × (Nat → Int64) × Int32) := bd (f_X8_in (p1.toInt64) (0 : Int64) (2 : Int64)) fun R_1 => if R_1 = 0 then (some (v_undos, v_kept, v_known, v_s, v_whose, (-1 : Int32))) else (bd (f_X8_isHere v_s p2) fun R_3 => if R_3 = 0 then (some (v_undos, v_kept, v_known, v_s, v_whose, (-1 : Int32))) else (bd (f_X8_isHere v_s p3) fun R_5 => if ¬ R_5 = 0 then (bd (f_X8_areJoined v_s p2 p3) fun R_7 => if ¬ R_7 = 0 then (bd (f_X8_keep v_s v_undos v_kept) fun R_9 => bd (f_X8_talks v_known v_s v_whose p1 p2 p3) fun R_10 => some (R_9.1, R_9.2, R_10.1, R_10.2.1, R_10.2.2, (1 : Int32))) else (some (v_undos, v_kept, v_known, v_s, v_whose, (-2 : Int32)))) else (some (v_undos, v_kept, v_known, v_s, v_whose, (-1 : Int32)))))
set_option maxHeartbeats 4000000 in
set_option maxRecDepth 100000 in
theorem c_X8_talk (l : Launch) (D : va_G) (cI cJ cQ : ClassId) (a_this : Nat) (a_kept : Nat) (a_known : Nat) (a_s : Nat) (a_whose : Nat) (r_lesser : Value) (r_other : Value) (r_sums : Value) (r_weights : Value) (r_row : Value) (r_plan : Value) (v_undos : Int32) (v_open : Int32) (v_planned : Int32) (v_kept : Nat → Int64) (v_known : Nat → Int64) (v_s : Nat → Int64) (v_whose : Nat → Int64) (p1 : Int32) (p2 : Int32) (p3 : Int32) (R0 : Int32 × (Nat → Int64) × (Nat → Int64) × (Nat → Int64) × (Nat → Int64) × Int32) (hf : f_X8_talk v_undos v_kept v_known v_s v_whose p1 p2 p3 = some R0) : Ci l yX8_talk wsX8_talk ({ frames := 4, cells := 0, slots := 0, locals := 143 } : Room) D [(cI, .int), (cJ, .long), (cQ, .object "WhisperCrowd$State")] [.ref a_this, .int p1, .int p2, .int p3] [(a_this, .inr (8, [.ref a_s, .ref a_kept, .int v_undos, .ref a_known, .ref a_whose, r_lesser, r_other, .int v_open, r_sums, r_weights, r_row, r_plan, .int v_planned])), (a_kept, .inl (cJ, 12260, .inr (.inl v_kept))), (a_known, .inl (cJ, 8, .inr (.inl v_known))), (a_s, .inl (cJ, 613, .inr (.inl v_s))), (a_whose, .inl (cJ, 8, .inr (.inl v_whose)))] [(a_this, .inr (8, [.ref a_s, .ref a_kept, .int R0.1, .ref a_known, .ref a_whose, r_lesser, r_other, .int v_open, r_sums, r_weights, r_row, r_plan, .int v_planned])), (a_kept, .inl (cJ, 12260, .inr (.inl R0.2.1))), (a_known, .inl (cJ, 8, .inr (.inl R0.2.2.1))), (a_s, .inl (cJ, 613, .inr (.inl R0.2.2.2.1))), (a_whose, .inl (cJ, 8, .inr (.inl R0.2.2.2.2.1)))] R0.2.2.2.2.2 := by
  refine x_enti (cc := cX8_talk) (maxL := 4) (rt := (some .int)) (lv := [(0, .ref a_this), (1, .int p1), (2, .int p2), (3, .int p3)]) (by decide) rfl (Nat.le_of_ble_eq_true rfl) rfl ?_
  intro p e s m args below meth c A Q hQ hC
  unfold f_X8_talk at hf
  refine x_iload_n 1 1 hC dX8_talk_0 rfl rfl rfl ?_
  refine x_i2l 2 hC dX8_talk_1 rfl ?_
  refine x_lconst 3 hC (0 : Int64) dX8_talk_2 rfl (by decide) ?_
  refine x_ldc2 6 hC (v := (2 : Int64)) (List.mem_of_getElem? (i := 1) (by decide +kernel)) dX8_talk_3 rfl ?_
  obtain ⟨R_1, h_R_1, hf⟩ := bd_e hf
  refine x_callSi 9 3 [] [(a_this, .inr (8, [.ref a_s, .ref a_kept, .int v_undos, .ref a_known, .ref a_whose, r_lesser, r_other, .int v_open, r_sums, r_weights, r_row, r_plan, .int v_planned])), (a_kept, .inl (cJ, 12260, .inr (.inl v_kept))), (a_known, .inl (cJ, 8, .inr (.inl v_known))), (a_s, .inl (cJ, 613, .inr (.inl v_s))), (a_whose, .inl (cJ, 8, .inr (.inl v_whose)))] hC (As := [.long (p1.toInt64), .long (0 : Int64), .long (2 : Int64)]) (c_X8_in l D cI cJ cQ (p1.toInt64) (0 : Int64) (2 : Int64) R_1 h_R_1) gX8_talk_X8_in rfl ⟨rfl, rfl⟩ hd_X8_in ⟨Nat.le_of_ble_eq_true rfl, Nat.le_of_ble_eq_true rfl⟩ rfl rfl rfl rfl rfl rfl (Nat.le_of_ble_eq_true rfl) ⟨Nat.le_of_ble_eq_true rfl, Nat.le_of_ble_eq_true rfl⟩ dX8_talk_6 rfl ?_
  refine x_if_eq 28 12 hC dX8_talk_9 (by decide) rfl (fun c_2 => ?_) (fun c_2 => ?_)
  · have hf := if_t hf c_2
    refine x_iconst 29 hC (-1 : Int32) dX8_talk_28 rfl (by decide) ?_
    cases hf
    exact x_iret hC dX8_talk_29 hQ rfl rfl
  · have hf := if_f hf c_2
    refine x_aload_n 13 0 hC dX8_talk_12 rfl rfl rfl ?_
    refine x_iload_n 14 2 hC dX8_talk_13 rfl rfl rfl ?_
    obtain ⟨R_3, h_R_3, hf⟩ := bd_e hf
    refine x_callVi 17 0 1 [0, 3] [(a_this, .inr (8, [.ref a_s, .ref a_kept, .int v_undos, .ref a_known, .ref a_whose, r_lesser, r_other, .int v_open, r_sums, r_weights, r_row, r_plan, .int v_planned])), (a_kept, .inl (cJ, 12260, .inr (.inl v_kept))), (a_known, .inl (cJ, 8, .inr (.inl v_known))), (a_s, .inl (cJ, 613, .inr (.inl v_s))), (a_whose, .inl (cJ, 8, .inr (.inl v_whose)))] hC (As := [.int p2]) (c_X8_isHere l D cI cJ cQ a_this a_s (.ref a_kept) (.ref a_known) (.ref a_whose) r_lesser r_other r_sums r_weights r_row r_plan v_undos v_open v_planned v_s p2 R_3 h_R_3) rfl rfl gX8_talk_X8_isHere rfl ⟨rfl, rfl⟩ hd_X8_isHere ⟨Nat.le_of_ble_eq_true rfl, Nat.le_of_ble_eq_true rfl⟩ rfl rfl rfl rfl rfl rfl (Nat.le_of_ble_eq_true rfl) ⟨Nat.le_of_ble_eq_true rfl, Nat.le_of_ble_eq_true rfl⟩ dX8_talk_14 rfl ?_
    refine x_if_eq 28 20 hC dX8_talk_17 (by decide) rfl (fun c_4 => ?_) (fun c_4 => ?_)
    · have hf := if_t hf c_4
      refine x_iconst 29 hC (-1 : Int32) dX8_talk_28 rfl (by decide) ?_
      cases hf
      exact x_iret hC dX8_talk_29 hQ rfl rfl
    · have hf := if_f hf c_4
      refine x_aload_n 21 0 hC dX8_talk_20 rfl rfl rfl ?_
      refine x_iload_n 22 3 hC dX8_talk_21 rfl rfl rfl ?_
      obtain ⟨R_5, h_R_5, hf⟩ := bd_e hf
      refine x_callVi 25 0 1 [0, 3] [(a_this, .inr (8, [.ref a_s, .ref a_kept, .int v_undos, .ref a_known, .ref a_whose, r_lesser, r_other, .int v_open, r_sums, r_weights, r_row, r_plan, .int v_planned])), (a_kept, .inl (cJ, 12260, .inr (.inl v_kept))), (a_known, .inl (cJ, 8, .inr (.inl v_known))), (a_s, .inl (cJ, 613, .inr (.inl v_s))), (a_whose, .inl (cJ, 8, .inr (.inl v_whose)))] hC (As := [.int p3]) (c_X8_isHere l D cI cJ cQ a_this a_s (.ref a_kept) (.ref a_known) (.ref a_whose) r_lesser r_other r_sums r_weights r_row r_plan v_undos v_open v_planned v_s p3 R_5 h_R_5) rfl rfl gX8_talk_X8_isHere rfl ⟨rfl, rfl⟩ hd_X8_isHere ⟨Nat.le_of_ble_eq_true rfl, Nat.le_of_ble_eq_true rfl⟩ rfl rfl rfl rfl rfl rfl (Nat.le_of_ble_eq_true rfl) ⟨Nat.le_of_ble_eq_true rfl, Nat.le_of_ble_eq_true rfl⟩ dX8_talk_22 rfl ?_
      refine x_if_ne 30 28 hC dX8_talk_25 (by decide) rfl (fun c_6 => ?_) (fun c_6 => ?_)
      · have hf := if_t hf c_6
        refine x_aload_n 31 0 hC dX8_talk_30 rfl rfl rfl ?_
        refine x_iload_n 32 2 hC dX8_talk_31 rfl rfl rfl ?_
        refine x_iload_n 33 3 hC dX8_talk_32 rfl rfl rfl ?_
        obtain ⟨R_7, h_R_7, hf⟩ := bd_e hf
        refine x_callVi 36 0 2 [0, 3] [(a_this, .inr (8, [.ref a_s, .ref a_kept, .int v_undos, .ref a_known, .ref a_whose, r_lesser, r_other, .int v_open, r_sums, r_weights, r_row, r_plan, .int v_planned])), (a_kept, .inl (cJ, 12260, .inr (.inl v_kept))), (a_known, .inl (cJ, 8, .inr (.inl v_known))), (a_s, .inl (cJ, 613, .inr (.inl v_s))), (a_whose, .inl (cJ, 8, .inr (.inl v_whose)))] hC (As := [.int p2, .int p3]) (c_X8_areJoined l D cI cJ cQ a_this a_s (.ref a_kept) (.ref a_known) (.ref a_whose) r_lesser r_other r_sums r_weights r_row r_plan v_undos v_open v_planned v_s p2 p3 R_7 h_R_7) rfl rfl gX8_talk_X8_areJoined rfl ⟨rfl, rfl⟩ hd_X8_areJoined ⟨Nat.le_of_ble_eq_true rfl, Nat.le_of_ble_eq_true rfl⟩ rfl rfl rfl rfl rfl rfl (Nat.le_of_ble_eq_true rfl) ⟨Nat.le_of_ble_eq_true rfl, Nat.le_of_ble_eq_true rfl⟩ dX8_talk_33 rfl ?_
        refine x_if_ne 42 39 hC dX8_talk_36 (by decide) rfl (fun c_8 => ?_) (fun c_8 => ?_)
        · have hf := if_t hf c_8
          refine x_aload_n 43 0 hC dX8_talk_42 rfl rfl rfl ?_
          obtain ⟨R_9, h_R_9, hf⟩ := bd_e hf
          refine x_callVv 46 0 0 [0, 1, 3] [(a_this, .inr (8, [.ref a_s, .ref a_kept, .int R_9.1, .ref a_known, .ref a_whose, r_lesser, r_other, .int v_open, r_sums, r_weights, r_row, r_plan, .int v_planned])), (a_kept, .inl (cJ, 12260, .inr (.inl R_9.2))), (a_known, .inl (cJ, 8, .inr (.inl v_known))), (a_s, .inl (cJ, 613, .inr (.inl v_s))), (a_whose, .inl (cJ, 8, .inr (.inl v_whose)))] hC (As := []) (c_X8_keep l D cI cJ cQ a_this a_kept a_s (.ref a_known) (.ref a_whose) r_lesser r_other r_sums r_weights r_row r_plan v_undos v_open v_planned v_kept v_s R_9 h_R_9) rfl rfl gX8_talk_X8_keep rfl ⟨rfl, rfl⟩ hd_X8_keep ⟨Nat.le_of_ble_eq_true rfl, Nat.le_of_ble_eq_true rfl⟩ rfl rfl rfl rfl rfl rfl (Nat.le_of_ble_eq_true rfl) ⟨Nat.le_of_ble_eq_true rfl, Nat.le_of_ble_eq_true rfl⟩ dX8_talk_43 rfl ?_
          refine x_aload_n 47 0 hC dX8_talk_46 rfl rfl rfl ?_
          refine x_iload_n 48 1 hC dX8_talk_47 rfl rfl rfl ?_
          refine x_iload_n 49 2 hC dX8_talk_48 rfl rfl rfl ?_
          refine x_iload_n 50 3 hC dX8_talk_49 rfl rfl rfl ?_
          obtain ⟨R_10, h_R_10, hf⟩ := bd_e hf
          refine x_callVv 53 0 3 [0, 2, 3, 4] [(a_this, .inr (8, [.ref a_s, .ref a_kept, .int R_9.1, .ref a_known, .ref a_whose, r_lesser, r_other, .int v_open, r_sums, r_weights, r_row, r_plan, .int v_planned])), (a_kept, .inl (cJ, 12260, .inr (.inl R_9.2))), (a_known, .inl (cJ, 8, .inr (.inl R_10.1))), (a_s, .inl (cJ, 613, .inr (.inl R_10.2.1))), (a_whose, .inl (cJ, 8, .inr (.inl R_10.2.2)))] hC (As := [.int p1, .int p2, .int p3]) (c_X8_talks l D cI cJ cQ a_this a_known a_s a_whose (.ref a_kept) r_lesser r_other r_sums r_weights r_row r_plan R_9.1 v_open v_planned v_known v_s v_whose p1 p2 p3 R_10 h_R_10) rfl rfl gX8_talk_X8_talks rfl ⟨rfl, rfl⟩ hd_X8_talks ⟨Nat.le_of_ble_eq_true rfl, Nat.le_of_ble_eq_true rfl⟩ rfl rfl rfl rfl rfl rfl (Nat.le_of_ble_eq_true rfl) ⟨Nat.le_of_ble_eq_true rfl, Nat.le_of_ble_eq_true rfl⟩ dX8_talk_50 rfl ?_
          refine x_iconst 54 hC (1 : Int32) dX8_talk_53 rfl (by decide) ?_
          cases hf
          exact x_iret hC dX8_talk_54 hQ rfl rfl
        · have hf := if_f hf c_8
          refine x_bipush 41 hC (-2 : Int32) dX8_talk_39 rfl (by decide) ?_
          cases hf
          exact x_iret hC dX8_talk_41 hQ rfl rfl
      · have hf := if_f hf c_6
        refine x_iconst 29 hC (-1 : Int32) dX8_talk_28 rfl (by decide) ?_
        cases hf
        exact x_iret hC dX8_talk_29 hQ rfl rfl

theorem hd_X8_send : yX8_send.cls = RX8 ∧ yX8_send.cls ≠ "java/lang/invoke/MethodHandle" ∧ yX8_send.cls ≠ "java/lang/invoke/VarHandle" ∧ (parseMethodDescriptor yX8_send.desc).map (fun d => d.parameters.length) = some 2 := by decide +kernel
theorem in_X8_send_X8 : ∀ w ∈ u_ws RX8 TX8 13, w ∈ wsX8_send := fun w h => List.mem_cons_of_mem _ (List.mem_append_right _ h)
noncomputable def f_X8_send_c52 (k52_undos : Int32) (k52_kept : Nat → Int64) (k52_s : Nat → Int64) (k52_l1 : Int32) (k52_l2 : Int32) (k52_l3 : Int32) : Option (Int32 × (Nat → Int64) × (Nat → Int64) × Int32) := if ¬ k52_l3 = (8 : Int32) then (bd (f_X8_keep k52_s k52_undos k52_kept) fun R_2 => ck ((33 : Int32) + k52_l1) 613 <| nm ((k52_s ((33 : Int32) + k52_l1).toNatClampNeg) >>> ((1 : Int32).toInt64 &&& 63)) fun x_4 => ck ((43 : Int32) + k52_l1) 613 <| nm ((k52_s ((43 : Int32) + k52_l1).toNatClampNeg) >>> ((1 : Int32).toInt64 &&& 63)) fun x_6 => ck ((173 : Int32) + ((5 : Int32) * k52_l3)) 613 <| nm (vp_updL k52_s ((173 : Int32) + ((5 : Int32) * k52_l3)).toNatClampNeg (1 : Int64)) fun g_8 => ck (((173 : Int32) + ((5 : Int32) * k52_l3)) + (1 : Int32)) 613 <| nm (vp_updL g_8 (((173 : Int32) + ((5 : Int32) * k52_l3)) + (1 : Int32)).toNatClampNeg (k52_l1.toInt64)) fun g_10 => ck (((173 : Int32) + ((5 : Int32) * k52_l3)) + (2 : Int32)) 613 <| nm (vp_updL g_10 (((173 : Int32) + ((5 : Int32) * k52_l3)) + (2 : Int32)).toNatClampNeg (k52_l2.toInt64)) fun g_12 => ck (((173 : Int32) + ((5 : Int32) * k52_l3)) + (3 : Int32)) 613 <| nm (vp_updL g_12 (((173 : Int32) + ((5 : Int32) * k52_l3)) + (3 : Int32)).toNatClampNeg x_4) fun g_14 => ck (((173 : Int32) + ((5 : Int32) * k52_l3)) + (4 : Int32)) 613 <| nm (vp_updL g_14 (((173 : Int32) + ((5 : Int32) * k52_l3)) + (4 : Int32)).toNatClampNeg x_6) fun g_16 => ck ((33 : Int32) + k52_l1) 613 <| ck ((33 : Int32) + k52_l1) 613 <| nm (vp_updL g_16 ((33 : Int32) + k52_l1).toNatClampNeg ((g_16 ((33 : Int32) + k52_l1).toNatClampNeg) - x_4)) fun g_19 => ck ((43 : Int32) + k52_l1) 613 <| ck ((43 : Int32) + k52_l1) 613 <| nm (vp_updL g_19 ((43 : Int32) + k52_l1).toNatClampNeg ((g_19 ((43 : Int32) + k52_l1).toNatClampNeg) - x_6)) fun g_22 => ck (((213 : Int32) + ((10 : Int32) * k52_l1)) + k52_l2) 613 <| ck (((213 : Int32) + ((10 : Int32) * k52_l1)) + k52_l2) 613 <| nm (vp_updL g_22 (((213 : Int32) + ((10 : Int32) * k52_l1)) + k52_l2).toNatClampNeg ((g_22 (((213 : Int32) + ((10 : Int32) * k52_l1)) + k52_l2).toNatClampNeg) + x_4)) fun g_25 => ck (((313 : Int32) + ((10 : Int32) * k52_l1)) + k52_l2) 613 <| ck (((313 : Int32) + ((10 : Int32) * k52_l1)) + k52_l2) 613 <| nm (vp_updL g_25 (((313 : Int32) + ((10 : Int32) * k52_l1)) + k52_l2).toNatClampNeg ((g_25 (((313 : Int32) + ((10 : Int32) * k52_l1)) + k52_l2).toNatClampNeg) + x_6)) fun g_28 => some (R_2.1, R_2.2, g_28, k52_l3)) else (some (k52_undos, k52_kept, k52_s, (-3 : Int32)))
noncomputable def f_X8_send_c32 : Nat → Int32 → (Nat → Int64) → (Nat → Int64) → Int32 → Int32 → Int32 → Option (Int32 × (Nat → Int64) × (Nat → Int64) × Int32)
  | 0, _, _, _, _, _, _ => none
  | n + 1, k32_undos, k32_kept, k32_s, k32_l1, k32_l2, k32_l3 => if (8 : Int32) ≤ k32_l3 then (f_X8_send_c52 k32_undos k32_kept k32_s k32_l1 k32_l2 k32_l3) else (bd (f_X8_isUnderWay k32_s k32_l3) fun R_30 => if R_30 = 0 then (f_X8_send_c52 k32_undos k32_kept k32_s k32_l1 k32_l2 k32_l3) else (nm (k32_l3 + (1 : Int32)) fun x_32 => (fun k32_undos k32_kept k32_s k32_l1 k32_l2 k32_l3 => f_X8_send_c32 n k32_undos k32_kept k32_s k32_l1 k32_l2 k32_l3) k32_undos k32_kept k32_s k32_l1 k32_l2 x_32))
noncomputable def f_X8_send (v_undos : Int32) (v_kept : Nat → Int64) (v_s : Nat → Int64) (p1 : Int32) (p2 : Int32) : Option (Int32 × (Nat → Int64) × (Nat → Int64) × Int32) := bd (f_X8_isHere v_s p1) fun R_33 => if R_33 = 0 then (some (v_undos, v_kept, v_s, (-1 : Int32))) else (bd (f_X8_isHere v_s p2) fun R_35 => if ¬ R_35 = 0 then (bd (f_X8_areJoined v_s p1 p2) fun R_37 => if ¬ R_37 = 0 then (f_X8_send_c32 fu v_undos v_kept v_s p1 p2 (0 : Int32)) else (some (v_undos, v_kept, v_s, (-2 : Int32)))) else (some (v_undos, v_kept, v_s, (-1 : Int32))))
set_option maxHeartbeats 4000000 in
set_option maxRecDepth 100000 in
theorem c_X8_send (l : Launch) (D : va_G) (cI cJ cQ : ClassId) (a_this : Nat) (a_kept : Nat) (a_s : Nat) (r_known : Value) (r_whose : Value) (r_lesser : Value) (r_other : Value) (r_sums : Value) (r_weights : Value) (r_row : Value) (r_plan : Value) (v_undos : Int32) (v_open : Int32) (v_planned : Int32) (v_kept : Nat → Int64) (v_s : Nat → Int64) (p1 : Int32) (p2 : Int32) (R0 : Int32 × (Nat → Int64) × (Nat → Int64) × Int32) (hf : f_X8_send v_undos v_kept v_s p1 p2 = some R0) : Ci l yX8_send wsX8_send ({ frames := 4, cells := 0, slots := 0, locals := 133 } : Room) D [(cI, .int), (cJ, .long), (cQ, .object "WhisperCrowd$State")] [.ref a_this, .int p1, .int p2] [(a_this, .inr (8, [.ref a_s, .ref a_kept, .int v_undos, r_known, r_whose, r_lesser, r_other, .int v_open, r_sums, r_weights, r_row, r_plan, .int v_planned])), (a_kept, .inl (cJ, 12260, .inr (.inl v_kept))), (a_s, .inl (cJ, 613, .inr (.inl v_s)))] [(a_this, .inr (8, [.ref a_s, .ref a_kept, .int R0.1, r_known, r_whose, r_lesser, r_other, .int v_open, r_sums, r_weights, r_row, r_plan, .int v_planned])), (a_kept, .inl (cJ, 12260, .inr (.inl R0.2.1))), (a_s, .inl (cJ, 613, .inr (.inl R0.2.2.1)))] R0.2.2.2 := by
  refine x_enti (cc := cX8_send) (maxL := 8) (rt := (some .int)) (lv := [(0, .ref a_this), (1, .int p1), (2, .int p2)]) (by decide) rfl (Nat.le_of_ble_eq_true rfl) rfl ?_
  intro p e s m args below meth c A Q hQ hC
  have J_52 : ∀ (k52_undos : Int32) (k52_kept : Nat → Int64) (k52_s : Nat → Int64) (k52_l1 : Int32) (k52_l2 : Int32) (k52_l3 : Int32), f_X8_send_c52 k52_undos k52_kept k52_s k52_l1 k52_l2 k52_l3 = some R0 → XW p l e ({ frames := 4, cells := 0, slots := 0, locals := 133 } : Room) s m args below meth c D A 8 0 0 Q [(a_this, .inr (8, [.ref a_s, .ref a_kept, .int k52_undos, r_known, r_whose, r_lesser, r_other, .int v_open, r_sums, r_weights, r_row, r_plan, .int v_planned])), (a_kept, .inl (cJ, 12260, .inr (.inl k52_kept))), (a_s, .inl (cJ, 613, .inr (.inl k52_s)))] [] [(0, .ref a_this), (1, .int k52_l1), (2, .int k52_l2), (3, .int k52_l3)] 52 [] := by
    intro k52_undos k52_kept k52_s k52_l1 k52_l2 k52_l3 hf
    unfold f_X8_send_c52 at hf
    refine x_iload_n 53 3 hC dX8_send_52 rfl rfl rfl ?_
    refine x_bipush 55 hC (8 : Int32) dX8_send_53 rfl (by decide) ?_
    refine x_icmp_ne 61 58 hC dX8_send_55 (by decide) rfl (fun c_1 => ?_) (fun c_1 => ?_)
    · have hf := if_t hf c_1
      refine x_aload_n 62 0 hC dX8_send_61 rfl rfl rfl ?_
      obtain ⟨R_2, h_R_2, hf⟩ := bd_e hf
      refine x_callVv 65 0 0 [0, 1, 2] [(a_this, .inr (8, [.ref a_s, .ref a_kept, .int R_2.1, r_known, r_whose, r_lesser, r_other, .int v_open, r_sums, r_weights, r_row, r_plan, .int v_planned])), (a_kept, .inl (cJ, 12260, .inr (.inl R_2.2))), (a_s, .inl (cJ, 613, .inr (.inl k52_s)))] hC (As := []) (c_X8_keep l D cI cJ cQ a_this a_kept a_s r_known r_whose r_lesser r_other r_sums r_weights r_row r_plan k52_undos v_open v_planned k52_kept k52_s R_2 h_R_2) rfl rfl gX8_send_X8_keep rfl ⟨rfl, rfl⟩ hd_X8_keep ⟨Nat.le_of_ble_eq_true rfl, Nat.le_of_ble_eq_true rfl⟩ rfl rfl rfl rfl rfl rfl (Nat.le_of_ble_eq_true rfl) ⟨Nat.le_of_ble_eq_true rfl, Nat.le_of_ble_eq_true rfl⟩ dX8_send_62 rfl ?_
      refine x_aload_n 66 0 hC dX8_send_65 rfl rfl rfl ?_
      refine x_get 69 0 0 hC in_X8_send_X8 rfl rfl (by decide) (List.mem_of_getElem? (i := 1) (by decide +kernel)) rfl rfl dX8_send_66 rfl ?_
      refine x_bipush 71 hC (33 : Int32) dX8_send_69 rfl (by decide) ?_
      refine x_iload_n 72 1 hC dX8_send_71 rfl rfl rfl ?_
      refine x_iadd 73 hC dX8_send_72 rfl ?_
      obtain ⟨h_3, hf⟩ := ck_e hf
      refine x_lald 74 2 1 hC rfl rfl h_3 dX8_send_73 rfl ?_
      refine x_iconst 75 hC (1 : Int32) dX8_send_74 rfl (by decide) ?_
      refine x_lshr 76 hC dX8_send_75 rfl ?_
      obtain ⟨x_4, e_x_4, hf⟩ := nmx_e hf
      refine x_lstore 78 [(4, .long x_4), (0, .ref a_this), (1, .int k52_l1), (2, .int k52_l2), (3, .int k52_l3)] hC dX8_send_76 rfl e_x_4 (by decide) rfl ?_
      refine x_aload_n 79 1 hC dX8_send_78 rfl rfl rfl ?_
      refine x_get 82 0 0 hC in_X8_send_X8 rfl rfl (by decide) (List.mem_of_getElem? (i := 1) (by decide +kernel)) rfl rfl dX8_send_79 rfl ?_
      refine x_bipush 84 hC (43 : Int32) dX8_send_82 rfl (by decide) ?_
      refine x_iload_n 85 2 hC dX8_send_84 rfl rfl rfl ?_
      refine x_iadd 86 hC dX8_send_85 rfl ?_
      obtain ⟨h_5, hf⟩ := ck_e hf
      refine x_lald 87 2 1 hC rfl rfl h_5 dX8_send_86 rfl ?_
      refine x_iconst 88 hC (1 : Int32) dX8_send_87 rfl (by decide) ?_
      refine x_lshr 89 hC dX8_send_88 rfl ?_
      obtain ⟨x_6, e_x_6, hf⟩ := nmx_e hf
      refine x_lstore 91 [(6, .long x_6), (4, .long x_4), (0, .ref a_this), (1, .int k52_l1), (2, .int k52_l2), (3, .int k52_l3)] hC dX8_send_89 rfl e_x_6 (by decide) rfl ?_
      refine x_aload_n 92 2 hC dX8_send_91 rfl rfl rfl ?_
      refine x_get 95 0 0 hC in_X8_send_X8 rfl rfl (by decide) (List.mem_of_getElem? (i := 1) (by decide +kernel)) rfl rfl dX8_send_92 rfl ?_
      refine x_sipush 98 hC (173 : Int32) dX8_send_95 rfl (by decide) ?_
      refine x_iconst 99 hC (5 : Int32) dX8_send_98 rfl (by decide) ?_
      refine x_iload_n 100 5 hC dX8_send_99 rfl rfl rfl ?_
      refine x_imul 101 hC dX8_send_100 rfl ?_
      refine x_iadd 102 hC dX8_send_101 rfl ?_
      refine x_lconst 103 hC (1 : Int64) dX8_send_102 rfl (by decide) ?_
      obtain ⟨h_7, hf⟩ := ck_e hf
      obtain ⟨g_8, e_g_8, hf⟩ := nmx_e hf
      refine x_last 104 2 1 [(a_this, .inr (8, [.ref a_s, .ref a_kept, .int R_2.1, r_known, r_whose, r_lesser, r_other, .int v_open, r_sums, r_weights, r_row, r_plan, .int v_planned])), (a_kept, .inl (cJ, 12260, .inr (.inl R_2.2))), (a_s, .inl (cJ, 613, .inr (.inl g_8)))] hC rfl rfl h_7 e_g_8 rfl dX8_send_103 rfl ?_
      refine x_aload_n 105 2 hC dX8_send_104 rfl rfl rfl ?_
      refine x_get 108 0 0 hC in_X8_send_X8 rfl rfl (by decide) (List.mem_of_getElem? (i := 1) (by decide +kernel)) rfl rfl dX8_send_105 rfl ?_
      refine x_sipush 111 hC (173 : Int32) dX8_send_108 rfl (by decide) ?_
      refine x_iconst 112 hC (5 : Int32) dX8_send_111 rfl (by decide) ?_
      refine x_iload_n 113 5 hC dX8_send_112 rfl rfl rfl ?_
      refine x_imul 114 hC dX8_send_113 rfl ?_
      refine x_iadd 115 hC dX8_send_114 rfl ?_
      refine x_iconst 116 hC (1 : Int32) dX8_send_115 rfl (by decide) ?_
      refine x_iadd 117 hC dX8_send_116 rfl ?_
      refine x_iload_n 118 3 hC dX8_send_117 rfl rfl rfl ?_
      refine x_i2l 119 hC dX8_send_118 rfl ?_
      obtain ⟨h_9, hf⟩ := ck_e hf
      obtain ⟨g_10, e_g_10, hf⟩ := nmx_e hf
      refine x_last 120 2 1 [(a_this, .inr (8, [.ref a_s, .ref a_kept, .int R_2.1, r_known, r_whose, r_lesser, r_other, .int v_open, r_sums, r_weights, r_row, r_plan, .int v_planned])), (a_kept, .inl (cJ, 12260, .inr (.inl R_2.2))), (a_s, .inl (cJ, 613, .inr (.inl g_10)))] hC rfl rfl h_9 e_g_10 rfl dX8_send_119 rfl ?_
      refine x_aload_n 121 2 hC dX8_send_120 rfl rfl rfl ?_
      refine x_get 124 0 0 hC in_X8_send_X8 rfl rfl (by decide) (List.mem_of_getElem? (i := 1) (by decide +kernel)) rfl rfl dX8_send_121 rfl ?_
      refine x_sipush 127 hC (173 : Int32) dX8_send_124 rfl (by decide) ?_
      refine x_iconst 128 hC (5 : Int32) dX8_send_127 rfl (by decide) ?_
      refine x_iload_n 129 5 hC dX8_send_128 rfl rfl rfl ?_
      refine x_imul 130 hC dX8_send_129 rfl ?_
      refine x_iadd 131 hC dX8_send_130 rfl ?_
      refine x_iconst 132 hC (2 : Int32) dX8_send_131 rfl (by decide) ?_
      refine x_iadd 133 hC dX8_send_132 rfl ?_
      refine x_iload_n 134 4 hC dX8_send_133 rfl rfl rfl ?_
      refine x_i2l 135 hC dX8_send_134 rfl ?_
      obtain ⟨h_11, hf⟩ := ck_e hf
      obtain ⟨g_12, e_g_12, hf⟩ := nmx_e hf
      refine x_last 136 2 1 [(a_this, .inr (8, [.ref a_s, .ref a_kept, .int R_2.1, r_known, r_whose, r_lesser, r_other, .int v_open, r_sums, r_weights, r_row, r_plan, .int v_planned])), (a_kept, .inl (cJ, 12260, .inr (.inl R_2.2))), (a_s, .inl (cJ, 613, .inr (.inl g_12)))] hC rfl rfl h_11 e_g_12 rfl dX8_send_135 rfl ?_
      refine x_aload_n 137 2 hC dX8_send_136 rfl rfl rfl ?_
      refine x_get 140 0 0 hC in_X8_send_X8 rfl rfl (by decide) (List.mem_of_getElem? (i := 1) (by decide +kernel)) rfl rfl dX8_send_137 rfl ?_
      refine x_sipush 143 hC (173 : Int32) dX8_send_140 rfl (by decide) ?_
      refine x_iconst 144 hC (5 : Int32) dX8_send_143 rfl (by decide) ?_
      refine x_iload_n 145 5 hC dX8_send_144 rfl rfl rfl ?_
      refine x_imul 146 hC dX8_send_145 rfl ?_
      refine x_iadd 147 hC dX8_send_146 rfl ?_
      refine x_iconst 148 hC (3 : Int32) dX8_send_147 rfl (by decide) ?_
      refine x_iadd 149 hC dX8_send_148 rfl ?_
      refine x_lload 151 1 hC dX8_send_149 rfl rfl ?_
      obtain ⟨h_13, hf⟩ := ck_e hf
      obtain ⟨g_14, e_g_14, hf⟩ := nmx_e hf
      refine x_last 152 2 1 [(a_this, .inr (8, [.ref a_s, .ref a_kept, .int R_2.1, r_known, r_whose, r_lesser, r_other, .int v_open, r_sums, r_weights, r_row, r_plan, .int v_planned])), (a_kept, .inl (cJ, 12260, .inr (.inl R_2.2))), (a_s, .inl (cJ, 613, .inr (.inl g_14)))] hC rfl rfl h_13 e_g_14 rfl dX8_send_151 rfl ?_
      refine x_aload_n 153 2 hC dX8_send_152 rfl rfl rfl ?_
      refine x_get 156 0 0 hC in_X8_send_X8 rfl rfl (by decide) (List.mem_of_getElem? (i := 1) (by decide +kernel)) rfl rfl dX8_send_153 rfl ?_
      refine x_sipush 159 hC (173 : Int32) dX8_send_156 rfl (by decide) ?_
      refine x_iconst 160 hC (5 : Int32) dX8_send_159 rfl (by decide) ?_
      refine x_iload_n 161 5 hC dX8_send_160 rfl rfl rfl ?_
      refine x_imul 162 hC dX8_send_161 rfl ?_
      refine x_iadd 163 hC dX8_send_162 rfl ?_
      refine x_iconst 164 hC (4 : Int32) dX8_send_163 rfl (by decide) ?_
      refine x_iadd 165 hC dX8_send_164 rfl ?_
      refine x_lload 167 0 hC dX8_send_165 rfl rfl ?_
      obtain ⟨h_15, hf⟩ := ck_e hf
      obtain ⟨g_16, e_g_16, hf⟩ := nmx_e hf
      refine x_last 168 2 1 [(a_this, .inr (8, [.ref a_s, .ref a_kept, .int R_2.1, r_known, r_whose, r_lesser, r_other, .int v_open, r_sums, r_weights, r_row, r_plan, .int v_planned])), (a_kept, .inl (cJ, 12260, .inr (.inl R_2.2))), (a_s, .inl (cJ, 613, .inr (.inl g_16)))] hC rfl rfl h_15 e_g_16 rfl dX8_send_167 rfl ?_
      refine x_aload_n 169 2 hC dX8_send_168 rfl rfl rfl ?_
      refine x_get 172 0 0 hC in_X8_send_X8 rfl rfl (by decide) (List.mem_of_getElem? (i := 1) (by decide +kernel)) rfl rfl dX8_send_169 rfl ?_
      refine x_bipush 174 hC (33 : Int32) dX8_send_172 rfl (by decide) ?_
      refine x_iload_n 175 3 hC dX8_send_174 rfl rfl rfl ?_
      refine x_iadd 176 hC dX8_send_175 rfl ?_
      refine x_dup2_11 177 hC dX8_send_176 rfl rfl rfl ?_
      obtain ⟨h_17, hf⟩ := ck_e hf
      refine x_lald 178 2 1 hC rfl rfl h_17 dX8_send_177 rfl ?_
      refine x_lload 180 1 hC dX8_send_178 rfl rfl ?_
      refine x_lsub 181 hC dX8_send_180 rfl ?_
      obtain ⟨h_18, hf⟩ := ck_e hf
      obtain ⟨g_19, e_g_19, hf⟩ := nmx_e hf
      refine x_last 182 2 1 [(a_this, .inr (8, [.ref a_s, .ref a_kept, .int R_2.1, r_known, r_whose, r_lesser, r_other, .int v_open, r_sums, r_weights, r_row, r_plan, .int v_planned])), (a_kept, .inl (cJ, 12260, .inr (.inl R_2.2))), (a_s, .inl (cJ, 613, .inr (.inl g_19)))] hC rfl rfl h_18 e_g_19 rfl dX8_send_181 rfl ?_
      refine x_aload_n 183 2 hC dX8_send_182 rfl rfl rfl ?_
      refine x_get 186 0 0 hC in_X8_send_X8 rfl rfl (by decide) (List.mem_of_getElem? (i := 1) (by decide +kernel)) rfl rfl dX8_send_183 rfl ?_
      refine x_bipush 188 hC (43 : Int32) dX8_send_186 rfl (by decide) ?_
      refine x_iload_n 189 3 hC dX8_send_188 rfl rfl rfl ?_
      refine x_iadd 190 hC dX8_send_189 rfl ?_
      refine x_dup2_11 191 hC dX8_send_190 rfl rfl rfl ?_
      obtain ⟨h_20, hf⟩ := ck_e hf
      refine x_lald 192 2 1 hC rfl rfl h_20 dX8_send_191 rfl ?_
      refine x_lload 194 0 hC dX8_send_192 rfl rfl ?_
      refine x_lsub 195 hC dX8_send_194 rfl ?_
      obtain ⟨h_21, hf⟩ := ck_e hf
      obtain ⟨g_22, e_g_22, hf⟩ := nmx_e hf
      refine x_last 196 2 1 [(a_this, .inr (8, [.ref a_s, .ref a_kept, .int R_2.1, r_known, r_whose, r_lesser, r_other, .int v_open, r_sums, r_weights, r_row, r_plan, .int v_planned])), (a_kept, .inl (cJ, 12260, .inr (.inl R_2.2))), (a_s, .inl (cJ, 613, .inr (.inl g_22)))] hC rfl rfl h_21 e_g_22 rfl dX8_send_195 rfl ?_
      refine x_aload_n 197 2 hC dX8_send_196 rfl rfl rfl ?_
      refine x_get 200 0 0 hC in_X8_send_X8 rfl rfl (by decide) (List.mem_of_getElem? (i := 1) (by decide +kernel)) rfl rfl dX8_send_197 rfl ?_
      refine x_sipush 203 hC (213 : Int32) dX8_send_200 rfl (by decide) ?_
      refine x_bipush 205 hC (10 : Int32) dX8_send_203 rfl (by decide) ?_
      refine x_iload_n 206 3 hC dX8_send_205 rfl rfl rfl ?_
      refine x_imul 207 hC dX8_send_206 rfl ?_
      refine x_iadd 208 hC dX8_send_207 rfl ?_
      refine x_iload_n 209 4 hC dX8_send_208 rfl rfl rfl ?_
      refine x_iadd 210 hC dX8_send_209 rfl ?_
      refine x_dup2_11 211 hC dX8_send_210 rfl rfl rfl ?_
      obtain ⟨h_23, hf⟩ := ck_e hf
      refine x_lald 212 2 1 hC rfl rfl h_23 dX8_send_211 rfl ?_
      refine x_lload 214 1 hC dX8_send_212 rfl rfl ?_
      refine x_ladd 215 hC dX8_send_214 rfl ?_
      obtain ⟨h_24, hf⟩ := ck_e hf
      obtain ⟨g_25, e_g_25, hf⟩ := nmx_e hf
      refine x_last 216 2 1 [(a_this, .inr (8, [.ref a_s, .ref a_kept, .int R_2.1, r_known, r_whose, r_lesser, r_other, .int v_open, r_sums, r_weights, r_row, r_plan, .int v_planned])), (a_kept, .inl (cJ, 12260, .inr (.inl R_2.2))), (a_s, .inl (cJ, 613, .inr (.inl g_25)))] hC rfl rfl h_24 e_g_25 rfl dX8_send_215 rfl ?_
      refine x_aload_n 217 2 hC dX8_send_216 rfl rfl rfl ?_
      refine x_get 220 0 0 hC in_X8_send_X8 rfl rfl (by decide) (List.mem_of_getElem? (i := 1) (by decide +kernel)) rfl rfl dX8_send_217 rfl ?_
      refine x_sipush 223 hC (313 : Int32) dX8_send_220 rfl (by decide) ?_
      refine x_bipush 225 hC (10 : Int32) dX8_send_223 rfl (by decide) ?_
      refine x_iload_n 226 3 hC dX8_send_225 rfl rfl rfl ?_
      refine x_imul 227 hC dX8_send_226 rfl ?_
      refine x_iadd 228 hC dX8_send_227 rfl ?_
      refine x_iload_n 229 4 hC dX8_send_228 rfl rfl rfl ?_
      refine x_iadd 230 hC dX8_send_229 rfl ?_
      refine x_dup2_11 231 hC dX8_send_230 rfl rfl rfl ?_
      obtain ⟨h_26, hf⟩ := ck_e hf
      refine x_lald 232 2 1 hC rfl rfl h_26 dX8_send_231 rfl ?_
      refine x_lload 234 0 hC dX8_send_232 rfl rfl ?_
      refine x_ladd 235 hC dX8_send_234 rfl ?_
      obtain ⟨h_27, hf⟩ := ck_e hf
      obtain ⟨g_28, e_g_28, hf⟩ := nmx_e hf
      refine x_last 236 2 1 [(a_this, .inr (8, [.ref a_s, .ref a_kept, .int R_2.1, r_known, r_whose, r_lesser, r_other, .int v_open, r_sums, r_weights, r_row, r_plan, .int v_planned])), (a_kept, .inl (cJ, 12260, .inr (.inl R_2.2))), (a_s, .inl (cJ, 613, .inr (.inl g_28)))] hC rfl rfl h_27 e_g_28 rfl dX8_send_235 rfl ?_
      refine x_iload_n 237 5 hC dX8_send_236 rfl rfl rfl ?_
      cases hf
      exact x_iret hC dX8_send_237 hQ rfl rfl
    · have hf := if_f hf c_1
      refine x_bipush 60 hC (-3 : Int32) dX8_send_58 rfl (by decide) ?_
      cases hf
      exact x_iret hC dX8_send_60 hQ rfl rfl
  have J_32 : ∀ (n : Nat) (k32_undos : Int32) (k32_kept : Nat → Int64) (k32_s : Nat → Int64) (k32_l1 : Int32) (k32_l2 : Int32) (k32_l3 : Int32), f_X8_send_c32 n k32_undos k32_kept k32_s k32_l1 k32_l2 k32_l3 = some R0 → XW p l e ({ frames := 4, cells := 0, slots := 0, locals := 133 } : Room) s m args below meth c D A 8 0 0 Q [(a_this, .inr (8, [.ref a_s, .ref a_kept, .int k32_undos, r_known, r_whose, r_lesser, r_other, .int v_open, r_sums, r_weights, r_row, r_plan, .int v_planned])), (a_kept, .inl (cJ, 12260, .inr (.inl k32_kept))), (a_s, .inl (cJ, 613, .inr (.inl k32_s)))] [] [(0, .ref a_this), (1, .int k32_l1), (2, .int k32_l2), (3, .int k32_l3)] 32 [] := by
    intro n
    induction n with
    | zero => intro k32_undos k32_kept k32_s k32_l1 k32_l2 k32_l3 hf; exact nomatch (show (none : Option (Int32 × (Nat → Int64) × (Nat → Int64) × Int32)) = some R0 from hf)
    | succ n_32 ih_32 =>
      intro k32_undos k32_kept k32_s k32_l1 k32_l2 k32_l3 hf
      unfold f_X8_send_c32 at hf
      refine x_iload_n 33 3 hC dX8_send_32 rfl rfl rfl ?_
      refine x_bipush 35 hC (8 : Int32) dX8_send_33 rfl (by decide) ?_
      refine x_icmp_ge 52 38 hC dX8_send_35 (by decide) rfl (fun c_29 => ?_) (fun c_29 => ?_)
      · have hf := if_t hf c_29
        refine x_lv [(0, .ref a_this), (1, .int k32_l1), (2, .int k32_l2), (3, .int k32_l3)] [0, 1, 2, 3] rfl ?_
        exact J_52 k32_undos k32_kept k32_s k32_l1 k32_l2 k32_l3 hf
      · have hf := if_f hf c_29
        refine x_aload_n 39 0 hC dX8_send_38 rfl rfl rfl ?_
        refine x_iload_n 40 3 hC dX8_send_39 rfl rfl rfl ?_
        obtain ⟨R_30, h_R_30, hf⟩ := bd_e hf
        refine x_callVi 43 0 1 [0, 2] [(a_this, .inr (8, [.ref a_s, .ref a_kept, .int k32_undos, r_known, r_whose, r_lesser, r_other, .int v_open, r_sums, r_weights, r_row, r_plan, .int v_planned])), (a_kept, .inl (cJ, 12260, .inr (.inl k32_kept))), (a_s, .inl (cJ, 613, .inr (.inl k32_s)))] hC (As := [.int k32_l3]) (c_X8_isUnderWay l D cI cJ cQ a_this a_s (.ref a_kept) r_known r_whose r_lesser r_other r_sums r_weights r_row r_plan k32_undos v_open v_planned k32_s k32_l3 R_30 h_R_30) rfl rfl gX8_send_X8_isUnderWay rfl ⟨rfl, rfl⟩ hd_X8_isUnderWay ⟨Nat.le_of_ble_eq_true rfl, Nat.le_of_ble_eq_true rfl⟩ rfl rfl rfl rfl rfl rfl (Nat.le_of_ble_eq_true rfl) ⟨Nat.le_of_ble_eq_true rfl, Nat.le_of_ble_eq_true rfl⟩ dX8_send_40 rfl ?_
        refine x_if_eq 52 46 hC dX8_send_43 (by decide) rfl (fun c_31 => ?_) (fun c_31 => ?_)
        · have hf := if_t hf c_31
          refine x_lv [(0, .ref a_this), (1, .int k32_l1), (2, .int k32_l2), (3, .int k32_l3)] [0, 1, 2, 3] rfl ?_
          exact J_52 k32_undos k32_kept k32_s k32_l1 k32_l2 k32_l3 hf
        · have hf := if_f hf c_31
          obtain ⟨x_32, e_x_32, hf⟩ := nmx_e hf
          refine x_iinc 49 3 [(3, .int x_32), (0, .ref a_this), (1, .int k32_l1), (2, .int k32_l2)] hC dX8_send_46 rfl rfl e_x_32 (by decide) (by decide) rfl ?_
          refine x_goto 32 hC dX8_send_49 (by decide) ?_
          refine x_lv [(0, .ref a_this), (1, .int k32_l1), (2, .int k32_l2), (3, .int x_32)] [1, 2, 3, 0] rfl ?_
          exact ih_32 k32_undos k32_kept k32_s k32_l1 k32_l2 x_32 hf
  unfold f_X8_send at hf
  refine x_aload_n 1 0 hC dX8_send_0 rfl rfl rfl ?_
  refine x_iload_n 2 1 hC dX8_send_1 rfl rfl rfl ?_
  obtain ⟨R_33, h_R_33, hf⟩ := bd_e hf
  refine x_callVi 5 0 1 [0, 2] [(a_this, .inr (8, [.ref a_s, .ref a_kept, .int v_undos, r_known, r_whose, r_lesser, r_other, .int v_open, r_sums, r_weights, r_row, r_plan, .int v_planned])), (a_kept, .inl (cJ, 12260, .inr (.inl v_kept))), (a_s, .inl (cJ, 613, .inr (.inl v_s)))] hC (As := [.int p1]) (c_X8_isHere l D cI cJ cQ a_this a_s (.ref a_kept) r_known r_whose r_lesser r_other r_sums r_weights r_row r_plan v_undos v_open v_planned v_s p1 R_33 h_R_33) rfl rfl gX8_send_X8_isHere rfl ⟨rfl, rfl⟩ hd_X8_isHere ⟨Nat.le_of_ble_eq_true rfl, Nat.le_of_ble_eq_true rfl⟩ rfl rfl rfl rfl rfl rfl (Nat.le_of_ble_eq_true rfl) ⟨Nat.le_of_ble_eq_true rfl, Nat.le_of_ble_eq_true rfl⟩ dX8_send_2 rfl ?_
  refine x_if_eq 16 8 hC dX8_send_5 (by decide) rfl (fun c_34 => ?_) (fun c_34 => ?_)
  · have hf := if_t hf c_34
    refine x_iconst 17 hC (-1 : Int32) dX8_send_16 rfl (by decide) ?_
    cases hf
    exact x_iret hC dX8_send_17 hQ rfl rfl
  · have hf := if_f hf c_34
    refine x_aload_n 9 0 hC dX8_send_8 rfl rfl rfl ?_
    refine x_iload_n 10 2 hC dX8_send_9 rfl rfl rfl ?_
    obtain ⟨R_35, h_R_35, hf⟩ := bd_e hf
    refine x_callVi 13 0 1 [0, 2] [(a_this, .inr (8, [.ref a_s, .ref a_kept, .int v_undos, r_known, r_whose, r_lesser, r_other, .int v_open, r_sums, r_weights, r_row, r_plan, .int v_planned])), (a_kept, .inl (cJ, 12260, .inr (.inl v_kept))), (a_s, .inl (cJ, 613, .inr (.inl v_s)))] hC (As := [.int p2]) (c_X8_isHere l D cI cJ cQ a_this a_s (.ref a_kept) r_known r_whose r_lesser r_other r_sums r_weights r_row r_plan v_undos v_open v_planned v_s p2 R_35 h_R_35) rfl rfl gX8_send_X8_isHere rfl ⟨rfl, rfl⟩ hd_X8_isHere ⟨Nat.le_of_ble_eq_true rfl, Nat.le_of_ble_eq_true rfl⟩ rfl rfl rfl rfl rfl rfl (Nat.le_of_ble_eq_true rfl) ⟨Nat.le_of_ble_eq_true rfl, Nat.le_of_ble_eq_true rfl⟩ dX8_send_10 rfl ?_
    refine x_if_ne 18 16 hC dX8_send_13 (by decide) rfl (fun c_36 => ?_) (fun c_36 => ?_)
    · have hf := if_t hf c_36
      refine x_aload_n 19 0 hC dX8_send_18 rfl rfl rfl ?_
      refine x_iload_n 20 1 hC dX8_send_19 rfl rfl rfl ?_
      refine x_iload_n 21 2 hC dX8_send_20 rfl rfl rfl ?_
      obtain ⟨R_37, h_R_37, hf⟩ := bd_e hf
      refine x_callVi 24 0 2 [0, 2] [(a_this, .inr (8, [.ref a_s, .ref a_kept, .int v_undos, r_known, r_whose, r_lesser, r_other, .int v_open, r_sums, r_weights, r_row, r_plan, .int v_planned])), (a_kept, .inl (cJ, 12260, .inr (.inl v_kept))), (a_s, .inl (cJ, 613, .inr (.inl v_s)))] hC (As := [.int p1, .int p2]) (c_X8_areJoined l D cI cJ cQ a_this a_s (.ref a_kept) r_known r_whose r_lesser r_other r_sums r_weights r_row r_plan v_undos v_open v_planned v_s p1 p2 R_37 h_R_37) rfl rfl gX8_send_X8_areJoined rfl ⟨rfl, rfl⟩ hd_X8_areJoined ⟨Nat.le_of_ble_eq_true rfl, Nat.le_of_ble_eq_true rfl⟩ rfl rfl rfl rfl rfl rfl (Nat.le_of_ble_eq_true rfl) ⟨Nat.le_of_ble_eq_true rfl, Nat.le_of_ble_eq_true rfl⟩ dX8_send_21 rfl ?_
      refine x_if_ne 30 27 hC dX8_send_24 (by decide) rfl (fun c_38 => ?_) (fun c_38 => ?_)
      · have hf := if_t hf c_38
        refine x_iconst 31 hC (0 : Int32) dX8_send_30 rfl (by decide) ?_
        refine x_istore_n 32 [(3, .int (0 : Int32)), (0, .ref a_this), (1, .int p1), (2, .int p2)] hC dX8_send_31 rfl rfl rfl (by decide) rfl ?_
        refine x_lv [(0, .ref a_this), (1, .int p1), (2, .int p2), (3, .int (0 : Int32))] [1, 2, 3, 0] rfl ?_
        exact J_32 fu v_undos v_kept v_s p1 p2 (0 : Int32) hf
      · have hf := if_f hf c_38
        refine x_bipush 29 hC (-2 : Int32) dX8_send_27 rfl (by decide) ?_
        cases hf
        exact x_iret hC dX8_send_29 hQ rfl rfl
    · have hf := if_f hf c_36
      refine x_iconst 17 hC (-1 : Int32) dX8_send_16 rfl (by decide) ?_
      cases hf
      exact x_iret hC dX8_send_17 hQ rfl rfl

theorem hd_X8_isLetter : yX8_isLetter.cls = RX8 ∧ yX8_isLetter.cls ≠ "java/lang/invoke/MethodHandle" ∧ yX8_isLetter.cls ≠ "java/lang/invoke/VarHandle" ∧ (parseMethodDescriptor yX8_isLetter.desc).map (fun d => d.parameters.length) = some 1 := by decide +kernel
noncomputable def f_X8_isLetter (v_s : Nat → Int64) (p1 : Int32) : Option (Int32) := bd (f_X8_in (p1.toInt64) (0 : Int64) (7 : Int64)) fun R_1 => if R_1 = 0 then (some ((0 : Int32))) else (bd (f_X8_isUnderWay v_s p1) fun R_3 => if R_3 = 0 then (some ((0 : Int32))) else (some ((1 : Int32))))
set_option maxHeartbeats 4000000 in
set_option maxRecDepth 100000 in
theorem c_X8_isLetter (l : Launch) (D : va_G) (cI cJ cQ : ClassId) (a_this : Nat) (a_s : Nat) (r_kept : Value) (r_known : Value) (r_whose : Value) (r_lesser : Value) (r_other : Value) (r_sums : Value) (r_weights : Value) (r_row : Value) (r_plan : Value) (v_undos : Int32) (v_open : Int32) (v_planned : Int32) (v_s : Nat → Int64) (p1 : Int32) (R0 : Int32) (hf : f_X8_isLetter v_s p1 = some R0) : Ci l yX8_isLetter wsX8_isLetter ({ frames := 2, cells := 0, slots := 0, locals := 87 } : Room) D [(cI, .int), (cJ, .long), (cQ, .object "WhisperCrowd$State")] [.ref a_this, .int p1] [(a_this, .inr (8, [.ref a_s, r_kept, .int v_undos, r_known, r_whose, r_lesser, r_other, .int v_open, r_sums, r_weights, r_row, r_plan, .int v_planned])), (a_s, .inl (cJ, 613, .inr (.inl v_s)))] [(a_this, .inr (8, [.ref a_s, r_kept, .int v_undos, r_known, r_whose, r_lesser, r_other, .int v_open, r_sums, r_weights, r_row, r_plan, .int v_planned])), (a_s, .inl (cJ, 613, .inr (.inl v_s)))] R0 := by
  refine x_enti (cc := cX8_isLetter) (maxL := 2) (rt := (some .boolean)) (lv := [(0, .ref a_this), (1, .int p1)]) (by decide) rfl (Nat.le_of_ble_eq_true rfl) rfl ?_
  intro p e s m args below meth c A Q hQ hC
  unfold f_X8_isLetter at hf
  refine x_iload_n 1 1 hC dX8_isLetter_0 rfl rfl rfl ?_
  refine x_i2l 2 hC dX8_isLetter_1 rfl ?_
  refine x_lconst 3 hC (0 : Int64) dX8_isLetter_2 rfl (by decide) ?_
  refine x_ldc2 6 hC (v := (7 : Int64)) (List.mem_of_getElem? (i := 1) (by decide +kernel)) dX8_isLetter_3 rfl ?_
  obtain ⟨R_1, h_R_1, hf⟩ := bd_e hf
  refine x_callSi 9 3 [] [(a_this, .inr (8, [.ref a_s, r_kept, .int v_undos, r_known, r_whose, r_lesser, r_other, .int v_open, r_sums, r_weights, r_row, r_plan, .int v_planned])), (a_s, .inl (cJ, 613, .inr (.inl v_s)))] hC (As := [.long (p1.toInt64), .long (0 : Int64), .long (7 : Int64)]) (c_X8_in l D cI cJ cQ (p1.toInt64) (0 : Int64) (7 : Int64) R_1 h_R_1) gX8_isLetter_X8_in rfl ⟨rfl, rfl⟩ hd_X8_in ⟨Nat.le_of_ble_eq_true rfl, Nat.le_of_ble_eq_true rfl⟩ rfl rfl rfl rfl rfl rfl (Nat.le_of_ble_eq_true rfl) ⟨Nat.le_of_ble_eq_true rfl, Nat.le_of_ble_eq_true rfl⟩ dX8_isLetter_6 rfl ?_
  refine x_if_eq 24 12 hC dX8_isLetter_9 (by decide) rfl (fun c_2 => ?_) (fun c_2 => ?_)
  · have hf := if_t hf c_2
    refine x_iconst 25 hC (0 : Int32) dX8_isLetter_24 rfl (by decide) ?_
    cases hf
    exact x_zret hC rfl dX8_isLetter_25 hQ rfl rfl
  · have hf := if_f hf c_2
    refine x_aload_n 13 0 hC dX8_isLetter_12 rfl rfl rfl ?_
    refine x_iload_n 14 1 hC dX8_isLetter_13 rfl rfl rfl ?_
    obtain ⟨R_3, h_R_3, hf⟩ := bd_e hf
    refine x_callVi 17 0 1 [0, 1] [(a_this, .inr (8, [.ref a_s, r_kept, .int v_undos, r_known, r_whose, r_lesser, r_other, .int v_open, r_sums, r_weights, r_row, r_plan, .int v_planned])), (a_s, .inl (cJ, 613, .inr (.inl v_s)))] hC (As := [.int p1]) (c_X8_isUnderWay l D cI cJ cQ a_this a_s r_kept r_known r_whose r_lesser r_other r_sums r_weights r_row r_plan v_undos v_open v_planned v_s p1 R_3 h_R_3) rfl rfl gX8_isLetter_X8_isUnderWay rfl ⟨rfl, rfl⟩ hd_X8_isUnderWay ⟨Nat.le_of_ble_eq_true rfl, Nat.le_of_ble_eq_true rfl⟩ rfl rfl rfl rfl rfl rfl (Nat.le_of_ble_eq_true rfl) ⟨Nat.le_of_ble_eq_true rfl, Nat.le_of_ble_eq_true rfl⟩ dX8_isLetter_14 rfl ?_
    refine x_if_eq 24 20 hC dX8_isLetter_17 (by decide) rfl (fun c_4 => ?_) (fun c_4 => ?_)
    · have hf := if_t hf c_4
      refine x_iconst 25 hC (0 : Int32) dX8_isLetter_24 rfl (by decide) ?_
      cases hf
      exact x_zret hC rfl dX8_isLetter_25 hQ rfl rfl
    · have hf := if_f hf c_4
      refine x_iconst 21 hC (1 : Int32) dX8_isLetter_20 rfl (by decide) ?_
      refine x_goto 25 hC dX8_isLetter_21 (by decide) ?_
      cases hf
      exact x_zret hC rfl dX8_isLetter_25 hQ rfl rfl

theorem hd_X8_bring : yX8_bring.cls = RX8 ∧ yX8_bring.cls ≠ "java/lang/invoke/MethodHandle" ∧ yX8_bring.cls ≠ "java/lang/invoke/VarHandle" ∧ (parseMethodDescriptor yX8_bring.desc).map (fun d => d.parameters.length) = some 1 := by decide +kernel
theorem in_X8_bring_X8 : ∀ w ∈ u_ws RX8 TX8 13, w ∈ wsX8_bring := fun w h => List.mem_cons_of_mem _ (List.mem_append_right _ h)
noncomputable def f_X8_bring (v_undos : Int32) (v_kept : Nat → Int64) (v_s : Nat → Int64) (p1 : Int32) : Option (Int32 × (Nat → Int64) × (Nat → Int64) × Int32) := bd (f_X8_isLetter v_s p1) fun R_1 => if ¬ R_1 = 0 then (bd (f_X8_keep v_s v_undos v_kept) fun R_3 => nm ((173 : Int32) + ((5 : Int32) * p1)) fun x_4 => ck (x_4 + (1 : Int32)) 613 <| nm ((v_s (x_4 + (1 : Int32)).toNatClampNeg).toInt32) fun x_6 => ck (x_4 + (2 : Int32)) 613 <| nm ((v_s (x_4 + (2 : Int32)).toNatClampNeg).toInt32) fun x_8 => ck ((33 : Int32) + x_8) 613 <| ck (x_4 + (3 : Int32)) 613 <| ck ((33 : Int32) + x_8) 613 <| nm (vp_updL v_s ((33 : Int32) + x_8).toNatClampNeg ((v_s ((33 : Int32) + x_8).toNatClampNeg) + (v_s (x_4 + (3 : Int32)).toNatClampNeg))) fun g_12 => ck ((43 : Int32) + x_8) 613 <| ck (x_4 + (4 : Int32)) 613 <| ck ((43 : Int32) + x_8) 613 <| nm (vp_updL g_12 ((43 : Int32) + x_8).toNatClampNeg ((g_12 ((43 : Int32) + x_8).toNatClampNeg) + (g_12 (x_4 + (4 : Int32)).toNatClampNeg))) fun g_16 => ck (((213 : Int32) + ((10 : Int32) * x_8)) + x_6) 613 <| ck (x_4 + (3 : Int32)) 613 <| ck (((213 : Int32) + ((10 : Int32) * x_8)) + x_6) 613 <| nm (vp_updL g_16 (((213 : Int32) + ((10 : Int32) * x_8)) + x_6).toNatClampNeg ((g_16 (((213 : Int32) + ((10 : Int32) * x_8)) + x_6).toNatClampNeg) - (g_16 (x_4 + (3 : Int32)).toNatClampNeg))) fun g_20 => ck (((313 : Int32) + ((10 : Int32) * x_8)) + x_6) 613 <| ck (x_4 + (4 : Int32)) 613 <| ck (((313 : Int32) + ((10 : Int32) * x_8)) + x_6) 613 <| nm (vp_updL g_20 (((313 : Int32) + ((10 : Int32) * x_8)) + x_6).toNatClampNeg ((g_20 (((313 : Int32) + ((10 : Int32) * x_8)) + x_6).toNatClampNeg) - (g_20 (x_4 + (4 : Int32)).toNatClampNeg))) fun g_24 => ck x_4 613 <| nm (vp_updL g_24 x_4.toNatClampNeg (0 : Int64)) fun g_26 => some (R_3.1, R_3.2, g_26, x_8)) else (some (v_undos, v_kept, v_s, (-1 : Int32)))
set_option maxHeartbeats 4000000 in
set_option maxRecDepth 100000 in
theorem c_X8_bring (l : Launch) (D : va_G) (cI cJ cQ : ClassId) (a_this : Nat) (a_kept : Nat) (a_s : Nat) (r_known : Value) (r_whose : Value) (r_lesser : Value) (r_other : Value) (r_sums : Value) (r_weights : Value) (r_row : Value) (r_plan : Value) (v_undos : Int32) (v_open : Int32) (v_planned : Int32) (v_kept : Nat → Int64) (v_s : Nat → Int64) (p1 : Int32) (R0 : Int32 × (Nat → Int64) × (Nat → Int64) × Int32) (hf : f_X8_bring v_undos v_kept v_s p1 = some R0) : Ci l yX8_bring wsX8_bring ({ frames := 3, cells := 0, slots := 0, locals := 110 } : Room) D [(cI, .int), (cJ, .long), (cQ, .object "WhisperCrowd$State")] [.ref a_this, .int p1] [(a_this, .inr (8, [.ref a_s, .ref a_kept, .int v_undos, r_known, r_whose, r_lesser, r_other, .int v_open, r_sums, r_weights, r_row, r_plan, .int v_planned])), (a_kept, .inl (cJ, 12260, .inr (.inl v_kept))), (a_s, .inl (cJ, 613, .inr (.inl v_s)))] [(a_this, .inr (8, [.ref a_s, .ref a_kept, .int R0.1, r_known, r_whose, r_lesser, r_other, .int v_open, r_sums, r_weights, r_row, r_plan, .int v_planned])), (a_kept, .inl (cJ, 12260, .inr (.inl R0.2.1))), (a_s, .inl (cJ, 613, .inr (.inl R0.2.2.1)))] R0.2.2.2 := by
  refine x_enti (cc := cX8_bring) (maxL := 5) (rt := (some .int)) (lv := [(0, .ref a_this), (1, .int p1)]) (by decide) rfl (Nat.le_of_ble_eq_true rfl) rfl ?_
  intro p e s m args below meth c A Q hQ hC
  unfold f_X8_bring at hf
  refine x_aload_n 1 0 hC dX8_bring_0 rfl rfl rfl ?_
  refine x_iload_n 2 1 hC dX8_bring_1 rfl rfl rfl ?_
  obtain ⟨R_1, h_R_1, hf⟩ := bd_e hf
  refine x_callVi 5 0 1 [0, 2] [(a_this, .inr (8, [.ref a_s, .ref a_kept, .int v_undos, r_known, r_whose, r_lesser, r_other, .int v_open, r_sums, r_weights, r_row, r_plan, .int v_planned])), (a_kept, .inl (cJ, 12260, .inr (.inl v_kept))), (a_s, .inl (cJ, 613, .inr (.inl v_s)))] hC (As := [.int p1]) (c_X8_isLetter l D cI cJ cQ a_this a_s (.ref a_kept) r_known r_whose r_lesser r_other r_sums r_weights r_row r_plan v_undos v_open v_planned v_s p1 R_1 h_R_1) rfl rfl gX8_bring_X8_isLetter rfl ⟨rfl, rfl⟩ hd_X8_isLetter ⟨Nat.le_of_ble_eq_true rfl, Nat.le_of_ble_eq_true rfl⟩ rfl rfl rfl rfl rfl rfl (Nat.le_of_ble_eq_true rfl) ⟨Nat.le_of_ble_eq_true rfl, Nat.le_of_ble_eq_true rfl⟩ dX8_bring_2 rfl ?_
  refine x_if_ne 10 8 hC dX8_bring_5 (by decide) rfl (fun c_2 => ?_) (fun c_2 => ?_)
  · have hf := if_t hf c_2
    refine x_aload_n 11 0 hC dX8_bring_10 rfl rfl rfl ?_
    obtain ⟨R_3, h_R_3, hf⟩ := bd_e hf
    refine x_callVv 14 0 0 [0, 1, 2] [(a_this, .inr (8, [.ref a_s, .ref a_kept, .int R_3.1, r_known, r_whose, r_lesser, r_other, .int v_open, r_sums, r_weights, r_row, r_plan, .int v_planned])), (a_kept, .inl (cJ, 12260, .inr (.inl R_3.2))), (a_s, .inl (cJ, 613, .inr (.inl v_s)))] hC (As := []) (c_X8_keep l D cI cJ cQ a_this a_kept a_s r_known r_whose r_lesser r_other r_sums r_weights r_row r_plan v_undos v_open v_planned v_kept v_s R_3 h_R_3) rfl rfl gX8_bring_X8_keep rfl ⟨rfl, rfl⟩ hd_X8_keep ⟨Nat.le_of_ble_eq_true rfl, Nat.le_of_ble_eq_true rfl⟩ rfl rfl rfl rfl rfl rfl (Nat.le_of_ble_eq_true rfl) ⟨Nat.le_of_ble_eq_true rfl, Nat.le_of_ble_eq_true rfl⟩ dX8_bring_11 rfl ?_
    refine x_sipush 17 hC (173 : Int32) dX8_bring_14 rfl (by decide) ?_
    refine x_iconst 18 hC (5 : Int32) dX8_bring_17 rfl (by decide) ?_
    refine x_iload_n 19 1 hC dX8_bring_18 rfl rfl rfl ?_
    refine x_imul 20 hC dX8_bring_19 rfl ?_
    refine x_iadd 21 hC dX8_bring_20 rfl ?_
    obtain ⟨x_4, e_x_4, hf⟩ := nmx_e hf
    refine x_istore_n 22 [(2, .int x_4), (0, .ref a_this), (1, .int p1)] hC dX8_bring_21 rfl rfl e_x_4 (by decide) rfl ?_
    refine x_aload_n 23 1 hC dX8_bring_22 rfl rfl rfl ?_
    refine x_get 26 0 0 hC in_X8_bring_X8 rfl rfl (by decide) (List.mem_of_getElem? (i := 1) (by decide +kernel)) rfl rfl dX8_bring_23 rfl ?_
    refine x_iload_n 27 0 hC dX8_bring_26 rfl rfl rfl ?_
    refine x_iconst 28 hC (1 : Int32) dX8_bring_27 rfl (by decide) ?_
    refine x_iadd 29 hC dX8_bring_28 rfl ?_
    obtain ⟨h_5, hf⟩ := ck_e hf
    refine x_lald 30 2 1 hC rfl rfl h_5 dX8_bring_29 rfl ?_
    refine x_l2i 31 hC dX8_bring_30 rfl ?_
    obtain ⟨x_6, e_x_6, hf⟩ := nmx_e hf
    refine x_istore_n 32 [(3, .int x_6), (2, .int x_4), (0, .ref a_this), (1, .int p1)] hC dX8_bring_31 rfl rfl e_x_6 (by decide) rfl ?_
    refine x_aload_n 33 2 hC dX8_bring_32 rfl rfl rfl ?_
    refine x_get 36 0 0 hC in_X8_bring_X8 rfl rfl (by decide) (List.mem_of_getElem? (i := 1) (by decide +kernel)) rfl rfl dX8_bring_33 rfl ?_
    refine x_iload_n 37 1 hC dX8_bring_36 rfl rfl rfl ?_
    refine x_iconst 38 hC (2 : Int32) dX8_bring_37 rfl (by decide) ?_
    refine x_iadd 39 hC dX8_bring_38 rfl ?_
    obtain ⟨h_7, hf⟩ := ck_e hf
    refine x_lald 40 2 1 hC rfl rfl h_7 dX8_bring_39 rfl ?_
    refine x_l2i 41 hC dX8_bring_40 rfl ?_
    obtain ⟨x_8, e_x_8, hf⟩ := nmx_e hf
    refine x_istore 43 [(4, .int x_8), (3, .int x_6), (2, .int x_4), (0, .ref a_this), (1, .int p1)] hC dX8_bring_41 rfl e_x_8 (by decide) rfl ?_
    refine x_aload_n 44 3 hC dX8_bring_43 rfl rfl rfl ?_
    refine x_get 47 0 0 hC in_X8_bring_X8 rfl rfl (by decide) (List.mem_of_getElem? (i := 1) (by decide +kernel)) rfl rfl dX8_bring_44 rfl ?_
    refine x_bipush 49 hC (33 : Int32) dX8_bring_47 rfl (by decide) ?_
    refine x_iload 51 0 hC dX8_bring_49 rfl rfl ?_
    refine x_iadd 52 hC dX8_bring_51 rfl ?_
    refine x_dup2_11 53 hC dX8_bring_52 rfl rfl rfl ?_
    obtain ⟨h_9, hf⟩ := ck_e hf
    refine x_lald 54 2 1 hC rfl rfl h_9 dX8_bring_53 rfl ?_
    refine x_aload_n 55 3 hC dX8_bring_54 rfl rfl rfl ?_
    refine x_get 58 0 0 hC in_X8_bring_X8 rfl rfl (by decide) (List.mem_of_getElem? (i := 1) (by decide +kernel)) rfl rfl dX8_bring_55 rfl ?_
    refine x_iload_n 59 2 hC dX8_bring_58 rfl rfl rfl ?_
    refine x_iconst 60 hC (3 : Int32) dX8_bring_59 rfl (by decide) ?_
    refine x_iadd 61 hC dX8_bring_60 rfl ?_
    obtain ⟨h_10, hf⟩ := ck_e hf
    refine x_lald 62 2 1 hC rfl rfl h_10 dX8_bring_61 rfl ?_
    refine x_ladd 63 hC dX8_bring_62 rfl ?_
    obtain ⟨h_11, hf⟩ := ck_e hf
    obtain ⟨g_12, e_g_12, hf⟩ := nmx_e hf
    refine x_last 64 2 1 [(a_this, .inr (8, [.ref a_s, .ref a_kept, .int R_3.1, r_known, r_whose, r_lesser, r_other, .int v_open, r_sums, r_weights, r_row, r_plan, .int v_planned])), (a_kept, .inl (cJ, 12260, .inr (.inl R_3.2))), (a_s, .inl (cJ, 613, .inr (.inl g_12)))] hC rfl rfl h_11 e_g_12 rfl dX8_bring_63 rfl ?_
    refine x_aload_n 65 3 hC dX8_bring_64 rfl rfl rfl ?_
    refine x_get 68 0 0 hC in_X8_bring_X8 rfl rfl (by decide) (List.mem_of_getElem? (i := 1) (by decide +kernel)) rfl rfl dX8_bring_65 rfl ?_
    refine x_bipush 70 hC (43 : Int32) dX8_bring_68 rfl (by decide) ?_
    refine x_iload 72 0 hC dX8_bring_70 rfl rfl ?_
    refine x_iadd 73 hC dX8_bring_72 rfl ?_
    refine x_dup2_11 74 hC dX8_bring_73 rfl rfl rfl ?_
    obtain ⟨h_13, hf⟩ := ck_e hf
    refine x_lald 75 2 1 hC rfl rfl h_13 dX8_bring_74 rfl ?_
    refine x_aload_n 76 3 hC dX8_bring_75 rfl rfl rfl ?_
    refine x_get 79 0 0 hC in_X8_bring_X8 rfl rfl (by decide) (List.mem_of_getElem? (i := 1) (by decide +kernel)) rfl rfl dX8_bring_76 rfl ?_
    refine x_iload_n 80 2 hC dX8_bring_79 rfl rfl rfl ?_
    refine x_iconst 81 hC (4 : Int32) dX8_bring_80 rfl (by decide) ?_
    refine x_iadd 82 hC dX8_bring_81 rfl ?_
    obtain ⟨h_14, hf⟩ := ck_e hf
    refine x_lald 83 2 1 hC rfl rfl h_14 dX8_bring_82 rfl ?_
    refine x_ladd 84 hC dX8_bring_83 rfl ?_
    obtain ⟨h_15, hf⟩ := ck_e hf
    obtain ⟨g_16, e_g_16, hf⟩ := nmx_e hf
    refine x_last 85 2 1 [(a_this, .inr (8, [.ref a_s, .ref a_kept, .int R_3.1, r_known, r_whose, r_lesser, r_other, .int v_open, r_sums, r_weights, r_row, r_plan, .int v_planned])), (a_kept, .inl (cJ, 12260, .inr (.inl R_3.2))), (a_s, .inl (cJ, 613, .inr (.inl g_16)))] hC rfl rfl h_15 e_g_16 rfl dX8_bring_84 rfl ?_
    refine x_aload_n 86 3 hC dX8_bring_85 rfl rfl rfl ?_
    refine x_get 89 0 0 hC in_X8_bring_X8 rfl rfl (by decide) (List.mem_of_getElem? (i := 1) (by decide +kernel)) rfl rfl dX8_bring_86 rfl ?_
    refine x_sipush 92 hC (213 : Int32) dX8_bring_89 rfl (by decide) ?_
    refine x_bipush 94 hC (10 : Int32) dX8_bring_92 rfl (by decide) ?_
    refine x_iload 96 0 hC dX8_bring_94 rfl rfl ?_
    refine x_imul 97 hC dX8_bring_96 rfl ?_
    refine x_iadd 98 hC dX8_bring_97 rfl ?_
    refine x_iload_n 99 1 hC dX8_bring_98 rfl rfl rfl ?_
    refine x_iadd 100 hC dX8_bring_99 rfl ?_
    refine x_dup2_11 101 hC dX8_bring_100 rfl rfl rfl ?_
    obtain ⟨h_17, hf⟩ := ck_e hf
    refine x_lald 102 2 1 hC rfl rfl h_17 dX8_bring_101 rfl ?_
    refine x_aload_n 103 3 hC dX8_bring_102 rfl rfl rfl ?_
    refine x_get 106 0 0 hC in_X8_bring_X8 rfl rfl (by decide) (List.mem_of_getElem? (i := 1) (by decide +kernel)) rfl rfl dX8_bring_103 rfl ?_
    refine x_iload_n 107 2 hC dX8_bring_106 rfl rfl rfl ?_
    refine x_iconst 108 hC (3 : Int32) dX8_bring_107 rfl (by decide) ?_
    refine x_iadd 109 hC dX8_bring_108 rfl ?_
    obtain ⟨h_18, hf⟩ := ck_e hf
    refine x_lald 110 2 1 hC rfl rfl h_18 dX8_bring_109 rfl ?_
    refine x_lsub 111 hC dX8_bring_110 rfl ?_
    obtain ⟨h_19, hf⟩ := ck_e hf
    obtain ⟨g_20, e_g_20, hf⟩ := nmx_e hf
    refine x_last 112 2 1 [(a_this, .inr (8, [.ref a_s, .ref a_kept, .int R_3.1, r_known, r_whose, r_lesser, r_other, .int v_open, r_sums, r_weights, r_row, r_plan, .int v_planned])), (a_kept, .inl (cJ, 12260, .inr (.inl R_3.2))), (a_s, .inl (cJ, 613, .inr (.inl g_20)))] hC rfl rfl h_19 e_g_20 rfl dX8_bring_111 rfl ?_
    refine x_aload_n 113 3 hC dX8_bring_112 rfl rfl rfl ?_
    refine x_get 116 0 0 hC in_X8_bring_X8 rfl rfl (by decide) (List.mem_of_getElem? (i := 1) (by decide +kernel)) rfl rfl dX8_bring_113 rfl ?_
    refine x_sipush 119 hC (313 : Int32) dX8_bring_116 rfl (by decide) ?_
    refine x_bipush 121 hC (10 : Int32) dX8_bring_119 rfl (by decide) ?_
    refine x_iload 123 0 hC dX8_bring_121 rfl rfl ?_
    refine x_imul 124 hC dX8_bring_123 rfl ?_
    refine x_iadd 125 hC dX8_bring_124 rfl ?_
    refine x_iload_n 126 1 hC dX8_bring_125 rfl rfl rfl ?_
    refine x_iadd 127 hC dX8_bring_126 rfl ?_
    refine x_dup2_11 128 hC dX8_bring_127 rfl rfl rfl ?_
    obtain ⟨h_21, hf⟩ := ck_e hf
    refine x_lald 129 2 1 hC rfl rfl h_21 dX8_bring_128 rfl ?_
    refine x_aload_n 130 3 hC dX8_bring_129 rfl rfl rfl ?_
    refine x_get 133 0 0 hC in_X8_bring_X8 rfl rfl (by decide) (List.mem_of_getElem? (i := 1) (by decide +kernel)) rfl rfl dX8_bring_130 rfl ?_
    refine x_iload_n 134 2 hC dX8_bring_133 rfl rfl rfl ?_
    refine x_iconst 135 hC (4 : Int32) dX8_bring_134 rfl (by decide) ?_
    refine x_iadd 136 hC dX8_bring_135 rfl ?_
    obtain ⟨h_22, hf⟩ := ck_e hf
    refine x_lald 137 2 1 hC rfl rfl h_22 dX8_bring_136 rfl ?_
    refine x_lsub 138 hC dX8_bring_137 rfl ?_
    obtain ⟨h_23, hf⟩ := ck_e hf
    obtain ⟨g_24, e_g_24, hf⟩ := nmx_e hf
    refine x_last 139 2 1 [(a_this, .inr (8, [.ref a_s, .ref a_kept, .int R_3.1, r_known, r_whose, r_lesser, r_other, .int v_open, r_sums, r_weights, r_row, r_plan, .int v_planned])), (a_kept, .inl (cJ, 12260, .inr (.inl R_3.2))), (a_s, .inl (cJ, 613, .inr (.inl g_24)))] hC rfl rfl h_23 e_g_24 rfl dX8_bring_138 rfl ?_
    refine x_aload_n 140 3 hC dX8_bring_139 rfl rfl rfl ?_
    refine x_get 143 0 0 hC in_X8_bring_X8 rfl rfl (by decide) (List.mem_of_getElem? (i := 1) (by decide +kernel)) rfl rfl dX8_bring_140 rfl ?_
    refine x_iload_n 144 2 hC dX8_bring_143 rfl rfl rfl ?_
    refine x_lconst 145 hC (0 : Int64) dX8_bring_144 rfl (by decide) ?_
    obtain ⟨h_25, hf⟩ := ck_e hf
    obtain ⟨g_26, e_g_26, hf⟩ := nmx_e hf
    refine x_last 146 2 1 [(a_this, .inr (8, [.ref a_s, .ref a_kept, .int R_3.1, r_known, r_whose, r_lesser, r_other, .int v_open, r_sums, r_weights, r_row, r_plan, .int v_planned])), (a_kept, .inl (cJ, 12260, .inr (.inl R_3.2))), (a_s, .inl (cJ, 613, .inr (.inl g_26)))] hC rfl rfl h_25 e_g_26 rfl dX8_bring_145 rfl ?_
    refine x_iload 148 0 hC dX8_bring_146 rfl rfl ?_
    cases hf
    exact x_iret hC dX8_bring_148 hQ rfl rfl
  · have hf := if_f hf c_2
    refine x_iconst 9 hC (-1 : Int32) dX8_bring_8 rfl (by decide) ?_
    cases hf
    exact x_iret hC dX8_bring_9 hQ rfl rfl

theorem hd_X8_lose : yX8_lose.cls = RX8 ∧ yX8_lose.cls ≠ "java/lang/invoke/MethodHandle" ∧ yX8_lose.cls ≠ "java/lang/invoke/VarHandle" ∧ (parseMethodDescriptor yX8_lose.desc).map (fun d => d.parameters.length) = some 1 := by decide +kernel
theorem in_X8_lose_X8 : ∀ w ∈ u_ws RX8 TX8 13, w ∈ wsX8_lose := fun w h => List.mem_cons_of_mem _ (List.mem_append_right _ h)
noncomputable def f_X8_lose (v_undos : Int32) (v_kept : Nat → Int64) (v_s : Nat → Int64) (p1 : Int32) : Option (Int32 × (Nat → Int64) × (Nat → Int64) × Int32) := bd (f_X8_isLetter v_s p1) fun R_1 => if ¬ R_1 = 0 then (bd (f_X8_keep v_s v_undos v_kept) fun R_3 => nm ((173 : Int32) + ((5 : Int32) * p1)) fun x_4 => ck (x_4 + (1 : Int32)) 613 <| ck (x_4 + (2 : Int32)) 613 <| nm ((((10 : Int64) * (v_s (x_4 + (1 : Int32)).toNatClampNeg)) + (v_s (x_4 + (2 : Int32)).toNatClampNeg)).toInt32) fun x_7 => ck ((413 : Int32) + x_7) 613 <| ck (x_4 + (3 : Int32)) 613 <| ck ((413 : Int32) + x_7) 613 <| nm (vp_updL v_s ((413 : Int32) + x_7).toNatClampNeg ((v_s ((413 : Int32) + x_7).toNatClampNeg) + (v_s (x_4 + (3 : Int32)).toNatClampNeg))) fun g_11 => ck ((513 : Int32) + x_7) 613 <| ck (x_4 + (4 : Int32)) 613 <| ck ((513 : Int32) + x_7) 613 <| nm (vp_updL g_11 ((513 : Int32) + x_7).toNatClampNeg ((g_11 ((513 : Int32) + x_7).toNatClampNeg) + (g_11 (x_4 + (4 : Int32)).toNatClampNeg))) fun g_15 => ck x_4 613 <| nm (vp_updL g_15 x_4.toNatClampNeg (0 : Int64)) fun g_17 => ck (x_4 + (1 : Int32)) 613 <| some (R_3.1, R_3.2, g_17, ((g_17 (x_4 + (1 : Int32)).toNatClampNeg).toInt32))) else (some (v_undos, v_kept, v_s, (-1 : Int32)))
set_option maxHeartbeats 4000000 in
set_option maxRecDepth 100000 in
theorem c_X8_lose (l : Launch) (D : va_G) (cI cJ cQ : ClassId) (a_this : Nat) (a_kept : Nat) (a_s : Nat) (r_known : Value) (r_whose : Value) (r_lesser : Value) (r_other : Value) (r_sums : Value) (r_weights : Value) (r_row : Value) (r_plan : Value) (v_undos : Int32) (v_open : Int32) (v_planned : Int32) (v_kept : Nat → Int64) (v_s : Nat → Int64) (p1 : Int32) (R0 : Int32 × (Nat → Int64) × (Nat → Int64) × Int32) (hf : f_X8_lose v_undos v_kept v_s p1 = some R0) : Ci l yX8_lose wsX8_lose ({ frames := 3, cells := 0, slots := 0, locals := 110 } : Room) D [(cI, .int), (cJ, .long), (cQ, .object "WhisperCrowd$State")] [.ref a_this, .int p1] [(a_this, .inr (8, [.ref a_s, .ref a_kept, .int v_undos, r_known, r_whose, r_lesser, r_other, .int v_open, r_sums, r_weights, r_row, r_plan, .int v_planned])), (a_kept, .inl (cJ, 12260, .inr (.inl v_kept))), (a_s, .inl (cJ, 613, .inr (.inl v_s)))] [(a_this, .inr (8, [.ref a_s, .ref a_kept, .int R0.1, r_known, r_whose, r_lesser, r_other, .int v_open, r_sums, r_weights, r_row, r_plan, .int v_planned])), (a_kept, .inl (cJ, 12260, .inr (.inl R0.2.1))), (a_s, .inl (cJ, 613, .inr (.inl R0.2.2.1)))] R0.2.2.2 := by
  refine x_enti (cc := cX8_lose) (maxL := 4) (rt := (some .int)) (lv := [(0, .ref a_this), (1, .int p1)]) (by decide) rfl (Nat.le_of_ble_eq_true rfl) rfl ?_
  intro p e s m args below meth c A Q hQ hC
  unfold f_X8_lose at hf
  refine x_aload_n 1 0 hC dX8_lose_0 rfl rfl rfl ?_
  refine x_iload_n 2 1 hC dX8_lose_1 rfl rfl rfl ?_
  obtain ⟨R_1, h_R_1, hf⟩ := bd_e hf
  refine x_callVi 5 0 1 [0, 2] [(a_this, .inr (8, [.ref a_s, .ref a_kept, .int v_undos, r_known, r_whose, r_lesser, r_other, .int v_open, r_sums, r_weights, r_row, r_plan, .int v_planned])), (a_kept, .inl (cJ, 12260, .inr (.inl v_kept))), (a_s, .inl (cJ, 613, .inr (.inl v_s)))] hC (As := [.int p1]) (c_X8_isLetter l D cI cJ cQ a_this a_s (.ref a_kept) r_known r_whose r_lesser r_other r_sums r_weights r_row r_plan v_undos v_open v_planned v_s p1 R_1 h_R_1) rfl rfl gX8_lose_X8_isLetter rfl ⟨rfl, rfl⟩ hd_X8_isLetter ⟨Nat.le_of_ble_eq_true rfl, Nat.le_of_ble_eq_true rfl⟩ rfl rfl rfl rfl rfl rfl (Nat.le_of_ble_eq_true rfl) ⟨Nat.le_of_ble_eq_true rfl, Nat.le_of_ble_eq_true rfl⟩ dX8_lose_2 rfl ?_
  refine x_if_ne 10 8 hC dX8_lose_5 (by decide) rfl (fun c_2 => ?_) (fun c_2 => ?_)
  · have hf := if_t hf c_2
    refine x_aload_n 11 0 hC dX8_lose_10 rfl rfl rfl ?_
    obtain ⟨R_3, h_R_3, hf⟩ := bd_e hf
    refine x_callVv 14 0 0 [0, 1, 2] [(a_this, .inr (8, [.ref a_s, .ref a_kept, .int R_3.1, r_known, r_whose, r_lesser, r_other, .int v_open, r_sums, r_weights, r_row, r_plan, .int v_planned])), (a_kept, .inl (cJ, 12260, .inr (.inl R_3.2))), (a_s, .inl (cJ, 613, .inr (.inl v_s)))] hC (As := []) (c_X8_keep l D cI cJ cQ a_this a_kept a_s r_known r_whose r_lesser r_other r_sums r_weights r_row r_plan v_undos v_open v_planned v_kept v_s R_3 h_R_3) rfl rfl gX8_lose_X8_keep rfl ⟨rfl, rfl⟩ hd_X8_keep ⟨Nat.le_of_ble_eq_true rfl, Nat.le_of_ble_eq_true rfl⟩ rfl rfl rfl rfl rfl rfl (Nat.le_of_ble_eq_true rfl) ⟨Nat.le_of_ble_eq_true rfl, Nat.le_of_ble_eq_true rfl⟩ dX8_lose_11 rfl ?_
    refine x_sipush 17 hC (173 : Int32) dX8_lose_14 rfl (by decide) ?_
    refine x_iconst 18 hC (5 : Int32) dX8_lose_17 rfl (by decide) ?_
    refine x_iload_n 19 1 hC dX8_lose_18 rfl rfl rfl ?_
    refine x_imul 20 hC dX8_lose_19 rfl ?_
    refine x_iadd 21 hC dX8_lose_20 rfl ?_
    obtain ⟨x_4, e_x_4, hf⟩ := nmx_e hf
    refine x_istore_n 22 [(2, .int x_4), (0, .ref a_this), (1, .int p1)] hC dX8_lose_21 rfl rfl e_x_4 (by decide) rfl ?_
    refine x_ldc2 25 hC (v := (10 : Int64)) (List.mem_of_getElem? (i := 1) (by decide +kernel)) dX8_lose_22 rfl ?_
    refine x_aload_n 26 1 hC dX8_lose_25 rfl rfl rfl ?_
    refine x_get 29 0 0 hC in_X8_lose_X8 rfl rfl (by decide) (List.mem_of_getElem? (i := 2) (by decide +kernel)) rfl rfl dX8_lose_26 rfl ?_
    refine x_iload_n 30 0 hC dX8_lose_29 rfl rfl rfl ?_
    refine x_iconst 31 hC (1 : Int32) dX8_lose_30 rfl (by decide) ?_
    refine x_iadd 32 hC dX8_lose_31 rfl ?_
    obtain ⟨h_5, hf⟩ := ck_e hf
    refine x_lald 33 2 1 hC rfl rfl h_5 dX8_lose_32 rfl ?_
    refine x_lmul 34 hC dX8_lose_33 rfl ?_
    refine x_aload_n 35 1 hC dX8_lose_34 rfl rfl rfl ?_
    refine x_get 38 0 0 hC in_X8_lose_X8 rfl rfl (by decide) (List.mem_of_getElem? (i := 2) (by decide +kernel)) rfl rfl dX8_lose_35 rfl ?_
    refine x_iload_n 39 0 hC dX8_lose_38 rfl rfl rfl ?_
    refine x_iconst 40 hC (2 : Int32) dX8_lose_39 rfl (by decide) ?_
    refine x_iadd 41 hC dX8_lose_40 rfl ?_
    obtain ⟨h_6, hf⟩ := ck_e hf
    refine x_lald 42 2 1 hC rfl rfl h_6 dX8_lose_41 rfl ?_
    refine x_ladd 43 hC dX8_lose_42 rfl ?_
    refine x_l2i 44 hC dX8_lose_43 rfl ?_
    obtain ⟨x_7, e_x_7, hf⟩ := nmx_e hf
    refine x_istore_n 45 [(3, .int x_7), (2, .int x_4), (0, .ref a_this), (1, .int p1)] hC dX8_lose_44 rfl rfl e_x_7 (by decide) rfl ?_
    refine x_aload_n 46 2 hC dX8_lose_45 rfl rfl rfl ?_
    refine x_get 49 0 0 hC in_X8_lose_X8 rfl rfl (by decide) (List.mem_of_getElem? (i := 2) (by decide +kernel)) rfl rfl dX8_lose_46 rfl ?_
    refine x_sipush 52 hC (413 : Int32) dX8_lose_49 rfl (by decide) ?_
    refine x_iload_n 53 0 hC dX8_lose_52 rfl rfl rfl ?_
    refine x_iadd 54 hC dX8_lose_53 rfl ?_
    refine x_dup2_11 55 hC dX8_lose_54 rfl rfl rfl ?_
    obtain ⟨h_8, hf⟩ := ck_e hf
    refine x_lald 56 2 1 hC rfl rfl h_8 dX8_lose_55 rfl ?_
    refine x_aload_n 57 2 hC dX8_lose_56 rfl rfl rfl ?_
    refine x_get 60 0 0 hC in_X8_lose_X8 rfl rfl (by decide) (List.mem_of_getElem? (i := 2) (by decide +kernel)) rfl rfl dX8_lose_57 rfl ?_
    refine x_iload_n 61 1 hC dX8_lose_60 rfl rfl rfl ?_
    refine x_iconst 62 hC (3 : Int32) dX8_lose_61 rfl (by decide) ?_
    refine x_iadd 63 hC dX8_lose_62 rfl ?_
    obtain ⟨h_9, hf⟩ := ck_e hf
    refine x_lald 64 2 1 hC rfl rfl h_9 dX8_lose_63 rfl ?_
    refine x_ladd 65 hC dX8_lose_64 rfl ?_
    obtain ⟨h_10, hf⟩ := ck_e hf
    obtain ⟨g_11, e_g_11, hf⟩ := nmx_e hf
    refine x_last 66 2 1 [(a_this, .inr (8, [.ref a_s, .ref a_kept, .int R_3.1, r_known, r_whose, r_lesser, r_other, .int v_open, r_sums, r_weights, r_row, r_plan, .int v_planned])), (a_kept, .inl (cJ, 12260, .inr (.inl R_3.2))), (a_s, .inl (cJ, 613, .inr (.inl g_11)))] hC rfl rfl h_10 e_g_11 rfl dX8_lose_65 rfl ?_
    refine x_aload_n 67 2 hC dX8_lose_66 rfl rfl rfl ?_
    refine x_get 70 0 0 hC in_X8_lose_X8 rfl rfl (by decide) (List.mem_of_getElem? (i := 2) (by decide +kernel)) rfl rfl dX8_lose_67 rfl ?_
    refine x_sipush 73 hC (513 : Int32) dX8_lose_70 rfl (by decide) ?_
    refine x_iload_n 74 0 hC dX8_lose_73 rfl rfl rfl ?_
    refine x_iadd 75 hC dX8_lose_74 rfl ?_
    refine x_dup2_11 76 hC dX8_lose_75 rfl rfl rfl ?_
    obtain ⟨h_12, hf⟩ := ck_e hf
    refine x_lald 77 2 1 hC rfl rfl h_12 dX8_lose_76 rfl ?_
    refine x_aload_n 78 2 hC dX8_lose_77 rfl rfl rfl ?_
    refine x_get 81 0 0 hC in_X8_lose_X8 rfl rfl (by decide) (List.mem_of_getElem? (i := 2) (by decide +kernel)) rfl rfl dX8_lose_78 rfl ?_
    refine x_iload_n 82 1 hC dX8_lose_81 rfl rfl rfl ?_
    refine x_iconst 83 hC (4 : Int32) dX8_lose_82 rfl (by decide) ?_
    refine x_iadd 84 hC dX8_lose_83 rfl ?_
    obtain ⟨h_13, hf⟩ := ck_e hf
    refine x_lald 85 2 1 hC rfl rfl h_13 dX8_lose_84 rfl ?_
    refine x_ladd 86 hC dX8_lose_85 rfl ?_
    obtain ⟨h_14, hf⟩ := ck_e hf
    obtain ⟨g_15, e_g_15, hf⟩ := nmx_e hf
    refine x_last 87 2 1 [(a_this, .inr (8, [.ref a_s, .ref a_kept, .int R_3.1, r_known, r_whose, r_lesser, r_other, .int v_open, r_sums, r_weights, r_row, r_plan, .int v_planned])), (a_kept, .inl (cJ, 12260, .inr (.inl R_3.2))), (a_s, .inl (cJ, 613, .inr (.inl g_15)))] hC rfl rfl h_14 e_g_15 rfl dX8_lose_86 rfl ?_
    refine x_aload_n 88 2 hC dX8_lose_87 rfl rfl rfl ?_
    refine x_get 91 0 0 hC in_X8_lose_X8 rfl rfl (by decide) (List.mem_of_getElem? (i := 2) (by decide +kernel)) rfl rfl dX8_lose_88 rfl ?_
    refine x_iload_n 92 1 hC dX8_lose_91 rfl rfl rfl ?_
    refine x_lconst 93 hC (0 : Int64) dX8_lose_92 rfl (by decide) ?_
    obtain ⟨h_16, hf⟩ := ck_e hf
    obtain ⟨g_17, e_g_17, hf⟩ := nmx_e hf
    refine x_last 94 2 1 [(a_this, .inr (8, [.ref a_s, .ref a_kept, .int R_3.1, r_known, r_whose, r_lesser, r_other, .int v_open, r_sums, r_weights, r_row, r_plan, .int v_planned])), (a_kept, .inl (cJ, 12260, .inr (.inl R_3.2))), (a_s, .inl (cJ, 613, .inr (.inl g_17)))] hC rfl rfl h_16 e_g_17 rfl dX8_lose_93 rfl ?_
    refine x_aload_n 95 2 hC dX8_lose_94 rfl rfl rfl ?_
    refine x_get 98 0 0 hC in_X8_lose_X8 rfl rfl (by decide) (List.mem_of_getElem? (i := 2) (by decide +kernel)) rfl rfl dX8_lose_95 rfl ?_
    refine x_iload_n 99 1 hC dX8_lose_98 rfl rfl rfl ?_
    refine x_iconst 100 hC (1 : Int32) dX8_lose_99 rfl (by decide) ?_
    refine x_iadd 101 hC dX8_lose_100 rfl ?_
    obtain ⟨h_18, hf⟩ := ck_e hf
    refine x_lald 102 2 1 hC rfl rfl h_18 dX8_lose_101 rfl ?_
    refine x_l2i 103 hC dX8_lose_102 rfl ?_
    cases hf
    exact x_iret hC dX8_lose_103 hQ rfl rfl
  · have hf := if_f hf c_2
    refine x_iconst 9 hC (-1 : Int32) dX8_lose_8 rfl (by decide) ?_
    cases hf
    exact x_iret hC dX8_lose_9 hQ rfl rfl

theorem hd_X8_seed : yX8_seed.cls = RX8 ∧ yX8_seed.cls ≠ "java/lang/invoke/MethodHandle" ∧ yX8_seed.cls ≠ "java/lang/invoke/VarHandle" ∧ (parseMethodDescriptor yX8_seed.desc).map (fun d => d.parameters.length) = some 1 := by decide +kernel
theorem in_X8_seed_X8 : ∀ w ∈ u_ws RX8 TX8 13, w ∈ wsX8_seed := fun w h => List.mem_cons_of_mem _ (List.mem_append_right _ h)
noncomputable def f_X8_seed (v_undos : Int32) (v_kept : Nat → Int64) (v_s : Nat → Int64) (p1 : Int32) : Option (Int32 × (Nat → Int64) × (Nat → Int64) × Int32) := if 0 ≤ p1 then (bd (f_X8_keep v_s v_undos v_kept) fun R_2 => ck (1 : Int32) 613 <| nm (vp_updL v_s (1 : Int32).toNatClampNeg (p1.toInt64)) fun g_4 => some (R_2.1, R_2.2, g_4, (1 : Int32))) else (some (v_undos, v_kept, v_s, (-1 : Int32)))
set_option maxHeartbeats 4000000 in
set_option maxRecDepth 100000 in
theorem c_X8_seed (l : Launch) (D : va_G) (cI cJ cQ : ClassId) (a_this : Nat) (a_kept : Nat) (a_s : Nat) (r_known : Value) (r_whose : Value) (r_lesser : Value) (r_other : Value) (r_sums : Value) (r_weights : Value) (r_row : Value) (r_plan : Value) (v_undos : Int32) (v_open : Int32) (v_planned : Int32) (v_kept : Nat → Int64) (v_s : Nat → Int64) (p1 : Int32) (R0 : Int32 × (Nat → Int64) × (Nat → Int64) × Int32) (hf : f_X8_seed v_undos v_kept v_s p1 = some R0) : Ci l yX8_seed wsX8_seed ({ frames := 2, cells := 0, slots := 0, locals := 83 } : Room) D [(cI, .int), (cJ, .long), (cQ, .object "WhisperCrowd$State")] [.ref a_this, .int p1] [(a_this, .inr (8, [.ref a_s, .ref a_kept, .int v_undos, r_known, r_whose, r_lesser, r_other, .int v_open, r_sums, r_weights, r_row, r_plan, .int v_planned])), (a_kept, .inl (cJ, 12260, .inr (.inl v_kept))), (a_s, .inl (cJ, 613, .inr (.inl v_s)))] [(a_this, .inr (8, [.ref a_s, .ref a_kept, .int R0.1, r_known, r_whose, r_lesser, r_other, .int v_open, r_sums, r_weights, r_row, r_plan, .int v_planned])), (a_kept, .inl (cJ, 12260, .inr (.inl R0.2.1))), (a_s, .inl (cJ, 613, .inr (.inl R0.2.2.1)))] R0.2.2.2 := by
  refine x_enti (cc := cX8_seed) (maxL := 2) (rt := (some .int)) (lv := [(0, .ref a_this), (1, .int p1)]) (by decide) rfl (Nat.le_of_ble_eq_true rfl) rfl ?_
  intro p e s m args below meth c A Q hQ hC
  unfold f_X8_seed at hf
  refine x_iload_n 1 1 hC dX8_seed_0 rfl rfl rfl ?_
  refine x_if_ge 6 4 hC dX8_seed_1 (by decide) rfl (fun c_1 => ?_) (fun c_1 => ?_)
  · have hf := if_t hf c_1
    refine x_aload_n 7 0 hC dX8_seed_6 rfl rfl rfl ?_
    obtain ⟨R_2, h_R_2, hf⟩ := bd_e hf
    refine x_callVv 10 0 0 [0, 1, 2] [(a_this, .inr (8, [.ref a_s, .ref a_kept, .int R_2.1, r_known, r_whose, r_lesser, r_other, .int v_open, r_sums, r_weights, r_row, r_plan, .int v_planned])), (a_kept, .inl (cJ, 12260, .inr (.inl R_2.2))), (a_s, .inl (cJ, 613, .inr (.inl v_s)))] hC (As := []) (c_X8_keep l D cI cJ cQ a_this a_kept a_s r_known r_whose r_lesser r_other r_sums r_weights r_row r_plan v_undos v_open v_planned v_kept v_s R_2 h_R_2) rfl rfl gX8_seed_X8_keep rfl ⟨rfl, rfl⟩ hd_X8_keep ⟨Nat.le_of_ble_eq_true rfl, Nat.le_of_ble_eq_true rfl⟩ rfl rfl rfl rfl rfl rfl (Nat.le_of_ble_eq_true rfl) ⟨Nat.le_of_ble_eq_true rfl, Nat.le_of_ble_eq_true rfl⟩ dX8_seed_7 rfl ?_
    refine x_aload_n 11 0 hC dX8_seed_10 rfl rfl rfl ?_
    refine x_get 14 0 0 hC in_X8_seed_X8 rfl rfl (by decide) (List.mem_of_getElem? (i := 1) (by decide +kernel)) rfl rfl dX8_seed_11 rfl ?_
    refine x_iconst 15 hC (1 : Int32) dX8_seed_14 rfl (by decide) ?_
    refine x_iload_n 16 1 hC dX8_seed_15 rfl rfl rfl ?_
    refine x_i2l 17 hC dX8_seed_16 rfl ?_
    obtain ⟨h_3, hf⟩ := ck_e hf
    obtain ⟨g_4, e_g_4, hf⟩ := nmx_e hf
    refine x_last 18 2 1 [(a_this, .inr (8, [.ref a_s, .ref a_kept, .int R_2.1, r_known, r_whose, r_lesser, r_other, .int v_open, r_sums, r_weights, r_row, r_plan, .int v_planned])), (a_kept, .inl (cJ, 12260, .inr (.inl R_2.2))), (a_s, .inl (cJ, 613, .inr (.inl g_4)))] hC rfl rfl h_3 e_g_4 rfl dX8_seed_17 rfl ?_
    refine x_iconst 19 hC (1 : Int32) dX8_seed_18 rfl (by decide) ?_
    cases hf
    exact x_iret hC dX8_seed_19 hQ rfl rfl
  · have hf := if_f hf c_1
    refine x_iconst 5 hC (-1 : Int32) dX8_seed_4 rfl (by decide) ?_
    cases hf
    exact x_iret hC dX8_seed_5 hQ rfl rfl
