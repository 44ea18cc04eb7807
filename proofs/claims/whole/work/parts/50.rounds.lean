/-! ===== spread and start ===== -/
def npD (s : Row) (k : Nat) : Row := fun j => if 31 ≤ j ∧ j < 31 + k then -nI 1 else s j
theorem npD_s (s : Row) (k : Nat) : upd (npD s k) (31 + k) (-nI 1) = npD s (k + 1) := by
  funext j
  rw [upd_at]
  unfold npD
  by_cases h : j = 31 + k
  · rw [if_pos h, if_pos (by omega)]
  · rw [if_neg h]
    by_cases h2 : 31 ≤ j ∧ j < 31 + k
    · rw [if_pos h2, if_pos (by omega)]
    · rw [if_neg h2, if_neg (by omega)]
theorem m_noPairs (s : Row) (t : Nat × Nat × Bool) (I : Nat → Nat → Int32) (L : Nat → Nat → Int64) (V : Nat → Option Nat) : eCall mX13_noPairs [.ref 189] (mM t (wR I s) L V) = some (.inl none, mM t (wR I (npD s 6)) L V) := by
  have hl : eLoop eFuel 2 (eDen gX13_noPairs_L2) ([.ref 189, .int (nI 0)], [], (mM t (wR I s) L V)) = some (none, ([.ref 189, .int (nI 6)], [], mM t (wR I (npD s 6)) L V)) := by
    refine eLoop_r (h := 2) (fun k => ([.ref 189, .int (nI k)], [], mM t (wR I (npD s k)) L V)) 6 ?_ (by omega) (fun k hk => ?_) ?_
    · have : npD s 0 = s := by
        funext j
        unfold npD
        rw [if_neg (by omega)]
      rw [this]
    · have c1 : (nI 6 ≤ nI k) = False := eq_false (nI_ge hk (by omega))
      have i1 := ix (show 31 + k < 457 by omega) (by omega)
      simp only [gX13_noPairs_L2, v_TM, v_seq, v_blk, v_lop, v_fgt, v_fg0, v_fg1, v_b0, v_b1, v_bn, v_bi, v_c0, v_c1, v_c2, v_cn, v_ci, v_st0, v_st1, v_stn, v_iadd, v_isub, v_imul, v_iand, v_ior, v_ixor, v_ishl, v_ishr, v_ladd, v_lsub, v_lmul, v_lor, v_land, v_ineg, v_lneg, v_lcmp, v_lshl, v_i2l, v_l2i, v_i2b, v_i2c, v_i2f, v_i2d, v_idiv, v_irem, v_ldiv, v_lrem, v_iconst, v_bipush, v_sipush, v_lconst0, v_lconst1, v_null, v_fconst0, v_dconst0, v_ldcS, v_dupi, v_dupr, v_pop, v_dup2, vI_i, vL_l, vA_r, vA_n, vInc_i, v_iload_n0, v_iload_n1, v_iload_n2, v_iload_n3, v_iload, v_lload_n0, v_lload_n1, v_lload_n2, v_lload_n3, v_lload, v_dload_n0, v_dload_n1, v_dload_n2, v_dload_n3, v_dload, v_aload_n0, v_aload_n1, v_aload_n2, v_aload_n3, v_aload, v_at0, v_ok0, v_at1, v_ok1, v_at2, v_ok2, v_at3, v_ok3, v_at4, v_ok4, v_at5, v_ok5, v_at6, v_ok6, v_at7, v_ok7, v_at8, v_ok8, v_at9, v_ok9, v_at10, v_ok10, v_at11, v_ok11, v_at12, v_ok12, v_at13, v_ok13, v_at14, v_ok14, v_at15, v_ok15, v_c2i, v_c2l, v_c2r, v_c2n, v_c2j, v_istore_n0, v_astore_n0, v_istore_n1, v_astore_n1, v_istore_n2, v_astore_n2, v_istore_n3, v_astore_n3, v_istore, v_astore, v_lstore_n0, v_lstore_n1, v_lstore_n2, v_lstore_n3, v_lstore, v_iinc, v_if_eq, v_if_ne, v_if_lt, v_if_ge, v_if_gt, v_if_le, v_icmp_eq, v_icmp_ne, v_icmp_lt, v_icmp_ge, v_icmp_gt, v_icmp_le, v_ifnull0, v_ifnull1, v_ifnonnull0, v_ifnonnull1, v_goto, v_ireturn, v_lreturn, v_areturn, v_areturn0, v_return, v_throw, v_throwW, v_table, v_cs0, v_csi, v_csl, v_csr, v_an0, v_an1, v_ani, v_call0, v_call1, v_call2, v_call3, v_call4, v_call5, v_call6, v_call7, v_rI, v_fin, v_finX, v_fini, v_ro0, v_roi, v_rol, v_rob0, v_rob1, v_roo, v_roon, v_kbm99, v_kbm64, v_kbm8, v_kbm5, v_kb6, v_kb7, v_kb8, v_kb9, v_kb10, v_kb12, v_kb14, v_kb19, v_kb20, v_kb24, v_kb25, v_kb30, v_kb31, v_kb32, v_kb37, v_kb40, v_kb41, v_kb45, v_kb48, v_kb50, v_kb57, v_kb59, v_kb60, v_kb63, v_kb64, v_kb97, v_kb99, v_kb112, v_kb114, v_kb122, v_kim8, v_kim1, v_ki0, v_ki1, v_ki2, v_ki3, v_ki4, v_ki5, v_ksm9999, v_ksm256, v_ks128, v_ks199, v_ks200, v_ks255, v_ks256, v_ks400, v_ks457, v_ks1000, v_ks1024, v_ks2742, v_ks9999, v_ks10000, v_ld, v_st, v_ldc2_RX7_142, v_ldc2_RX7_144, v_ldc2_RX7_146, v_ldc2_RX7_148, v_ldc2_RX7_154, v_ldc2_RX7_163, v_ldc2_RX3_81, v_ldc2_RX7_207, v_ldc2_RX7_209, v_ldc2_RX13_190, v_ldc2_RX13_212, v_ldc2_RX13_218, v_ldc2_RX13_220, v_ldc2_RX13_254, v_ldc2_RX13_256, v_ldc2_RX13_287, v_ldc2_RX13_297, v_ldc2_RX13_302, v_ldc2_RX13_323, v_ldc2_RX13_343, v_ldc2_RX13_345, v_ldc2_RX13_351, v_ldc2_RX13_374, v_ldc2_RX13_400, v_ldc2_RX13_402, v_ldc2_RX13_413, v_ldc2_RX13_439, v_ldc2_RX13_461, v_ldc2_RX13_481, v_ldc2_RX13_486, v_ldc2_RX13_488, v_ldc2_RX13_490, v_ldc2_RX13_492, v_ldc2_RX13_494, v_ldc2_RX13_496, v_ldc2_RX13_498, v_ldc2_RX13_500, if_true, if_false, Bool.not_false, Bool.not_true, Nat.reduceEqDiff, Nat.reduceLeDiff, Nat.reduceLT, Nat.reduceAdd, Nat.reduceMul, Nat.reduceSub, and_self, and_true, true_and, and_false, false_and, Bool.false_eq_true, not_true_eq_false, not_false_eq_true, ite_self, v_robb, v_rob0, v_rob1, List.nil_append, G_189_0, P_189_0, G_189_1, G_189_2, P_189_2, G_189_3, P_189_3, G_189_4, P_189_4, G_189_5, P_189_5, G_189_6, P_189_6, G_189_7, P_189_7, G_189_8, P_189_8, G_189_9, P_189_9, G_189_10, P_189_10, G_189_11, P_189_11, G_189_12, P_189_12, G_189_13, G_189_14, G_189_15, G_189_16, G_189_17, G_189_18, P_189_18, G_189_19, P_189_19, G_189_20, G_189_21, G_189_22, P_189_22, G_189_23, P_189_23, G_189_24, P_189_24, G_189_25, P_189_25, G_189_26, P_189_26, G_189_27, G_189_28, G_189_29, G_189_30, G_189_31, G_189_32, P_189_32, G_189_33, P_189_33, G_189_34, P_189_34, G_189_35, P_189_35, G_189_36, P_189_36, G_189_37, P_189_37, G_189_38, G_189_39, P_189_39, G_189_40, P_189_40, G_189_41, G_189_42, G_189_43, G_189_44, G_189_45, G_189_46, G_189_47, G_189_48, P_189_48, G_189_49, P_189_49, G_189_50, P_189_50, G_189_51, P_189_51, G_189_52, G_189_53, P_189_53, G_189_54, P_189_54, R_189, S_190, A_190, N_190, S_191, A_191, N_191, S_192, A_192, N_192, S_193, A_193, N_193, S_194, A_194, N_194, S_195, A_195, N_195, S_196, A_196, N_196, S_197, A_197, N_197, S_198, A_198, N_198, S_199, A_199, N_199, S_200, A_200, N_200, S_201, A_201, N_201, S_202, A_202, N_202, S_203, A_203, N_203, S_204, A_204, N_204, S_205, A_205, N_205, S_206, A_206, N_206, S_207, A_207, N_207, S_208, A_208, N_208, S_209, A_209, N_209, S_210, A_210, N_210, S_211, A_211, N_211, S_212, A_212, N_212, c1, nI_add, i1, w_si, npD_s]
    · simp only [gX13_noPairs_L2, v_TM, v_seq, v_blk, v_lop, v_fgt, v_fg0, v_fg1, v_b0, v_b1, v_bn, v_bi, v_c0, v_c1, v_c2, v_cn, v_ci, v_st0, v_st1, v_stn, v_iadd, v_isub, v_imul, v_iand, v_ior, v_ixor, v_ishl, v_ishr, v_ladd, v_lsub, v_lmul, v_lor, v_land, v_ineg, v_lneg, v_lcmp, v_lshl, v_i2l, v_l2i, v_i2b, v_i2c, v_i2f, v_i2d, v_idiv, v_irem, v_ldiv, v_lrem, v_iconst, v_bipush, v_sipush, v_lconst0, v_lconst1, v_null, v_fconst0, v_dconst0, v_ldcS, v_dupi, v_dupr, v_pop, v_dup2, vI_i, vL_l, vA_r, vA_n, vInc_i, v_iload_n0, v_iload_n1, v_iload_n2, v_iload_n3, v_iload, v_lload_n0, v_lload_n1, v_lload_n2, v_lload_n3, v_lload, v_dload_n0, v_dload_n1, v_dload_n2, v_dload_n3, v_dload, v_aload_n0, v_aload_n1, v_aload_n2, v_aload_n3, v_aload, v_at0, v_ok0, v_at1, v_ok1, v_at2, v_ok2, v_at3, v_ok3, v_at4, v_ok4, v_at5, v_ok5, v_at6, v_ok6, v_at7, v_ok7, v_at8, v_ok8, v_at9, v_ok9, v_at10, v_ok10, v_at11, v_ok11, v_at12, v_ok12, v_at13, v_ok13, v_at14, v_ok14, v_at15, v_ok15, v_c2i, v_c2l, v_c2r, v_c2n, v_c2j, v_istore_n0, v_astore_n0, v_istore_n1, v_astore_n1, v_istore_n2, v_astore_n2, v_istore_n3, v_astore_n3, v_istore, v_astore, v_lstore_n0, v_lstore_n1, v_lstore_n2, v_lstore_n3, v_lstore, v_iinc, v_if_eq, v_if_ne, v_if_lt, v_if_ge, v_if_gt, v_if_le, v_icmp_eq, v_icmp_ne, v_icmp_lt, v_icmp_ge, v_icmp_gt, v_icmp_le, v_ifnull0, v_ifnull1, v_ifnonnull0, v_ifnonnull1, v_goto, v_ireturn, v_lreturn, v_areturn, v_areturn0, v_return, v_throw, v_throwW, v_table, v_cs0, v_csi, v_csl, v_csr, v_an0, v_an1, v_ani, v_call0, v_call1, v_call2, v_call3, v_call4, v_call5, v_call6, v_call7, v_rI, v_fin, v_finX, v_fini, v_ro0, v_roi, v_rol, v_rob0, v_rob1, v_roo, v_roon, v_kbm99, v_kbm64, v_kbm8, v_kbm5, v_kb6, v_kb7, v_kb8, v_kb9, v_kb10, v_kb12, v_kb14, v_kb19, v_kb20, v_kb24, v_kb25, v_kb30, v_kb31, v_kb32, v_kb37, v_kb40, v_kb41, v_kb45, v_kb48, v_kb50, v_kb57, v_kb59, v_kb60, v_kb63, v_kb64, v_kb97, v_kb99, v_kb112, v_kb114, v_kb122, v_kim8, v_kim1, v_ki0, v_ki1, v_ki2, v_ki3, v_ki4, v_ki5, v_ksm9999, v_ksm256, v_ks128, v_ks199, v_ks200, v_ks255, v_ks256, v_ks400, v_ks457, v_ks1000, v_ks1024, v_ks2742, v_ks9999, v_ks10000, v_ld, v_st, v_ldc2_RX7_142, v_ldc2_RX7_144, v_ldc2_RX7_146, v_ldc2_RX7_148, v_ldc2_RX7_154, v_ldc2_RX7_163, v_ldc2_RX3_81, v_ldc2_RX7_207, v_ldc2_RX7_209, v_ldc2_RX13_190, v_ldc2_RX13_212, v_ldc2_RX13_218, v_ldc2_RX13_220, v_ldc2_RX13_254, v_ldc2_RX13_256, v_ldc2_RX13_287, v_ldc2_RX13_297, v_ldc2_RX13_302, v_ldc2_RX13_323, v_ldc2_RX13_343, v_ldc2_RX13_345, v_ldc2_RX13_351, v_ldc2_RX13_374, v_ldc2_RX13_400, v_ldc2_RX13_402, v_ldc2_RX13_413, v_ldc2_RX13_439, v_ldc2_RX13_461, v_ldc2_RX13_481, v_ldc2_RX13_486, v_ldc2_RX13_488, v_ldc2_RX13_490, v_ldc2_RX13_492, v_ldc2_RX13_494, v_ldc2_RX13_496, v_ldc2_RX13_498, v_ldc2_RX13_500, if_true, if_false, Bool.not_false, Bool.not_true, Nat.reduceEqDiff, Nat.reduceLeDiff, Nat.reduceLT, Nat.reduceAdd, Nat.reduceMul, Nat.reduceSub, and_self, and_true, true_and, and_false, false_and, Bool.false_eq_true, not_true_eq_false, not_false_eq_true, ite_self, v_robb, v_rob0, v_rob1, List.nil_append, G_189_0, P_189_0, G_189_1, G_189_2, P_189_2, G_189_3, P_189_3, G_189_4, P_189_4, G_189_5, P_189_5, G_189_6, P_189_6, G_189_7, P_189_7, G_189_8, P_189_8, G_189_9, P_189_9, G_189_10, P_189_10, G_189_11, P_189_11, G_189_12, P_189_12, G_189_13, G_189_14, G_189_15, G_189_16, G_189_17, G_189_18, P_189_18, G_189_19, P_189_19, G_189_20, G_189_21, G_189_22, P_189_22, G_189_23, P_189_23, G_189_24, P_189_24, G_189_25, P_189_25, G_189_26, P_189_26, G_189_27, G_189_28, G_189_29, G_189_30, G_189_31, G_189_32, P_189_32, G_189_33, P_189_33, G_189_34, P_189_34, G_189_35, P_189_35, G_189_36, P_189_36, G_189_37, P_189_37, G_189_38, G_189_39, P_189_39, G_189_40, P_189_40, G_189_41, G_189_42, G_189_43, G_189_44, G_189_45, G_189_46, G_189_47, G_189_48, P_189_48, G_189_49, P_189_49, G_189_50, P_189_50, G_189_51, P_189_51, G_189_52, G_189_53, P_189_53, G_189_54, P_189_54, R_189, S_190, A_190, N_190, S_191, A_191, N_191, S_192, A_192, N_192, S_193, A_193, N_193, S_194, A_194, N_194, S_195, A_195, N_195, S_196, A_196, N_196, S_197, A_197, N_197, S_198, A_198, N_198, S_199, A_199, N_199, S_200, A_200, N_200, S_201, A_201, N_201, S_202, A_202, N_202, S_203, A_203, N_203, S_204, A_204, N_204, S_205, A_205, N_205, S_206, A_206, N_206, S_207, A_207, N_207, S_208, A_208, N_208, S_209, A_209, N_209, S_210, A_210, N_210, S_211, A_211, N_211, S_212, A_212, N_212, show (nI 6 ≤ nI 6) = True by decide]
  simp only [kX13_noPairs, gX13_noPairs, v_TM, v_seq, v_blk, v_lop, v_fgt, v_fg0, v_fg1, v_b0, v_b1, v_bn, v_bi, v_c0, v_c1, v_c2, v_cn, v_ci, v_st0, v_st1, v_stn, v_iadd, v_isub, v_imul, v_iand, v_ior, v_ixor, v_ishl, v_ishr, v_ladd, v_lsub, v_lmul, v_lor, v_land, v_ineg, v_lneg, v_lcmp, v_lshl, v_i2l, v_l2i, v_i2b, v_i2c, v_i2f, v_i2d, v_idiv, v_irem, v_ldiv, v_lrem, v_iconst, v_bipush, v_sipush, v_lconst0, v_lconst1, v_null, v_fconst0, v_dconst0, v_ldcS, v_dupi, v_dupr, v_pop, v_dup2, vI_i, vL_l, vA_r, vA_n, vInc_i, v_iload_n0, v_iload_n1, v_iload_n2, v_iload_n3, v_iload, v_lload_n0, v_lload_n1, v_lload_n2, v_lload_n3, v_lload, v_dload_n0, v_dload_n1, v_dload_n2, v_dload_n3, v_dload, v_aload_n0, v_aload_n1, v_aload_n2, v_aload_n3, v_aload, v_at0, v_ok0, v_at1, v_ok1, v_at2, v_ok2, v_at3, v_ok3, v_at4, v_ok4, v_at5, v_ok5, v_at6, v_ok6, v_at7, v_ok7, v_at8, v_ok8, v_at9, v_ok9, v_at10, v_ok10, v_at11, v_ok11, v_at12, v_ok12, v_at13, v_ok13, v_at14, v_ok14, v_at15, v_ok15, v_c2i, v_c2l, v_c2r, v_c2n, v_c2j, v_istore_n0, v_astore_n0, v_istore_n1, v_astore_n1, v_istore_n2, v_astore_n2, v_istore_n3, v_astore_n3, v_istore, v_astore, v_lstore_n0, v_lstore_n1, v_lstore_n2, v_lstore_n3, v_lstore, v_iinc, v_if_eq, v_if_ne, v_if_lt, v_if_ge, v_if_gt, v_if_le, v_icmp_eq, v_icmp_ne, v_icmp_lt, v_icmp_ge, v_icmp_gt, v_icmp_le, v_ifnull0, v_ifnull1, v_ifnonnull0, v_ifnonnull1, v_goto, v_ireturn, v_lreturn, v_areturn, v_areturn0, v_return, v_throw, v_throwW, v_table, v_cs0, v_csi, v_csl, v_csr, v_an0, v_an1, v_ani, v_call0, v_call1, v_call2, v_call3, v_call4, v_call5, v_call6, v_call7, v_rI, v_fin, v_finX, v_fini, v_ro0, v_roi, v_rol, v_rob0, v_rob1, v_roo, v_roon, v_kbm99, v_kbm64, v_kbm8, v_kbm5, v_kb6, v_kb7, v_kb8, v_kb9, v_kb10, v_kb12, v_kb14, v_kb19, v_kb20, v_kb24, v_kb25, v_kb30, v_kb31, v_kb32, v_kb37, v_kb40, v_kb41, v_kb45, v_kb48, v_kb50, v_kb57, v_kb59, v_kb60, v_kb63, v_kb64, v_kb97, v_kb99, v_kb112, v_kb114, v_kb122, v_kim8, v_kim1, v_ki0, v_ki1, v_ki2, v_ki3, v_ki4, v_ki5, v_ksm9999, v_ksm256, v_ks128, v_ks199, v_ks200, v_ks255, v_ks256, v_ks400, v_ks457, v_ks1000, v_ks1024, v_ks2742, v_ks9999, v_ks10000, v_ld, v_st, v_ldc2_RX7_142, v_ldc2_RX7_144, v_ldc2_RX7_146, v_ldc2_RX7_148, v_ldc2_RX7_154, v_ldc2_RX7_163, v_ldc2_RX3_81, v_ldc2_RX7_207, v_ldc2_RX7_209, v_ldc2_RX13_190, v_ldc2_RX13_212, v_ldc2_RX13_218, v_ldc2_RX13_220, v_ldc2_RX13_254, v_ldc2_RX13_256, v_ldc2_RX13_287, v_ldc2_RX13_297, v_ldc2_RX13_302, v_ldc2_RX13_323, v_ldc2_RX13_343, v_ldc2_RX13_345, v_ldc2_RX13_351, v_ldc2_RX13_374, v_ldc2_RX13_400, v_ldc2_RX13_402, v_ldc2_RX13_413, v_ldc2_RX13_439, v_ldc2_RX13_461, v_ldc2_RX13_481, v_ldc2_RX13_486, v_ldc2_RX13_488, v_ldc2_RX13_490, v_ldc2_RX13_492, v_ldc2_RX13_494, v_ldc2_RX13_496, v_ldc2_RX13_498, v_ldc2_RX13_500, if_true, if_false, Bool.not_false, Bool.not_true, Nat.reduceEqDiff, Nat.reduceLeDiff, Nat.reduceLT, Nat.reduceAdd, Nat.reduceMul, Nat.reduceSub, and_self, and_true, true_and, and_false, false_and, Bool.false_eq_true, not_true_eq_false, not_false_eq_true, ite_self, v_robb, v_rob0, v_rob1, List.nil_append, G_189_0, P_189_0, G_189_1, G_189_2, P_189_2, G_189_3, P_189_3, G_189_4, P_189_4, G_189_5, P_189_5, G_189_6, P_189_6, G_189_7, P_189_7, G_189_8, P_189_8, G_189_9, P_189_9, G_189_10, P_189_10, G_189_11, P_189_11, G_189_12, P_189_12, G_189_13, G_189_14, G_189_15, G_189_16, G_189_17, G_189_18, P_189_18, G_189_19, P_189_19, G_189_20, G_189_21, G_189_22, P_189_22, G_189_23, P_189_23, G_189_24, P_189_24, G_189_25, P_189_25, G_189_26, P_189_26, G_189_27, G_189_28, G_189_29, G_189_30, G_189_31, G_189_32, P_189_32, G_189_33, P_189_33, G_189_34, P_189_34, G_189_35, P_189_35, G_189_36, P_189_36, G_189_37, P_189_37, G_189_38, G_189_39, P_189_39, G_189_40, P_189_40, G_189_41, G_189_42, G_189_43, G_189_44, G_189_45, G_189_46, G_189_47, G_189_48, P_189_48, G_189_49, P_189_49, G_189_50, P_189_50, G_189_51, P_189_51, G_189_52, G_189_53, P_189_53, G_189_54, P_189_54, R_189, S_190, A_190, N_190, S_191, A_191, N_191, S_192, A_192, N_192, S_193, A_193, N_193, S_194, A_194, N_194, S_195, A_195, N_195, S_196, A_196, N_196, S_197, A_197, N_197, S_198, A_198, N_198, S_199, A_199, N_199, S_200, A_200, N_200, S_201, A_201, N_201, S_202, A_202, N_202, S_203, A_203, N_203, S_204, A_204, N_204, S_205, A_205, N_205, S_206, A_206, N_206, S_207, A_207, N_207, S_208, A_208, N_208, S_209, A_209, N_209, S_210, A_210, N_210, S_211, A_211, N_211, S_212, A_212, N_212, hl]
def lrD (s : Row) (a m : Nat) (r : Int32) : Nat → Row
  | 0 => s
  | i + 1 => sJoin (lay1 (lay1 (lrD s a m r i) (a + 2 * i) (rdX r m i) r) (a + 2 * i + 1) (rdX r m i) (-r)) (a + 2 * i)
def lrS (s : Row) (a many : Nat) (r : Int32) : Row := if many % 2 = 1 then lay1 (lrD s a (many / 2) r (many / 2)) (a + many - 1) (-r) (nI 0) else lrD s a (many / 2) r (many / 2)
theorem sJ_at (s : Row) (p j : Nat) : sJoin s p j = if j = 31 + (p + 1) then nI p else if j = 31 + p then nI (p + 1) else s j := rfl
theorem lrD_s (s : Row) (a m : Nat) (r : Int32) (i j : Nat) : lrD s a m r (i + 1) j = if j = 31 + (a + 2 * i + 1) then nI (a + 2 * i) else if j = 31 + (a + 2 * i) then nI (a + 2 * i + 1) else if j = 25 + (a + 2 * i + 1) then -r else if j = 19 + (a + 2 * i + 1) then rdX r m i else if j = 25 + (a + 2 * i) then r else if j = 19 + (a + 2 * i) then rdX r m i else lrD s a m r i j := rfl
theorem lrD_o (s : Row) (a m : Nat) (r : Int32) {j : Nat} : ∀ i, (∀ p, a ≤ p → p < a + 2 * i → j ≠ 19 + p ∧ j ≠ 25 + p ∧ j ≠ 31 + p) → lrD s a m r i j = s j := by
  intro i
  induction i with
  | zero => intro _; rfl
  | succ i ih =>
    intro h
    have h1 := h (a + 2 * i) (by omega) (by omega)
    have h2 := h (a + 2 * i + 1) (by omega) (by omega)
    rw [lrD_s, if_neg h2.2.2, if_neg h1.2.2, if_neg h2.2.1, if_neg h2.1, if_neg h1.2.1, if_neg h1.1]
    exact ih (fun p g1 g2 => h p g1 (by omega))
theorem lrD_at (s : Row) (a m : Nat) (r : Int32) : ∀ i, a + 2 * i ≤ 6 → ∀ k, k < i → lrD s a m r i (19 + (a + 2 * k)) = rdX r m k ∧ lrD s a m r i (25 + (a + 2 * k)) = r ∧ lrD s a m r i (31 + (a + 2 * k)) = nI (a + 2 * k + 1) ∧ lrD s a m r i (19 + (a + 2 * k + 1)) = rdX r m k ∧ lrD s a m r i (25 + (a + 2 * k + 1)) = -r ∧ lrD s a m r i (31 + (a + 2 * k + 1)) = nI (a + 2 * k) := by
  intro i
  induction i with
  | zero => intro _ k hk; omega
  | succ i ih =>
    intro h6 k hk
    by_cases hki : k = i
    · subst hki
      simp only [lrD_s]
      refine ⟨?_, ?_, ?_, ?_, ?_, ?_⟩
      · rw [if_neg (by omega), if_neg (by omega), if_neg (by omega), if_neg (by omega), if_neg (by omega), if_pos trivial]
      · rw [if_neg (by omega), if_neg (by omega), if_neg (by omega), if_neg (by omega), if_pos trivial]
      · rw [if_neg (by omega), if_pos trivial]
      · rw [if_neg (by omega), if_neg (by omega), if_neg (by omega), if_pos trivial]
      · rw [if_neg (by omega), if_neg (by omega), if_pos trivial]
      · rw [if_pos trivial]
    · have := ih (by omega) k (by omega)
      simp only [lrD_s]
      refine ⟨?_, ?_, ?_, ?_, ?_, ?_⟩
      · rw [if_neg (by omega), if_neg (by omega), if_neg (by omega), if_neg (by omega), if_neg (by omega), if_neg (by omega)]; exact this.1
      · rw [if_neg (by omega), if_neg (by omega), if_neg (by omega), if_neg (by omega), if_neg (by omega), if_neg (by omega)]; exact this.2.1
      · rw [if_neg (by omega), if_neg (by omega), if_neg (by omega), if_neg (by omega), if_neg (by omega), if_neg (by omega)]; exact this.2.2.1
      · rw [if_neg (by omega), if_neg (by omega), if_neg (by omega), if_neg (by omega), if_neg (by omega), if_neg (by omega)]; exact this.2.2.2.1
      · rw [if_neg (by omega), if_neg (by omega), if_neg (by omega), if_neg (by omega), if_neg (by omega), if_neg (by omega)]; exact this.2.2.2.2.1
      · rw [if_neg (by omega), if_neg (by omega), if_neg (by omega), if_neg (by omega), if_neg (by omega), if_neg (by omega)]; exact this.2.2.2.2.2
theorem lrS_o (s : Row) (a many : Nat) (r : Int32) {j : Nat} (h : ∀ p, a ≤ p → p < a + many → j ≠ 19 + p ∧ j ≠ 25 + p ∧ j ≠ 31 + p) : lrS s a many r j = s j := by
  unfold lrS
  by_cases ho : many % 2 = 1
  · rw [if_pos ho]
    have h1 := h (a + many - 1) (by omega) (by omega)
    rw [lay1_o h1.1 h1.2.1]
    exact lrD_o s a _ r _ (fun p g1 g2 => h p g1 (by omega))
  · rw [if_neg ho]
    exact lrD_o s a _ r _ (fun p g1 g2 => h p g1 (by omega))
theorem lrS_RND (s : Row) (a many : Nat) (r : Int32) (h6 : a + many ≤ 6) (hs : many % 2 = 1 → s (31 + (a + many - 1)) = -nI 1) : RND (lrS s a many r) a many r := by
  have hk := lrD_at s a (many / 2) r (many / 2) (by omega)
  unfold lrS
  by_cases ho : many % 2 = 1
  · rw [if_pos ho]
    refine ⟨fun i hi => ?_, fun _ => ⟨?_, ?_, ?_⟩⟩
    · rw [lay1_o (by omega) (by omega), lay1_o (by omega) (by omega), lay1_o (by omega) (by omega), lay1_o (by omega) (by omega), lay1_o (by omega) (by omega), lay1_o (by omega) (by omega)]
      exact hk i hi
    · rw [lay1_x _ (by omega) (by omega), if_pos rfl]
    · rw [lay1_y _ (by omega) (by omega), if_pos rfl]
    · rw [lay1_o (by omega) (by omega), lrD_o s a _ r _ (fun p g1 g2 => by omega)]
      exact hs ho
  · rw [if_neg ho]
    exact ⟨hk, fun z => absurd z ho⟩
theorem m_laysRound {a many : Nat} (h6 : a + many ≤ 6) (r : Int32) (s : Row) (t : Nat × Nat × Bool) (I : Nat → Nat → Int32) (L : Nat → Nat → Int64) (V : Nat → Option Nat) : eCall mX13_laysRound [.ref 189, .int (nI a), .int (nI many), .int r] (mM t (wR I s) L V) = some (.inl none, mM t (wR I (lrS s a many r)) L V) := by
  have hmm := nI_div2 many (by omega)
  have hm2 := nI_mod2 many (by omega)
  have h20 : (nI 2 = nI 0) = False := by decide
  have hl : eLoop eFuel 8 (eDen gX13_laysRound_L8) ([.ref 189, .int (nI a), .int (nI many), .int r, .int (nI (many / 2)), .int (nI 0), eJ, eJ], [], (mM t (wR I s) L V)) = some (none, ([.ref 189, .int (nI a), .int (nI many), .int r, .int (nI (many / 2)), .int (nI (many / 2)), eJ, eJ], [], mM t (wR I (lrD s a (many / 2) r (many / 2))) L V)) := by
    refine eLoop_r (h := 8) (fun i => ([.ref 189, .int (nI a), .int (nI many), .int r, .int (nI (many / 2)), .int (nI i), eJ, eJ], [], mM t (wR I (lrD s a (many / 2) r i)) L V)) (many / 2) rfl (by omega) (fun i hi => ?_) ?_
    · have c1 : (nI (many / 2) ≤ nI i) = False := eq_false (nI_ge hi (by omega))
      have c2 : (nI (many / 2 + 1) = nI 0) = False := eq_false (by rw [nI_eq (by omega) (by omega)]; omega)
      have w7 : nI 2 * r * nI (i + 1) / nI (many / 2 + 1) - r = rdX r (many / 2) i := rfl
      have b1 := fun s x y => m_lays (show a + 2 * i < 6 by omega) s x y t I L V
      have b2 := fun s x y => m_lays (show a + 2 * i + 1 < 6 by omega) s x y t I L V
      have b3 := fun s => m_joins (show a + 2 * i + 1 < 6 by omega) s t I L V
      simp only [gX13_laysRound_L8, v_TM, v_seq, v_blk, v_lop, v_fgt, v_fg0, v_fg1, v_b0, v_b1, v_bn, v_bi, v_c0, v_c1, v_c2, v_cn, v_ci, v_st0, v_st1, v_stn, v_iadd, v_isub, v_imul, v_iand, v_ior, v_ixor, v_ishl, v_ishr, v_ladd, v_lsub, v_lmul, v_lor, v_land, v_ineg, v_lneg, v_lcmp, v_lshl, v_i2l, v_l2i, v_i2b, v_i2c, v_i2f, v_i2d, v_idiv, v_irem, v_ldiv, v_lrem, v_iconst, v_bipush, v_sipush, v_lconst0, v_lconst1, v_null, v_fconst0, v_dconst0, v_ldcS, v_dupi, v_dupr, v_pop, v_dup2, vI_i, vL_l, vA_r, vA_n, vInc_i, v_iload_n0, v_iload_n1, v_iload_n2, v_iload_n3, v_iload, v_lload_n0, v_lload_n1, v_lload_n2, v_lload_n3, v_lload, v_dload_n0, v_dload_n1, v_dload_n2, v_dload_n3, v_dload, v_aload_n0, v_aload_n1, v_aload_n2, v_aload_n3, v_aload, v_at0, v_ok0, v_at1, v_ok1, v_at2, v_ok2, v_at3, v_ok3, v_at4, v_ok4, v_at5, v_ok5, v_at6, v_ok6, v_at7, v_ok7, v_at8, v_ok8, v_at9, v_ok9, v_at10, v_ok10, v_at11, v_ok11, v_at12, v_ok12, v_at13, v_ok13, v_at14, v_ok14, v_at15, v_ok15, v_c2i, v_c2l, v_c2r, v_c2n, v_c2j, v_istore_n0, v_astore_n0, v_istore_n1, v_astore_n1, v_istore_n2, v_astore_n2, v_istore_n3, v_astore_n3, v_istore, v_astore, v_lstore_n0, v_lstore_n1, v_lstore_n2, v_lstore_n3, v_lstore, v_iinc, v_if_eq, v_if_ne, v_if_lt, v_if_ge, v_if_gt, v_if_le, v_icmp_eq, v_icmp_ne, v_icmp_lt, v_icmp_ge, v_icmp_gt, v_icmp_le, v_ifnull0, v_ifnull1, v_ifnonnull0, v_ifnonnull1, v_goto, v_ireturn, v_lreturn, v_areturn, v_areturn0, v_return, v_throw, v_throwW, v_table, v_cs0, v_csi, v_csl, v_csr, v_an0, v_an1, v_ani, v_call0, v_call1, v_call2, v_call3, v_call4, v_call5, v_call6, v_call7, v_rI, v_fin, v_finX, v_fini, v_ro0, v_roi, v_rol, v_rob0, v_rob1, v_roo, v_roon, v_kbm99, v_kbm64, v_kbm8, v_kbm5, v_kb6, v_kb7, v_kb8, v_kb9, v_kb10, v_kb12, v_kb14, v_kb19, v_kb20, v_kb24, v_kb25, v_kb30, v_kb31, v_kb32, v_kb37, v_kb40, v_kb41, v_kb45, v_kb48, v_kb50, v_kb57, v_kb59, v_kb60, v_kb63, v_kb64, v_kb97, v_kb99, v_kb112, v_kb114, v_kb122, v_kim8, v_kim1, v_ki0, v_ki1, v_ki2, v_ki3, v_ki4, v_ki5, v_ksm9999, v_ksm256, v_ks128, v_ks199, v_ks200, v_ks255, v_ks256, v_ks400, v_ks457, v_ks1000, v_ks1024, v_ks2742, v_ks9999, v_ks10000, v_ld, v_st, v_ldc2_RX7_142, v_ldc2_RX7_144, v_ldc2_RX7_146, v_ldc2_RX7_148, v_ldc2_RX7_154, v_ldc2_RX7_163, v_ldc2_RX3_81, v_ldc2_RX7_207, v_ldc2_RX7_209, v_ldc2_RX13_190, v_ldc2_RX13_212, v_ldc2_RX13_218, v_ldc2_RX13_220, v_ldc2_RX13_254, v_ldc2_RX13_256, v_ldc2_RX13_287, v_ldc2_RX13_297, v_ldc2_RX13_302, v_ldc2_RX13_323, v_ldc2_RX13_343, v_ldc2_RX13_345, v_ldc2_RX13_351, v_ldc2_RX13_374, v_ldc2_RX13_400, v_ldc2_RX13_402, v_ldc2_RX13_413, v_ldc2_RX13_439, v_ldc2_RX13_461, v_ldc2_RX13_481, v_ldc2_RX13_486, v_ldc2_RX13_488, v_ldc2_RX13_490, v_ldc2_RX13_492, v_ldc2_RX13_494, v_ldc2_RX13_496, v_ldc2_RX13_498, v_ldc2_RX13_500, if_true, if_false, Bool.not_false, Bool.not_true, Nat.reduceEqDiff, Nat.reduceLeDiff, Nat.reduceLT, Nat.reduceAdd, Nat.reduceMul, Nat.reduceSub, and_self, and_true, true_and, and_false, false_and, Bool.false_eq_true, not_true_eq_false, not_false_eq_true, ite_self, v_robb, v_rob0, v_rob1, List.nil_append, G_189_0, P_189_0, G_189_1, G_189_2, P_189_2, G_189_3, P_189_3, G_189_4, P_189_4, G_189_5, P_189_5, G_189_6, P_189_6, G_189_7, P_189_7, G_189_8, P_189_8, G_189_9, P_189_9, G_189_10, P_189_10, G_189_11, P_189_11, G_189_12, P_189_12, G_189_13, G_189_14, G_189_15, G_189_16, G_189_17, G_189_18, P_189_18, G_189_19, P_189_19, G_189_20, G_189_21, G_189_22, P_189_22, G_189_23, P_189_23, G_189_24, P_189_24, G_189_25, P_189_25, G_189_26, P_189_26, G_189_27, G_189_28, G_189_29, G_189_30, G_189_31, G_189_32, P_189_32, G_189_33, P_189_33, G_189_34, P_189_34, G_189_35, P_189_35, G_189_36, P_189_36, G_189_37, P_189_37, G_189_38, G_189_39, P_189_39, G_189_40, P_189_40, G_189_41, G_189_42, G_189_43, G_189_44, G_189_45, G_189_46, G_189_47, G_189_48, P_189_48, G_189_49, P_189_49, G_189_50, P_189_50, G_189_51, P_189_51, G_189_52, G_189_53, P_189_53, G_189_54, P_189_54, R_189, S_190, A_190, N_190, S_191, A_191, N_191, S_192, A_192, N_192, S_193, A_193, N_193, S_194, A_194, N_194, S_195, A_195, N_195, S_196, A_196, N_196, S_197, A_197, N_197, S_198, A_198, N_198, S_199, A_199, N_199, S_200, A_200, N_200, S_201, A_201, N_201, S_202, A_202, N_202, S_203, A_203, N_203, S_204, A_204, N_204, S_205, A_205, N_205, S_206, A_206, N_206, S_207, A_207, N_207, S_208, A_208, N_208, S_209, A_209, N_209, S_210, A_210, N_210, S_211, A_211, N_211, S_212, A_212, N_212, c1, pk_mul, nI_add, c2, w7, b1, b2, b3]
      rfl
    · simp only [gX13_laysRound_L8, v_TM, v_seq, v_blk, v_lop, v_fgt, v_fg0, v_fg1, v_b0, v_b1, v_bn, v_bi, v_c0, v_c1, v_c2, v_cn, v_ci, v_st0, v_st1, v_stn, v_iadd, v_isub, v_imul, v_iand, v_ior, v_ixor, v_ishl, v_ishr, v_ladd, v_lsub, v_lmul, v_lor, v_land, v_ineg, v_lneg, v_lcmp, v_lshl, v_i2l, v_l2i, v_i2b, v_i2c, v_i2f, v_i2d, v_idiv, v_irem, v_ldiv, v_lrem, v_iconst, v_bipush, v_sipush, v_lconst0, v_lconst1, v_null, v_fconst0, v_dconst0, v_ldcS, v_dupi, v_dupr, v_pop, v_dup2, vI_i, vL_l, vA_r, vA_n, vInc_i, v_iload_n0, v_iload_n1, v_iload_n2, v_iload_n3, v_iload, v_lload_n0, v_lload_n1, v_lload_n2, v_lload_n3, v_lload, v_dload_n0, v_dload_n1, v_dload_n2, v_dload_n3, v_dload, v_aload_n0, v_aload_n1, v_aload_n2, v_aload_n3, v_aload, v_at0, v_ok0, v_at1, v_ok1, v_at2, v_ok2, v_at3, v_ok3, v_at4, v_ok4, v_at5, v_ok5, v_at6, v_ok6, v_at7, v_ok7, v_at8, v_ok8, v_at9, v_ok9, v_at10, v_ok10, v_at11, v_ok11, v_at12, v_ok12, v_at13, v_ok13, v_at14, v_ok14, v_at15, v_ok15, v_c2i, v_c2l, v_c2r, v_c2n, v_c2j, v_istore_n0, v_astore_n0, v_istore_n1, v_astore_n1, v_istore_n2, v_astore_n2, v_istore_n3, v_astore_n3, v_istore, v_astore, v_lstore_n0, v_lstore_n1, v_lstore_n2, v_lstore_n3, v_lstore, v_iinc, v_if_eq, v_if_ne, v_if_lt, v_if_ge, v_if_gt, v_if_le, v_icmp_eq, v_icmp_ne, v_icmp_lt, v_icmp_ge, v_icmp_gt, v_icmp_le, v_ifnull0, v_ifnull1, v_ifnonnull0, v_ifnonnull1, v_goto, v_ireturn, v_lreturn, v_areturn, v_areturn0, v_return, v_throw, v_throwW, v_table, v_cs0, v_csi, v_csl, v_csr, v_an0, v_an1, v_ani, v_call0, v_call1, v_call2, v_call3, v_call4, v_call5, v_call6, v_call7, v_rI, v_fin, v_finX, v_fini, v_ro0, v_roi, v_rol, v_rob0, v_rob1, v_roo, v_roon, v_kbm99, v_kbm64, v_kbm8, v_kbm5, v_kb6, v_kb7, v_kb8, v_kb9, v_kb10, v_kb12, v_kb14, v_kb19, v_kb20, v_kb24, v_kb25, v_kb30, v_kb31, v_kb32, v_kb37, v_kb40, v_kb41, v_kb45, v_kb48, v_kb50, v_kb57, v_kb59, v_kb60, v_kb63, v_kb64, v_kb97, v_kb99, v_kb112, v_kb114, v_kb122, v_kim8, v_kim1, v_ki0, v_ki1, v_ki2, v_ki3, v_ki4, v_ki5, v_ksm9999, v_ksm256, v_ks128, v_ks199, v_ks200, v_ks255, v_ks256, v_ks400, v_ks457, v_ks1000, v_ks1024, v_ks2742, v_ks9999, v_ks10000, v_ld, v_st, v_ldc2_RX7_142, v_ldc2_RX7_144, v_ldc2_RX7_146, v_ldc2_RX7_148, v_ldc2_RX7_154, v_ldc2_RX7_163, v_ldc2_RX3_81, v_ldc2_RX7_207, v_ldc2_RX7_209, v_ldc2_RX13_190, v_ldc2_RX13_212, v_ldc2_RX13_218, v_ldc2_RX13_220, v_ldc2_RX13_254, v_ldc2_RX13_256, v_ldc2_RX13_287, v_ldc2_RX13_297, v_ldc2_RX13_302, v_ldc2_RX13_323, v_ldc2_RX13_343, v_ldc2_RX13_345, v_ldc2_RX13_351, v_ldc2_RX13_374, v_ldc2_RX13_400, v_ldc2_RX13_402, v_ldc2_RX13_413, v_ldc2_RX13_439, v_ldc2_RX13_461, v_ldc2_RX13_481, v_ldc2_RX13_486, v_ldc2_RX13_488, v_ldc2_RX13_490, v_ldc2_RX13_492, v_ldc2_RX13_494, v_ldc2_RX13_496, v_ldc2_RX13_498, v_ldc2_RX13_500, if_true, if_false, Bool.not_false, Bool.not_true, Nat.reduceEqDiff, Nat.reduceLeDiff, Nat.reduceLT, Nat.reduceAdd, Nat.reduceMul, Nat.reduceSub, and_self, and_true, true_and, and_false, false_and, Bool.false_eq_true, not_true_eq_false, not_false_eq_true, ite_self, v_robb, v_rob0, v_rob1, List.nil_append, G_189_0, P_189_0, G_189_1, G_189_2, P_189_2, G_189_3, P_189_3, G_189_4, P_189_4, G_189_5, P_189_5, G_189_6, P_189_6, G_189_7, P_189_7, G_189_8, P_189_8, G_189_9, P_189_9, G_189_10, P_189_10, G_189_11, P_189_11, G_189_12, P_189_12, G_189_13, G_189_14, G_189_15, G_189_16, G_189_17, G_189_18, P_189_18, G_189_19, P_189_19, G_189_20, G_189_21, G_189_22, P_189_22, G_189_23, P_189_23, G_189_24, P_189_24, G_189_25, P_189_25, G_189_26, P_189_26, G_189_27, G_189_28, G_189_29, G_189_30, G_189_31, G_189_32, P_189_32, G_189_33, P_189_33, G_189_34, P_189_34, G_189_35, P_189_35, G_189_36, P_189_36, G_189_37, P_189_37, G_189_38, G_189_39, P_189_39, G_189_40, P_189_40, G_189_41, G_189_42, G_189_43, G_189_44, G_189_45, G_189_46, G_189_47, G_189_48, P_189_48, G_189_49, P_189_49, G_189_50, P_189_50, G_189_51, P_189_51, G_189_52, G_189_53, P_189_53, G_189_54, P_189_54, R_189, S_190, A_190, N_190, S_191, A_191, N_191, S_192, A_192, N_192, S_193, A_193, N_193, S_194, A_194, N_194, S_195, A_195, N_195, S_196, A_196, N_196, S_197, A_197, N_197, S_198, A_198, N_198, S_199, A_199, N_199, S_200, A_200, N_200, S_201, A_201, N_201, S_202, A_202, N_202, S_203, A_203, N_203, S_204, A_204, N_204, S_205, A_205, N_205, S_206, A_206, N_206, S_207, A_207, N_207, S_208, A_208, N_208, S_209, A_209, N_209, S_210, A_210, N_210, S_211, A_211, N_211, S_212, A_212, N_212, show (nI (many / 2) ≤ nI (many / 2)) = True from eq_true (Int32.le_refl _)]
  unfold lrS
  by_cases ho : many % 2 = 1
  · rw [if_pos ho]
    have e1' : nI (a + many) - nI 1 = nI (a + many - 1) := pk_sub (by omega)
    have b1 := m_lays (show a + many - 1 < 6 by omega) (lrD s a (many / 2) r (many / 2)) (-r) (nI 0) t I L V
    rw [ho] at hm2
    simp only [kX13_laysRound, gX13_laysRound, v_TM, v_seq, v_blk, v_lop, v_fgt, v_fg0, v_fg1, v_b0, v_b1, v_bn, v_bi, v_c0, v_c1, v_c2, v_cn, v_ci, v_st0, v_st1, v_stn, v_iadd, v_isub, v_imul, v_iand, v_ior, v_ixor, v_ishl, v_ishr, v_ladd, v_lsub, v_lmul, v_lor, v_land, v_ineg, v_lneg, v_lcmp, v_lshl, v_i2l, v_l2i, v_i2b, v_i2c, v_i2f, v_i2d, v_idiv, v_irem, v_ldiv, v_lrem, v_iconst, v_bipush, v_sipush, v_lconst0, v_lconst1, v_null, v_fconst0, v_dconst0, v_ldcS, v_dupi, v_dupr, v_pop, v_dup2, vI_i, vL_l, vA_r, vA_n, vInc_i, v_iload_n0, v_iload_n1, v_iload_n2, v_iload_n3, v_iload, v_lload_n0, v_lload_n1, v_lload_n2, v_lload_n3, v_lload, v_dload_n0, v_dload_n1, v_dload_n2, v_dload_n3, v_dload, v_aload_n0, v_aload_n1, v_aload_n2, v_aload_n3, v_aload, v_at0, v_ok0, v_at1, v_ok1, v_at2, v_ok2, v_at3, v_ok3, v_at4, v_ok4, v_at5, v_ok5, v_at6, v_ok6, v_at7, v_ok7, v_at8, v_ok8, v_at9, v_ok9, v_at10, v_ok10, v_at11, v_ok11, v_at12, v_ok12, v_at13, v_ok13, v_at14, v_ok14, v_at15, v_ok15, v_c2i, v_c2l, v_c2r, v_c2n, v_c2j, v_istore_n0, v_astore_n0, v_istore_n1, v_astore_n1, v_istore_n2, v_astore_n2, v_istore_n3, v_astore_n3, v_istore, v_astore, v_lstore_n0, v_lstore_n1, v_lstore_n2, v_lstore_n3, v_lstore, v_iinc, v_if_eq, v_if_ne, v_if_lt, v_if_ge, v_if_gt, v_if_le, v_icmp_eq, v_icmp_ne, v_icmp_lt, v_icmp_ge, v_icmp_gt, v_icmp_le, v_ifnull0, v_ifnull1, v_ifnonnull0, v_ifnonnull1, v_goto, v_ireturn, v_lreturn, v_areturn, v_areturn0, v_return, v_throw, v_throwW, v_table, v_cs0, v_csi, v_csl, v_csr, v_an0, v_an1, v_ani, v_call0, v_call1, v_call2, v_call3, v_call4, v_call5, v_call6, v_call7, v_rI, v_fin, v_finX, v_fini, v_ro0, v_roi, v_rol, v_rob0, v_rob1, v_roo, v_roon, v_kbm99, v_kbm64, v_kbm8, v_kbm5, v_kb6, v_kb7, v_kb8, v_kb9, v_kb10, v_kb12, v_kb14, v_kb19, v_kb20, v_kb24, v_kb25, v_kb30, v_kb31, v_kb32, v_kb37, v_kb40, v_kb41, v_kb45, v_kb48, v_kb50, v_kb57, v_kb59, v_kb60, v_kb63, v_kb64, v_kb97, v_kb99, v_kb112, v_kb114, v_kb122, v_kim8, v_kim1, v_ki0, v_ki1, v_ki2, v_ki3, v_ki4, v_ki5, v_ksm9999, v_ksm256, v_ks128, v_ks199, v_ks200, v_ks255, v_ks256, v_ks400, v_ks457, v_ks1000, v_ks1024, v_ks2742, v_ks9999, v_ks10000, v_ld, v_st, v_ldc2_RX7_142, v_ldc2_RX7_144, v_ldc2_RX7_146, v_ldc2_RX7_148, v_ldc2_RX7_154, v_ldc2_RX7_163, v_ldc2_RX3_81, v_ldc2_RX7_207, v_ldc2_RX7_209, v_ldc2_RX13_190, v_ldc2_RX13_212, v_ldc2_RX13_218, v_ldc2_RX13_220, v_ldc2_RX13_254, v_ldc2_RX13_256, v_ldc2_RX13_287, v_ldc2_RX13_297, v_ldc2_RX13_302, v_ldc2_RX13_323, v_ldc2_RX13_343, v_ldc2_RX13_345, v_ldc2_RX13_351, v_ldc2_RX13_374, v_ldc2_RX13_400, v_ldc2_RX13_402, v_ldc2_RX13_413, v_ldc2_RX13_439, v_ldc2_RX13_461, v_ldc2_RX13_481, v_ldc2_RX13_486, v_ldc2_RX13_488, v_ldc2_RX13_490, v_ldc2_RX13_492, v_ldc2_RX13_494, v_ldc2_RX13_496, v_ldc2_RX13_498, v_ldc2_RX13_500, if_true, if_false, Bool.not_false, Bool.not_true, Nat.reduceEqDiff, Nat.reduceLeDiff, Nat.reduceLT, Nat.reduceAdd, Nat.reduceMul, Nat.reduceSub, and_self, and_true, true_and, and_false, false_and, Bool.false_eq_true, not_true_eq_false, not_false_eq_true, ite_self, v_robb, v_rob0, v_rob1, List.nil_append, G_189_0, P_189_0, G_189_1, G_189_2, P_189_2, G_189_3, P_189_3, G_189_4, P_189_4, G_189_5, P_189_5, G_189_6, P_189_6, G_189_7, P_189_7, G_189_8, P_189_8, G_189_9, P_189_9, G_189_10, P_189_10, G_189_11, P_189_11, G_189_12, P_189_12, G_189_13, G_189_14, G_189_15, G_189_16, G_189_17, G_189_18, P_189_18, G_189_19, P_189_19, G_189_20, G_189_21, G_189_22, P_189_22, G_189_23, P_189_23, G_189_24, P_189_24, G_189_25, P_189_25, G_189_26, P_189_26, G_189_27, G_189_28, G_189_29, G_189_30, G_189_31, G_189_32, P_189_32, G_189_33, P_189_33, G_189_34, P_189_34, G_189_35, P_189_35, G_189_36, P_189_36, G_189_37, P_189_37, G_189_38, G_189_39, P_189_39, G_189_40, P_189_40, G_189_41, G_189_42, G_189_43, G_189_44, G_189_45, G_189_46, G_189_47, G_189_48, P_189_48, G_189_49, P_189_49, G_189_50, P_189_50, G_189_51, P_189_51, G_189_52, G_189_53, P_189_53, G_189_54, P_189_54, R_189, S_190, A_190, N_190, S_191, A_191, N_191, S_192, A_192, N_192, S_193, A_193, N_193, S_194, A_194, N_194, S_195, A_195, N_195, S_196, A_196, N_196, S_197, A_197, N_197, S_198, A_198, N_198, S_199, A_199, N_199, S_200, A_200, N_200, S_201, A_201, N_201, S_202, A_202, N_202, S_203, A_203, N_203, S_204, A_204, N_204, S_205, A_205, N_205, S_206, A_206, N_206, S_207, A_207, N_207, S_208, A_208, N_208, S_209, A_209, N_209, S_210, A_210, N_210, S_211, A_211, N_211, S_212, A_212, N_212, h20, hmm, hl, hm2, nI_add, e1', b1]
  · rw [if_neg ho]
    have h1 : many % 2 = 0 := by omega
    rw [h1] at hm2
    simp only [kX13_laysRound, gX13_laysRound, v_TM, v_seq, v_blk, v_lop, v_fgt, v_fg0, v_fg1, v_b0, v_b1, v_bn, v_bi, v_c0, v_c1, v_c2, v_cn, v_ci, v_st0, v_st1, v_stn, v_iadd, v_isub, v_imul, v_iand, v_ior, v_ixor, v_ishl, v_ishr, v_ladd, v_lsub, v_lmul, v_lor, v_land, v_ineg, v_lneg, v_lcmp, v_lshl, v_i2l, v_l2i, v_i2b, v_i2c, v_i2f, v_i2d, v_idiv, v_irem, v_ldiv, v_lrem, v_iconst, v_bipush, v_sipush, v_lconst0, v_lconst1, v_null, v_fconst0, v_dconst0, v_ldcS, v_dupi, v_dupr, v_pop, v_dup2, vI_i, vL_l, vA_r, vA_n, vInc_i, v_iload_n0, v_iload_n1, v_iload_n2, v_iload_n3, v_iload, v_lload_n0, v_lload_n1, v_lload_n2, v_lload_n3, v_lload, v_dload_n0, v_dload_n1, v_dload_n2, v_dload_n3, v_dload, v_aload_n0, v_aload_n1, v_aload_n2, v_aload_n3, v_aload, v_at0, v_ok0, v_at1, v_ok1, v_at2, v_ok2, v_at3, v_ok3, v_at4, v_ok4, v_at5, v_ok5, v_at6, v_ok6, v_at7, v_ok7, v_at8, v_ok8, v_at9, v_ok9, v_at10, v_ok10, v_at11, v_ok11, v_at12, v_ok12, v_at13, v_ok13, v_at14, v_ok14, v_at15, v_ok15, v_c2i, v_c2l, v_c2r, v_c2n, v_c2j, v_istore_n0, v_astore_n0, v_istore_n1, v_astore_n1, v_istore_n2, v_astore_n2, v_istore_n3, v_astore_n3, v_istore, v_astore, v_lstore_n0, v_lstore_n1, v_lstore_n2, v_lstore_n3, v_lstore, v_iinc, v_if_eq, v_if_ne, v_if_lt, v_if_ge, v_if_gt, v_if_le, v_icmp_eq, v_icmp_ne, v_icmp_lt, v_icmp_ge, v_icmp_gt, v_icmp_le, v_ifnull0, v_ifnull1, v_ifnonnull0, v_ifnonnull1, v_goto, v_ireturn, v_lreturn, v_areturn, v_areturn0, v_return, v_throw, v_throwW, v_table, v_cs0, v_csi, v_csl, v_csr, v_an0, v_an1, v_ani, v_call0, v_call1, v_call2, v_call3, v_call4, v_call5, v_call6, v_call7, v_rI, v_fin, v_finX, v_fini, v_ro0, v_roi, v_rol, v_rob0, v_rob1, v_roo, v_roon, v_kbm99, v_kbm64, v_kbm8, v_kbm5, v_kb6, v_kb7, v_kb8, v_kb9, v_kb10, v_kb12, v_kb14, v_kb19, v_kb20, v_kb24, v_kb25, v_kb30, v_kb31, v_kb32, v_kb37, v_kb40, v_kb41, v_kb45, v_kb48, v_kb50, v_kb57, v_kb59, v_kb60, v_kb63, v_kb64, v_kb97, v_kb99, v_kb112, v_kb114, v_kb122, v_kim8, v_kim1, v_ki0, v_ki1, v_ki2, v_ki3, v_ki4, v_ki5, v_ksm9999, v_ksm256, v_ks128, v_ks199, v_ks200, v_ks255, v_ks256, v_ks400, v_ks457, v_ks1000, v_ks1024, v_ks2742, v_ks9999, v_ks10000, v_ld, v_st, v_ldc2_RX7_142, v_ldc2_RX7_144, v_ldc2_RX7_146, v_ldc2_RX7_148, v_ldc2_RX7_154, v_ldc2_RX7_163, v_ldc2_RX3_81, v_ldc2_RX7_207, v_ldc2_RX7_209, v_ldc2_RX13_190, v_ldc2_RX13_212, v_ldc2_RX13_218, v_ldc2_RX13_220, v_ldc2_RX13_254, v_ldc2_RX13_256, v_ldc2_RX13_287, v_ldc2_RX13_297, v_ldc2_RX13_302, v_ldc2_RX13_323, v_ldc2_RX13_343, v_ldc2_RX13_345, v_ldc2_RX13_351, v_ldc2_RX13_374, v_ldc2_RX13_400, v_ldc2_RX13_402, v_ldc2_RX13_413, v_ldc2_RX13_439, v_ldc2_RX13_461, v_ldc2_RX13_481, v_ldc2_RX13_486, v_ldc2_RX13_488, v_ldc2_RX13_490, v_ldc2_RX13_492, v_ldc2_RX13_494, v_ldc2_RX13_496, v_ldc2_RX13_498, v_ldc2_RX13_500, if_true, if_false, Bool.not_false, Bool.not_true, Nat.reduceEqDiff, Nat.reduceLeDiff, Nat.reduceLT, Nat.reduceAdd, Nat.reduceMul, Nat.reduceSub, and_self, and_true, true_and, and_false, false_and, Bool.false_eq_true, not_true_eq_false, not_false_eq_true, ite_self, v_robb, v_rob0, v_rob1, List.nil_append, G_189_0, P_189_0, G_189_1, G_189_2, P_189_2, G_189_3, P_189_3, G_189_4, P_189_4, G_189_5, P_189_5, G_189_6, P_189_6, G_189_7, P_189_7, G_189_8, P_189_8, G_189_9, P_189_9, G_189_10, P_189_10, G_189_11, P_189_11, G_189_12, P_189_12, G_189_13, G_189_14, G_189_15, G_189_16, G_189_17, G_189_18, P_189_18, G_189_19, P_189_19, G_189_20, G_189_21, G_189_22, P_189_22, G_189_23, P_189_23, G_189_24, P_189_24, G_189_25, P_189_25, G_189_26, P_189_26, G_189_27, G_189_28, G_189_29, G_189_30, G_189_31, G_189_32, P_189_32, G_189_33, P_189_33, G_189_34, P_189_34, G_189_35, P_189_35, G_189_36, P_189_36, G_189_37, P_189_37, G_189_38, G_189_39, P_189_39, G_189_40, P_189_40, G_189_41, G_189_42, G_189_43, G_189_44, G_189_45, G_189_46, G_189_47, G_189_48, P_189_48, G_189_49, P_189_49, G_189_50, P_189_50, G_189_51, P_189_51, G_189_52, G_189_53, P_189_53, G_189_54, P_189_54, R_189, S_190, A_190, N_190, S_191, A_191, N_191, S_192, A_192, N_192, S_193, A_193, N_193, S_194, A_194, N_194, S_195, A_195, N_195, S_196, A_196, N_196, S_197, A_197, N_197, S_198, A_198, N_198, S_199, A_199, N_199, S_200, A_200, N_200, S_201, A_201, N_201, S_202, A_202, N_202, S_203, A_203, N_203, S_204, A_204, N_204, S_205, A_205, N_205, S_206, A_206, N_206, S_207, A_207, N_207, S_208, A_208, N_208, S_209, A_209, N_209, S_210, A_210, N_210, S_211, A_211, N_211, S_212, A_212, N_212, h20, hmm, hl, hm2, show (nI 0 = nI 1) = False by decide]
theorem cm_congr {wx wy wx' wy' F : Row} {v : Nat} : ∀ n, (∀ p, p < n → wx p = wx' p ∧ wy p = wy' p) → cm wx wy F v n = cm wx' wy' F v n := by
  intro n
  induction n with
  | zero => intro _; rfl
  | succ n ih =>
    intro h
    rw [cm_s, cm_s, ih (fun p hp => h p (by omega)), (h n (by omega)).1, (h n (by omega)).2]
theorem mkI_196 {I : Nat → Nat → Int32} {s : Row} {p : Nat} (h : p < 6) : mkI I s 6 196 p = s (19 + p) := by unfold mkI; simp [h]
theorem mkI_197 {I : Nat → Nat → Int32} {s : Row} {p : Nat} (h : p < 6) : mkI I s 6 197 p = s (25 + p) := by unfold mkI; simp [h]
/-- spread -/
abbrev spF (s : Row) (n : Nat) (r : Int32) : Row := lrS (npD s 6) 0 n r
theorem np_o {s : Row} {j : Nat} (h : j < 31 ∨ 37 ≤ j) : npD s 6 j = s j := by unfold npD; rw [if_neg (by omega)]
theorem np_i {s : Row} {p : Nat} (h : p < 6) : npD s 6 (31 + p) = -nI 1 := by unfold npD; rw [if_pos (by omega)]
theorem spF_RND (s : Row) {n : Nat} (r : Int32) (hn : n ≤ 6) : RND (spF s n r) 0 n r := lrS_RND _ _ _ _ (by omega) (fun _ => np_i (by omega))
theorem spF_o {s : Row} {n : Nat} {r : Int32} (hn : n ≤ 6) {j : Nat} (h : j < 19 ∨ 37 ≤ j) : spF s n r j = s j := by
  unfold spF
  rw [lrS_o _ _ _ _ (fun p h1 h2 => by omega), np_o (by omega)]
theorem spF_Iv {n f d v r : Nat} {s : Row} (hI : Iv n f d v s) (h1 : 1 ≤ r) (h2 : r ≤ 256) : Iv n f d v (spF s n (nI r)) := by
  have hn := hI.1.2.2
  have hk := fun p (hp : p < n) => RND_ok (p := p) (spF_RND s (nI r) hn) (show 0 + n ≤ n by omega) hn h1 h2 (by omega) (by omega)
  refine hI.laid (fun j hj => spF_o hn hj) (fun p hp => (hk p hp).2) (fun p hp => (hk p hp).1) (fun p g1 g2 => ?_)
  unfold spF
  rw [lrS_o _ _ _ _ (fun q q1 q2 => by omega)]
  exact np_i g2
/-- where the places come from is laid aside, all is laid anew, and then visited -/
theorem stg_of {s F : Row} {v n : Nat} {I : Nat → Nat → Int32} (hn : n ≤ 6) (hF : ∀ j, j < 19 ∨ 37 ≤ j → F j = s j) (hp : ∀ p, n ≤ p → p < 6 → F (19 + p) = s (19 + p) ∧ F (25 + p) = s (25 + p) ∧ F (31 + p) = s (31 + p)) (h6 : ∀ p, p < 6 → I 196 p = s (19 + p) ∧ I 197 p = s (25 + p)) : cm (I 196) (I 197) F v n = stg s F v n := by
  rw [← stg_cm_n hn hF hp]
  exact cm_congr n (fun p hp => h6 p (by omega))
theorem spF_hi {n f d v : Nat} {s : Row} {r : Int32} (hI : Iv n f d v s) {p : Nat} (h1 : n ≤ p) (h2 : p < 6) : spF s n r (19 + p) = s (19 + p) ∧ spF s n r (25 + p) = s (25 + p) ∧ spF s n r (31 + p) = s (31 + p) := by
  obtain ⟨⟨i1, i2, hn⟩, -, -, -, -, -, -, -, pt⟩ := hI
  unfold spF
  rw [lrS_o _ _ _ _ (fun q q1 q2 => by omega), lrS_o _ _ _ _ (fun q q1 q2 => by omega), lrS_o _ _ _ _ (fun q q1 q2 => by omega), np_o (by omega), np_o (by omega), np_i h2, pt p h1 h2]
  exact ⟨rfl, rfl, rfl⟩
theorem m_doesSpread {n f d v : Nat} {s : Row} (hv : v < 2147480000) (hI : Iv n f d v s) (r : Int32) (t : Nat × Nat × Bool) (I : Nat → Nat → Int32) (L : Nat → Nat → Int64) (V : Nat → Option Nat) : eCall mX13_doesSpread [.ref 189, .int r] (mM t (wR I s) L V) = some (.inl (some (.int (nI (stg s (spF s n r) v n).2.2))), mM t (wR (mkI I s 6) (stg s (spF s n r) v n).1) L V) := by
  obtain ⟨⟨i1, i2, hn⟩, -, -, i8, -⟩ := id hI
  have i0 := ix (show 0 < 457 by decide) (by decide)
  have e0 : npD s 6 0 = nI n := by rw [np_o (by omega)]; exact i1
  have b1 := m_marks s t I L V
  have b2 := m_noPairs s t (mkI I s 6) L V
  have b3 := m_laysRound (show 0 + n ≤ 6 by omega) r (npD s 6) t (mkI I s 6) L V
  have b4 := m_comes (v := v) hn (by omega) (spF s n r) t (mkI I s 6) L V (by rw [spF_o hn (by omega)]; exact i1) (by rw [spF_o hn (by omega)]; exact i8)
  rw [stg_of hn (fun j hj => spF_o hn hj) (fun p h1 h2 => spF_hi hI h1 h2) (fun p hp => ⟨mkI_196 hp, mkI_197 hp⟩)] at b4
  simp only [kX13_doesSpread, gX13_doesSpread, v_TM, v_seq, v_blk, v_lop, v_fgt, v_fg0, v_fg1, v_b0, v_b1, v_bn, v_bi, v_c0, v_c1, v_c2, v_cn, v_ci, v_st0, v_st1, v_stn, v_iadd, v_isub, v_imul, v_iand, v_ior, v_ixor, v_ishl, v_ishr, v_ladd, v_lsub, v_lmul, v_lor, v_land, v_ineg, v_lneg, v_lcmp, v_lshl, v_i2l, v_l2i, v_i2b, v_i2c, v_i2f, v_i2d, v_idiv, v_irem, v_ldiv, v_lrem, v_iconst, v_bipush, v_sipush, v_lconst0, v_lconst1, v_null, v_fconst0, v_dconst0, v_ldcS, v_dupi, v_dupr, v_pop, v_dup2, vI_i, vL_l, vA_r, vA_n, vInc_i, v_iload_n0, v_iload_n1, v_iload_n2, v_iload_n3, v_iload, v_lload_n0, v_lload_n1, v_lload_n2, v_lload_n3, v_lload, v_dload_n0, v_dload_n1, v_dload_n2, v_dload_n3, v_dload, v_aload_n0, v_aload_n1, v_aload_n2, v_aload_n3, v_aload, v_at0, v_ok0, v_at1, v_ok1, v_at2, v_ok2, v_at3, v_ok3, v_at4, v_ok4, v_at5, v_ok5, v_at6, v_ok6, v_at7, v_ok7, v_at8, v_ok8, v_at9, v_ok9, v_at10, v_ok10, v_at11, v_ok11, v_at12, v_ok12, v_at13, v_ok13, v_at14, v_ok14, v_at15, v_ok15, v_c2i, v_c2l, v_c2r, v_c2n, v_c2j, v_istore_n0, v_astore_n0, v_istore_n1, v_astore_n1, v_istore_n2, v_astore_n2, v_istore_n3, v_astore_n3, v_istore, v_astore, v_lstore_n0, v_lstore_n1, v_lstore_n2, v_lstore_n3, v_lstore, v_iinc, v_if_eq, v_if_ne, v_if_lt, v_if_ge, v_if_gt, v_if_le, v_icmp_eq, v_icmp_ne, v_icmp_lt, v_icmp_ge, v_icmp_gt, v_icmp_le, v_ifnull0, v_ifnull1, v_ifnonnull0, v_ifnonnull1, v_goto, v_ireturn, v_lreturn, v_areturn, v_areturn0, v_return, v_throw, v_throwW, v_table, v_cs0, v_csi, v_csl, v_csr, v_an0, v_an1, v_ani, v_call0, v_call1, v_call2, v_call3, v_call4, v_call5, v_call6, v_call7, v_rI, v_fin, v_finX, v_fini, v_ro0, v_roi, v_rol, v_rob0, v_rob1, v_roo, v_roon, v_kbm99, v_kbm64, v_kbm8, v_kbm5, v_kb6, v_kb7, v_kb8, v_kb9, v_kb10, v_kb12, v_kb14, v_kb19, v_kb20, v_kb24, v_kb25, v_kb30, v_kb31, v_kb32, v_kb37, v_kb40, v_kb41, v_kb45, v_kb48, v_kb50, v_kb57, v_kb59, v_kb60, v_kb63, v_kb64, v_kb97, v_kb99, v_kb112, v_kb114, v_kb122, v_kim8, v_kim1, v_ki0, v_ki1, v_ki2, v_ki3, v_ki4, v_ki5, v_ksm9999, v_ksm256, v_ks128, v_ks199, v_ks200, v_ks255, v_ks256, v_ks400, v_ks457, v_ks1000, v_ks1024, v_ks2742, v_ks9999, v_ks10000, v_ld, v_st, v_ldc2_RX7_142, v_ldc2_RX7_144, v_ldc2_RX7_146, v_ldc2_RX7_148, v_ldc2_RX7_154, v_ldc2_RX7_163, v_ldc2_RX3_81, v_ldc2_RX7_207, v_ldc2_RX7_209, v_ldc2_RX13_190, v_ldc2_RX13_212, v_ldc2_RX13_218, v_ldc2_RX13_220, v_ldc2_RX13_254, v_ldc2_RX13_256, v_ldc2_RX13_287, v_ldc2_RX13_297, v_ldc2_RX13_302, v_ldc2_RX13_323, v_ldc2_RX13_343, v_ldc2_RX13_345, v_ldc2_RX13_351, v_ldc2_RX13_374, v_ldc2_RX13_400, v_ldc2_RX13_402, v_ldc2_RX13_413, v_ldc2_RX13_439, v_ldc2_RX13_461, v_ldc2_RX13_481, v_ldc2_RX13_486, v_ldc2_RX13_488, v_ldc2_RX13_490, v_ldc2_RX13_492, v_ldc2_RX13_494, v_ldc2_RX13_496, v_ldc2_RX13_498, v_ldc2_RX13_500, if_true, if_false, Bool.not_false, Bool.not_true, Nat.reduceEqDiff, Nat.reduceLeDiff, Nat.reduceLT, Nat.reduceAdd, Nat.reduceMul, Nat.reduceSub, and_self, and_true, true_and, and_false, false_and, Bool.false_eq_true, not_true_eq_false, not_false_eq_true, ite_self, v_robb, v_rob0, v_rob1, List.nil_append, G_189_0, P_189_0, G_189_1, G_189_2, P_189_2, G_189_3, P_189_3, G_189_4, P_189_4, G_189_5, P_189_5, G_189_6, P_189_6, G_189_7, P_189_7, G_189_8, P_189_8, G_189_9, P_189_9, G_189_10, P_189_10, G_189_11, P_189_11, G_189_12, P_189_12, G_189_13, G_189_14, G_189_15, G_189_16, G_189_17, G_189_18, P_189_18, G_189_19, P_189_19, G_189_20, G_189_21, G_189_22, P_189_22, G_189_23, P_189_23, G_189_24, P_189_24, G_189_25, P_189_25, G_189_26, P_189_26, G_189_27, G_189_28, G_189_29, G_189_30, G_189_31, G_189_32, P_189_32, G_189_33, P_189_33, G_189_34, P_189_34, G_189_35, P_189_35, G_189_36, P_189_36, G_189_37, P_189_37, G_189_38, G_189_39, P_189_39, G_189_40, P_189_40, G_189_41, G_189_42, G_189_43, G_189_44, G_189_45, G_189_46, G_189_47, G_189_48, P_189_48, G_189_49, P_189_49, G_189_50, P_189_50, G_189_51, P_189_51, G_189_52, G_189_53, P_189_53, G_189_54, P_189_54, R_189, S_190, A_190, N_190, S_191, A_191, N_191, S_192, A_192, N_192, S_193, A_193, N_193, S_194, A_194, N_194, S_195, A_195, N_195, S_196, A_196, N_196, S_197, A_197, N_197, S_198, A_198, N_198, S_199, A_199, N_199, S_200, A_200, N_200, S_201, A_201, N_201, S_202, A_202, N_202, S_203, A_203, N_203, S_204, A_204, N_204, S_205, A_205, N_205, S_206, A_206, N_206, S_207, A_207, N_207, S_208, A_208, N_208, S_209, A_209, N_209, S_210, A_210, N_210, S_211, A_211, N_211, S_212, A_212, N_212, b1, b2, w_191, i0, e0, b3, b4]
theorem c_spread {n f d v r : Nat} {s : Row} (hv : v < 2147480000) (hI : Iv n f d v s) (t : Nat × Nat × Bool) (I : Nat → Nat → Int32) (L : Nat → Nat → Int64) (V : Nat → Option Nat) (h : CS I 1 n d v s) : ∃ I', eCall mX7_lay [.ref 1, .int (nI 0), .int (nI n), .int (nI r)] (mM t I L V) = some (.inl (some (.int (nI (stg s (spF s n (nI r)) v n).2.2))), mM t I' L V) ∧ CS I' 1 n d (stg s (spF s n (nI r)) v n).2.1 (stg s (spF s n (nI r)) v n).1 ∧ Fr 1 I I' := by
  obtain ⟨⟨i1, i2, hn⟩, ⟨-, i5, i6⟩, -⟩ := id hI
  obtain ⟨I', e1, e2, e3⟩ := c_lay (a := 0) (v := v) (s := s) (show 0 + n ≤ n by omega) hn (show d ≤ 5 by omega) hv (spF_RND s (nI r) hn) t I L V h
  rw [Nat.zero_add] at e1 e2
  exact ⟨I', e1, e2, e3⟩
theorem sp_Iv {n f d v : Nat} {s F : Row} (hI : Iv n f d v s) (hF : ∀ j, j < 19 ∨ 37 ≤ j → F j = s j) (hp : ∀ p, n ≤ p → p < 6 → F (19 + p) = s (19 + p) ∧ F (25 + p) = s (25 + p) ∧ F (31 + p) = s (31 + p)) (hv : Iv n f d v F) : Iv n f d (stg s F v n).2.1 (stg s F v n).1 := by
  rw [← stg_cm_n hI.1.2.2 hF hp]
  exact hv.cm n (Nat.le_refl n)
/-- start -/
def bgD (c : Row) (n : Nat) (s : Row) : Nat → Row
  | 0 => s
  | e + 1 => lrS (bgD c n s e) (kkS c n e) (kkS c n (e + 1) - kkS c n e) (elS c n (kkS c n e))
theorem kk_le (c : Row) (n e : Nat) : kkS c n e ≤ kkS c n (e + 1) := by
  conv => rhs; unfold kkS
  split
  · rename_i h
    have := eeS_rng (c := c) h
    omega
  · exact (kkS_rng c n e).1
theorem bgD_o (c : Row) (n : Nat) (s : Row) : ∀ e, ∀ j, (∀ p, p < kkS c n e → j ≠ 19 + p ∧ j ≠ 25 + p ∧ j ≠ 31 + p) → bgD c n s e j = s j := by
  intro e
  induction e with
  | zero => intro j _; rfl
  | succ e ih =>
    intro j h
    have hk := kk_le c n e
    unfold bgD
    rw [lrS_o _ _ _ _ (fun p h1 h2 => h p (by omega))]
    exact ih j (fun p hp => h p (by omega))
theorem bgD_RND (c : Row) {n : Nat} (hn : n ≤ 6) (s : Row) : ∀ e, ∀ i, i < e → RND (bgD c n (npD s 6) e) (kkS c n i) (kkS c n (i + 1) - kkS c n i) (elS c n (kkS c n i)) := by
  intro e
  induction e with
  | zero => intro i hi; omega
  | succ e ih =>
    intro i hi
    have hk := kk_le c n e
    have h6 := (kkS_rng c n (e + 1)).1
    by_cases hie : i = e
    · subst hie
      refine lrS_RND _ _ _ _ (by omega) (fun ho => ?_)
      rw [bgD_o _ _ _ _ _ (fun p hp => by omega)]
      exact np_i (by omega)
    · refine RND_keep (ih i (by omega)) (fun p h1 h2 => ?_)
      have h3 : kkS c n (i + 1) ≤ kkS c n e := by
        have key : ∀ m, kkS c n (i + 1) ≤ kkS c n (i + 1 + m) := by
          intro m
          induction m with
          | zero => exact Nat.le_refl _
          | succ m ihm => exact Nat.le_trans ihm (kk_le c n (i + 1 + m))
        have := key (e - (i + 1))
        rw [show i + 1 + (e - (i + 1)) = e by omega] at this
        exact this
      have h4 := kk_le c n i
      have q : ∀ b, bgD c n (npD s 6) (e + 1) b = lrS (bgD c n (npD s 6) e) (kkS c n e) (kkS c n (e + 1) - kkS c n e) (elS c n (kkS c n e)) b := fun _ => rfl
      rw [q, q, q, lrS_o _ _ _ _ (fun q q1 q2 => by omega), lrS_o _ _ _ _ (fun q q1 q2 => by omega), lrS_o _ _ _ _ (fun q q1 q2 => by omega)]
      exact ⟨rfl, rfl, rfl⟩
abbrev bgF (s : Row) (n : Nat) : Row := bgD (cf s) n (npD s 6) (enS (cf s) n)
theorem bgF_o {s : Row} {n : Nat} (hn : n ≤ 6) {j : Nat} (h : j < 19 ∨ 37 ≤ j) : bgF s n j = s j := by
  have h6 := (kkS_rng (cf s) n (enS (cf s) n)).1
  unfold bgF
  rw [bgD_o _ _ _ _ _ (fun p hp => by omega), np_o (by omega)]
theorem elS_n {n f d v k : Nat} {s : Row} (hI : Iv n f d v s) (hk : k < n) : ∃ r, elS (cf s) n k = nI r ∧ 1 ≤ r ∧ r ≤ 256 := by
  have hn := hI.1.2.2
  have hr := eeS_rng (c := cf s) hk
  have key : ∀ x : Int32, nI 1 ≤ x ∧ x ≤ nI 256 → ∃ r, x = nI r ∧ 1 ≤ r ∧ r ≤ 256 := by
    intro x hx
    have h1 := Int32.le_iff_toInt_le.mp hx.1
    have h2 := Int32.le_iff_toInt_le.mp hx.2
    rw [show (nI 1).toInt = 1 by decide] at h1
    rw [show (nI 256).toInt = 256 by decide] at h2
    refine ⟨x.toInt.toNat, ?_, by omega, by omega⟩
    apply Int32.toInt_inj.mp
    rw [nI_toInt (by omega)]
    omega
  unfold elS
  by_cases h0 : cf s k = nI 0
  · rw [if_pos h0]; exact ⟨1, rfl, by decide, by decide⟩
  · rw [if_neg h0]
    have e := elS_rng _ (Nat.lt_succ_of_le (dg_b hI (show k ≤ n by omega))) _ (Nat.lt_succ_of_le (dg_b hI (show eeS (cf s) n k ≤ n by omega))) (eeS (cf s) n k - k - 1) (by omega)
    rw [show eeS (cf s) n k - k - 1 + 1 = eeS (cf s) n k - k by omega] at e
    exact key _ e
theorem kk_find (c : Row) (n : Nat) : ∀ e p, p < kkS c n e → ∃ i, i < e ∧ kkS c n i ≤ p ∧ p < kkS c n (i + 1) := by
  intro e
  induction e with
  | zero => intro p hp; exact absurd hp (Nat.not_lt_zero _)
  | succ e ih =>
    intro p hp
    by_cases h : p < kkS c n e
    · obtain ⟨i, h1, h2⟩ := ih p h
      exact ⟨i, by omega, h2⟩
    · exact ⟨e, by omega, by omega, hp⟩
theorem bgF_Iv {n f d v : Nat} {s : Row} (hI : Iv n f d v s) : Iv n f d v (bgF s n) := by
  have hn := hI.1.2.2
  obtain ⟨k1, k2, k3⟩ := enS_spec (cf s) n
  have hk : ∀ p, p < n → plc (bgF s n (19 + p)) (bgF s n (25 + p)) ∧ _ := fun p (hp : p < n) => by
    obtain ⟨i, h1, h2, h3⟩ := kk_find (cf s) n (enS (cf s) n) p (by rw [k2]; exact hp)
    obtain ⟨r, hr, r1, r2⟩ := elS_n hI (k1 i h1)
    have hR := bgD_RND (cf s) hn s (enS (cf s) n) i h1
    rw [hr] at hR
    exact RND_ok (p := p) hR (show kkS (cf s) n i + (kkS (cf s) n (i + 1) - kkS (cf s) n i) ≤ n by have := (kkS_rng (cf s) n (i + 1)).1; omega) hn r1 r2 h2 (by omega)
  refine hI.laid (fun j hj => bgF_o hn hj) (fun p hp => (hk p hp).2) (fun p hp => (hk p hp).1) (fun p g1 g2 => ?_)
  unfold bgF
  rw [bgD_o _ _ _ _ _ (fun q hq => by omega)]
  exact np_i g2
theorem bgF_hi {n f d v : Nat} {s : Row} (hI : Iv n f d v s) {p : Nat} (h1 : n ≤ p) (h2 : p < 6) : bgF s n (19 + p) = s (19 + p) ∧ bgF s n (25 + p) = s (25 + p) ∧ bgF s n (31 + p) = s (31 + p) := by
  obtain ⟨⟨i1, i2, hn⟩, -, -, -, -, -, -, -, pt⟩ := hI
  obtain ⟨k1, k2, k3⟩ := enS_spec (cf s) n
  unfold bgF
  rw [bgD_o _ _ _ _ _ (fun q hq => by omega), bgD_o _ _ _ _ _ (fun q hq => by omega), bgD_o _ _ _ _ _ (fun q hq => by omega), np_o (by omega), np_o (by omega), np_i h2, pt p h1 h2]
  exact ⟨rfl, rfl, rfl⟩
