/-! ===== the polygon of sizes ===== -/
def bits (m : Nat) : Nat := if m = 0 then 0 else Nat.log2 m + 1
theorem bits_iff (m d : Nat) : m / 2 ^ d = 0 ↔ bits m ≤ d := by
  unfold bits
  by_cases h : m = 0
  · subst h; simp
  · rw [if_neg h]
    have hp : 0 < 2 ^ d := Nat.two_pow_pos d
    rw [Nat.div_eq_zero_iff]
    constructor
    · intro z
      rcases z with z | z
      · omega
      · exact (Nat.log2_lt h).mpr z
    · intro z
      exact Or.inr ((Nat.log2_lt h).mp z)
theorem bits_14 {m : Nat} (h : m ≤ 9999) : bits m ≤ 14 := by
  rw [← bits_iff]
  have : m / 2 ^ 14 < 1 := by
    rw [Nat.div_lt_iff_lt_mul (by decide)]
    omega
  omega
/-- the size of a coefficient -/
def dgS (x : Int32) : Nat := bits x.toInt.natAbs
theorem shr_I {m d : Nat} (hm : m < 2147483648) (hd : d < 31) : nI m >>> (nI d &&& 31) = nI (m / 2 ^ d) := by
  have : ∀ d, d < 31 → ((nI d &&& 31).toBitVec.smod 32).toNat = d := by decide
  exact pk_shrN hm _ d (this d hd)
theorem abI_nI {x : Int32} (h : x.toInt.natAbs ≤ 9999) : abI x = nI x.toInt.natAbs := by
  apply Int32.toInt_inj.mp
  rw [abI_b h (Nat.le_refl _), nI_toInt (by omega)]
theorem c_digits {x : Int32} (hx : x.toInt.natAbs ≤ 9999) (μ : eMem) : eCall mX5_binaryDigits [.int x] μ = some (.inl (some (.int (nI (dgS x)))), μ) := by
  have ha := abI_nI hx
  unfold abI at ha
  have hb := bits_14 hx
  unfold dgS
  generalize x.toInt.natAbs = m at *
  have hl : eLoop eFuel 15 (eDen gX5_binaryDigits_L15) ([.int x, .int (nI m), .int (nI 0), .int (nI 0)], [], μ) = some (none, ([.int x, .int (nI m), .int (nI (bits m)), .int (nI 31)], [], μ)) := by
    refine eLoop_r (h := 15) (fun d => ([.int x, .int (nI m), .int (nI (min d (bits m))), .int (nI d)], [], μ)) 31 ?_ (by omega) (fun d hd => ?_) ?_
    · rw [show min 0 (bits m) = 0 by omega]
    · have c1 : (nI 31 ≤ nI d) = False := eq_false (nI_ge hd (by omega))
      have hs := shr_I (m := m) (by omega) hd
      by_cases h0 : m / 2 ^ d = 0
      · have := (bits_iff m d).mp h0
        rw [h0] at hs
        rw [show min (d + 1) (bits m) = min d (bits m) by omega]
        simp only [gX5_binaryDigits_L15, v_TM, v_seq, v_blk, v_lop, v_fgt, v_fg0, v_fg1, v_b0, v_b1, v_bn, v_bi, v_c0, v_c1, v_c2, v_cn, v_ci, v_st0, v_st1, v_stn, v_iadd, v_isub, v_imul, v_iand, v_ior, v_ixor, v_ishl, v_ishr, v_ladd, v_lsub, v_lmul, v_lor, v_land, v_ineg, v_lneg, v_lcmp, v_lshl, v_i2l, v_l2i, v_i2b, v_i2c, v_i2f, v_i2d, v_idiv, v_irem, v_ldiv, v_lrem, v_iconst, v_bipush, v_sipush, v_lconst0, v_lconst1, v_null, v_fconst0, v_dconst0, v_ldcS, v_dupi, v_dupr, v_pop, v_dup2, vI_i, vL_l, vA_r, vA_n, vInc_i, v_iload_n0, v_iload_n1, v_iload_n2, v_iload_n3, v_iload, v_lload_n0, v_lload_n1, v_lload_n2, v_lload_n3, v_lload, v_dload_n0, v_dload_n1, v_dload_n2, v_dload_n3, v_dload, v_aload_n0, v_aload_n1, v_aload_n2, v_aload_n3, v_aload, v_at0, v_ok0, v_at1, v_ok1, v_at2, v_ok2, v_at3, v_ok3, v_at4, v_ok4, v_at5, v_ok5, v_at6, v_ok6, v_at7, v_ok7, v_at8, v_ok8, v_at9, v_ok9, v_at10, v_ok10, v_at11, v_ok11, v_at12, v_ok12, v_at13, v_ok13, v_at14, v_ok14, v_at15, v_ok15, v_c2i, v_c2l, v_c2r, v_c2n, v_c2j, v_istore_n0, v_astore_n0, v_istore_n1, v_astore_n1, v_istore_n2, v_astore_n2, v_istore_n3, v_astore_n3, v_istore, v_astore, v_lstore_n0, v_lstore_n1, v_lstore_n2, v_lstore_n3, v_lstore, v_iinc, v_if_eq, v_if_ne, v_if_lt, v_if_ge, v_if_gt, v_if_le, v_icmp_eq, v_icmp_ne, v_icmp_lt, v_icmp_ge, v_icmp_gt, v_icmp_le, v_ifnull0, v_ifnull1, v_ifnonnull0, v_ifnonnull1, v_goto, v_ireturn, v_lreturn, v_areturn, v_areturn0, v_return, v_throw, v_throwW, v_table, v_cs0, v_csi, v_csl, v_csr, v_an0, v_an1, v_ani, v_call0, v_call1, v_call2, v_call3, v_call4, v_call5, v_call6, v_call7, v_rI, v_fin, v_finX, v_fini, v_ro0, v_roi, v_rol, v_rob0, v_rob1, v_roo, v_roon, v_kbm99, v_kbm64, v_kbm8, v_kbm5, v_kb6, v_kb7, v_kb8, v_kb9, v_kb10, v_kb12, v_kb14, v_kb19, v_kb20, v_kb24, v_kb25, v_kb30, v_kb31, v_kb32, v_kb37, v_kb40, v_kb41, v_kb45, v_kb48, v_kb50, v_kb57, v_kb59, v_kb60, v_kb63, v_kb64, v_kb97, v_kb99, v_kb112, v_kb114, v_kb122, v_kim8, v_kim1, v_ki0, v_ki1, v_ki2, v_ki3, v_ki4, v_ki5, v_ksm9999, v_ksm256, v_ks128, v_ks199, v_ks200, v_ks255, v_ks256, v_ks400, v_ks457, v_ks1000, v_ks1024, v_ks2742, v_ks9999, v_ks10000, v_ld, v_st, v_ldc2_RX7_142, v_ldc2_RX7_144, v_ldc2_RX7_146, v_ldc2_RX7_148, v_ldc2_RX7_154, v_ldc2_RX7_163, v_ldc2_RX3_81, v_ldc2_RX7_207, v_ldc2_RX7_209, v_ldc2_RX13_190, v_ldc2_RX13_212, v_ldc2_RX13_218, v_ldc2_RX13_220, v_ldc2_RX13_254, v_ldc2_RX13_256, v_ldc2_RX13_287, v_ldc2_RX13_297, v_ldc2_RX13_302, v_ldc2_RX13_323, v_ldc2_RX13_343, v_ldc2_RX13_345, v_ldc2_RX13_351, v_ldc2_RX13_374, v_ldc2_RX13_400, v_ldc2_RX13_402, v_ldc2_RX13_413, v_ldc2_RX13_439, v_ldc2_RX13_461, v_ldc2_RX13_481, v_ldc2_RX13_486, v_ldc2_RX13_488, v_ldc2_RX13_490, v_ldc2_RX13_492, v_ldc2_RX13_494, v_ldc2_RX13_496, v_ldc2_RX13_498, v_ldc2_RX13_500, if_true, if_false, Bool.not_false, Bool.not_true, Nat.reduceEqDiff, Nat.reduceLeDiff, Nat.reduceLT, Nat.reduceAdd, Nat.reduceMul, Nat.reduceSub, and_self, and_true, true_and, and_false, false_and, Bool.false_eq_true, not_true_eq_false, not_false_eq_true, ite_self, v_robb, v_rob0, v_rob1, List.nil_append, c1, hs, nI_add]
      · have : ¬ bits m ≤ d := fun z => h0 ((bits_iff m d).mpr z)
        have hlt : m / 2 ^ d ≤ m := Nat.div_le_self _ _
        have c2 : (nI (m / 2 ^ d) = nI 0) = False := eq_false (by rw [nI_eq (by omega) (by omega)]; exact h0)
        rw [show min (d + 1) (bits m) = d + 1 by omega]
        simp only [gX5_binaryDigits_L15, v_TM, v_seq, v_blk, v_lop, v_fgt, v_fg0, v_fg1, v_b0, v_b1, v_bn, v_bi, v_c0, v_c1, v_c2, v_cn, v_ci, v_st0, v_st1, v_stn, v_iadd, v_isub, v_imul, v_iand, v_ior, v_ixor, v_ishl, v_ishr, v_ladd, v_lsub, v_lmul, v_lor, v_land, v_ineg, v_lneg, v_lcmp, v_lshl, v_i2l, v_l2i, v_i2b, v_i2c, v_i2f, v_i2d, v_idiv, v_irem, v_ldiv, v_lrem, v_iconst, v_bipush, v_sipush, v_lconst0, v_lconst1, v_null, v_fconst0, v_dconst0, v_ldcS, v_dupi, v_dupr, v_pop, v_dup2, vI_i, vL_l, vA_r, vA_n, vInc_i, v_iload_n0, v_iload_n1, v_iload_n2, v_iload_n3, v_iload, v_lload_n0, v_lload_n1, v_lload_n2, v_lload_n3, v_lload, v_dload_n0, v_dload_n1, v_dload_n2, v_dload_n3, v_dload, v_aload_n0, v_aload_n1, v_aload_n2, v_aload_n3, v_aload, v_at0, v_ok0, v_at1, v_ok1, v_at2, v_ok2, v_at3, v_ok3, v_at4, v_ok4, v_at5, v_ok5, v_at6, v_ok6, v_at7, v_ok7, v_at8, v_ok8, v_at9, v_ok9, v_at10, v_ok10, v_at11, v_ok11, v_at12, v_ok12, v_at13, v_ok13, v_at14, v_ok14, v_at15, v_ok15, v_c2i, v_c2l, v_c2r, v_c2n, v_c2j, v_istore_n0, v_astore_n0, v_istore_n1, v_astore_n1, v_istore_n2, v_astore_n2, v_istore_n3, v_astore_n3, v_istore, v_astore, v_lstore_n0, v_lstore_n1, v_lstore_n2, v_lstore_n3, v_lstore, v_iinc, v_if_eq, v_if_ne, v_if_lt, v_if_ge, v_if_gt, v_if_le, v_icmp_eq, v_icmp_ne, v_icmp_lt, v_icmp_ge, v_icmp_gt, v_icmp_le, v_ifnull0, v_ifnull1, v_ifnonnull0, v_ifnonnull1, v_goto, v_ireturn, v_lreturn, v_areturn, v_areturn0, v_return, v_throw, v_throwW, v_table, v_cs0, v_csi, v_csl, v_csr, v_an0, v_an1, v_ani, v_call0, v_call1, v_call2, v_call3, v_call4, v_call5, v_call6, v_call7, v_rI, v_fin, v_finX, v_fini, v_ro0, v_roi, v_rol, v_rob0, v_rob1, v_roo, v_roon, v_kbm99, v_kbm64, v_kbm8, v_kbm5, v_kb6, v_kb7, v_kb8, v_kb9, v_kb10, v_kb12, v_kb14, v_kb19, v_kb20, v_kb24, v_kb25, v_kb30, v_kb31, v_kb32, v_kb37, v_kb40, v_kb41, v_kb45, v_kb48, v_kb50, v_kb57, v_kb59, v_kb60, v_kb63, v_kb64, v_kb97, v_kb99, v_kb112, v_kb114, v_kb122, v_kim8, v_kim1, v_ki0, v_ki1, v_ki2, v_ki3, v_ki4, v_ki5, v_ksm9999, v_ksm256, v_ks128, v_ks199, v_ks200, v_ks255, v_ks256, v_ks400, v_ks457, v_ks1000, v_ks1024, v_ks2742, v_ks9999, v_ks10000, v_ld, v_st, v_ldc2_RX7_142, v_ldc2_RX7_144, v_ldc2_RX7_146, v_ldc2_RX7_148, v_ldc2_RX7_154, v_ldc2_RX7_163, v_ldc2_RX3_81, v_ldc2_RX7_207, v_ldc2_RX7_209, v_ldc2_RX13_190, v_ldc2_RX13_212, v_ldc2_RX13_218, v_ldc2_RX13_220, v_ldc2_RX13_254, v_ldc2_RX13_256, v_ldc2_RX13_287, v_ldc2_RX13_297, v_ldc2_RX13_302, v_ldc2_RX13_323, v_ldc2_RX13_343, v_ldc2_RX13_345, v_ldc2_RX13_351, v_ldc2_RX13_374, v_ldc2_RX13_400, v_ldc2_RX13_402, v_ldc2_RX13_413, v_ldc2_RX13_439, v_ldc2_RX13_461, v_ldc2_RX13_481, v_ldc2_RX13_486, v_ldc2_RX13_488, v_ldc2_RX13_490, v_ldc2_RX13_492, v_ldc2_RX13_494, v_ldc2_RX13_496, v_ldc2_RX13_498, v_ldc2_RX13_500, if_true, if_false, Bool.not_false, Bool.not_true, Nat.reduceEqDiff, Nat.reduceLeDiff, Nat.reduceLT, Nat.reduceAdd, Nat.reduceMul, Nat.reduceSub, and_self, and_true, true_and, and_false, false_and, Bool.false_eq_true, not_true_eq_false, not_false_eq_true, ite_self, v_robb, v_rob0, v_rob1, List.nil_append, c1, hs, c2, nI_add]
    · have c1 : (nI 31 ≤ nI 31) = True := by decide
      rw [show min 31 (bits m) = bits m by omega]
      simp only [gX5_binaryDigits_L15, v_TM, v_seq, v_blk, v_lop, v_fgt, v_fg0, v_fg1, v_b0, v_b1, v_bn, v_bi, v_c0, v_c1, v_c2, v_cn, v_ci, v_st0, v_st1, v_stn, v_iadd, v_isub, v_imul, v_iand, v_ior, v_ixor, v_ishl, v_ishr, v_ladd, v_lsub, v_lmul, v_lor, v_land, v_ineg, v_lneg, v_lcmp, v_lshl, v_i2l, v_l2i, v_i2b, v_i2c, v_i2f, v_i2d, v_idiv, v_irem, v_ldiv, v_lrem, v_iconst, v_bipush, v_sipush, v_lconst0, v_lconst1, v_null, v_fconst0, v_dconst0, v_ldcS, v_dupi, v_dupr, v_pop, v_dup2, vI_i, vL_l, vA_r, vA_n, vInc_i, v_iload_n0, v_iload_n1, v_iload_n2, v_iload_n3, v_iload, v_lload_n0, v_lload_n1, v_lload_n2, v_lload_n3, v_lload, v_dload_n0, v_dload_n1, v_dload_n2, v_dload_n3, v_dload, v_aload_n0, v_aload_n1, v_aload_n2, v_aload_n3, v_aload, v_at0, v_ok0, v_at1, v_ok1, v_at2, v_ok2, v_at3, v_ok3, v_at4, v_ok4, v_at5, v_ok5, v_at6, v_ok6, v_at7, v_ok7, v_at8, v_ok8, v_at9, v_ok9, v_at10, v_ok10, v_at11, v_ok11, v_at12, v_ok12, v_at13, v_ok13, v_at14, v_ok14, v_at15, v_ok15, v_c2i, v_c2l, v_c2r, v_c2n, v_c2j, v_istore_n0, v_astore_n0, v_istore_n1, v_astore_n1, v_istore_n2, v_astore_n2, v_istore_n3, v_astore_n3, v_istore, v_astore, v_lstore_n0, v_lstore_n1, v_lstore_n2, v_lstore_n3, v_lstore, v_iinc, v_if_eq, v_if_ne, v_if_lt, v_if_ge, v_if_gt, v_if_le, v_icmp_eq, v_icmp_ne, v_icmp_lt, v_icmp_ge, v_icmp_gt, v_icmp_le, v_ifnull0, v_ifnull1, v_ifnonnull0, v_ifnonnull1, v_goto, v_ireturn, v_lreturn, v_areturn, v_areturn0, v_return, v_throw, v_throwW, v_table, v_cs0, v_csi, v_csl, v_csr, v_an0, v_an1, v_ani, v_call0, v_call1, v_call2, v_call3, v_call4, v_call5, v_call6, v_call7, v_rI, v_fin, v_finX, v_fini, v_ro0, v_roi, v_rol, v_rob0, v_rob1, v_roo, v_roon, v_kbm99, v_kbm64, v_kbm8, v_kbm5, v_kb6, v_kb7, v_kb8, v_kb9, v_kb10, v_kb12, v_kb14, v_kb19, v_kb20, v_kb24, v_kb25, v_kb30, v_kb31, v_kb32, v_kb37, v_kb40, v_kb41, v_kb45, v_kb48, v_kb50, v_kb57, v_kb59, v_kb60, v_kb63, v_kb64, v_kb97, v_kb99, v_kb112, v_kb114, v_kb122, v_kim8, v_kim1, v_ki0, v_ki1, v_ki2, v_ki3, v_ki4, v_ki5, v_ksm9999, v_ksm256, v_ks128, v_ks199, v_ks200, v_ks255, v_ks256, v_ks400, v_ks457, v_ks1000, v_ks1024, v_ks2742, v_ks9999, v_ks10000, v_ld, v_st, v_ldc2_RX7_142, v_ldc2_RX7_144, v_ldc2_RX7_146, v_ldc2_RX7_148, v_ldc2_RX7_154, v_ldc2_RX7_163, v_ldc2_RX3_81, v_ldc2_RX7_207, v_ldc2_RX7_209, v_ldc2_RX13_190, v_ldc2_RX13_212, v_ldc2_RX13_218, v_ldc2_RX13_220, v_ldc2_RX13_254, v_ldc2_RX13_256, v_ldc2_RX13_287, v_ldc2_RX13_297, v_ldc2_RX13_302, v_ldc2_RX13_323, v_ldc2_RX13_343, v_ldc2_RX13_345, v_ldc2_RX13_351, v_ldc2_RX13_374, v_ldc2_RX13_400, v_ldc2_RX13_402, v_ldc2_RX13_413, v_ldc2_RX13_439, v_ldc2_RX13_461, v_ldc2_RX13_481, v_ldc2_RX13_486, v_ldc2_RX13_488, v_ldc2_RX13_490, v_ldc2_RX13_492, v_ldc2_RX13_494, v_ldc2_RX13_496, v_ldc2_RX13_498, v_ldc2_RX13_500, if_true, if_false, Bool.not_false, Bool.not_true, Nat.reduceEqDiff, Nat.reduceLeDiff, Nat.reduceLT, Nat.reduceAdd, Nat.reduceMul, Nat.reduceSub, and_self, and_true, true_and, and_false, false_and, Bool.false_eq_true, not_true_eq_false, not_false_eq_true, ite_self, v_robb, v_rob0, v_rob1, List.nil_append, c1]
  by_cases h : nI 0 ≤ x
  · rw [if_neg (Int32.not_lt.mpr h)] at ha
    simp only [kX5_binaryDigits, gX5_binaryDigits, v_TM, v_seq, v_blk, v_lop, v_fgt, v_fg0, v_fg1, v_b0, v_b1, v_bn, v_bi, v_c0, v_c1, v_c2, v_cn, v_ci, v_st0, v_st1, v_stn, v_iadd, v_isub, v_imul, v_iand, v_ior, v_ixor, v_ishl, v_ishr, v_ladd, v_lsub, v_lmul, v_lor, v_land, v_ineg, v_lneg, v_lcmp, v_lshl, v_i2l, v_l2i, v_i2b, v_i2c, v_i2f, v_i2d, v_idiv, v_irem, v_ldiv, v_lrem, v_iconst, v_bipush, v_sipush, v_lconst0, v_lconst1, v_null, v_fconst0, v_dconst0, v_ldcS, v_dupi, v_dupr, v_pop, v_dup2, vI_i, vL_l, vA_r, vA_n, vInc_i, v_iload_n0, v_iload_n1, v_iload_n2, v_iload_n3, v_iload, v_lload_n0, v_lload_n1, v_lload_n2, v_lload_n3, v_lload, v_dload_n0, v_dload_n1, v_dload_n2, v_dload_n3, v_dload, v_aload_n0, v_aload_n1, v_aload_n2, v_aload_n3, v_aload, v_at0, v_ok0, v_at1, v_ok1, v_at2, v_ok2, v_at3, v_ok3, v_at4, v_ok4, v_at5, v_ok5, v_at6, v_ok6, v_at7, v_ok7, v_at8, v_ok8, v_at9, v_ok9, v_at10, v_ok10, v_at11, v_ok11, v_at12, v_ok12, v_at13, v_ok13, v_at14, v_ok14, v_at15, v_ok15, v_c2i, v_c2l, v_c2r, v_c2n, v_c2j, v_istore_n0, v_astore_n0, v_istore_n1, v_astore_n1, v_istore_n2, v_astore_n2, v_istore_n3, v_astore_n3, v_istore, v_astore, v_lstore_n0, v_lstore_n1, v_lstore_n2, v_lstore_n3, v_lstore, v_iinc, v_if_eq, v_if_ne, v_if_lt, v_if_ge, v_if_gt, v_if_le, v_icmp_eq, v_icmp_ne, v_icmp_lt, v_icmp_ge, v_icmp_gt, v_icmp_le, v_ifnull0, v_ifnull1, v_ifnonnull0, v_ifnonnull1, v_goto, v_ireturn, v_lreturn, v_areturn, v_areturn0, v_return, v_throw, v_throwW, v_table, v_cs0, v_csi, v_csl, v_csr, v_an0, v_an1, v_ani, v_call0, v_call1, v_call2, v_call3, v_call4, v_call5, v_call6, v_call7, v_rI, v_fin, v_finX, v_fini, v_ro0, v_roi, v_rol, v_rob0, v_rob1, v_roo, v_roon, v_kbm99, v_kbm64, v_kbm8, v_kbm5, v_kb6, v_kb7, v_kb8, v_kb9, v_kb10, v_kb12, v_kb14, v_kb19, v_kb20, v_kb24, v_kb25, v_kb30, v_kb31, v_kb32, v_kb37, v_kb40, v_kb41, v_kb45, v_kb48, v_kb50, v_kb57, v_kb59, v_kb60, v_kb63, v_kb64, v_kb97, v_kb99, v_kb112, v_kb114, v_kb122, v_kim8, v_kim1, v_ki0, v_ki1, v_ki2, v_ki3, v_ki4, v_ki5, v_ksm9999, v_ksm256, v_ks128, v_ks199, v_ks200, v_ks255, v_ks256, v_ks400, v_ks457, v_ks1000, v_ks1024, v_ks2742, v_ks9999, v_ks10000, v_ld, v_st, v_ldc2_RX7_142, v_ldc2_RX7_144, v_ldc2_RX7_146, v_ldc2_RX7_148, v_ldc2_RX7_154, v_ldc2_RX7_163, v_ldc2_RX3_81, v_ldc2_RX7_207, v_ldc2_RX7_209, v_ldc2_RX13_190, v_ldc2_RX13_212, v_ldc2_RX13_218, v_ldc2_RX13_220, v_ldc2_RX13_254, v_ldc2_RX13_256, v_ldc2_RX13_287, v_ldc2_RX13_297, v_ldc2_RX13_302, v_ldc2_RX13_323, v_ldc2_RX13_343, v_ldc2_RX13_345, v_ldc2_RX13_351, v_ldc2_RX13_374, v_ldc2_RX13_400, v_ldc2_RX13_402, v_ldc2_RX13_413, v_ldc2_RX13_439, v_ldc2_RX13_461, v_ldc2_RX13_481, v_ldc2_RX13_486, v_ldc2_RX13_488, v_ldc2_RX13_490, v_ldc2_RX13_492, v_ldc2_RX13_494, v_ldc2_RX13_496, v_ldc2_RX13_498, v_ldc2_RX13_500, if_true, if_false, Bool.not_false, Bool.not_true, Nat.reduceEqDiff, Nat.reduceLeDiff, Nat.reduceLT, Nat.reduceAdd, Nat.reduceMul, Nat.reduceSub, and_self, and_true, true_and, and_false, false_and, Bool.false_eq_true, not_true_eq_false, not_false_eq_true, ite_self, v_robb, v_rob0, v_rob1, List.nil_append, h]
    rw [ha] at hl ⊢
    simp only [hl, v_TM, v_seq, v_blk, v_lop, v_fgt, v_fg0, v_fg1, v_b0, v_b1, v_bn, v_bi, v_c0, v_c1, v_c2, v_cn, v_ci, v_st0, v_st1, v_stn, v_iadd, v_isub, v_imul, v_iand, v_ior, v_ixor, v_ishl, v_ishr, v_ladd, v_lsub, v_lmul, v_lor, v_land, v_ineg, v_lneg, v_lcmp, v_lshl, v_i2l, v_l2i, v_i2b, v_i2c, v_i2f, v_i2d, v_idiv, v_irem, v_ldiv, v_lrem, v_iconst, v_bipush, v_sipush, v_lconst0, v_lconst1, v_null, v_fconst0, v_dconst0, v_ldcS, v_dupi, v_dupr, v_pop, v_dup2, vI_i, vL_l, vA_r, vA_n, vInc_i, v_iload_n0, v_iload_n1, v_iload_n2, v_iload_n3, v_iload, v_lload_n0, v_lload_n1, v_lload_n2, v_lload_n3, v_lload, v_dload_n0, v_dload_n1, v_dload_n2, v_dload_n3, v_dload, v_aload_n0, v_aload_n1, v_aload_n2, v_aload_n3, v_aload, v_at0, v_ok0, v_at1, v_ok1, v_at2, v_ok2, v_at3, v_ok3, v_at4, v_ok4, v_at5, v_ok5, v_at6, v_ok6, v_at7, v_ok7, v_at8, v_ok8, v_at9, v_ok9, v_at10, v_ok10, v_at11, v_ok11, v_at12, v_ok12, v_at13, v_ok13, v_at14, v_ok14, v_at15, v_ok15, v_c2i, v_c2l, v_c2r, v_c2n, v_c2j, v_istore_n0, v_astore_n0, v_istore_n1, v_astore_n1, v_istore_n2, v_astore_n2, v_istore_n3, v_astore_n3, v_istore, v_astore, v_lstore_n0, v_lstore_n1, v_lstore_n2, v_lstore_n3, v_lstore, v_iinc, v_if_eq, v_if_ne, v_if_lt, v_if_ge, v_if_gt, v_if_le, v_icmp_eq, v_icmp_ne, v_icmp_lt, v_icmp_ge, v_icmp_gt, v_icmp_le, v_ifnull0, v_ifnull1, v_ifnonnull0, v_ifnonnull1, v_goto, v_ireturn, v_lreturn, v_areturn, v_areturn0, v_return, v_throw, v_throwW, v_table, v_cs0, v_csi, v_csl, v_csr, v_an0, v_an1, v_ani, v_call0, v_call1, v_call2, v_call3, v_call4, v_call5, v_call6, v_call7, v_rI, v_fin, v_finX, v_fini, v_ro0, v_roi, v_rol, v_rob0, v_rob1, v_roo, v_roon, v_kbm99, v_kbm64, v_kbm8, v_kbm5, v_kb6, v_kb7, v_kb8, v_kb9, v_kb10, v_kb12, v_kb14, v_kb19, v_kb20, v_kb24, v_kb25, v_kb30, v_kb31, v_kb32, v_kb37, v_kb40, v_kb41, v_kb45, v_kb48, v_kb50, v_kb57, v_kb59, v_kb60, v_kb63, v_kb64, v_kb97, v_kb99, v_kb112, v_kb114, v_kb122, v_kim8, v_kim1, v_ki0, v_ki1, v_ki2, v_ki3, v_ki4, v_ki5, v_ksm9999, v_ksm256, v_ks128, v_ks199, v_ks200, v_ks255, v_ks256, v_ks400, v_ks457, v_ks1000, v_ks1024, v_ks2742, v_ks9999, v_ks10000, v_ld, v_st, v_ldc2_RX7_142, v_ldc2_RX7_144, v_ldc2_RX7_146, v_ldc2_RX7_148, v_ldc2_RX7_154, v_ldc2_RX7_163, v_ldc2_RX3_81, v_ldc2_RX7_207, v_ldc2_RX7_209, v_ldc2_RX13_190, v_ldc2_RX13_212, v_ldc2_RX13_218, v_ldc2_RX13_220, v_ldc2_RX13_254, v_ldc2_RX13_256, v_ldc2_RX13_287, v_ldc2_RX13_297, v_ldc2_RX13_302, v_ldc2_RX13_323, v_ldc2_RX13_343, v_ldc2_RX13_345, v_ldc2_RX13_351, v_ldc2_RX13_374, v_ldc2_RX13_400, v_ldc2_RX13_402, v_ldc2_RX13_413, v_ldc2_RX13_439, v_ldc2_RX13_461, v_ldc2_RX13_481, v_ldc2_RX13_486, v_ldc2_RX13_488, v_ldc2_RX13_490, v_ldc2_RX13_492, v_ldc2_RX13_494, v_ldc2_RX13_496, v_ldc2_RX13_498, v_ldc2_RX13_500, if_true, if_false, Bool.not_false, Bool.not_true, Nat.reduceEqDiff, Nat.reduceLeDiff, Nat.reduceLT, Nat.reduceAdd, Nat.reduceMul, Nat.reduceSub, and_self, and_true, true_and, and_false, false_and, Bool.false_eq_true, not_true_eq_false, not_false_eq_true, ite_self, v_robb, v_rob0, v_rob1, List.nil_append]
  · rw [if_pos (Int32.not_le.mp h)] at ha
    simp only [kX5_binaryDigits, gX5_binaryDigits, v_TM, v_seq, v_blk, v_lop, v_fgt, v_fg0, v_fg1, v_b0, v_b1, v_bn, v_bi, v_c0, v_c1, v_c2, v_cn, v_ci, v_st0, v_st1, v_stn, v_iadd, v_isub, v_imul, v_iand, v_ior, v_ixor, v_ishl, v_ishr, v_ladd, v_lsub, v_lmul, v_lor, v_land, v_ineg, v_lneg, v_lcmp, v_lshl, v_i2l, v_l2i, v_i2b, v_i2c, v_i2f, v_i2d, v_idiv, v_irem, v_ldiv, v_lrem, v_iconst, v_bipush, v_sipush, v_lconst0, v_lconst1, v_null, v_fconst0, v_dconst0, v_ldcS, v_dupi, v_dupr, v_pop, v_dup2, vI_i, vL_l, vA_r, vA_n, vInc_i, v_iload_n0, v_iload_n1, v_iload_n2, v_iload_n3, v_iload, v_lload_n0, v_lload_n1, v_lload_n2, v_lload_n3, v_lload, v_dload_n0, v_dload_n1, v_dload_n2, v_dload_n3, v_dload, v_aload_n0, v_aload_n1, v_aload_n2, v_aload_n3, v_aload, v_at0, v_ok0, v_at1, v_ok1, v_at2, v_ok2, v_at3, v_ok3, v_at4, v_ok4, v_at5, v_ok5, v_at6, v_ok6, v_at7, v_ok7, v_at8, v_ok8, v_at9, v_ok9, v_at10, v_ok10, v_at11, v_ok11, v_at12, v_ok12, v_at13, v_ok13, v_at14, v_ok14, v_at15, v_ok15, v_c2i, v_c2l, v_c2r, v_c2n, v_c2j, v_istore_n0, v_astore_n0, v_istore_n1, v_astore_n1, v_istore_n2, v_astore_n2, v_istore_n3, v_astore_n3, v_istore, v_astore, v_lstore_n0, v_lstore_n1, v_lstore_n2, v_lstore_n3, v_lstore, v_iinc, v_if_eq, v_if_ne, v_if_lt, v_if_ge, v_if_gt, v_if_le, v_icmp_eq, v_icmp_ne, v_icmp_lt, v_icmp_ge, v_icmp_gt, v_icmp_le, v_ifnull0, v_ifnull1, v_ifnonnull0, v_ifnonnull1, v_goto, v_ireturn, v_lreturn, v_areturn, v_areturn0, v_return, v_throw, v_throwW, v_table, v_cs0, v_csi, v_csl, v_csr, v_an0, v_an1, v_ani, v_call0, v_call1, v_call2, v_call3, v_call4, v_call5, v_call6, v_call7, v_rI, v_fin, v_finX, v_fini, v_ro0, v_roi, v_rol, v_rob0, v_rob1, v_roo, v_roon, v_kbm99, v_kbm64, v_kbm8, v_kbm5, v_kb6, v_kb7, v_kb8, v_kb9, v_kb10, v_kb12, v_kb14, v_kb19, v_kb20, v_kb24, v_kb25, v_kb30, v_kb31, v_kb32, v_kb37, v_kb40, v_kb41, v_kb45, v_kb48, v_kb50, v_kb57, v_kb59, v_kb60, v_kb63, v_kb64, v_kb97, v_kb99, v_kb112, v_kb114, v_kb122, v_kim8, v_kim1, v_ki0, v_ki1, v_ki2, v_ki3, v_ki4, v_ki5, v_ksm9999, v_ksm256, v_ks128, v_ks199, v_ks200, v_ks255, v_ks256, v_ks400, v_ks457, v_ks1000, v_ks1024, v_ks2742, v_ks9999, v_ks10000, v_ld, v_st, v_ldc2_RX7_142, v_ldc2_RX7_144, v_ldc2_RX7_146, v_ldc2_RX7_148, v_ldc2_RX7_154, v_ldc2_RX7_163, v_ldc2_RX3_81, v_ldc2_RX7_207, v_ldc2_RX7_209, v_ldc2_RX13_190, v_ldc2_RX13_212, v_ldc2_RX13_218, v_ldc2_RX13_220, v_ldc2_RX13_254, v_ldc2_RX13_256, v_ldc2_RX13_287, v_ldc2_RX13_297, v_ldc2_RX13_302, v_ldc2_RX13_323, v_ldc2_RX13_343, v_ldc2_RX13_345, v_ldc2_RX13_351, v_ldc2_RX13_374, v_ldc2_RX13_400, v_ldc2_RX13_402, v_ldc2_RX13_413, v_ldc2_RX13_439, v_ldc2_RX13_461, v_ldc2_RX13_481, v_ldc2_RX13_486, v_ldc2_RX13_488, v_ldc2_RX13_490, v_ldc2_RX13_492, v_ldc2_RX13_494, v_ldc2_RX13_496, v_ldc2_RX13_498, v_ldc2_RX13_500, if_true, if_false, Bool.not_false, Bool.not_true, Nat.reduceEqDiff, Nat.reduceLeDiff, Nat.reduceLT, Nat.reduceAdd, Nat.reduceMul, Nat.reduceSub, and_self, and_true, true_and, and_false, false_and, Bool.false_eq_true, not_true_eq_false, not_false_eq_true, ite_self, v_robb, v_rob0, v_rob1, List.nil_append, h, ha, hl]
/-! slopes -/
def sgI (c : Row) (from_ best j : Nat) : Prop := ((dgS (c best) : Int) - dgS (c from_)) * ((j : Int) - from_) < ((dgS (c j) : Int) - dgS (c from_)) * ((best : Int) - from_)
def sg (c : Row) (k j : Nat) : Int := ((dgS (c j) : Int) - dgS (c k)) * (60 / ((j : Int) - k))
theorem sg60 (a b : Int) (p q : Nat) (hp : 1 ≤ p) (hp6 : p ≤ 6) (hq : 1 ≤ q) (hq6 : q ≤ 6) : (a * q < b * p) ↔ (a * (60 / (p : Int)) < b * (60 / (q : Int))) := by
  have : p = 1 ∨ p = 2 ∨ p = 3 ∨ p = 4 ∨ p = 5 ∨ p = 6 := by omega
  have : q = 1 ∨ q = 2 ∨ q = 3 ∨ q = 4 ∨ q = 5 ∨ q = 6 := by omega
  rcases ‹p = 1 ∨ p = 2 ∨ p = 3 ∨ p = 4 ∨ p = 5 ∨ p = 6› with rfl | rfl | rfl | rfl | rfl | rfl <;> rcases ‹q = 1 ∨ q = 2 ∨ q = 3 ∨ q = 4 ∨ q = 5 ∨ q = 6› with rfl | rfl | rfl | rfl | rfl | rfl <;> omega
theorem sgI_iff {c : Row} {k best j : Nat} (h1 : k < best) (h2 : best ≤ k + 6) (h3 : k < j) (h4 : j ≤ k + 6) : sgI c k best j ↔ sg c k best < sg c k j := by
  unfold sgI sg
  have e1 : ((j : Int) - k) = ((j - k : Nat) : Int) := by omega
  have e2 : ((best : Int) - k) = ((best - k : Nat) : Int) := by omega
  rw [e1, e2]
  exact sg60 _ _ (best - k) (j - k) (by omega) (by omega) (by omega) (by omega)
/-- where an edge ends: as the class looks for it, from the top down, j steps left -/
def eeD (c : Row) (n k : Nat) : Nat → Nat
  | 0 => n
  | i + 1 => if ¬ c (n - (i + 1)) = nI 0 ∧ (c k = nI 0 ∨ sg c k (eeD c n k i) < sg c k (n - (i + 1))) then n - (i + 1) else eeD c n k i
def eeS (c : Row) (n k : Nat) : Nat := eeD c n k (n - 1 - k)
theorem eeD_rng (c : Row) (n k : Nat) : ∀ i, i ≤ n - 1 - k → k < n → k < eeD c n k i ∧ eeD c n k i ≤ n ∧ n - i ≤ eeD c n k i := by
  intro i
  induction i with
  | zero => intro _ h; exact ⟨h, Nat.le_refl _, by show n - 0 ≤ n; omega⟩
  | succ i ih =>
    intro hi hk
    obtain ⟨a1, a2, a3⟩ := ih (by omega) hk
    unfold eeD
    split
    · omega
    · omega
theorem eeS_rng {c : Row} {n k : Nat} (hk : k < n) : k < eeS c n k ∧ eeS c n k ≤ n := by
  have := eeD_rng c n k (n - 1 - k) (Nat.le_refl _) hk
  exact ⟨this.1, this.2.1⟩
theorem eeD_nz {c : Row} {n k : Nat} (hn : ¬ c n = nI 0) : ∀ i, ¬ c (eeD c n k i) = nI 0 := by
  intro i
  induction i with
  | zero => exact hn
  | succ i ih =>
    unfold eeD
    split
    · rename_i h; exact h.1
    · exact ih
/-- the best end of an edge -/
def IsE (c : Row) (n k b : Nat) : Prop := k < b ∧ b ≤ n ∧ ¬ c b = nI 0 ∧ ∀ i, k < i → i ≤ n → ¬ c i = nI 0 → sg c k i ≤ sg c k b ∧ (b < i → sg c k i < sg c k b)
theorem IsE_un {c : Row} {n k b b' : Nat} (h : IsE c n k b) (h' : IsE c n k b') : b = b' := by
  obtain ⟨a1, a2, a3, a4⟩ := h
  obtain ⟨b1, b2, b3, b4⟩ := h'
  have x1 := a4 b' b1 b2 b3
  have x2 := b4 b a1 a2 a3
  rcases Nat.lt_trichotomy b b' with z | z | z
  · have := x1.2 z; omega
  · exact z
  · have := x2.2 z; omega
theorem eeS_IsE {c : Row} {n k : Nat} (hk : k < n) (hn : ¬ c n = nI 0) (h0 : ¬ c k = nI 0) : IsE c n k (eeS c n k) := by
  have key : ∀ i, i ≤ n - 1 - k → ∀ x, n - i ≤ x → x ≤ n → ¬ c x = nI 0 → sg c k x ≤ sg c k (eeD c n k i) ∧ (eeD c n k i < x → sg c k x < sg c k (eeD c n k i)) := by
    intro i
    induction i with
    | zero =>
      intro _ x h1 h2 _
      have : x = n := by omega
      subst this
      exact ⟨Int.le_refl _, fun z => by exact absurd z (Nat.lt_irrefl _)⟩
    | succ i ih =>
      intro hi x h1 h2 h3
      have ih := ih (by omega)
      have hr := eeD_rng c n k i (by omega) hk
      unfold eeD
      by_cases hc : ¬ c (n - (i + 1)) = nI 0 ∧ (c k = nI 0 ∨ sg c k (eeD c n k i) < sg c k (n - (i + 1)))
      · rw [if_pos hc]
        have hs := hc.2.resolve_left h0
        by_cases hx : x = n - (i + 1)
        · subst hx; exact ⟨Int.le_refl _, fun z => absurd z (Nat.lt_irrefl _)⟩
        · have := ih x (by omega) h2 h3
          exact ⟨by omega, fun _ => by omega⟩
      · rw [if_neg hc]
        by_cases hx : x = n - (i + 1)
        · subst hx
          have hs : ¬ sg c k (eeD c n k i) < sg c k (n - (i + 1)) := fun z => hc ⟨h3, Or.inr z⟩
          exact ⟨by omega, fun z => by omega⟩
        · exact ih x (by omega) h2 h3
  have hr := eeS_rng (c := c) hk
  exact ⟨hr.1, hr.2, eeD_nz hn _, fun i h1 h2 h3 => key (n - 1 - k) (Nat.le_refl _) i (by omega) h2 h3⟩
/-- as the model looks for it: from k + 1 up; 0 says none yet -/
def neD (c : Row) (k : Nat) : Nat → Nat
  | 0 => 0
  | i + 1 => if c (k + 1 + i) = nI 0 then neD c k i else if neD c k i = 0 ∨ ¬ sg c k (k + 1 + i) < sg c k (neD c k i) then k + 1 + i else neD c k i
theorem neD_rng (c : Row) (k : Nat) : ∀ i, neD c k i = 0 ∨ (k < neD c k i ∧ neD c k i < k + 1 + i) := by
  intro i
  induction i with
  | zero => exact Or.inl rfl
  | succ i ih =>
    unfold neD
    split
    · omega
    · split <;> omega
theorem neD_IsE {c : Row} {n k : Nat} (hk : k < n) (hn : ¬ c n = nI 0) : IsE c n k (neD c k (n - k)) := by
  have key : ∀ i, (∀ x, k < x → x < k + 1 + i → ¬ c x = nI 0 → ¬ neD c k i = 0 ∧ sg c k x ≤ sg c k (neD c k i) ∧ (neD c k i < x → sg c k x < sg c k (neD c k i))) ∧ (¬ neD c k i = 0 → ¬ c (neD c k i) = nI 0) := by
    intro i
    induction i with
    | zero => exact ⟨fun x h1 h2 => by omega, fun h => absurd rfl h⟩
    | succ i ih =>
      obtain ⟨ih1, ih2⟩ := ih
      have hr := neD_rng c k i
      unfold neD
      by_cases hz : c (k + 1 + i) = nI 0
      · rw [if_pos hz]
        refine ⟨fun x h1 h2 h3 => ih1 x h1 ?_ h3, ih2⟩
        have : x ≠ k + 1 + i := fun z => h3 (z ▸ hz)
        omega
      · rw [if_neg hz]
        by_cases hc : neD c k i = 0 ∨ ¬ sg c k (k + 1 + i) < sg c k (neD c k i)
        · rw [if_pos hc]
          refine ⟨fun x h1 h2 h3 => ⟨by omega, ?_⟩, fun _ => hz⟩
          by_cases hx : x = k + 1 + i
          · subst hx; exact ⟨Int.le_refl _, fun z => absurd z (Nat.lt_irrefl _)⟩
          · obtain ⟨b1, b2, b3⟩ := ih1 x h1 (by omega) h3
            rcases hc with z | z
            · exact absurd z b1
            · exact ⟨by omega, fun w => by omega⟩
        · rw [if_neg hc]
          have hc1 : ¬ neD c k i = 0 := fun z => hc (Or.inl z)
          have hc2 : sg c k (k + 1 + i) < sg c k (neD c k i) := by
            refine Int.not_le.mp fun z => hc (Or.inr (by omega))
          refine ⟨fun x h1 h2 h3 => ⟨hc1, ?_⟩, fun _ => ih2 hc1⟩
          by_cases hx : x = k + 1 + i
          · subst hx; exact ⟨by omega, fun _ => hc2⟩
          · exact (ih1 x h1 (by omega) h3).2
  obtain ⟨k1, k2⟩ := key (n - k)
  have hr := neD_rng c k (n - k)
  have := (k1 n hk (by omega) hn).1
  exact ⟨by omega, by omega, k2 this, fun i h1 h2 h3 => (k1 i h1 (by omega) h3).2⟩
theorem ne_eq {c : Row} {n k : Nat} (hk : k < n) (hn : ¬ c n = nI 0) (h0 : ¬ c k = nI 0) : neD c k (n - k) = eeS c n k := IsE_un (neD_IsE hk hn) (eeS_IsE hk hn h0)
/-! lengths -/
def fdI (a b : Int32) : Int32 := if a ^^^ b < nI 0 ∧ ¬ a / b * b = a then a / b - nI 1 else a / b
theorem j_floorDiv {a b : Int32} (hb : ¬ b = nI 0) (μ : eMem) : eCall mJ9_floorDiv_7cf53 [.int a, .int b] μ = some (.inl (some (.int (fdI a b))), μ) := by
  unfold fdI
  by_cases h1 : nI 0 ≤ a ^^^ b
  · rw [if_neg (fun z => absurd z.1 (Int32.not_lt.mpr h1))]
    simp only [kJ9_floorDiv_7cf53, gJ9_floorDiv_7cf53, v_TM, v_seq, v_blk, v_lop, v_fgt, v_fg0, v_fg1, v_b0, v_b1, v_bn, v_bi, v_c0, v_c1, v_c2, v_cn, v_ci, v_st0, v_st1, v_stn, v_iadd, v_isub, v_imul, v_iand, v_ior, v_ixor, v_ishl, v_ishr, v_ladd, v_lsub, v_lmul, v_lor, v_land, v_ineg, v_lneg, v_lcmp, v_lshl, v_i2l, v_l2i, v_i2b, v_i2c, v_i2f, v_i2d, v_idiv, v_irem, v_ldiv, v_lrem, v_iconst, v_bipush, v_sipush, v_lconst0, v_lconst1, v_null, v_fconst0, v_dconst0, v_ldcS, v_dupi, v_dupr, v_pop, v_dup2, vI_i, vL_l, vA_r, vA_n, vInc_i, v_iload_n0, v_iload_n1, v_iload_n2, v_iload_n3, v_iload, v_lload_n0, v_lload_n1, v_lload_n2, v_lload_n3, v_lload, v_dload_n0, v_dload_n1, v_dload_n2, v_dload_n3, v_dload, v_aload_n0, v_aload_n1, v_aload_n2, v_aload_n3, v_aload, v_at0, v_ok0, v_at1, v_ok1, v_at2, v_ok2, v_at3, v_ok3, v_at4, v_ok4, v_at5, v_ok5, v_at6, v_ok6, v_at7, v_ok7, v_at8, v_ok8, v_at9, v_ok9, v_at10, v_ok10, v_at11, v_ok11, v_at12, v_ok12, v_at13, v_ok13, v_at14, v_ok14, v_at15, v_ok15, v_c2i, v_c2l, v_c2r, v_c2n, v_c2j, v_istore_n0, v_astore_n0, v_istore_n1, v_astore_n1, v_istore_n2, v_astore_n2, v_istore_n3, v_astore_n3, v_istore, v_astore, v_lstore_n0, v_lstore_n1, v_lstore_n2, v_lstore_n3, v_lstore, v_iinc, v_if_eq, v_if_ne, v_if_lt, v_if_ge, v_if_gt, v_if_le, v_icmp_eq, v_icmp_ne, v_icmp_lt, v_icmp_ge, v_icmp_gt, v_icmp_le, v_ifnull0, v_ifnull1, v_ifnonnull0, v_ifnonnull1, v_goto, v_ireturn, v_lreturn, v_areturn, v_areturn0, v_return, v_throw, v_throwW, v_table, v_cs0, v_csi, v_csl, v_csr, v_an0, v_an1, v_ani, v_call0, v_call1, v_call2, v_call3, v_call4, v_call5, v_call6, v_call7, v_rI, v_fin, v_finX, v_fini, v_ro0, v_roi, v_rol, v_rob0, v_rob1, v_roo, v_roon, v_kbm99, v_kbm64, v_kbm8, v_kbm5, v_kb6, v_kb7, v_kb8, v_kb9, v_kb10, v_kb12, v_kb14, v_kb19, v_kb20, v_kb24, v_kb25, v_kb30, v_kb31, v_kb32, v_kb37, v_kb40, v_kb41, v_kb45, v_kb48, v_kb50, v_kb57, v_kb59, v_kb60, v_kb63, v_kb64, v_kb97, v_kb99, v_kb112, v_kb114, v_kb122, v_kim8, v_kim1, v_ki0, v_ki1, v_ki2, v_ki3, v_ki4, v_ki5, v_ksm9999, v_ksm256, v_ks128, v_ks199, v_ks200, v_ks255, v_ks256, v_ks400, v_ks457, v_ks1000, v_ks1024, v_ks2742, v_ks9999, v_ks10000, v_ld, v_st, v_ldc2_RX7_142, v_ldc2_RX7_144, v_ldc2_RX7_146, v_ldc2_RX7_148, v_ldc2_RX7_154, v_ldc2_RX7_163, v_ldc2_RX3_81, v_ldc2_RX7_207, v_ldc2_RX7_209, v_ldc2_RX13_190, v_ldc2_RX13_212, v_ldc2_RX13_218, v_ldc2_RX13_220, v_ldc2_RX13_254, v_ldc2_RX13_256, v_ldc2_RX13_287, v_ldc2_RX13_297, v_ldc2_RX13_302, v_ldc2_RX13_323, v_ldc2_RX13_343, v_ldc2_RX13_345, v_ldc2_RX13_351, v_ldc2_RX13_374, v_ldc2_RX13_400, v_ldc2_RX13_402, v_ldc2_RX13_413, v_ldc2_RX13_439, v_ldc2_RX13_461, v_ldc2_RX13_481, v_ldc2_RX13_486, v_ldc2_RX13_488, v_ldc2_RX13_490, v_ldc2_RX13_492, v_ldc2_RX13_494, v_ldc2_RX13_496, v_ldc2_RX13_498, v_ldc2_RX13_500, if_true, if_false, Bool.not_false, Bool.not_true, Nat.reduceEqDiff, Nat.reduceLeDiff, Nat.reduceLT, Nat.reduceAdd, Nat.reduceMul, Nat.reduceSub, and_self, and_true, true_and, and_false, false_and, Bool.false_eq_true, not_true_eq_false, not_false_eq_true, ite_self, v_robb, v_rob0, v_rob1, List.nil_append, hb, h1]
  · by_cases h2 : a / b * b = a
    · rw [if_neg (fun z => z.2 h2)]
      simp only [kJ9_floorDiv_7cf53, gJ9_floorDiv_7cf53, v_TM, v_seq, v_blk, v_lop, v_fgt, v_fg0, v_fg1, v_b0, v_b1, v_bn, v_bi, v_c0, v_c1, v_c2, v_cn, v_ci, v_st0, v_st1, v_stn, v_iadd, v_isub, v_imul, v_iand, v_ior, v_ixor, v_ishl, v_ishr, v_ladd, v_lsub, v_lmul, v_lor, v_land, v_ineg, v_lneg, v_lcmp, v_lshl, v_i2l, v_l2i, v_i2b, v_i2c, v_i2f, v_i2d, v_idiv, v_irem, v_ldiv, v_lrem, v_iconst, v_bipush, v_sipush, v_lconst0, v_lconst1, v_null, v_fconst0, v_dconst0, v_ldcS, v_dupi, v_dupr, v_pop, v_dup2, vI_i, vL_l, vA_r, vA_n, vInc_i, v_iload_n0, v_iload_n1, v_iload_n2, v_iload_n3, v_iload, v_lload_n0, v_lload_n1, v_lload_n2, v_lload_n3, v_lload, v_dload_n0, v_dload_n1, v_dload_n2, v_dload_n3, v_dload, v_aload_n0, v_aload_n1, v_aload_n2, v_aload_n3, v_aload, v_at0, v_ok0, v_at1, v_ok1, v_at2, v_ok2, v_at3, v_ok3, v_at4, v_ok4, v_at5, v_ok5, v_at6, v_ok6, v_at7, v_ok7, v_at8, v_ok8, v_at9, v_ok9, v_at10, v_ok10, v_at11, v_ok11, v_at12, v_ok12, v_at13, v_ok13, v_at14, v_ok14, v_at15, v_ok15, v_c2i, v_c2l, v_c2r, v_c2n, v_c2j, v_istore_n0, v_astore_n0, v_istore_n1, v_astore_n1, v_istore_n2, v_astore_n2, v_istore_n3, v_astore_n3, v_istore, v_astore, v_lstore_n0, v_lstore_n1, v_lstore_n2, v_lstore_n3, v_lstore, v_iinc, v_if_eq, v_if_ne, v_if_lt, v_if_ge, v_if_gt, v_if_le, v_icmp_eq, v_icmp_ne, v_icmp_lt, v_icmp_ge, v_icmp_gt, v_icmp_le, v_ifnull0, v_ifnull1, v_ifnonnull0, v_ifnonnull1, v_goto, v_ireturn, v_lreturn, v_areturn, v_areturn0, v_return, v_throw, v_throwW, v_table, v_cs0, v_csi, v_csl, v_csr, v_an0, v_an1, v_ani, v_call0, v_call1, v_call2, v_call3, v_call4, v_call5, v_call6, v_call7, v_rI, v_fin, v_finX, v_fini, v_ro0, v_roi, v_rol, v_rob0, v_rob1, v_roo, v_roon, v_kbm99, v_kbm64, v_kbm8, v_kbm5, v_kb6, v_kb7, v_kb8, v_kb9, v_kb10, v_kb12, v_kb14, v_kb19, v_kb20, v_kb24, v_kb25, v_kb30, v_kb31, v_kb32, v_kb37, v_kb40, v_kb41, v_kb45, v_kb48, v_kb50, v_kb57, v_kb59, v_kb60, v_kb63, v_kb64, v_kb97, v_kb99, v_kb112, v_kb114, v_kb122, v_kim8, v_kim1, v_ki0, v_ki1, v_ki2, v_ki3, v_ki4, v_ki5, v_ksm9999, v_ksm256, v_ks128, v_ks199, v_ks200, v_ks255, v_ks256, v_ks400, v_ks457, v_ks1000, v_ks1024, v_ks2742, v_ks9999, v_ks10000, v_ld, v_st, v_ldc2_RX7_142, v_ldc2_RX7_144, v_ldc2_RX7_146, v_ldc2_RX7_148, v_ldc2_RX7_154, v_ldc2_RX7_163, v_ldc2_RX3_81, v_ldc2_RX7_207, v_ldc2_RX7_209, v_ldc2_RX13_190, v_ldc2_RX13_212, v_ldc2_RX13_218, v_ldc2_RX13_220, v_ldc2_RX13_254, v_ldc2_RX13_256, v_ldc2_RX13_287, v_ldc2_RX13_297, v_ldc2_RX13_302, v_ldc2_RX13_323, v_ldc2_RX13_343, v_ldc2_RX13_345, v_ldc2_RX13_351, v_ldc2_RX13_374, v_ldc2_RX13_400, v_ldc2_RX13_402, v_ldc2_RX13_413, v_ldc2_RX13_439, v_ldc2_RX13_461, v_ldc2_RX13_481, v_ldc2_RX13_486, v_ldc2_RX13_488, v_ldc2_RX13_490, v_ldc2_RX13_492, v_ldc2_RX13_494, v_ldc2_RX13_496, v_ldc2_RX13_498, v_ldc2_RX13_500, if_true, if_false, Bool.not_false, Bool.not_true, Nat.reduceEqDiff, Nat.reduceLeDiff, Nat.reduceLT, Nat.reduceAdd, Nat.reduceMul, Nat.reduceSub, and_self, and_true, true_and, and_false, false_and, Bool.false_eq_true, not_true_eq_false, not_false_eq_true, ite_self, v_robb, v_rob0, v_rob1, List.nil_append, hb, h1, h2]
    · rw [if_pos ⟨Int32.not_le.mp h1, h2⟩]
      simp only [kJ9_floorDiv_7cf53, gJ9_floorDiv_7cf53, v_TM, v_seq, v_blk, v_lop, v_fgt, v_fg0, v_fg1, v_b0, v_b1, v_bn, v_bi, v_c0, v_c1, v_c2, v_cn, v_ci, v_st0, v_st1, v_stn, v_iadd, v_isub, v_imul, v_iand, v_ior, v_ixor, v_ishl, v_ishr, v_ladd, v_lsub, v_lmul, v_lor, v_land, v_ineg, v_lneg, v_lcmp, v_lshl, v_i2l, v_l2i, v_i2b, v_i2c, v_i2f, v_i2d, v_idiv, v_irem, v_ldiv, v_lrem, v_iconst, v_bipush, v_sipush, v_lconst0, v_lconst1, v_null, v_fconst0, v_dconst0, v_ldcS, v_dupi, v_dupr, v_pop, v_dup2, vI_i, vL_l, vA_r, vA_n, vInc_i, v_iload_n0, v_iload_n1, v_iload_n2, v_iload_n3, v_iload, v_lload_n0, v_lload_n1, v_lload_n2, v_lload_n3, v_lload, v_dload_n0, v_dload_n1, v_dload_n2, v_dload_n3, v_dload, v_aload_n0, v_aload_n1, v_aload_n2, v_aload_n3, v_aload, v_at0, v_ok0, v_at1, v_ok1, v_at2, v_ok2, v_at3, v_ok3, v_at4, v_ok4, v_at5, v_ok5, v_at6, v_ok6, v_at7, v_ok7, v_at8, v_ok8, v_at9, v_ok9, v_at10, v_ok10, v_at11, v_ok11, v_at12, v_ok12, v_at13, v_ok13, v_at14, v_ok14, v_at15, v_ok15, v_c2i, v_c2l, v_c2r, v_c2n, v_c2j, v_istore_n0, v_astore_n0, v_istore_n1, v_astore_n1, v_istore_n2, v_astore_n2, v_istore_n3, v_astore_n3, v_istore, v_astore, v_lstore_n0, v_lstore_n1, v_lstore_n2, v_lstore_n3, v_lstore, v_iinc, v_if_eq, v_if_ne, v_if_lt, v_if_ge, v_if_gt, v_if_le, v_icmp_eq, v_icmp_ne, v_icmp_lt, v_icmp_ge, v_icmp_gt, v_icmp_le, v_ifnull0, v_ifnull1, v_ifnonnull0, v_ifnonnull1, v_goto, v_ireturn, v_lreturn, v_areturn, v_areturn0, v_return, v_throw, v_throwW, v_table, v_cs0, v_csi, v_csl, v_csr, v_an0, v_an1, v_ani, v_call0, v_call1, v_call2, v_call3, v_call4, v_call5, v_call6, v_call7, v_rI, v_fin, v_finX, v_fini, v_ro0, v_roi, v_rol, v_rob0, v_rob1, v_roo, v_roon, v_kbm99, v_kbm64, v_kbm8, v_kbm5, v_kb6, v_kb7, v_kb8, v_kb9, v_kb10, v_kb12, v_kb14, v_kb19, v_kb20, v_kb24, v_kb25, v_kb30, v_kb31, v_kb32, v_kb37, v_kb40, v_kb41, v_kb45, v_kb48, v_kb50, v_kb57, v_kb59, v_kb60, v_kb63, v_kb64, v_kb97, v_kb99, v_kb112, v_kb114, v_kb122, v_kim8, v_kim1, v_ki0, v_ki1, v_ki2, v_ki3, v_ki4, v_ki5, v_ksm9999, v_ksm256, v_ks128, v_ks199, v_ks200, v_ks255, v_ks256, v_ks400, v_ks457, v_ks1000, v_ks1024, v_ks2742, v_ks9999, v_ks10000, v_ld, v_st, v_ldc2_RX7_142, v_ldc2_RX7_144, v_ldc2_RX7_146, v_ldc2_RX7_148, v_ldc2_RX7_154, v_ldc2_RX7_163, v_ldc2_RX3_81, v_ldc2_RX7_207, v_ldc2_RX7_209, v_ldc2_RX13_190, v_ldc2_RX13_212, v_ldc2_RX13_218, v_ldc2_RX13_220, v_ldc2_RX13_254, v_ldc2_RX13_256, v_ldc2_RX13_287, v_ldc2_RX13_297, v_ldc2_RX13_302, v_ldc2_RX13_323, v_ldc2_RX13_343, v_ldc2_RX13_345, v_ldc2_RX13_351, v_ldc2_RX13_374, v_ldc2_RX13_400, v_ldc2_RX13_402, v_ldc2_RX13_413, v_ldc2_RX13_439, v_ldc2_RX13_461, v_ldc2_RX13_481, v_ldc2_RX13_486, v_ldc2_RX13_488, v_ldc2_RX13_490, v_ldc2_RX13_492, v_ldc2_RX13_494, v_ldc2_RX13_496, v_ldc2_RX13_498, v_ldc2_RX13_500, if_true, if_false, Bool.not_false, Bool.not_true, Nat.reduceEqDiff, Nat.reduceLeDiff, Nat.reduceLT, Nat.reduceAdd, Nat.reduceMul, Nat.reduceSub, and_self, and_true, true_and, and_false, false_and, Bool.false_eq_true, not_true_eq_false, not_false_eq_true, ite_self, v_robb, v_rob0, v_rob1, List.nil_append, hb, h1, h2]
def lnQ (q : Int32) : Int32 := if nI 3 ≤ q then nI 256 else if nI 0 ≤ q then nI 32 <<< (q &&& 31) else if -nI 5 ≤ q then nI 32 >>> (-q &&& 31) else nI 1
def flM (a b : Int32) : Int32 := if nI 0 ≤ a then a / b else -((b - nI 1 - a) / b)
def lbM (q : Int32) : Int32 := if (if nI 0 ≤ q then nI 32 <<< (q &&& 31) else nI 32 >>> (-q &&& 31)) < nI 1 then nI 1 else if nI 256 < (if nI 0 ≤ q then nI 32 <<< (q &&& 31) else nI 32 >>> (-q &&& 31)) then nI 256 else (if nI 0 ≤ q then nI 32 <<< (q &&& 31) else nI 32 >>> (-q &&& 31))
theorem ln_eq : ∀ x, x < 15 → ∀ y, y < 15 → ∀ d, d < 6 → lbM (flM (nI x - nI y) (nI (d + 1))) = lnQ (fdI (nI x - nI y) (nI (d + 1))) := by decide +kernel
/-- the length of an edge -/
def elS (c : Row) (n k : Nat) : Int32 := if c k = nI 0 then nI 1 else lnQ (fdI (nI (dgS (c k)) - nI (dgS (c (eeS c n k)))) (nI (eeS c n k - k)))
theorem elS_rng : ∀ x, x < 15 → ∀ y, y < 15 → ∀ d, d < 6 → nI 1 ≤ lnQ (fdI (nI x - nI y) (nI (d + 1))) ∧ lnQ (fdI (nI x - nI y) (nI (d + 1))) ≤ nI 256 := by decide +kernel
