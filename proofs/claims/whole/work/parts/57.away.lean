/-! ===== a point goes away: the model ===== -/
def dcI (g : Nat) (x : Int32) : Int32 := if nI g < x then x - nI 1 else x
def gaA (s : Row) (g m i : Nat) : Row := fun j => if j = 0 then nI m else if (19 + g ≤ j ∧ j < 19 + g + i) ∨ (25 + g ≤ j ∧ j < 25 + g + i) ∨ (31 + g ≤ j ∧ j < 31 + g + i) then s (j + 1) else s j
theorem gaA_s (s : Row) {g m i : Nat} (h : g + i < m) (hm : m ≤ 5) : upd (lay1 (gaA s g m i) (g + i) (s (19 + (g + i) + 1)) (s (25 + (g + i) + 1))) (31 + (g + i)) (s (31 + (g + i) + 1)) = gaA s g m (i + 1) := by
  funext j
  rw [upd_at, lay1_at]
  unfold gaA
  by_cases h1 : j = 31 + (g + i)
  · subst h1
    rw [if_pos rfl, if_neg (by omega), if_pos (by omega)]
  · rw [if_neg h1]
    by_cases h2 : j = 25 + (g + i)
    · subst h2
      rw [if_pos rfl, if_neg (by omega), if_pos (by omega)]
    · rw [if_neg h2]
      by_cases h3 : j = 19 + (g + i)
      · subst h3
        rw [if_pos rfl, if_neg (by omega), if_pos (by omega)]
      · rw [if_neg h3]
        by_cases h0 : j = 0
        · rw [if_pos h0, if_pos h0]
        · rw [if_neg h0, if_neg h0]
          by_cases h4 : (19 + g ≤ j ∧ j < 19 + g + i) ∨ (25 + g ≤ j ∧ j < 25 + g + i) ∨ (31 + g ≤ j ∧ j < 31 + g + i)
          · rw [if_pos h4, if_pos (by omega)]
          · rw [if_neg h4, if_neg (by omega)]
def gaB (s : Row) (g m : Nat) : Row := lay1 (upd (gaA s g m (m - g)) (31 + m) (-nI 1)) m (nI 0) (nI 0)
def gaC (B : Row) (g i : Nat) : Row := fun j => if 31 ≤ j ∧ j < 31 + i then dcI g (B j) else B j
theorem gaC_s (B : Row) (g i : Nat) : upd (gaC B g i) (31 + i) (dcI g (B (31 + i))) = gaC B g (i + 1) := by
  funext j
  rw [upd_at]
  unfold gaC
  by_cases h1 : j = 31 + i
  · subst h1
    rw [if_pos rfl, if_pos (by omega)]
  · rw [if_neg h1]
    by_cases h2 : 31 ≤ j ∧ j < 31 + i
    · rw [if_pos h2, if_pos (by omega)]
    · rw [if_neg h2, if_neg (by omega)]
theorem gaC_n {B : Row} {g i : Nat} (h : ¬ nI g < B (31 + i)) : gaC B g (i + 1) = gaC B g i := by
  rw [← gaC_s]
  unfold dcI
  rw [if_neg h]
  refine upd_self ?_
  unfold gaC
  rw [if_neg (by omega)]
def gaS (s : Row) (n g : Nat) : Row := gaC (gaB s g (n - 1)) g (n - 1)
theorem gaB_at (s : Row) (g m j : Nat) : gaB s g m j = if j = 25 + m then nI 0 else if j = 19 + m then nI 0 else if j = 31 + m then -nI 1 else gaA s g m (m - g) j := rfl
theorem gaS_o {s : Row} {n g : Nat} (hn : n ≤ 6) (h1 : 1 ≤ n) (hg : g < n) {j : Nat} (h : (0 < j ∧ j < 19) ∨ 37 ≤ j) : gaS s n g j = s j := by
  unfold gaS gaC
  rw [if_neg (by omega), gaB_at, if_neg (by omega), if_neg (by omega), if_neg (by omega)]
  unfold gaA
  rw [if_neg (by omega), if_neg (by omega)]
theorem gaS_0 {s : Row} {n g : Nat} : gaS s n g 0 = nI (n - 1) := by
  unfold gaS gaC
  rw [if_neg (by omega), gaB_at, if_neg (by omega), if_neg (by omega), if_neg (by omega)]
  unfold gaA
  rw [if_pos rfl]
abbrev gq (g q : Nat) : Nat := if q < g then q else q + 1
theorem gaS_x {s : Row} {n g q : Nat} (hn : n ≤ 6) (hg : g < n) (hq : q < n - 1) : gaS s n g (19 + q) = s (19 + gq g q) := by
  unfold gaS gaC
  rw [if_neg (by omega), gaB_at, if_neg (by omega), if_neg (by omega), if_neg (by omega)]
  unfold gaA gq
  rw [if_neg (by omega)]
  by_cases h : q < g
  · rw [if_pos h, if_neg (by omega)]
  · rw [if_neg h, if_pos (by omega)]; rfl
theorem gaS_y {s : Row} {n g q : Nat} (hn : n ≤ 6) (hg : g < n) (hq : q < n - 1) : gaS s n g (25 + q) = s (25 + gq g q) := by
  unfold gaS gaC
  rw [if_neg (by omega), gaB_at, if_neg (by omega), if_neg (by omega), if_neg (by omega)]
  unfold gaA gq
  rw [if_neg (by omega)]
  by_cases h : q < g
  · rw [if_pos h, if_neg (by omega)]
  · rw [if_neg h, if_pos (by omega)]; rfl
theorem gaS_p {s : Row} {n g q : Nat} (hn : n ≤ 6) (hg : g < n) (hq : q < n - 1) : gaS s n g (31 + q) = dcI g (s (31 + gq g q)) := by
  unfold gaS gaC
  rw [if_pos (by omega), gaB_at, if_neg (by omega), if_neg (by omega), if_neg (by omega)]
  unfold gaA gq
  rw [if_neg (by omega)]
  by_cases h : q < g
  · rw [if_pos h, if_neg (by omega)]
  · rw [if_neg h, if_pos (by omega)]; rfl
theorem gaS_pn {s : Row} {n g : Nat} (h1 : 1 ≤ n) : gaS s n g (31 + (n - 1)) = -nI 1 := by
  unfold gaS gaC
  rw [if_neg (by omega), gaB_at, if_neg (by omega), if_neg (by omega), if_pos rfl]
theorem gaS_ph {s : Row} {n g q : Nat} (hn : n ≤ 6) (hg : g < n) (hq : n ≤ q) (hq6 : q < 6) : gaS s n g (31 + q) = s (31 + q) := by
  unfold gaS gaC
  rw [if_neg (by omega), gaB_at, if_neg (by omega), if_neg (by omega), if_neg (by omega)]
  unfold gaA
  rw [if_neg (by omega), if_neg (by omega)]
theorem m_goesAway {n g : Nat} {s : Row} (hn : n ≤ 6) (hg : g < n) (t : Nat × Nat × Bool) (I : Nat → Nat → Int32) (L : Nat → Nat → Int64) (V : Nat → Option Nat) (h0 : s 0 = nI n) : eCall mX13_goesAway [.ref 189, .int (nI g)] (mM t (wR I s) L V) = some (.inl none, mM t (wR I (gaS s n g)) L V) := by
  obtain ⟨m, rfl⟩ : ∃ m, n = m + 1 := ⟨n - 1, by omega⟩
  have i0 := ix (show 0 < 457 by decide) (by decide)
  have e1 : nI (m + 1) - nI 1 = nI m := by rw [pk_sub (by omega)]; rfl
  have eA : upd s 0 (nI m) = gaA s g m 0 := by
    funext j
    rw [upd_at]
    unfold gaA
    by_cases h : j = 0
    · rw [if_pos h, if_pos h]
    · rw [if_neg h, if_neg h, if_neg (by omega)]
  have a0 : ∀ i, gaA s g m i 0 = nI m := fun i => by unfold gaA; rw [if_pos rfl]
  have hl : eLoop eFuel 12 (eDen gX13_goesAway_L12) ([.ref 189, .int (nI g), .int (nI g)], [], mM t (wR I (gaA s g m 0)) L V) = some (none, ([.ref 189, .int (nI g), .int (nI m)], [], mM t (wR I (gaA s g m (m - g))) L V)) := by
    refine eLoop_r (h := 12) (fun i => ([.ref 189, .int (nI g), .int (nI (g + i))], [], mM t (wR I (gaA s g m i)) L V)) (m - g) rfl (by omega) (fun i hi => ?_) ?_
    · have c1 : (nI m ≤ nI (g + i)) = False := eq_false (nI_ge (by omega) (by omega))
      have i1 := ix (show 19 + (g + i) + 1 < 457 by omega) (by omega)
      have i2 := ix (show 25 + (g + i) + 1 < 457 by omega) (by omega)
      have i3 := ix (show 31 + (g + i) < 457 by omega) (by omega)
      have i4 := ix (show 31 + (g + i) + 1 < 457 by omega) (by omega)
      have r1 : gaA s g m i (19 + (g + i) + 1) = s (19 + (g + i) + 1) := by unfold gaA; rw [if_neg (by omega), if_neg (by omega)]
      have r2 : gaA s g m i (25 + (g + i) + 1) = s (25 + (g + i) + 1) := by unfold gaA; rw [if_neg (by omega), if_neg (by omega)]
      have r3 : lay1 (gaA s g m i) (g + i) (s (19 + (g + i) + 1)) (s (25 + (g + i) + 1)) (31 + (g + i) + 1) = s (31 + (g + i) + 1) := by
        rw [lay1_o (by omega) (by omega)]
        unfold gaA
        rw [if_neg (by omega), if_neg (by omega)]
      have b1 := m_lays (show g + i < 6 by omega) (gaA s g m i) (s (19 + (g + i) + 1)) (s (25 + (g + i) + 1)) t I L V
      have hs := gaA_s s (g := g) (m := m) (i := i) (by omega) (by omega)
      simp only [gX13_goesAway_L12, v_TM, v_seq, v_blk, v_lop, v_fgt, v_fg0, v_fg1, v_b0, v_b1, v_bn, v_bi, v_c0, v_c1, v_c2, v_cn, v_ci, v_st0, v_st1, v_stn, v_iadd, v_isub, v_imul, v_iand, v_ior, v_ixor, v_ishl, v_ishr, v_ladd, v_lsub, v_lmul, v_lor, v_land, v_ineg, v_lneg, v_lcmp, v_lshl, v_i2l, v_l2i, v_i2b, v_i2c, v_i2f, v_i2d, v_idiv, v_irem, v_ldiv, v_lrem, v_iconst, v_bipush, v_sipush, v_lconst0, v_lconst1, v_null, v_fconst0, v_dconst0, v_ldcS, v_dupi, v_dupr, v_pop, v_dup2, vI_i, vL_l, vA_r, vA_n, vInc_i, v_iload_n0, v_iload_n1, v_iload_n2, v_iload_n3, v_iload, v_lload_n0, v_lload_n1, v_lload_n2, v_lload_n3, v_lload, v_dload_n0, v_dload_n1, v_dload_n2, v_dload_n3, v_dload, v_aload_n0, v_aload_n1, v_aload_n2, v_aload_n3, v_aload, v_at0, v_ok0, v_at1, v_ok1, v_at2, v_ok2, v_at3, v_ok3, v_at4, v_ok4, v_at5, v_ok5, v_at6, v_ok6, v_at7, v_ok7, v_at8, v_ok8, v_at9, v_ok9, v_at10, v_ok10, v_at11, v_ok11, v_at12, v_ok12, v_at13, v_ok13, v_at14, v_ok14, v_at15, v_ok15, v_c2i, v_c2l, v_c2r, v_c2n, v_c2j, v_istore_n0, v_astore_n0, v_istore_n1, v_astore_n1, v_istore_n2, v_astore_n2, v_istore_n3, v_astore_n3, v_istore, v_astore, v_lstore_n0, v_lstore_n1, v_lstore_n2, v_lstore_n3, v_lstore, v_iinc, v_if_eq, v_if_ne, v_if_lt, v_if_ge, v_if_gt, v_if_le, v_icmp_eq, v_icmp_ne, v_icmp_lt, v_icmp_ge, v_icmp_gt, v_icmp_le, v_ifnull0, v_ifnull1, v_ifnonnull0, v_ifnonnull1, v_goto, v_ireturn, v_lreturn, v_areturn, v_areturn0, v_return, v_throw, v_throwW, v_table, v_cs0, v_csi, v_csl, v_csr, v_an0, v_an1, v_ani, v_call0, v_call1, v_call2, v_call3, v_call4, v_call5, v_call6, v_call7, v_rI, v_fin, v_finX, v_fini, v_ro0, v_roi, v_rol, v_rob0, v_rob1, v_roo, v_roon, v_kbm99, v_kbm64, v_kbm8, v_kbm5, v_kb6, v_kb7, v_kb8, v_kb9, v_kb10, v_kb12, v_kb14, v_kb19, v_kb20, v_kb24, v_kb25, v_kb30, v_kb31, v_kb32, v_kb37, v_kb40, v_kb41, v_kb45, v_kb48, v_kb50, v_kb57, v_kb59, v_kb60, v_kb63, v_kb64, v_kb97, v_kb99, v_kb112, v_kb114, v_kb122, v_kim8, v_kim1, v_ki0, v_ki1, v_ki2, v_ki3, v_ki4, v_ki5, v_ksm9999, v_ksm256, v_ks128, v_ks199, v_ks200, v_ks255, v_ks256, v_ks400, v_ks457, v_ks1000, v_ks1024, v_ks2742, v_ks9999, v_ks10000, v_ld, v_st, v_ldc2_RX7_142, v_ldc2_RX7_144, v_ldc2_RX7_146, v_ldc2_RX7_148, v_ldc2_RX7_154, v_ldc2_RX7_163, v_ldc2_RX3_81, v_ldc2_RX7_207, v_ldc2_RX7_209, v_ldc2_RX13_190, v_ldc2_RX13_212, v_ldc2_RX13_218, v_ldc2_RX13_220, v_ldc2_RX13_254, v_ldc2_RX13_256, v_ldc2_RX13_287, v_ldc2_RX13_297, v_ldc2_RX13_302, v_ldc2_RX13_323, v_ldc2_RX13_343, v_ldc2_RX13_345, v_ldc2_RX13_351, v_ldc2_RX13_374, v_ldc2_RX13_400, v_ldc2_RX13_402, v_ldc2_RX13_413, v_ldc2_RX13_439, v_ldc2_RX13_461, v_ldc2_RX13_481, v_ldc2_RX13_486, v_ldc2_RX13_488, v_ldc2_RX13_490, v_ldc2_RX13_492, v_ldc2_RX13_494, v_ldc2_RX13_496, v_ldc2_RX13_498, v_ldc2_RX13_500, if_true, if_false, Bool.not_false, Bool.not_true, Nat.reduceEqDiff, Nat.reduceLeDiff, Nat.reduceLT, Nat.reduceAdd, Nat.reduceMul, Nat.reduceSub, and_self, and_true, true_and, and_false, false_and, Bool.false_eq_true, not_true_eq_false, not_false_eq_true, ite_self, v_robb, v_rob0, v_rob1, List.nil_append, G_189_0, P_189_0, G_189_1, G_189_2, P_189_2, G_189_3, P_189_3, G_189_4, P_189_4, G_189_5, P_189_5, G_189_6, P_189_6, G_189_7, P_189_7, G_189_8, P_189_8, G_189_9, P_189_9, G_189_10, P_189_10, G_189_11, P_189_11, G_189_12, P_189_12, G_189_13, G_189_14, G_189_15, G_189_16, G_189_17, G_189_18, P_189_18, G_189_19, P_189_19, G_189_20, G_189_21, G_189_22, P_189_22, G_189_23, P_189_23, G_189_24, P_189_24, G_189_25, P_189_25, G_189_26, P_189_26, G_189_27, G_189_28, G_189_29, G_189_30, G_189_31, G_189_32, P_189_32, G_189_33, P_189_33, G_189_34, P_189_34, G_189_35, P_189_35, G_189_36, P_189_36, G_189_37, P_189_37, G_189_38, G_189_39, P_189_39, G_189_40, P_189_40, G_189_41, G_189_42, G_189_43, G_189_44, G_189_45, G_189_46, G_189_47, G_189_48, P_189_48, G_189_49, P_189_49, G_189_50, P_189_50, G_189_51, P_189_51, G_189_52, G_189_53, P_189_53, G_189_54, P_189_54, R_189, S_190, A_190, N_190, S_191, A_191, N_191, S_192, A_192, N_192, S_193, A_193, N_193, S_194, A_194, N_194, S_195, A_195, N_195, S_196, A_196, N_196, S_197, A_197, N_197, S_198, A_198, N_198, S_199, A_199, N_199, S_200, A_200, N_200, S_201, A_201, N_201, S_202, A_202, N_202, S_203, A_203, N_203, S_204, A_204, N_204, S_205, A_205, N_205, S_206, A_206, N_206, S_207, A_207, N_207, S_208, A_208, N_208, S_209, A_209, N_209, S_210, A_210, N_210, S_211, A_211, N_211, S_212, A_212, N_212, w_191, i0, a0, c1, nI_add, i1, i2, i3, i4, r1, r2, b1, r3, w_si, hs]
      rfl
    · rw [show g + (m - g) = m by omega]
      simp only [gX13_goesAway_L12, v_TM, v_seq, v_blk, v_lop, v_fgt, v_fg0, v_fg1, v_b0, v_b1, v_bn, v_bi, v_c0, v_c1, v_c2, v_cn, v_ci, v_st0, v_st1, v_stn, v_iadd, v_isub, v_imul, v_iand, v_ior, v_ixor, v_ishl, v_ishr, v_ladd, v_lsub, v_lmul, v_lor, v_land, v_ineg, v_lneg, v_lcmp, v_lshl, v_i2l, v_l2i, v_i2b, v_i2c, v_i2f, v_i2d, v_idiv, v_irem, v_ldiv, v_lrem, v_iconst, v_bipush, v_sipush, v_lconst0, v_lconst1, v_null, v_fconst0, v_dconst0, v_ldcS, v_dupi, v_dupr, v_pop, v_dup2, vI_i, vL_l, vA_r, vA_n, vInc_i, v_iload_n0, v_iload_n1, v_iload_n2, v_iload_n3, v_iload, v_lload_n0, v_lload_n1, v_lload_n2, v_lload_n3, v_lload, v_dload_n0, v_dload_n1, v_dload_n2, v_dload_n3, v_dload, v_aload_n0, v_aload_n1, v_aload_n2, v_aload_n3, v_aload, v_at0, v_ok0, v_at1, v_ok1, v_at2, v_ok2, v_at3, v_ok3, v_at4, v_ok4, v_at5, v_ok5, v_at6, v_ok6, v_at7, v_ok7, v_at8, v_ok8, v_at9, v_ok9, v_at10, v_ok10, v_at11, v_ok11, v_at12, v_ok12, v_at13, v_ok13, v_at14, v_ok14, v_at15, v_ok15, v_c2i, v_c2l, v_c2r, v_c2n, v_c2j, v_istore_n0, v_astore_n0, v_istore_n1, v_astore_n1, v_istore_n2, v_astore_n2, v_istore_n3, v_astore_n3, v_istore, v_astore, v_lstore_n0, v_lstore_n1, v_lstore_n2, v_lstore_n3, v_lstore, v_iinc, v_if_eq, v_if_ne, v_if_lt, v_if_ge, v_if_gt, v_if_le, v_icmp_eq, v_icmp_ne, v_icmp_lt, v_icmp_ge, v_icmp_gt, v_icmp_le, v_ifnull0, v_ifnull1, v_ifnonnull0, v_ifnonnull1, v_goto, v_ireturn, v_lreturn, v_areturn, v_areturn0, v_return, v_throw, v_throwW, v_table, v_cs0, v_csi, v_csl, v_csr, v_an0, v_an1, v_ani, v_call0, v_call1, v_call2, v_call3, v_call4, v_call5, v_call6, v_call7, v_rI, v_fin, v_finX, v_fini, v_ro0, v_roi, v_rol, v_rob0, v_rob1, v_roo, v_roon, v_kbm99, v_kbm64, v_kbm8, v_kbm5, v_kb6, v_kb7, v_kb8, v_kb9, v_kb10, v_kb12, v_kb14, v_kb19, v_kb20, v_kb24, v_kb25, v_kb30, v_kb31, v_kb32, v_kb37, v_kb40, v_kb41, v_kb45, v_kb48, v_kb50, v_kb57, v_kb59, v_kb60, v_kb63, v_kb64, v_kb97, v_kb99, v_kb112, v_kb114, v_kb122, v_kim8, v_kim1, v_ki0, v_ki1, v_ki2, v_ki3, v_ki4, v_ki5, v_ksm9999, v_ksm256, v_ks128, v_ks199, v_ks200, v_ks255, v_ks256, v_ks400, v_ks457, v_ks1000, v_ks1024, v_ks2742, v_ks9999, v_ks10000, v_ld, v_st, v_ldc2_RX7_142, v_ldc2_RX7_144, v_ldc2_RX7_146, v_ldc2_RX7_148, v_ldc2_RX7_154, v_ldc2_RX7_163, v_ldc2_RX3_81, v_ldc2_RX7_207, v_ldc2_RX7_209, v_ldc2_RX13_190, v_ldc2_RX13_212, v_ldc2_RX13_218, v_ldc2_RX13_220, v_ldc2_RX13_254, v_ldc2_RX13_256, v_ldc2_RX13_287, v_ldc2_RX13_297, v_ldc2_RX13_302, v_ldc2_RX13_323, v_ldc2_RX13_343, v_ldc2_RX13_345, v_ldc2_RX13_351, v_ldc2_RX13_374, v_ldc2_RX13_400, v_ldc2_RX13_402, v_ldc2_RX13_413, v_ldc2_RX13_439, v_ldc2_RX13_461, v_ldc2_RX13_481, v_ldc2_RX13_486, v_ldc2_RX13_488, v_ldc2_RX13_490, v_ldc2_RX13_492, v_ldc2_RX13_494, v_ldc2_RX13_496, v_ldc2_RX13_498, v_ldc2_RX13_500, if_true, if_false, Bool.not_false, Bool.not_true, Nat.reduceEqDiff, Nat.reduceLeDiff, Nat.reduceLT, Nat.reduceAdd, Nat.reduceMul, Nat.reduceSub, and_self, and_true, true_and, and_false, false_and, Bool.false_eq_true, not_true_eq_false, not_false_eq_true, ite_self, v_robb, v_rob0, v_rob1, List.nil_append, G_189_0, P_189_0, G_189_1, G_189_2, P_189_2, G_189_3, P_189_3, G_189_4, P_189_4, G_189_5, P_189_5, G_189_6, P_189_6, G_189_7, P_189_7, G_189_8, P_189_8, G_189_9, P_189_9, G_189_10, P_189_10, G_189_11, P_189_11, G_189_12, P_189_12, G_189_13, G_189_14, G_189_15, G_189_16, G_189_17, G_189_18, P_189_18, G_189_19, P_189_19, G_189_20, G_189_21, G_189_22, P_189_22, G_189_23, P_189_23, G_189_24, P_189_24, G_189_25, P_189_25, G_189_26, P_189_26, G_189_27, G_189_28, G_189_29, G_189_30, G_189_31, G_189_32, P_189_32, G_189_33, P_189_33, G_189_34, P_189_34, G_189_35, P_189_35, G_189_36, P_189_36, G_189_37, P_189_37, G_189_38, G_189_39, P_189_39, G_189_40, P_189_40, G_189_41, G_189_42, G_189_43, G_189_44, G_189_45, G_189_46, G_189_47, G_189_48, P_189_48, G_189_49, P_189_49, G_189_50, P_189_50, G_189_51, P_189_51, G_189_52, G_189_53, P_189_53, G_189_54, P_189_54, R_189, S_190, A_190, N_190, S_191, A_191, N_191, S_192, A_192, N_192, S_193, A_193, N_193, S_194, A_194, N_194, S_195, A_195, N_195, S_196, A_196, N_196, S_197, A_197, N_197, S_198, A_198, N_198, S_199, A_199, N_199, S_200, A_200, N_200, S_201, A_201, N_201, S_202, A_202, N_202, S_203, A_203, N_203, S_204, A_204, N_204, S_205, A_205, N_205, S_206, A_206, N_206, S_207, A_207, N_207, S_208, A_208, N_208, S_209, A_209, N_209, S_210, A_210, N_210, S_211, A_211, N_211, S_212, A_212, N_212, w_191, i0, a0, show (nI m ≤ nI m) = True from eq_true (Int32.le_refl _)]
  have b2 := m_lays (show m < 6 by omega) (upd (gaA s g m (m - g)) (31 + m) (-nI 1)) (nI 0) (nI 0) t I L V
  change eCall _ _ _ = some (.inl none, mM t (wR I (gaB s g m)) L V) at b2
  have iM := ix (show 31 + m < 457 by omega) (by omega)
  have u0 : upd (gaA s g m (m - g)) (31 + m) (-nI 1) 0 = nI m := by rw [pk_un (by omega)]; exact a0 _
  have c0 : ∀ i, gaC (gaB s g m) g i 0 = nI m := fun i => by
    unfold gaC
    rw [if_neg (by omega), gaB_at, if_neg (by omega), if_neg (by omega), if_neg (by omega)]
    exact a0 _
  have hl2 : eLoop eFuel 104 (eDen gX13_goesAway_L104) ([.ref 189, .int (nI g), .int (nI 0)], [], mM t (wR I (gaB s g m)) L V) = some (none, ([.ref 189, .int (nI g), .int (nI m)], [], mM t (wR I (gaC (gaB s g m) g m)) L V)) := by
    refine eLoop_r (h := 104) (fun i => ([.ref 189, .int (nI g), .int (nI i)], [], mM t (wR I (gaC (gaB s g m) g i)) L V)) m ?_ (by omega) (fun i hi => ?_) ?_
    · have : gaC (gaB s g m) g 0 = gaB s g m := by funext j; unfold gaC; rw [if_neg (by omega)]
      rw [this]
    · have c1 : (nI m ≤ nI i) = False := eq_false (nI_ge hi (by omega))
      have i3 := ix (show 31 + i < 457 by omega) (by omega)
      have r1 : gaC (gaB s g m) g i (31 + i) = gaB s g m (31 + i) := by unfold gaC; rw [if_neg (by omega)]
      by_cases h : nI g < gaB s g m (31 + i)
      · have hs := gaC_s (gaB s g m) g i
        unfold dcI at hs
        rw [if_pos h] at hs
        simp only [gX13_goesAway_L104, v_TM, v_seq, v_blk, v_lop, v_fgt, v_fg0, v_fg1, v_b0, v_b1, v_bn, v_bi, v_c0, v_c1, v_c2, v_cn, v_ci, v_st0, v_st1, v_stn, v_iadd, v_isub, v_imul, v_iand, v_ior, v_ixor, v_ishl, v_ishr, v_ladd, v_lsub, v_lmul, v_lor, v_land, v_ineg, v_lneg, v_lcmp, v_lshl, v_i2l, v_l2i, v_i2b, v_i2c, v_i2f, v_i2d, v_idiv, v_irem, v_ldiv, v_lrem, v_iconst, v_bipush, v_sipush, v_lconst0, v_lconst1, v_null, v_fconst0, v_dconst0, v_ldcS, v_dupi, v_dupr, v_pop, v_dup2, vI_i, vL_l, vA_r, vA_n, vInc_i, v_iload_n0, v_iload_n1, v_iload_n2, v_iload_n3, v_iload, v_lload_n0, v_lload_n1, v_lload_n2, v_lload_n3, v_lload, v_dload_n0, v_dload_n1, v_dload_n2, v_dload_n3, v_dload, v_aload_n0, v_aload_n1, v_aload_n2, v_aload_n3, v_aload, v_at0, v_ok0, v_at1, v_ok1, v_at2, v_ok2, v_at3, v_ok3, v_at4, v_ok4, v_at5, v_ok5, v_at6, v_ok6, v_at7, v_ok7, v_at8, v_ok8, v_at9, v_ok9, v_at10, v_ok10, v_at11, v_ok11, v_at12, v_ok12, v_at13, v_ok13, v_at14, v_ok14, v_at15, v_ok15, v_c2i, v_c2l, v_c2r, v_c2n, v_c2j, v_istore_n0, v_astore_n0, v_istore_n1, v_astore_n1, v_istore_n2, v_astore_n2, v_istore_n3, v_astore_n3, v_istore, v_astore, v_lstore_n0, v_lstore_n1, v_lstore_n2, v_lstore_n3, v_lstore, v_iinc, v_if_eq, v_if_ne, v_if_lt, v_if_ge, v_if_gt, v_if_le, v_icmp_eq, v_icmp_ne, v_icmp_lt, v_icmp_ge, v_icmp_gt, v_icmp_le, v_ifnull0, v_ifnull1, v_ifnonnull0, v_ifnonnull1, v_goto, v_ireturn, v_lreturn, v_areturn, v_areturn0, v_return, v_throw, v_throwW, v_table, v_cs0, v_csi, v_csl, v_csr, v_an0, v_an1, v_ani, v_call0, v_call1, v_call2, v_call3, v_call4, v_call5, v_call6, v_call7, v_rI, v_fin, v_finX, v_fini, v_ro0, v_roi, v_rol, v_rob0, v_rob1, v_roo, v_roon, v_kbm99, v_kbm64, v_kbm8, v_kbm5, v_kb6, v_kb7, v_kb8, v_kb9, v_kb10, v_kb12, v_kb14, v_kb19, v_kb20, v_kb24, v_kb25, v_kb30, v_kb31, v_kb32, v_kb37, v_kb40, v_kb41, v_kb45, v_kb48, v_kb50, v_kb57, v_kb59, v_kb60, v_kb63, v_kb64, v_kb97, v_kb99, v_kb112, v_kb114, v_kb122, v_kim8, v_kim1, v_ki0, v_ki1, v_ki2, v_ki3, v_ki4, v_ki5, v_ksm9999, v_ksm256, v_ks128, v_ks199, v_ks200, v_ks255, v_ks256, v_ks400, v_ks457, v_ks1000, v_ks1024, v_ks2742, v_ks9999, v_ks10000, v_ld, v_st, v_ldc2_RX7_142, v_ldc2_RX7_144, v_ldc2_RX7_146, v_ldc2_RX7_148, v_ldc2_RX7_154, v_ldc2_RX7_163, v_ldc2_RX3_81, v_ldc2_RX7_207, v_ldc2_RX7_209, v_ldc2_RX13_190, v_ldc2_RX13_212, v_ldc2_RX13_218, v_ldc2_RX13_220, v_ldc2_RX13_254, v_ldc2_RX13_256, v_ldc2_RX13_287, v_ldc2_RX13_297, v_ldc2_RX13_302, v_ldc2_RX13_323, v_ldc2_RX13_343, v_ldc2_RX13_345, v_ldc2_RX13_351, v_ldc2_RX13_374, v_ldc2_RX13_400, v_ldc2_RX13_402, v_ldc2_RX13_413, v_ldc2_RX13_439, v_ldc2_RX13_461, v_ldc2_RX13_481, v_ldc2_RX13_486, v_ldc2_RX13_488, v_ldc2_RX13_490, v_ldc2_RX13_492, v_ldc2_RX13_494, v_ldc2_RX13_496, v_ldc2_RX13_498, v_ldc2_RX13_500, if_true, if_false, Bool.not_false, Bool.not_true, Nat.reduceEqDiff, Nat.reduceLeDiff, Nat.reduceLT, Nat.reduceAdd, Nat.reduceMul, Nat.reduceSub, and_self, and_true, true_and, and_false, false_and, Bool.false_eq_true, not_true_eq_false, not_false_eq_true, ite_self, v_robb, v_rob0, v_rob1, List.nil_append, G_189_0, P_189_0, G_189_1, G_189_2, P_189_2, G_189_3, P_189_3, G_189_4, P_189_4, G_189_5, P_189_5, G_189_6, P_189_6, G_189_7, P_189_7, G_189_8, P_189_8, G_189_9, P_189_9, G_189_10, P_189_10, G_189_11, P_189_11, G_189_12, P_189_12, G_189_13, G_189_14, G_189_15, G_189_16, G_189_17, G_189_18, P_189_18, G_189_19, P_189_19, G_189_20, G_189_21, G_189_22, P_189_22, G_189_23, P_189_23, G_189_24, P_189_24, G_189_25, P_189_25, G_189_26, P_189_26, G_189_27, G_189_28, G_189_29, G_189_30, G_189_31, G_189_32, P_189_32, G_189_33, P_189_33, G_189_34, P_189_34, G_189_35, P_189_35, G_189_36, P_189_36, G_189_37, P_189_37, G_189_38, G_189_39, P_189_39, G_189_40, P_189_40, G_189_41, G_189_42, G_189_43, G_189_44, G_189_45, G_189_46, G_189_47, G_189_48, P_189_48, G_189_49, P_189_49, G_189_50, P_189_50, G_189_51, P_189_51, G_189_52, G_189_53, P_189_53, G_189_54, P_189_54, R_189, S_190, A_190, N_190, S_191, A_191, N_191, S_192, A_192, N_192, S_193, A_193, N_193, S_194, A_194, N_194, S_195, A_195, N_195, S_196, A_196, N_196, S_197, A_197, N_197, S_198, A_198, N_198, S_199, A_199, N_199, S_200, A_200, N_200, S_201, A_201, N_201, S_202, A_202, N_202, S_203, A_203, N_203, S_204, A_204, N_204, S_205, A_205, N_205, S_206, A_206, N_206, S_207, A_207, N_207, S_208, A_208, N_208, S_209, A_209, N_209, S_210, A_210, N_210, S_211, A_211, N_211, S_212, A_212, N_212, w_191, i0, c0, c1, nI_add, i3, r1, Int32.not_le.mpr h, w_si, hs]
      · rw [gaC_n h]
        simp only [gX13_goesAway_L104, v_TM, v_seq, v_blk, v_lop, v_fgt, v_fg0, v_fg1, v_b0, v_b1, v_bn, v_bi, v_c0, v_c1, v_c2, v_cn, v_ci, v_st0, v_st1, v_stn, v_iadd, v_isub, v_imul, v_iand, v_ior, v_ixor, v_ishl, v_ishr, v_ladd, v_lsub, v_lmul, v_lor, v_land, v_ineg, v_lneg, v_lcmp, v_lshl, v_i2l, v_l2i, v_i2b, v_i2c, v_i2f, v_i2d, v_idiv, v_irem, v_ldiv, v_lrem, v_iconst, v_bipush, v_sipush, v_lconst0, v_lconst1, v_null, v_fconst0, v_dconst0, v_ldcS, v_dupi, v_dupr, v_pop, v_dup2, vI_i, vL_l, vA_r, vA_n, vInc_i, v_iload_n0, v_iload_n1, v_iload_n2, v_iload_n3, v_iload, v_lload_n0, v_lload_n1, v_lload_n2, v_lload_n3, v_lload, v_dload_n0, v_dload_n1, v_dload_n2, v_dload_n3, v_dload, v_aload_n0, v_aload_n1, v_aload_n2, v_aload_n3, v_aload, v_at0, v_ok0, v_at1, v_ok1, v_at2, v_ok2, v_at3, v_ok3, v_at4, v_ok4, v_at5, v_ok5, v_at6, v_ok6, v_at7, v_ok7, v_at8, v_ok8, v_at9, v_ok9, v_at10, v_ok10, v_at11, v_ok11, v_at12, v_ok12, v_at13, v_ok13, v_at14, v_ok14, v_at15, v_ok15, v_c2i, v_c2l, v_c2r, v_c2n, v_c2j, v_istore_n0, v_astore_n0, v_istore_n1, v_astore_n1, v_istore_n2, v_astore_n2, v_istore_n3, v_astore_n3, v_istore, v_astore, v_lstore_n0, v_lstore_n1, v_lstore_n2, v_lstore_n3, v_lstore, v_iinc, v_if_eq, v_if_ne, v_if_lt, v_if_ge, v_if_gt, v_if_le, v_icmp_eq, v_icmp_ne, v_icmp_lt, v_icmp_ge, v_icmp_gt, v_icmp_le, v_ifnull0, v_ifnull1, v_ifnonnull0, v_ifnonnull1, v_goto, v_ireturn, v_lreturn, v_areturn, v_areturn0, v_return, v_throw, v_throwW, v_table, v_cs0, v_csi, v_csl, v_csr, v_an0, v_an1, v_ani, v_call0, v_call1, v_call2, v_call3, v_call4, v_call5, v_call6, v_call7, v_rI, v_fin, v_finX, v_fini, v_ro0, v_roi, v_rol, v_rob0, v_rob1, v_roo, v_roon, v_kbm99, v_kbm64, v_kbm8, v_kbm5, v_kb6, v_kb7, v_kb8, v_kb9, v_kb10, v_kb12, v_kb14, v_kb19, v_kb20, v_kb24, v_kb25, v_kb30, v_kb31, v_kb32, v_kb37, v_kb40, v_kb41, v_kb45, v_kb48, v_kb50, v_kb57, v_kb59, v_kb60, v_kb63, v_kb64, v_kb97, v_kb99, v_kb112, v_kb114, v_kb122, v_kim8, v_kim1, v_ki0, v_ki1, v_ki2, v_ki3, v_ki4, v_ki5, v_ksm9999, v_ksm256, v_ks128, v_ks199, v_ks200, v_ks255, v_ks256, v_ks400, v_ks457, v_ks1000, v_ks1024, v_ks2742, v_ks9999, v_ks10000, v_ld, v_st, v_ldc2_RX7_142, v_ldc2_RX7_144, v_ldc2_RX7_146, v_ldc2_RX7_148, v_ldc2_RX7_154, v_ldc2_RX7_163, v_ldc2_RX3_81, v_ldc2_RX7_207, v_ldc2_RX7_209, v_ldc2_RX13_190, v_ldc2_RX13_212, v_ldc2_RX13_218, v_ldc2_RX13_220, v_ldc2_RX13_254, v_ldc2_RX13_256, v_ldc2_RX13_287, v_ldc2_RX13_297, v_ldc2_RX13_302, v_ldc2_RX13_323, v_ldc2_RX13_343, v_ldc2_RX13_345, v_ldc2_RX13_351, v_ldc2_RX13_374, v_ldc2_RX13_400, v_ldc2_RX13_402, v_ldc2_RX13_413, v_ldc2_RX13_439, v_ldc2_RX13_461, v_ldc2_RX13_481, v_ldc2_RX13_486, v_ldc2_RX13_488, v_ldc2_RX13_490, v_ldc2_RX13_492, v_ldc2_RX13_494, v_ldc2_RX13_496, v_ldc2_RX13_498, v_ldc2_RX13_500, if_true, if_false, Bool.not_false, Bool.not_true, Nat.reduceEqDiff, Nat.reduceLeDiff, Nat.reduceLT, Nat.reduceAdd, Nat.reduceMul, Nat.reduceSub, and_self, and_true, true_and, and_false, false_and, Bool.false_eq_true, not_true_eq_false, not_false_eq_true, ite_self, v_robb, v_rob0, v_rob1, List.nil_append, G_189_0, P_189_0, G_189_1, G_189_2, P_189_2, G_189_3, P_189_3, G_189_4, P_189_4, G_189_5, P_189_5, G_189_6, P_189_6, G_189_7, P_189_7, G_189_8, P_189_8, G_189_9, P_189_9, G_189_10, P_189_10, G_189_11, P_189_11, G_189_12, P_189_12, G_189_13, G_189_14, G_189_15, G_189_16, G_189_17, G_189_18, P_189_18, G_189_19, P_189_19, G_189_20, G_189_21, G_189_22, P_189_22, G_189_23, P_189_23, G_189_24, P_189_24, G_189_25, P_189_25, G_189_26, P_189_26, G_189_27, G_189_28, G_189_29, G_189_30, G_189_31, G_189_32, P_189_32, G_189_33, P_189_33, G_189_34, P_189_34, G_189_35, P_189_35, G_189_36, P_189_36, G_189_37, P_189_37, G_189_38, G_189_39, P_189_39, G_189_40, P_189_40, G_189_41, G_189_42, G_189_43, G_189_44, G_189_45, G_189_46, G_189_47, G_189_48, P_189_48, G_189_49, P_189_49, G_189_50, P_189_50, G_189_51, P_189_51, G_189_52, G_189_53, P_189_53, G_189_54, P_189_54, R_189, S_190, A_190, N_190, S_191, A_191, N_191, S_192, A_192, N_192, S_193, A_193, N_193, S_194, A_194, N_194, S_195, A_195, N_195, S_196, A_196, N_196, S_197, A_197, N_197, S_198, A_198, N_198, S_199, A_199, N_199, S_200, A_200, N_200, S_201, A_201, N_201, S_202, A_202, N_202, S_203, A_203, N_203, S_204, A_204, N_204, S_205, A_205, N_205, S_206, A_206, N_206, S_207, A_207, N_207, S_208, A_208, N_208, S_209, A_209, N_209, S_210, A_210, N_210, S_211, A_211, N_211, S_212, A_212, N_212, w_191, i0, c0, c1, nI_add, i3, r1, Int32.not_lt.mp h]
    · simp only [gX13_goesAway_L104, v_TM, v_seq, v_blk, v_lop, v_fgt, v_fg0, v_fg1, v_b0, v_b1, v_bn, v_bi, v_c0, v_c1, v_c2, v_cn, v_ci, v_st0, v_st1, v_stn, v_iadd, v_isub, v_imul, v_iand, v_ior, v_ixor, v_ishl, v_ishr, v_ladd, v_lsub, v_lmul, v_lor, v_land, v_ineg, v_lneg, v_lcmp, v_lshl, v_i2l, v_l2i, v_i2b, v_i2c, v_i2f, v_i2d, v_idiv, v_irem, v_ldiv, v_lrem, v_iconst, v_bipush, v_sipush, v_lconst0, v_lconst1, v_null, v_fconst0, v_dconst0, v_ldcS, v_dupi, v_dupr, v_pop, v_dup2, vI_i, vL_l, vA_r, vA_n, vInc_i, v_iload_n0, v_iload_n1, v_iload_n2, v_iload_n3, v_iload, v_lload_n0, v_lload_n1, v_lload_n2, v_lload_n3, v_lload, v_dload_n0, v_dload_n1, v_dload_n2, v_dload_n3, v_dload, v_aload_n0, v_aload_n1, v_aload_n2, v_aload_n3, v_aload, v_at0, v_ok0, v_at1, v_ok1, v_at2, v_ok2, v_at3, v_ok3, v_at4, v_ok4, v_at5, v_ok5, v_at6, v_ok6, v_at7, v_ok7, v_at8, v_ok8, v_at9, v_ok9, v_at10, v_ok10, v_at11, v_ok11, v_at12, v_ok12, v_at13, v_ok13, v_at14, v_ok14, v_at15, v_ok15, v_c2i, v_c2l, v_c2r, v_c2n, v_c2j, v_istore_n0, v_astore_n0, v_istore_n1, v_astore_n1, v_istore_n2, v_astore_n2, v_istore_n3, v_astore_n3, v_istore, v_astore, v_lstore_n0, v_lstore_n1, v_lstore_n2, v_lstore_n3, v_lstore, v_iinc, v_if_eq, v_if_ne, v_if_lt, v_if_ge, v_if_gt, v_if_le, v_icmp_eq, v_icmp_ne, v_icmp_lt, v_icmp_ge, v_icmp_gt, v_icmp_le, v_ifnull0, v_ifnull1, v_ifnonnull0, v_ifnonnull1, v_goto, v_ireturn, v_lreturn, v_areturn, v_areturn0, v_return, v_throw, v_throwW, v_table, v_cs0, v_csi, v_csl, v_csr, v_an0, v_an1, v_ani, v_call0, v_call1, v_call2, v_call3, v_call4, v_call5, v_call6, v_call7, v_rI, v_fin, v_finX, v_fini, v_ro0, v_roi, v_rol, v_rob0, v_rob1, v_roo, v_roon, v_kbm99, v_kbm64, v_kbm8, v_kbm5, v_kb6, v_kb7, v_kb8, v_kb9, v_kb10, v_kb12, v_kb14, v_kb19, v_kb20, v_kb24, v_kb25, v_kb30, v_kb31, v_kb32, v_kb37, v_kb40, v_kb41, v_kb45, v_kb48, v_kb50, v_kb57, v_kb59, v_kb60, v_kb63, v_kb64, v_kb97, v_kb99, v_kb112, v_kb114, v_kb122, v_kim8, v_kim1, v_ki0, v_ki1, v_ki2, v_ki3, v_ki4, v_ki5, v_ksm9999, v_ksm256, v_ks128, v_ks199, v_ks200, v_ks255, v_ks256, v_ks400, v_ks457, v_ks1000, v_ks1024, v_ks2742, v_ks9999, v_ks10000, v_ld, v_st, v_ldc2_RX7_142, v_ldc2_RX7_144, v_ldc2_RX7_146, v_ldc2_RX7_148, v_ldc2_RX7_154, v_ldc2_RX7_163, v_ldc2_RX3_81, v_ldc2_RX7_207, v_ldc2_RX7_209, v_ldc2_RX13_190, v_ldc2_RX13_212, v_ldc2_RX13_218, v_ldc2_RX13_220, v_ldc2_RX13_254, v_ldc2_RX13_256, v_ldc2_RX13_287, v_ldc2_RX13_297, v_ldc2_RX13_302, v_ldc2_RX13_323, v_ldc2_RX13_343, v_ldc2_RX13_345, v_ldc2_RX13_351, v_ldc2_RX13_374, v_ldc2_RX13_400, v_ldc2_RX13_402, v_ldc2_RX13_413, v_ldc2_RX13_439, v_ldc2_RX13_461, v_ldc2_RX13_481, v_ldc2_RX13_486, v_ldc2_RX13_488, v_ldc2_RX13_490, v_ldc2_RX13_492, v_ldc2_RX13_494, v_ldc2_RX13_496, v_ldc2_RX13_498, v_ldc2_RX13_500, if_true, if_false, Bool.not_false, Bool.not_true, Nat.reduceEqDiff, Nat.reduceLeDiff, Nat.reduceLT, Nat.reduceAdd, Nat.reduceMul, Nat.reduceSub, and_self, and_true, true_and, and_false, false_and, Bool.false_eq_true, not_true_eq_false, not_false_eq_true, ite_self, v_robb, v_rob0, v_rob1, List.nil_append, G_189_0, P_189_0, G_189_1, G_189_2, P_189_2, G_189_3, P_189_3, G_189_4, P_189_4, G_189_5, P_189_5, G_189_6, P_189_6, G_189_7, P_189_7, G_189_8, P_189_8, G_189_9, P_189_9, G_189_10, P_189_10, G_189_11, P_189_11, G_189_12, P_189_12, G_189_13, G_189_14, G_189_15, G_189_16, G_189_17, G_189_18, P_189_18, G_189_19, P_189_19, G_189_20, G_189_21, G_189_22, P_189_22, G_189_23, P_189_23, G_189_24, P_189_24, G_189_25, P_189_25, G_189_26, P_189_26, G_189_27, G_189_28, G_189_29, G_189_30, G_189_31, G_189_32, P_189_32, G_189_33, P_189_33, G_189_34, P_189_34, G_189_35, P_189_35, G_189_36, P_189_36, G_189_37, P_189_37, G_189_38, G_189_39, P_189_39, G_189_40, P_189_40, G_189_41, G_189_42, G_189_43, G_189_44, G_189_45, G_189_46, G_189_47, G_189_48, P_189_48, G_189_49, P_189_49, G_189_50, P_189_50, G_189_51, P_189_51, G_189_52, G_189_53, P_189_53, G_189_54, P_189_54, R_189, S_190, A_190, N_190, S_191, A_191, N_191, S_192, A_192, N_192, S_193, A_193, N_193, S_194, A_194, N_194, S_195, A_195, N_195, S_196, A_196, N_196, S_197, A_197, N_197, S_198, A_198, N_198, S_199, A_199, N_199, S_200, A_200, N_200, S_201, A_201, N_201, S_202, A_202, N_202, S_203, A_203, N_203, S_204, A_204, N_204, S_205, A_205, N_205, S_206, A_206, N_206, S_207, A_207, N_207, S_208, A_208, N_208, S_209, A_209, N_209, S_210, A_210, N_210, S_211, A_211, N_211, S_212, A_212, N_212, w_191, i0, c0, show (nI m ≤ nI m) = True from eq_true (Int32.le_refl _)]
  simp only [kX13_goesAway, gX13_goesAway, v_TM, v_seq, v_blk, v_lop, v_fgt, v_fg0, v_fg1, v_b0, v_b1, v_bn, v_bi, v_c0, v_c1, v_c2, v_cn, v_ci, v_st0, v_st1, v_stn, v_iadd, v_isub, v_imul, v_iand, v_ior, v_ixor, v_ishl, v_ishr, v_ladd, v_lsub, v_lmul, v_lor, v_land, v_ineg, v_lneg, v_lcmp, v_lshl, v_i2l, v_l2i, v_i2b, v_i2c, v_i2f, v_i2d, v_idiv, v_irem, v_ldiv, v_lrem, v_iconst, v_bipush, v_sipush, v_lconst0, v_lconst1, v_null, v_fconst0, v_dconst0, v_ldcS, v_dupi, v_dupr, v_pop, v_dup2, vI_i, vL_l, vA_r, vA_n, vInc_i, v_iload_n0, v_iload_n1, v_iload_n2, v_iload_n3, v_iload, v_lload_n0, v_lload_n1, v_lload_n2, v_lload_n3, v_lload, v_dload_n0, v_dload_n1, v_dload_n2, v_dload_n3, v_dload, v_aload_n0, v_aload_n1, v_aload_n2, v_aload_n3, v_aload, v_at0, v_ok0, v_at1, v_ok1, v_at2, v_ok2, v_at3, v_ok3, v_at4, v_ok4, v_at5, v_ok5, v_at6, v_ok6, v_at7, v_ok7, v_at8, v_ok8, v_at9, v_ok9, v_at10, v_ok10, v_at11, v_ok11, v_at12, v_ok12, v_at13, v_ok13, v_at14, v_ok14, v_at15, v_ok15, v_c2i, v_c2l, v_c2r, v_c2n, v_c2j, v_istore_n0, v_astore_n0, v_istore_n1, v_astore_n1, v_istore_n2, v_astore_n2, v_istore_n3, v_astore_n3, v_istore, v_astore, v_lstore_n0, v_lstore_n1, v_lstore_n2, v_lstore_n3, v_lstore, v_iinc, v_if_eq, v_if_ne, v_if_lt, v_if_ge, v_if_gt, v_if_le, v_icmp_eq, v_icmp_ne, v_icmp_lt, v_icmp_ge, v_icmp_gt, v_icmp_le, v_ifnull0, v_ifnull1, v_ifnonnull0, v_ifnonnull1, v_goto, v_ireturn, v_lreturn, v_areturn, v_areturn0, v_return, v_throw, v_throwW, v_table, v_cs0, v_csi, v_csl, v_csr, v_an0, v_an1, v_ani, v_call0, v_call1, v_call2, v_call3, v_call4, v_call5, v_call6, v_call7, v_rI, v_fin, v_finX, v_fini, v_ro0, v_roi, v_rol, v_rob0, v_rob1, v_roo, v_roon, v_kbm99, v_kbm64, v_kbm8, v_kbm5, v_kb6, v_kb7, v_kb8, v_kb9, v_kb10, v_kb12, v_kb14, v_kb19, v_kb20, v_kb24, v_kb25, v_kb30, v_kb31, v_kb32, v_kb37, v_kb40, v_kb41, v_kb45, v_kb48, v_kb50, v_kb57, v_kb59, v_kb60, v_kb63, v_kb64, v_kb97, v_kb99, v_kb112, v_kb114, v_kb122, v_kim8, v_kim1, v_ki0, v_ki1, v_ki2, v_ki3, v_ki4, v_ki5, v_ksm9999, v_ksm256, v_ks128, v_ks199, v_ks200, v_ks255, v_ks256, v_ks400, v_ks457, v_ks1000, v_ks1024, v_ks2742, v_ks9999, v_ks10000, v_ld, v_st, v_ldc2_RX7_142, v_ldc2_RX7_144, v_ldc2_RX7_146, v_ldc2_RX7_148, v_ldc2_RX7_154, v_ldc2_RX7_163, v_ldc2_RX3_81, v_ldc2_RX7_207, v_ldc2_RX7_209, v_ldc2_RX13_190, v_ldc2_RX13_212, v_ldc2_RX13_218, v_ldc2_RX13_220, v_ldc2_RX13_254, v_ldc2_RX13_256, v_ldc2_RX13_287, v_ldc2_RX13_297, v_ldc2_RX13_302, v_ldc2_RX13_323, v_ldc2_RX13_343, v_ldc2_RX13_345, v_ldc2_RX13_351, v_ldc2_RX13_374, v_ldc2_RX13_400, v_ldc2_RX13_402, v_ldc2_RX13_413, v_ldc2_RX13_439, v_ldc2_RX13_461, v_ldc2_RX13_481, v_ldc2_RX13_486, v_ldc2_RX13_488, v_ldc2_RX13_490, v_ldc2_RX13_492, v_ldc2_RX13_494, v_ldc2_RX13_496, v_ldc2_RX13_498, v_ldc2_RX13_500, if_true, if_false, Bool.not_false, Bool.not_true, Nat.reduceEqDiff, Nat.reduceLeDiff, Nat.reduceLT, Nat.reduceAdd, Nat.reduceMul, Nat.reduceSub, and_self, and_true, true_and, and_false, false_and, Bool.false_eq_true, not_true_eq_false, not_false_eq_true, ite_self, v_robb, v_rob0, v_rob1, List.nil_append, G_189_0, P_189_0, G_189_1, G_189_2, P_189_2, G_189_3, P_189_3, G_189_4, P_189_4, G_189_5, P_189_5, G_189_6, P_189_6, G_189_7, P_189_7, G_189_8, P_189_8, G_189_9, P_189_9, G_189_10, P_189_10, G_189_11, P_189_11, G_189_12, P_189_12, G_189_13, G_189_14, G_189_15, G_189_16, G_189_17, G_189_18, P_189_18, G_189_19, P_189_19, G_189_20, G_189_21, G_189_22, P_189_22, G_189_23, P_189_23, G_189_24, P_189_24, G_189_25, P_189_25, G_189_26, P_189_26, G_189_27, G_189_28, G_189_29, G_189_30, G_189_31, G_189_32, P_189_32, G_189_33, P_189_33, G_189_34, P_189_34, G_189_35, P_189_35, G_189_36, P_189_36, G_189_37, P_189_37, G_189_38, G_189_39, P_189_39, G_189_40, P_189_40, G_189_41, G_189_42, G_189_43, G_189_44, G_189_45, G_189_46, G_189_47, G_189_48, P_189_48, G_189_49, P_189_49, G_189_50, P_189_50, G_189_51, P_189_51, G_189_52, G_189_53, P_189_53, G_189_54, P_189_54, R_189, S_190, A_190, N_190, S_191, A_191, N_191, S_192, A_192, N_192, S_193, A_193, N_193, S_194, A_194, N_194, S_195, A_195, N_195, S_196, A_196, N_196, S_197, A_197, N_197, S_198, A_198, N_198, S_199, A_199, N_199, S_200, A_200, N_200, S_201, A_201, N_201, S_202, A_202, N_202, S_203, A_203, N_203, S_204, A_204, N_204, S_205, A_205, N_205, S_206, A_206, N_206, S_207, A_207, N_207, S_208, A_208, N_208, S_209, A_209, N_209, S_210, A_210, N_210, S_211, A_211, N_211, S_212, A_212, N_212, w_191, i0, h0, e1, w_si, eA, hl, a0, nI_add, iM, u0, b2, hl2]
  rfl
/-- pairs behind it -/
theorem dc_m1 : ∀ g, g < 6 → dcI g (-nI 1) = -nI 1 := by decide
theorem dc_n {g m : Nat} (hg : g < 100) (hm : m < 100) : dcI g (nI m) = if g < m then nI (m - 1) else nI m := by
  unfold dcI
  by_cases h : g < m
  · rw [if_pos (nI_lt h (by omega)), if_pos h]
    exact pk_sub (by omega)
  · rw [if_neg (nI_nlt (by omega) (by omega)), if_neg h]
theorem gaS_PR {s : Row} {n g : Nat} (hn : n ≤ 6) (hg : g < n) (hPR : PR n s) (ha : s (31 + g) = -nI 1) : PR (n - 1) (gaS s n g) ∧ ∀ q, q < n - 1 → rol (gaS s n g) q = rol s (gq g q) := by
  have key : ∀ q, q < n - 1 → (s (31 + gq g q) = -nI 1 ∧ gaS s n g (31 + q) = -nI 1) ∨ (q + 1 < n - 1 ∧ gq g (q + 1) = gq g q + 1 ∧ s (31 + gq g q) = nI (gq g q + 1) ∧ gaS s n g (31 + q) = nI (q + 1) ∧ gaS s n g (31 + (q + 1)) = nI q ∧ nI 1 ≤ s (25 + gq g q)) ∨ (1 ≤ q ∧ 1 ≤ gq g q ∧ s (31 + gq g q) = nI (gq g q - 1) ∧ gaS s n g (31 + q) = nI (q - 1) ∧ gaS s n g (31 + (q - 1)) = nI q) := by
    intro q hq
    rw [gaS_p hn hg hq]
    have hgq : gq g q < n := by unfold gq; split <;> omega
    rcases hPR (gq g q) hgq with z | z | z
    · left
      rw [z]
      exact ⟨rfl, dc_m1 g (by omega)⟩
    · right; left
      have n1 : gq g q ≠ g := by unfold gq; split <;> omega
      have n2 : gq g q + 1 ≠ g := fun e => by
        have := z.2.2.1
        rw [e, ha] at this
        exact nI_m1 (by omega) this.symm
      have e2 : gq g (q + 1) = gq g q + 1 := by
        unfold gq at n1 n2 ⊢
        split at n2 <;> split <;> omega
      have hq1 : q + 1 < n - 1 := by
        unfold gq at e2 z n2
        by_cases h : q < g
        · rw [if_pos h] at n2; omega
        · rw [if_neg h] at z; omega
      refine ⟨hq1, e2, z.2.1, ?_, ?_, z.2.2.2⟩
      · rw [z.2.1, dc_n (by omega) (by omega)]
        unfold gq at n2 ⊢
        by_cases h : q < g
        · rw [if_pos h] at n2 ⊢
          rw [if_neg (by omega)]
        · rw [if_neg h, if_pos (by omega)]
          rfl
      · rw [gaS_p hn hg hq1, e2, z.2.2.1, dc_n (by omega) (by omega)]
        unfold gq
        by_cases h : q < g
        · rw [if_pos h, if_neg (by omega)]
        · rw [if_neg h, if_pos (by omega)]
          rfl
    · right; right
      have n1 : gq g q ≠ g := by unfold gq; split <;> omega
      have n2 : gq g q - 1 ≠ g := fun e => by
        have := z.2.2
        rw [e, ha] at this
        exact nI_m1 (by omega) this.symm
      have hq1 : 1 ≤ q := by
        unfold gq at n2 z
        by_cases h : q < g
        · rw [if_pos h] at z; exact z.1
        · rw [if_neg h] at n2 z
          refine Classical.byContradiction fun w => ?_
          omega
      have e2 : gq g (q - 1) = gq g q - 1 := by
        unfold gq at n1 n2 ⊢
        split at n2 <;> split <;> omega
      refine ⟨hq1, z.1, z.2.1, ?_, ?_⟩
      · rw [z.2.1, dc_n (by omega) (by omega)]
        unfold gq at n2 ⊢
        by_cases h : q < g
        · rw [if_pos h, if_neg (by omega)]
        · rw [if_neg h] at n2 ⊢
          rw [if_pos (by omega)]
          rfl
      · rw [gaS_p hn hg (by omega), e2, z.2.2, dc_n (by omega) (by omega)]
        unfold gq
        by_cases h : q < g
        · rw [if_pos h, if_neg (by omega)]
        · rw [if_neg h, if_pos (by omega)]
          rfl
  refine ⟨fun q hq => ?_, fun q hq => ?_⟩
  · rcases key q hq with z | z | z
    · exact Or.inl z.2
    · exact Or.inr (Or.inl ⟨z.1, z.2.2.2.1, z.2.2.2.2.1, by rw [gaS_y hn hg hq]; exact z.2.2.2.2.2⟩)
    · exact Or.inr (Or.inr ⟨z.1, z.2.2.2.1, z.2.2.2.2⟩)
  · have hgq : gq g q < n := by unfold gq; split <;> omega
    unfold rol
    rcases key q hq with z | z | z
    · rw [z.1, z.2, if_pos rfl, if_pos rfl]
    · rw [z.2.2.1, z.2.2.2.1, if_neg (nI_m1 (by omega)), if_neg (nI_m1 (by omega)), if_pos rfl, if_pos rfl]
    · rw [z.2.2.1, z.2.2.2.1, if_neg (nI_m1 (by omega)), if_neg (nI_m1 (by omega)), if_neg (by rw [nI_eq (by omega) (by omega)]; omega), if_neg (by rw [nI_eq (by omega) (by omega)]; omega)]
