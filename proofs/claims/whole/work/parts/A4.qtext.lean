/-! ===== reading a text: class against model ===== -/
theorem WS.back {I I' : Nat → Nat → Int32} {B B' : Nat} (h : WS I B) (hk : ∀ k i, wkS k i → k ≠ 191 → I' k i = I k i) (h191 : ∀ j, j < 457 → I' 191 j = I 191 j) (hB : B ≤ B') : WS I' B' := by
  have kf : ∀ k, (1 < k ∧ k < 17) ∨ (39 < k ∧ k < 55) ∨ (75 ≤ k ∧ k < 189) ∨ k = 192 ∨ k = 193 → I' k = I k := fun k hk2 => by
    funext i
    refine hk k i ?_ (by omega)
    unfold wkS
    omega
  have k1 : ∀ k i, wkS k i → k ≠ 191 → I' k i = I k i := hk
  obtain ⟨h1, ⟨h2, h3⟩, u, pn, hu, hpn, h5, h6, h7, h8⟩ := h
  refine ⟨h1.keep (fun k a b => kf k (by omega)) (k1 1 5 (by unfold wkS; omega) (by decide)) h191 hB, ⟨?_, ?_⟩, u, pn, hu, hpn, ?_, ?_, ?_, fun j hj => ?_⟩
  · rw [k1 0 3 (by unfold wkS; omega) (by decide), k1 189 19 (by unfold wkS; omega) (by decide)]; exact h2
  · rw [k1 189 19 (by unfold wkS; omega) (by decide)]
    rcases h3 with z | z
    · exact Or.inl z
    · exact Or.inr ⟨z.1, z.2.keep (fun k a b => kf k (by omega)) (k1 39 5 (by unfold wkS; omega) (by decide)) (fun j _ => by rw [kf 192 (by omega)]) hB⟩
  · rw [k1 0 5 (by unfold wkS; omega) (by decide)]; exact h5
  · rw [k1 0 6 (by unfold wkS; omega) (by decide)]; exact h6
  · rw [k1 189 18 (by unfold wkS; omega) (by decide)]; exact h7
  · have hm : (pn + 6 - u + j) % 6 < 6 := Nat.mod_lt _ (by decide)
    exact (h8 j hj).keep (fun k a b => kf k (by omega)) (by rw [kf _ (by omega)]) (fun i _ => by rw [kf 193 (by omega)]) hB
/-- the state is another, the past is gone, the saved stays -/
theorem WS.fresh {I I' : Nat → Nat → Int32} {B B' : Nat} (h : WS I B) (hk : ∀ k i, (39 < k ∧ k < 55) ∨ (k = 39 ∧ i = 5) ∨ k = 192 ∨ (k = 0 ∧ (i = 3 ∨ i = 5)) ∨ (k = 189 ∧ i = 19) → I' k i = I k i) (h0 : St I' 1 (I' 191) B') (h6 : I' 0 6 = nI 0) (h7 : I' 189 18 = nI 0) (hB : B ≤ B') : WS I' B' := by
  obtain ⟨-, ⟨h2, h3⟩, u, pn, hu, hpn, h5, -, -, -⟩ := h
  have k1 : ∀ k i, (39 < k ∧ k < 55) ∨ (k = 39 ∧ i = 5) ∨ k = 192 ∨ (k = 0 ∧ (i = 3 ∨ i = 5)) ∨ (k = 189 ∧ i = 19) → I' k i = I k i := hk
  refine ⟨h0, ⟨?_, ?_⟩, 0, pn, by omega, hpn, ?_, h6, h7, fun j hj => absurd hj (Nat.not_lt_zero j)⟩
  · rw [k1 0 3 (by omega), k1 189 19 (by omega)]; exact h2
  · rw [k1 189 19 (by omega)]
    rcases h3 with z | z
    · exact Or.inl z
    · exact Or.inr ⟨z.1, z.2.keep (fun k a b => funext fun i => k1 k i (by omega)) (k1 39 5 (by omega)) (fun j _ => k1 192 j (by omega)) hB⟩
  · rw [k1 0 5 (by omega)]; exact h5
theorem WR.keep {I I' : Nat → Nat → Int32} (h : WR I) (hk : ∀ k i, (k = 0 ∧ i = 14) ∨ (k = 189 ∧ (i = 53 ∨ i = 54)) ∨ k = 74 ∨ k = 211 → I' k i = I k i) : WR I' := by
  have k1 : ∀ k i, (k = 0 ∧ i = 14) ∨ (k = 189 ∧ (i = 53 ∨ i = 54)) ∨ k = 74 ∨ k = 211 → I' k i = I k i := hk
  obtain ⟨rl, c1, c2, c3, c4⟩ := h
  refine ⟨rl, c1, ?_, ?_, fun i hi => ?_⟩
  · rw [k1 0 14 (by omega)]; exact c2
  · rw [k1 189 54 (by omega), k1 189 53 (by omega)]; exact c3
  · rw [k1 74 i (by omega), k1 211 i (by omega)]; exact c4 i hi
set_option maxHeartbeats 4000000 in
theorem q_readText {B : Nat} (t : Nat × Nat × Bool) (I : Nat → Nat → Int32) (L : Nat → Nat → Int64) (V : Nat → Option Nat) (hW : WW I B) : QT mX12_readText mX13_readText ["java/lang/IllegalArgumentException"] [] [] t I L V (B + 1000) := by
  obtain ⟨hS, ⟨len, l1, l2, l3, l4⟩, hE, hR⟩ := id hW
  have hbuf : ∃ buf : Nat → Nat, ∀ i, i < len → buf i < 256 ∧ I 190 i = nI (buf i) ∧ I 66 i &&& nI 255 = nI (buf i) :=
    ⟨fun i => if h : i < len then Classical.choose (l4 i h) else 0, fun i hi => by
      have e := Classical.choose_spec (l4 i hi)
      simp only [dif_pos hi]
      exact e⟩
  obtain ⟨buf, hbuf⟩ := hbuf
  have hBC : BC buf len I := ⟨l2, l1, fun i hi => ⟨(hbuf i hi).1, (hbuf i hi).2.2⟩⟩
  obtain ⟨N, hN⟩ := py_ex buf len (tkE buf len 0)
  obtain ⟨I1, K, hK, c0, F, fin⟩ := c_reads hN (I 191) t I L V hBC
  have h7 := hN.1
  rcases fin with ⟨g1, g2, g3, g4, g5, g6⟩ | ⟨g1, g2, g3⟩
  · rw [decide_eq_true g1, slT] at c0
    have C1 : CS (si I1 65 0 (nI 0)) 20 (N - 1) 0 (N - 1) (rdI buf len (N - 1) (rdO buf len N (I 191)) K).2.1 := g5.keep (fun k h1 h2 => si_n (by omega)) (by rw [si_n (by decide)]) (by omega) (by decide)
    have C2 := CS_cp (b := 1) (by omega) (by omega) (by omega) C1
    generalize hJ : si (cSt (si I1 65 0 (nI 0)) 1 20) 0 6 (nI 0) = J
    have C3 : CS J 1 (N - 1) 0 (N - 1) (rdI buf len (N - 1) (rdO buf len N (I 191)) K).2.1 := C2.keep (fun k h1 h2 => by rw [← hJ]; exact si_n (by omega)) (by rw [← hJ, si_n (by decide)]) (by omega) (by decide)
    have jn : ∀ k i, (k = 0 ∨ 17 ≤ k) → ¬ (k = 0 ∧ i = 6) → ¬ (k = 65 ∧ i = 0) → J k i = I1 k i := fun k i a b c => by
      rw [← hJ, si_eq, if_neg b, cSt_n (by omega), si_eq, if_neg c]
    have jF : ∀ k i, (k = 0 ∨ (17 ≤ k ∧ k < 20) ∨ 36 ≤ k) → ¬ (k = 0 ∧ i = 6) → ¬ (k = 65 ∧ i < 8) → ¬ (k = 67 ∧ i = 0) → J k i = I k i := fun k i a b c d => by
      rw [jn k i (by omega) b (by omega)]
      exact F k i (by omega) (by omega) d
    have hdg : J 4 0 = nI (N - 1) := C3.2.1.1.trans g6.1.1
    have c : eCall mX12_readText [.ref 0] (mM t I L V) = some (.inl (some (.int (nI (N - 1)))), mM t J L V) := by
      simp only [kX12_readText, gX12_readText, v_TM, v_seq, v_blk, v_lop, v_fgt, v_fg0, v_fg1, v_b0, v_b1, v_bn, v_bi, v_c0, v_c1, v_c2, v_cn, v_ci, v_st0, v_st1, v_stn, v_iadd, v_isub, v_imul, v_iand, v_ior, v_ixor, v_ishl, v_ishr, v_ladd, v_lsub, v_lmul, v_lor, v_land, v_ineg, v_lneg, v_lcmp, v_lshl, v_i2l, v_l2i, v_i2b, v_i2c, v_i2f, v_i2d, v_idiv, v_irem, v_ldiv, v_lrem, v_iconst, v_bipush, v_sipush, v_lconst0, v_lconst1, v_null, v_fconst0, v_dconst0, v_ldcS, v_dupi, v_dupr, v_pop, v_dup2, vI_i, vL_l, vA_r, vA_n, vInc_i, v_iload_n0, v_iload_n1, v_iload_n2, v_iload_n3, v_iload, v_lload_n0, v_lload_n1, v_lload_n2, v_lload_n3, v_lload, v_dload_n0, v_dload_n1, v_dload_n2, v_dload_n3, v_dload, v_aload_n0, v_aload_n1, v_aload_n2, v_aload_n3, v_aload, v_at0, v_ok0, v_at1, v_ok1, v_at2, v_ok2, v_at3, v_ok3, v_at4, v_ok4, v_at5, v_ok5, v_at6, v_ok6, v_at7, v_ok7, v_at8, v_ok8, v_at9, v_ok9, v_at10, v_ok10, v_at11, v_ok11, v_at12, v_ok12, v_at13, v_ok13, v_at14, v_ok14, v_at15, v_ok15, v_c2i, v_c2l, v_c2r, v_c2n, v_c2j, v_istore_n0, v_astore_n0, v_istore_n1, v_astore_n1, v_istore_n2, v_astore_n2, v_istore_n3, v_astore_n3, v_istore, v_astore, v_lstore_n0, v_lstore_n1, v_lstore_n2, v_lstore_n3, v_lstore, v_iinc, v_if_eq, v_if_ne, v_if_lt, v_if_ge, v_if_gt, v_if_le, v_icmp_eq, v_icmp_ne, v_icmp_lt, v_icmp_ge, v_icmp_gt, v_icmp_le, v_ifnull0, v_ifnull1, v_ifnonnull0, v_ifnonnull1, v_goto, v_ireturn, v_lreturn, v_areturn, v_areturn0, v_return, v_throw, v_throwW, v_table, v_cs0, v_csi, v_csl, v_csr, v_an0, v_an1, v_ani, v_call0, v_call1, v_call2, v_call3, v_call4, v_call5, v_call6, v_call7, v_rI, v_fin, v_finX, v_fini, v_ro0, v_roi, v_rol, v_rob0, v_rob1, v_roo, v_roon, v_kbm99, v_kbm64, v_kbm8, v_kbm5, v_kb6, v_kb7, v_kb8, v_kb9, v_kb10, v_kb12, v_kb14, v_kb19, v_kb20, v_kb24, v_kb25, v_kb30, v_kb31, v_kb32, v_kb37, v_kb40, v_kb41, v_kb45, v_kb48, v_kb50, v_kb57, v_kb59, v_kb60, v_kb63, v_kb64, v_kb97, v_kb99, v_kb112, v_kb114, v_kb122, v_kim8, v_kim1, v_ki0, v_ki1, v_ki2, v_ki3, v_ki4, v_ki5, v_ksm9999, v_ksm256, v_ks128, v_ks199, v_ks200, v_ks255, v_ks256, v_ks400, v_ks457, v_ks1000, v_ks1024, v_ks2742, v_ks9999, v_ks10000, v_ld, v_st, v_ldc2_RX7_142, v_ldc2_RX7_144, v_ldc2_RX7_146, v_ldc2_RX7_148, v_ldc2_RX7_154, v_ldc2_RX7_163, v_ldc2_RX3_81, v_ldc2_RX7_207, v_ldc2_RX7_209, v_ldc2_RX13_190, v_ldc2_RX13_212, v_ldc2_RX13_218, v_ldc2_RX13_220, v_ldc2_RX13_254, v_ldc2_RX13_256, v_ldc2_RX13_287, v_ldc2_RX13_297, v_ldc2_RX13_302, v_ldc2_RX13_323, v_ldc2_RX13_343, v_ldc2_RX13_345, v_ldc2_RX13_351, v_ldc2_RX13_374, v_ldc2_RX13_400, v_ldc2_RX13_402, v_ldc2_RX13_413, v_ldc2_RX13_439, v_ldc2_RX13_461, v_ldc2_RX13_481, v_ldc2_RX13_486, v_ldc2_RX13_488, v_ldc2_RX13_490, v_ldc2_RX13_492, v_ldc2_RX13_494, v_ldc2_RX13_496, v_ldc2_RX13_498, v_ldc2_RX13_500, if_true, if_false, Bool.not_false, Bool.not_true, Nat.reduceEqDiff, Nat.reduceLeDiff, Nat.reduceLT, Nat.reduceAdd, Nat.reduceMul, Nat.reduceSub, and_self, and_true, true_and, and_false, false_and, Bool.false_eq_true, not_true_eq_false, not_false_eq_true, ite_self, v_robb, v_rob0, v_rob1, List.nil_append, G_0_0, G_0_1, G_0_2, G_0_3, P_0_3, G_0_4, G_0_5, P_0_5, G_0_6, P_0_6, G_0_7, G_0_8, G_0_9, G_0_10, G_0_11, G_0_12, G_0_13, G_0_14, P_0_14, R_0, G_1_0, G_1_1, G_1_2, G_1_3, G_1_4, G_1_5, P_1_5, G_1_6, G_1_7, G_1_8, G_1_9, P_1_9, G_1_10, P_1_10, R_1, G_2_0, P_2_0, G_2_1, R_2, S_3, A_3, N_3, G_4_0, P_4_0, G_4_1, R_4, S_5, A_5, N_5, G_6_0, P_6_0, G_6_1, G_6_2, G_6_3, R_6, S_7, A_7, N_7, S_8, A_8, N_8, S_9, A_9, N_9, G_10_0, P_10_0, G_10_1, G_10_2, G_10_3, G_10_4, R_10, S_11, A_11, N_11, S_12, A_12, N_12, S_13, A_13, N_13, S_14, A_14, N_14, G_15_0, P_15_0, G_15_1, P_15_1, G_15_2, R_15, S_16, A_16, N_16, G_17_0, P_17_0, G_17_1, P_17_1, R_17, G_18_0, P_18_0, G_18_1, P_18_1, R_18, S_19, A_19, N_19, G_20_0, G_20_1, G_20_2, G_20_3, G_20_4, G_20_5, P_20_5, G_20_6, G_20_7, G_20_8, G_20_9, P_20_9, G_20_10, P_20_10, R_20, G_21_0, P_21_0, G_21_1, R_21, S_22, A_22, N_22, G_23_0, P_23_0, G_23_1, R_23, S_24, A_24, N_24, G_25_0, P_25_0, G_25_1, G_25_2, G_25_3, R_25, S_26, A_26, N_26, S_27, A_27, N_27, S_28, A_28, N_28, G_29_0, P_29_0, G_29_1, G_29_2, G_29_3, G_29_4, R_29, S_30, A_30, N_30, S_31, A_31, N_31, S_32, A_32, N_32, S_33, A_33, N_33, G_34_0, P_34_0, G_34_1, P_34_1, G_34_2, R_34, S_35, A_35, N_35, G_36_0, P_36_0, G_36_1, P_36_1, R_36, G_37_0, P_37_0, G_37_1, P_37_1, R_37, S_38, A_38, N_38, A_58, N_58, G_59_0, P_59_0, G_59_1, G_59_2, G_59_3, R_59, S_60, A_60, N_60, S_61, A_61, N_61, G_62_0, P_62_0, G_62_1, P_62_1, R_62, G_63_0, P_63_0, G_63_1, P_63_1, R_63, S_64, A_64, N_64, G_65_0, P_65_0, G_65_1, G_65_2, P_65_2, G_65_3, P_65_3, G_65_4, P_65_4, G_65_5, P_65_5, G_65_6, P_65_6, G_65_7, P_65_7, R_65, S_66, A_66, N_66, G_67_0, P_67_0, R_67, G_68_0, P_68_0, G_68_1, P_68_1, G_68_2, P_68_2, G_68_3, G_68_4, G_68_5, G_68_6, G_68_7, R_68, A_69, N_69, S_70, A_70, N_70, S_71, A_71, N_71, S_72, A_72, N_72, S_73, A_73, N_73, S_74, A_74, N_74, c0, show (nI 1 = nI 0) = False by decide, c_cp_1_20, c_forgetUndos, hJ, hdg]
    have j191 : J 191 = I 191 := funext fun i => jF 191 i (by omega) (by omega) (by omega) (by omega)
    obtain ⟨I2, L2, y, m0, -, FU, m2, mfin⟩ := m_readText (N := N) (K := K) l1 hN t J L V (by rw [jF 189 2 (by omega) (by omega) (by omega) (by omega)]; exact l3) (fun i hi => ⟨(hbuf i hi).1, by rw [jF 190 i (by omega) (by omega) (by omega) (by omega)]; exact (hbuf i hi).2.1⟩) (by rw [j191]; exact hK)
    rw [j191] at mfin
    rcases mfin with ⟨-, rfl, n1, n2, n3, n4, n5⟩ | ⟨z, -⟩
    · refine QT_ok (x := .int (nI (N - 1))) (L2 := L2) (V2 := V) c m0 ⟨?_, ⟨0, by omega, ?_, m2, fun i hi => absurd hi (Nat.not_lt_zero i)⟩, ⟨?_, ?_⟩, ?_⟩ n5
      · refine hS.fresh (fun k i z => ?_) ⟨N - 1, N - 1, 0, N - 1, by omega, ?_, ?_⟩ ?_ n2 (by omega)
        · rw [FU k i (by omega) (by omega) (by omega)]
          exact jF k i (by omega) (by omega) (by omega) (by omega)
        · rw [n1]; exact g6.iv
        · rw [n1]
          exact C3.keep (fun k a b => funext fun i => FU k i (by omega) (by omega) (by omega)) (FU 1 5 (by omega) (by omega) (by omega)) (by omega) (by omega)
        · rw [FU 0 6 (by omega) (by omega) (by omega), ← hJ, si_s]
      · rw [FU 65 0 (by omega) (by omega) (by omega), ← hJ, si_n (by decide), cSt_n (by omega), si_s]
      · rw [FU 65 4 (by omega) (by omega) (by omega), jn 65 4 (by omega) (by omega) (by omega), g2, n3]
      · rw [FU 65 5 (by omega) (by omega) (by omega), jn 65 5 (by omega) (by omega) (by omega), g3, n4]
      · exact hR.keep (fun k i z => by
          rw [FU k i (by omega) (by omega) (by omega)]
          exact jF k i (by omega) (by omega) (by omega) (by omega))
    · exact absurd g1 z
  · rw [decide_eq_false g1, slF] at c0
    generalize hJ : si I1 65 0 (nI 0) = J
    have jn : ∀ k i, ¬ (k = 65 ∧ i = 0) → J k i = I1 k i := fun k i a => by rw [← hJ, si_eq, if_neg a]
    have jF : ∀ k i, (k < 20 ∨ 36 ≤ k) → ¬ (k = 65 ∧ i < 8) → ¬ (k = 67 ∧ i = 0) → J k i = I k i := fun k i a c d => by
      rw [jn k i (by omega)]
      exact F k i (by omega) (by omega) d
    have c : eCall mX12_readText [.ref 0] (mM t I L V) = some (.inr "java/lang/IllegalArgumentException", mM (tT t) J L V) := by
      simp only [kX12_readText, gX12_readText, v_TM, v_seq, v_blk, v_lop, v_fgt, v_fg0, v_fg1, v_b0, v_b1, v_bn, v_bi, v_c0, v_c1, v_c2, v_cn, v_ci, v_st0, v_st1, v_stn, v_iadd, v_isub, v_imul, v_iand, v_ior, v_ixor, v_ishl, v_ishr, v_ladd, v_lsub, v_lmul, v_lor, v_land, v_ineg, v_lneg, v_lcmp, v_lshl, v_i2l, v_l2i, v_i2b, v_i2c, v_i2f, v_i2d, v_idiv, v_irem, v_ldiv, v_lrem, v_iconst, v_bipush, v_sipush, v_lconst0, v_lconst1, v_null, v_fconst0, v_dconst0, v_ldcS, v_dupi, v_dupr, v_pop, v_dup2, vI_i, vL_l, vA_r, vA_n, vInc_i, v_iload_n0, v_iload_n1, v_iload_n2, v_iload_n3, v_iload, v_lload_n0, v_lload_n1, v_lload_n2, v_lload_n3, v_lload, v_dload_n0, v_dload_n1, v_dload_n2, v_dload_n3, v_dload, v_aload_n0, v_aload_n1, v_aload_n2, v_aload_n3, v_aload, v_at0, v_ok0, v_at1, v_ok1, v_at2, v_ok2, v_at3, v_ok3, v_at4, v_ok4, v_at5, v_ok5, v_at6, v_ok6, v_at7, v_ok7, v_at8, v_ok8, v_at9, v_ok9, v_at10, v_ok10, v_at11, v_ok11, v_at12, v_ok12, v_at13, v_ok13, v_at14, v_ok14, v_at15, v_ok15, v_c2i, v_c2l, v_c2r, v_c2n, v_c2j, v_istore_n0, v_astore_n0, v_istore_n1, v_astore_n1, v_istore_n2, v_astore_n2, v_istore_n3, v_astore_n3, v_istore, v_astore, v_lstore_n0, v_lstore_n1, v_lstore_n2, v_lstore_n3, v_lstore, v_iinc, v_if_eq, v_if_ne, v_if_lt, v_if_ge, v_if_gt, v_if_le, v_icmp_eq, v_icmp_ne, v_icmp_lt, v_icmp_ge, v_icmp_gt, v_icmp_le, v_ifnull0, v_ifnull1, v_ifnonnull0, v_ifnonnull1, v_goto, v_ireturn, v_lreturn, v_areturn, v_areturn0, v_return, v_throw, v_throwW, v_table, v_cs0, v_csi, v_csl, v_csr, v_an0, v_an1, v_ani, v_call0, v_call1, v_call2, v_call3, v_call4, v_call5, v_call6, v_call7, v_rI, v_fin, v_finX, v_fini, v_ro0, v_roi, v_rol, v_rob0, v_rob1, v_roo, v_roon, v_kbm99, v_kbm64, v_kbm8, v_kbm5, v_kb6, v_kb7, v_kb8, v_kb9, v_kb10, v_kb12, v_kb14, v_kb19, v_kb20, v_kb24, v_kb25, v_kb30, v_kb31, v_kb32, v_kb37, v_kb40, v_kb41, v_kb45, v_kb48, v_kb50, v_kb57, v_kb59, v_kb60, v_kb63, v_kb64, v_kb97, v_kb99, v_kb112, v_kb114, v_kb122, v_kim8, v_kim1, v_ki0, v_ki1, v_ki2, v_ki3, v_ki4, v_ki5, v_ksm9999, v_ksm256, v_ks128, v_ks199, v_ks200, v_ks255, v_ks256, v_ks400, v_ks457, v_ks1000, v_ks1024, v_ks2742, v_ks9999, v_ks10000, v_ld, v_st, v_ldc2_RX7_142, v_ldc2_RX7_144, v_ldc2_RX7_146, v_ldc2_RX7_148, v_ldc2_RX7_154, v_ldc2_RX7_163, v_ldc2_RX3_81, v_ldc2_RX7_207, v_ldc2_RX7_209, v_ldc2_RX13_190, v_ldc2_RX13_212, v_ldc2_RX13_218, v_ldc2_RX13_220, v_ldc2_RX13_254, v_ldc2_RX13_256, v_ldc2_RX13_287, v_ldc2_RX13_297, v_ldc2_RX13_302, v_ldc2_RX13_323, v_ldc2_RX13_343, v_ldc2_RX13_345, v_ldc2_RX13_351, v_ldc2_RX13_374, v_ldc2_RX13_400, v_ldc2_RX13_402, v_ldc2_RX13_413, v_ldc2_RX13_439, v_ldc2_RX13_461, v_ldc2_RX13_481, v_ldc2_RX13_486, v_ldc2_RX13_488, v_ldc2_RX13_490, v_ldc2_RX13_492, v_ldc2_RX13_494, v_ldc2_RX13_496, v_ldc2_RX13_498, v_ldc2_RX13_500, if_true, if_false, Bool.not_false, Bool.not_true, Nat.reduceEqDiff, Nat.reduceLeDiff, Nat.reduceLT, Nat.reduceAdd, Nat.reduceMul, Nat.reduceSub, and_self, and_true, true_and, and_false, false_and, Bool.false_eq_true, not_true_eq_false, not_false_eq_true, ite_self, v_robb, v_rob0, v_rob1, List.nil_append, G_0_0, G_0_1, G_0_2, G_0_3, P_0_3, G_0_4, G_0_5, P_0_5, G_0_6, P_0_6, G_0_7, G_0_8, G_0_9, G_0_10, G_0_11, G_0_12, G_0_13, G_0_14, P_0_14, R_0, G_1_0, G_1_1, G_1_2, G_1_3, G_1_4, G_1_5, P_1_5, G_1_6, G_1_7, G_1_8, G_1_9, P_1_9, G_1_10, P_1_10, R_1, G_2_0, P_2_0, G_2_1, R_2, S_3, A_3, N_3, G_4_0, P_4_0, G_4_1, R_4, S_5, A_5, N_5, G_6_0, P_6_0, G_6_1, G_6_2, G_6_3, R_6, S_7, A_7, N_7, S_8, A_8, N_8, S_9, A_9, N_9, G_10_0, P_10_0, G_10_1, G_10_2, G_10_3, G_10_4, R_10, S_11, A_11, N_11, S_12, A_12, N_12, S_13, A_13, N_13, S_14, A_14, N_14, G_15_0, P_15_0, G_15_1, P_15_1, G_15_2, R_15, S_16, A_16, N_16, G_17_0, P_17_0, G_17_1, P_17_1, R_17, G_18_0, P_18_0, G_18_1, P_18_1, R_18, S_19, A_19, N_19, G_20_0, G_20_1, G_20_2, G_20_3, G_20_4, G_20_5, P_20_5, G_20_6, G_20_7, G_20_8, G_20_9, P_20_9, G_20_10, P_20_10, R_20, G_21_0, P_21_0, G_21_1, R_21, S_22, A_22, N_22, G_23_0, P_23_0, G_23_1, R_23, S_24, A_24, N_24, G_25_0, P_25_0, G_25_1, G_25_2, G_25_3, R_25, S_26, A_26, N_26, S_27, A_27, N_27, S_28, A_28, N_28, G_29_0, P_29_0, G_29_1, G_29_2, G_29_3, G_29_4, R_29, S_30, A_30, N_30, S_31, A_31, N_31, S_32, A_32, N_32, S_33, A_33, N_33, G_34_0, P_34_0, G_34_1, P_34_1, G_34_2, R_34, S_35, A_35, N_35, G_36_0, P_36_0, G_36_1, P_36_1, R_36, G_37_0, P_37_0, G_37_1, P_37_1, R_37, S_38, A_38, N_38, A_58, N_58, G_59_0, P_59_0, G_59_1, G_59_2, G_59_3, R_59, S_60, A_60, N_60, S_61, A_61, N_61, G_62_0, P_62_0, G_62_1, P_62_1, R_62, G_63_0, P_63_0, G_63_1, P_63_1, R_63, S_64, A_64, N_64, G_65_0, P_65_0, G_65_1, G_65_2, P_65_2, G_65_3, P_65_3, G_65_4, P_65_4, G_65_5, P_65_5, G_65_6, P_65_6, G_65_7, P_65_7, R_65, S_66, A_66, N_66, G_67_0, P_67_0, R_67, G_68_0, P_68_0, G_68_1, P_68_1, G_68_2, P_68_2, G_68_3, G_68_4, G_68_5, G_68_6, G_68_7, R_68, A_69, N_69, S_70, A_70, N_70, S_71, A_71, N_71, S_72, A_72, N_72, S_73, A_73, N_73, S_74, A_74, N_74, c0, hJ]
    have j191 : J 191 = I 191 := funext fun i => jF 191 i (by omega) (by omega) (by omega)
    obtain ⟨I2, L2, y, m0, -, FU, m2, mfin⟩ := m_readText (N := N) (K := K) l1 hN (tT t) J L V (by rw [jF 189 2 (by omega) (by omega) (by omega)]; exact l3) (fun i hi => ⟨(hbuf i hi).1, by rw [jF 190 i (by omega) (by omega) (by omega)]; exact (hbuf i hi).2.1⟩) (by rw [j191]; exact hK)
    rw [j191] at mfin
    rcases mfin with ⟨z, -⟩ | ⟨-, rfl, n1, n2, n3, n4, n5⟩
    · exact absurd z g1
    · refine QT_th (k := 0) (x := .int (nI 0)) (L2 := L2) (V2 := V) rfl c m0 ⟨?_, ⟨0, by omega, ?_, m2, fun i hi => absurd hi (Nat.not_lt_zero i)⟩, ⟨?_, ?_⟩, ?_⟩ n5
      · refine hS.back (fun k i z h => ?_) n1 (by omega)
        by_cases g : k = 189 ∧ i = 18
        · obtain ⟨rfl, rfl⟩ := g
          rw [n2]
          exact jF 189 18 (by omega) (by omega) (by omega)
        · unfold wkS at z
          rw [FU k i (by omega) (by omega) (by omega)]
          exact jF k i (by omega) (by omega) (by omega)
      · rw [FU 65 0 (by omega) (by omega) (by omega), ← hJ, si_s]
      · rw [FU 65 4 (by omega) (by omega) (by omega), jn 65 4 (by omega), g2, n3]
      · rw [FU 65 5 (by omega) (by omega) (by omega), jn 65 5 (by omega), g3, n4]
      · exact hR.keep (fun k i z => by
          rw [FU k i (by omega) (by omega) (by omega)]
          exact jF k i (by omega) (by omega) (by omega))
