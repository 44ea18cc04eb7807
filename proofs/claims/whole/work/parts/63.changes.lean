/-! ===== the changes: class against model ===== -/
/-- a call of both, and what holds then -/
def QT (mc mm : eMt) (cs : List String) (ac am : List Value) (t : Nat × Nat × Bool) (I : Nat → Nat → Int32) (L : Nat → Nat → Int64) (V : Nat → Option Nat) (B' : Nat) : Prop := ∃ r y t1 I1 L1 V1 I2 L2 V2, eCall mc (.ref 0 :: ac) (mM t I L V) = some (r, mM t1 I1 L1 V1) ∧ eCall mm (.ref 189 :: am) (mM t1 I1 L1 V1) = some (.inl (some y), mM t1 I2 L2 V2) ∧ WW I2 B' ∧ ((r = .inl (some y) ∧ t1 = t ∧ I2 189 0 = nI 0) ∨ ∃ k X, cs[k]? = some X ∧ r = .inr X ∧ t1 = tT t ∧ I2 189 0 = nI (k + 1))
theorem QT_ok {mc mm : eMt} {cs : List String} {ac am : List Value} {t : Nat × Nat × Bool} {I I1 I2 : Nat → Nat → Int32} {L L1 L2 : Nat → Nat → Int64} {V V1 V2 : Nat → Option Nat} {B' : Nat} {x : Value} (c : eCall mc (.ref 0 :: ac) (mM t I L V) = some (.inl (some x), mM t I1 L1 V1)) (m : eCall mm (.ref 189 :: am) (mM t I1 L1 V1) = some (.inl (some x), mM t I2 L2 V2)) (w : WW I2 B') (z : I2 189 0 = nI 0) : QT mc mm cs ac am t I L V B' := ⟨_, _, _, _, _, _, _, _, _, c, m, w, Or.inl ⟨rfl, rfl, z⟩⟩
theorem QT_th {mc mm : eMt} {cs : List String} {ac am : List Value} {t : Nat × Nat × Bool} {I I1 I2 : Nat → Nat → Int32} {L L1 L2 : Nat → Nat → Int64} {V V1 V2 : Nat → Option Nat} {B' k : Nat} {x : Value} {X : String} (hk : cs[k]? = some X) (c : eCall mc (.ref 0 :: ac) (mM t I L V) = some (.inr X, mM (tT t) I1 L1 V1)) (m : eCall mm (.ref 189 :: am) (mM (tT t) I1 L1 V1) = some (.inl (some x), mM (tT t) I2 L2 V2)) (w : WW I2 B') (z : I2 189 0 = nI (k + 1)) : QT mc mm cs ac am t I L V B' := ⟨_, _, _, _, _, _, _, _, _, c, m, w, Or.inr ⟨k, X, hk, rfl, rfl, z⟩⟩
theorem pt_of {n : Nat} {x : Int32} (hn : n ≤ 6) (h : ¬ x < nI 0 ∧ ¬ nI n ≤ x) : ∃ p, p < n ∧ x = nI p := by
  have h1 := Int32.le_iff_toInt_le.mp (Int32.not_lt.mp h.1)
  have h2 := Int32.lt_iff_toInt_lt.mp (Int32.not_le.mp h.2)
  rw [show (nI 0).toInt = 0 by decide] at h1
  rw [nI_toInt (by omega)] at h2
  refine ⟨x.toInt.toNat, by omega, ?_⟩
  apply Int32.toInt_inj.mp
  rw [nI_toInt (by omega)]
  omega
theorem rng_of {a b : Nat} {x : Int32} (hb : b < 2147483648) (hab : a ≤ b) (h : rng (nI a) (nI b) x) : ∃ m, a ≤ m ∧ m ≤ b ∧ x = nI m := by
  have h1 := Int32.le_iff_toInt_le.mp (Int32.not_lt.mp h.1)
  have h2 := Int32.le_iff_toInt_le.mp (Int32.not_lt.mp h.2)
  rw [nI_toInt (by omega)] at h1 h2
  refine ⟨x.toInt.toNat, by omega, by omega, ?_⟩
  apply Int32.toInt_inj.mp
  rw [nI_toInt (by omega)]
  omega
theorem m_in_1_50 (x : Int32) (μ : eMem) : eCall mX13_isIn [.long x.toInt64, .long 1, .long 50] μ = some (.inl (some (.int (bI (rng (nI 1) (nI 50) x)))), μ) := by
  rw [m_isIn]
  have e1 : (1 : Int64) = (nI 1).toInt64 := by decide
  have e2 : (50 : Int64) = (nI 50).toInt64 := by decide
  simp only [e1, e2, i2l_lt]
theorem m_in_1_256 (x : Int32) (μ : eMem) : eCall mX13_isIn [.long x.toInt64, .long 1, .long 256] μ = some (.inl (some (.int (bI (rng (nI 1) (nI 256) x)))), μ) := by
  rw [m_isIn]
  have e1 : (1 : Int64) = (nI 1).toInt64 := by decide
  have e2 : (256 : Int64) = (nI 256).toInt64 := by decide
  simp only [e1, e2, i2l_lt]
theorem m_in_1_99 (x : Int32) (μ : eMem) : eCall mX13_isIn [.long x.toInt64, .long 1, .long 99] μ = some (.inl (some (.int (bI (rng (nI 1) (nI 99) x)))), μ) := by
  rw [m_isIn]
  have e1 : (1 : Int64) = (nI 1).toInt64 := by decide
  have e2 : (99 : Int64) = (nI 99).toInt64 := by decide
  simp only [e1, e2, i2l_lt]
theorem m_in_0_200 (x : Int32) (μ : eMem) : eCall mX13_isIn [.long x.toInt64, .long 0, .long 200] μ = some (.inl (some (.int (bI (rng (nI 0) (nI 200) x)))), μ) := by
  rw [m_isIn]
  have e1 : (0 : Int64) = (nI 0).toInt64 := by decide
  have e2 : (200 : Int64) = (nI 200).toInt64 := by decide
  simp only [e1, e2, i2l_lt]
theorem kpI_1 (I : Nat → Nat → Int32) (pn u : Nat) {k : Nat} (h1 : 1 ≤ k) (h2 : k < 75) : kpI I pn u k = I k := by
  unfold kpI
  rw [si_n (by omega), si_n (by omega)]
  exact cSt_n (by omega)
theorem kpI_h (I : Nat → Nat → Int32) {pn : Nat} (u : Nat) (hp : pn < 6) {k : Nat} (h2 : 189 ≤ k) : kpI I pn u k = I k := by
  unfold kpI
  rw [si_n (by omega), si_n (by omega)]
  exact cSt_n (by omega)
theorem Fr.n {I I' : Nat → Nat → Int32} (h : Fr 1 I I') : FrN I I' := fun k hk _ _ _ => h k (by omega)
/-- the model has laid aside -/
def asI (I : Nat → Nat → Int32) (s : Row) : Nat → Nat → Int32 := cpr (si I 189 0 (nI 0)) 194 s 457
theorem wself {I : Nat → Nat → Int32} {s : Row} (h : I 191 = s) : wR I s = I := by rw [← h]; exact w_self I
theorem chg_fin {I : Nat → Nat → Int32} {B pn u : Nat} (hpn : pn < 6) (hu : u ≤ 6) (h7 : I 189 18 = nI u)
    (hW : ∀ (I2 I3 : Nat → Nat → Int32) (F : Row) (B' : Nat), (∀ k i, (k = 0 ∧ i < 15) ∨ (39 ≤ k ∧ k < 59) ∨ (65 ≤ k ∧ k ≤ 66) ∨ (74 ≤ k ∧ k ≠ 189) ∨ (k = 189 ∧ (i = 2 ∨ i = 10 ∨ i = 11 ∨ i = 18 ∨ i = 19 ∨ i = 53 ∨ i = 54)) → I2 k i = kpI I pn u k i) → St I2 1 F B' → B ≤ B' → (∀ k i, wkX k i ∨ (wkS k i ∧ k ≠ 191) → I3 k i = I2 k i) → (∀ j, j < 457 → I3 194 j = I 191 j) → WW (wR (si (vR I3 (kpP I3 u)) 189 18 (nI (unx u))) F) B')
    {I2 M : Nat → Nat → Int32} {F : Row} {B' : Nat} (hF : FrN (kpI I pn u) I2) (hM : FrM (asI I2 (I 191)) M) (hS : St I2 1 F B') (hB : B ≤ B') : I2 191 = I 191 ∧ M 189 18 = nI u ∧ WW (wR (si (vR M (kpP M u)) 189 18 (nI (unx u))) F) B' ∧ wR (si (vR M (kpP M u)) 189 18 (nI (unx u))) F 189 0 = nI 0 := by
  have k189 : ∀ i, I2 189 i = I 189 i := fun i => by rw [hF 189 (by omega) (by omega) (by omega) (by omega), kpI_h I u hpn (by omega)]
  have hMi : ∀ k i, ¬ mS1 k i → k ≠ 194 → ¬ (k = 189 ∧ i = 0) → M k i = I2 k i := fun k i a b c => by
    rw [hM k i a]
    unfold asI
    rw [cpr_n b, si_eq, if_neg c]
  refine ⟨?_, ?_, hW I2 M F B' (fun k i hk => ?_) hS hB (fun k i hk => ?_) (fun j hj => ?_), ?_⟩
  · rw [hF 191 (by omega) (by omega) (by omega) (by omega), kpI_h I u hpn (by omega)]
  · rw [hMi 189 18 (by unfold mS1; omega) (by omega) (by omega), k189]
    exact h7
  · rw [hF k (by omega) (by omega) (by omega) (by omega)]
  · unfold wkX wkS at hk
    exact hMi k i (by unfold mS1; omega) (by omega) (by omega)
  · rw [hM 194 j (by unfold mS1; omega)]
    unfold asI
    exact cpr_b hj
  · rw [w_n (by decide), si_m (by decide), vR_n (by decide), hM 189 0 (by unfold mS1; omega)]
    unfold asI
    rw [cpr_n (by decide), si_s]
theorem m_laysA {I : Nat → Nat → Int32} {s : Row} (h : I 191 = s) (t : Nat × Nat × Bool) (L : Nat → Nat → Int64) (V : Nat → Option Nat) : eCall mX13_laysAside [.ref 189] (mM t (si I 189 0 (nI 0)) L V) = some (.inl none, mM t (wR (asI I s) s) L V) := by
  have b := m_laysAside s t (si I 189 0 (nI 0)) L V
  rw [← w_sn (by decide), wself h] at b
  exact b
theorem m_keptA {u : Nat} (hu : u ≤ 6) {M : Nat → Nat → Int32} (F : Row) (x : Int32) (h : M 189 18 = nI u) (t : Nat × Nat × Bool) (L : Nat → Nat → Int64) (V : Nat → Option Nat) : eCall mX13_kept [.ref 189, .int x] (mM t (wR M F) L V) = some (.inl (some (.int x)), mM t (wR (si (vR M (kpP M u)) 189 18 (nI (unx u))) F) L V) := m_kept hu F x t M L V h
theorem q_start {B : Nat} (hB : B < 2147000000) (t : Nat × Nat × Bool) (I : Nat → Nat → Int32) (L : Nat → Nat → Int64) (V : Nat → Option Nat) (hW : WW I B) : QT mX12_start mX13_start [] [] [] t I L V (B + 1000) := by
  obtain ⟨⟨n, f, d, v, g1, hI, hC⟩, -⟩ := hW.1
  obtain ⟨pn, u, hpn, hu, h5, h6, h7, hWc⟩ := hW.chg
  have hn := hI.1.2.2
  have hd : d ≤ 5 := by have := hI.2.1.2; have := hI.1.2.1; omega
  have b1 := c_keepForUndo hpn hu t I L V h5 h6
  have hC1 : CS (kpI I pn u) 1 n d v (I 191) := hC.keep (fun k a b => kpI_1 I pn u (by omega) (by omega)) (by rw [kpI_1 I pn u (by omega) (by omega)]) hn hd
  obtain ⟨I2, e1, e2, e3⟩ := c_layByEdges (by omega) hI t (kpI I pn u) L V hC1
  have hv := stg_v (I 191) (bgF (I 191) n) v n
  have hIv := sp_Iv hI (fun j hj => bgF_o hn hj) (fun p a b => bgF_hi hI a b) (bgF_Iv hI)
  have b2 := m_doesStart (by omega) hI t (asI I2 (I 191)) L V
  have hM : FrM (asI I2 (I 191)) (edI (mkI (asI I2 (I 191)) (I 191) 6) (cf (I 191)) n (enS (cf (I 191)) n)) := (mkI_FrM _ _ _).trans edI_f
  have hS : St I2 1 (stg (I 191) (bgF (I 191) n) v n).1 (B + 1000) := ⟨n, f, d, _, (show (stg (I 191) (bgF (I 191) n) v n).2.1 ≤ B + 1000 by omega), hIv, e2⟩
  obtain ⟨x1, x2, x3, x4⟩ := chg_fin hpn hu h7 hWc e3.n hM hS (by omega)
  have b0 := m_laysA x1 t L V
  have b3 := m_keptA hu (stg (I 191) (bgF (I 191) n) v n).1 (nI (stg (I 191) (bgF (I 191) n) v n).2.2) x2 t L V
  have c : eCall mX12_start [.ref 0] (mM t I L V) = some (.inl (some (.int (nI (stg (I 191) (bgF (I 191) n) v n).2.2))), mM t I2 L V) := by
    simp only [kX12_start, gX12_start, v_TM, v_seq, v_blk, v_lop, v_fgt, v_fg0, v_fg1, v_b0, v_b1, v_bn, v_bi, v_c0, v_c1, v_c2, v_cn, v_ci, v_st0, v_st1, v_stn, v_iadd, v_isub, v_imul, v_iand, v_ior, v_ixor, v_ishl, v_ishr, v_ladd, v_lsub, v_lmul, v_lor, v_land, v_ineg, v_lneg, v_lcmp, v_lshl, v_i2l, v_l2i, v_i2b, v_i2c, v_i2f, v_i2d, v_idiv, v_irem, v_ldiv, v_lrem, v_iconst, v_bipush, v_sipush, v_lconst0, v_lconst1, v_null, v_fconst0, v_dconst0, v_ldcS, v_dupi, v_dupr, v_pop, v_dup2, vI_i, vL_l, vA_r, vA_n, vInc_i, v_iload_n0, v_iload_n1, v_iload_n2, v_iload_n3, v_iload, v_lload_n0, v_lload_n1, v_lload_n2, v_lload_n3, v_lload, v_dload_n0, v_dload_n1, v_dload_n2, v_dload_n3, v_dload, v_aload_n0, v_aload_n1, v_aload_n2, v_aload_n3, v_aload, v_at0, v_ok0, v_at1, v_ok1, v_at2, v_ok2, v_at3, v_ok3, v_at4, v_ok4, v_at5, v_ok5, v_at6, v_ok6, v_at7, v_ok7, v_at8, v_ok8, v_at9, v_ok9, v_at10, v_ok10, v_at11, v_ok11, v_at12, v_ok12, v_at13, v_ok13, v_at14, v_ok14, v_at15, v_ok15, v_c2i, v_c2l, v_c2r, v_c2n, v_c2j, v_istore_n0, v_astore_n0, v_istore_n1, v_astore_n1, v_istore_n2, v_astore_n2, v_istore_n3, v_astore_n3, v_istore, v_astore, v_lstore_n0, v_lstore_n1, v_lstore_n2, v_lstore_n3, v_lstore, v_iinc, v_if_eq, v_if_ne, v_if_lt, v_if_ge, v_if_gt, v_if_le, v_icmp_eq, v_icmp_ne, v_icmp_lt, v_icmp_ge, v_icmp_gt, v_icmp_le, v_ifnull0, v_ifnull1, v_ifnonnull0, v_ifnonnull1, v_goto, v_ireturn, v_lreturn, v_areturn, v_areturn0, v_return, v_throw, v_throwW, v_table, v_cs0, v_csi, v_csl, v_csr, v_an0, v_an1, v_ani, v_call0, v_call1, v_call2, v_call3, v_call4, v_call5, v_call6, v_call7, v_rI, v_fin, v_finX, v_fini, v_ro0, v_roi, v_rol, v_rob0, v_rob1, v_roo, v_roon, v_kbm99, v_kbm64, v_kbm8, v_kbm5, v_kb6, v_kb7, v_kb8, v_kb9, v_kb10, v_kb12, v_kb14, v_kb19, v_kb20, v_kb24, v_kb25, v_kb30, v_kb31, v_kb32, v_kb37, v_kb40, v_kb41, v_kb45, v_kb48, v_kb50, v_kb57, v_kb59, v_kb60, v_kb63, v_kb64, v_kb97, v_kb99, v_kb112, v_kb114, v_kb122, v_kim8, v_kim1, v_ki0, v_ki1, v_ki2, v_ki3, v_ki4, v_ki5, v_ksm9999, v_ksm256, v_ks128, v_ks199, v_ks200, v_ks255, v_ks256, v_ks400, v_ks457, v_ks1000, v_ks1024, v_ks2742, v_ks9999, v_ks10000, v_ld, v_st, v_ldc2_RX7_142, v_ldc2_RX7_144, v_ldc2_RX7_146, v_ldc2_RX7_148, v_ldc2_RX7_154, v_ldc2_RX7_163, v_ldc2_RX3_81, v_ldc2_RX7_207, v_ldc2_RX7_209, v_ldc2_RX13_190, v_ldc2_RX13_212, v_ldc2_RX13_218, v_ldc2_RX13_220, v_ldc2_RX13_254, v_ldc2_RX13_256, v_ldc2_RX13_287, v_ldc2_RX13_297, v_ldc2_RX13_302, v_ldc2_RX13_323, v_ldc2_RX13_343, v_ldc2_RX13_345, v_ldc2_RX13_351, v_ldc2_RX13_374, v_ldc2_RX13_400, v_ldc2_RX13_402, v_ldc2_RX13_413, v_ldc2_RX13_439, v_ldc2_RX13_461, v_ldc2_RX13_481, v_ldc2_RX13_486, v_ldc2_RX13_488, v_ldc2_RX13_490, v_ldc2_RX13_492, v_ldc2_RX13_494, v_ldc2_RX13_496, v_ldc2_RX13_498, v_ldc2_RX13_500, if_true, if_false, Bool.not_false, Bool.not_true, Nat.reduceEqDiff, Nat.reduceLeDiff, Nat.reduceLT, Nat.reduceAdd, Nat.reduceMul, Nat.reduceSub, and_self, and_true, true_and, and_false, false_and, Bool.false_eq_true, not_true_eq_false, not_false_eq_true, ite_self, v_robb, v_rob0, v_rob1, List.nil_append, G_0_0, G_0_1, G_0_2, G_0_3, P_0_3, G_0_4, G_0_5, P_0_5, G_0_6, P_0_6, G_0_7, G_0_8, G_0_9, G_0_10, G_0_11, G_0_12, G_0_13, G_0_14, P_0_14, R_0, G_1_0, G_1_1, G_1_2, G_1_3, G_1_4, G_1_5, P_1_5, G_1_6, G_1_7, G_1_8, G_1_9, P_1_9, G_1_10, P_1_10, R_1, G_2_0, P_2_0, G_2_1, R_2, S_3, A_3, N_3, G_4_0, P_4_0, G_4_1, R_4, S_5, A_5, N_5, G_6_0, P_6_0, G_6_1, G_6_2, G_6_3, R_6, S_7, A_7, N_7, S_8, A_8, N_8, S_9, A_9, N_9, G_10_0, P_10_0, G_10_1, G_10_2, G_10_3, G_10_4, R_10, S_11, A_11, N_11, S_12, A_12, N_12, S_13, A_13, N_13, S_14, A_14, N_14, G_15_0, P_15_0, G_15_1, P_15_1, G_15_2, R_15, S_16, A_16, N_16, G_17_0, P_17_0, G_17_1, P_17_1, R_17, G_18_0, P_18_0, G_18_1, P_18_1, R_18, S_19, A_19, N_19, G_20_0, G_20_1, G_20_2, G_20_3, G_20_4, G_20_5, P_20_5, G_20_6, G_20_7, G_20_8, G_20_9, P_20_9, G_20_10, P_20_10, R_20, G_21_0, P_21_0, G_21_1, R_21, S_22, A_22, N_22, G_23_0, P_23_0, G_23_1, R_23, S_24, A_24, N_24, G_25_0, P_25_0, G_25_1, G_25_2, G_25_3, R_25, S_26, A_26, N_26, S_27, A_27, N_27, S_28, A_28, N_28, G_29_0, P_29_0, G_29_1, G_29_2, G_29_3, G_29_4, R_29, S_30, A_30, N_30, S_31, A_31, N_31, S_32, A_32, N_32, S_33, A_33, N_33, G_34_0, P_34_0, G_34_1, P_34_1, G_34_2, R_34, S_35, A_35, N_35, G_36_0, P_36_0, G_36_1, P_36_1, R_36, G_37_0, P_37_0, G_37_1, P_37_1, R_37, S_38, A_38, N_38, A_58, N_58, G_59_0, P_59_0, G_59_1, G_59_2, G_59_3, R_59, S_60, A_60, N_60, S_61, A_61, N_61, G_62_0, P_62_0, G_62_1, P_62_1, R_62, G_63_0, P_63_0, G_63_1, P_63_1, R_63, S_64, A_64, N_64, G_65_0, P_65_0, G_65_1, G_65_2, P_65_2, G_65_3, P_65_3, G_65_4, P_65_4, G_65_5, P_65_5, G_65_6, P_65_6, G_65_7, P_65_7, R_65, S_66, A_66, N_66, G_67_0, P_67_0, R_67, G_68_0, P_68_0, G_68_1, P_68_1, G_68_2, P_68_2, G_68_3, G_68_4, G_68_5, G_68_6, G_68_7, R_68, A_69, N_69, S_70, A_70, N_70, S_71, A_71, N_71, S_72, A_72, N_72, S_73, A_73, N_73, S_74, A_74, N_74, b1, e1]
  refine QT_ok (x := .int (nI (stg (I 191) (bgF (I 191) n) v n).2.2)) (L2 := L) (V2 := V) c ?_ x3 x4
  simp only [kX13_start, gX13_start, v_TM, v_seq, v_blk, v_lop, v_fgt, v_fg0, v_fg1, v_b0, v_b1, v_bn, v_bi, v_c0, v_c1, v_c2, v_cn, v_ci, v_st0, v_st1, v_stn, v_iadd, v_isub, v_imul, v_iand, v_ior, v_ixor, v_ishl, v_ishr, v_ladd, v_lsub, v_lmul, v_lor, v_land, v_ineg, v_lneg, v_lcmp, v_lshl, v_i2l, v_l2i, v_i2b, v_i2c, v_i2f, v_i2d, v_idiv, v_irem, v_ldiv, v_lrem, v_iconst, v_bipush, v_sipush, v_lconst0, v_lconst1, v_null, v_fconst0, v_dconst0, v_ldcS, v_dupi, v_dupr, v_pop, v_dup2, vI_i, vL_l, vA_r, vA_n, vInc_i, v_iload_n0, v_iload_n1, v_iload_n2, v_iload_n3, v_iload, v_lload_n0, v_lload_n1, v_lload_n2, v_lload_n3, v_lload, v_dload_n0, v_dload_n1, v_dload_n2, v_dload_n3, v_dload, v_aload_n0, v_aload_n1, v_aload_n2, v_aload_n3, v_aload, v_at0, v_ok0, v_at1, v_ok1, v_at2, v_ok2, v_at3, v_ok3, v_at4, v_ok4, v_at5, v_ok5, v_at6, v_ok6, v_at7, v_ok7, v_at8, v_ok8, v_at9, v_ok9, v_at10, v_ok10, v_at11, v_ok11, v_at12, v_ok12, v_at13, v_ok13, v_at14, v_ok14, v_at15, v_ok15, v_c2i, v_c2l, v_c2r, v_c2n, v_c2j, v_istore_n0, v_astore_n0, v_istore_n1, v_astore_n1, v_istore_n2, v_astore_n2, v_istore_n3, v_astore_n3, v_istore, v_astore, v_lstore_n0, v_lstore_n1, v_lstore_n2, v_lstore_n3, v_lstore, v_iinc, v_if_eq, v_if_ne, v_if_lt, v_if_ge, v_if_gt, v_if_le, v_icmp_eq, v_icmp_ne, v_icmp_lt, v_icmp_ge, v_icmp_gt, v_icmp_le, v_ifnull0, v_ifnull1, v_ifnonnull0, v_ifnonnull1, v_goto, v_ireturn, v_lreturn, v_areturn, v_areturn0, v_return, v_throw, v_throwW, v_table, v_cs0, v_csi, v_csl, v_csr, v_an0, v_an1, v_ani, v_call0, v_call1, v_call2, v_call3, v_call4, v_call5, v_call6, v_call7, v_rI, v_fin, v_finX, v_fini, v_ro0, v_roi, v_rol, v_rob0, v_rob1, v_roo, v_roon, v_kbm99, v_kbm64, v_kbm8, v_kbm5, v_kb6, v_kb7, v_kb8, v_kb9, v_kb10, v_kb12, v_kb14, v_kb19, v_kb20, v_kb24, v_kb25, v_kb30, v_kb31, v_kb32, v_kb37, v_kb40, v_kb41, v_kb45, v_kb48, v_kb50, v_kb57, v_kb59, v_kb60, v_kb63, v_kb64, v_kb97, v_kb99, v_kb112, v_kb114, v_kb122, v_kim8, v_kim1, v_ki0, v_ki1, v_ki2, v_ki3, v_ki4, v_ki5, v_ksm9999, v_ksm256, v_ks128, v_ks199, v_ks200, v_ks255, v_ks256, v_ks400, v_ks457, v_ks1000, v_ks1024, v_ks2742, v_ks9999, v_ks10000, v_ld, v_st, v_ldc2_RX7_142, v_ldc2_RX7_144, v_ldc2_RX7_146, v_ldc2_RX7_148, v_ldc2_RX7_154, v_ldc2_RX7_163, v_ldc2_RX3_81, v_ldc2_RX7_207, v_ldc2_RX7_209, v_ldc2_RX13_190, v_ldc2_RX13_212, v_ldc2_RX13_218, v_ldc2_RX13_220, v_ldc2_RX13_254, v_ldc2_RX13_256, v_ldc2_RX13_287, v_ldc2_RX13_297, v_ldc2_RX13_302, v_ldc2_RX13_323, v_ldc2_RX13_343, v_ldc2_RX13_345, v_ldc2_RX13_351, v_ldc2_RX13_374, v_ldc2_RX13_400, v_ldc2_RX13_402, v_ldc2_RX13_413, v_ldc2_RX13_439, v_ldc2_RX13_461, v_ldc2_RX13_481, v_ldc2_RX13_486, v_ldc2_RX13_488, v_ldc2_RX13_490, v_ldc2_RX13_492, v_ldc2_RX13_494, v_ldc2_RX13_496, v_ldc2_RX13_498, v_ldc2_RX13_500, if_true, if_false, Bool.not_false, Bool.not_true, Nat.reduceEqDiff, Nat.reduceLeDiff, Nat.reduceLT, Nat.reduceAdd, Nat.reduceMul, Nat.reduceSub, and_self, and_true, true_and, and_false, false_and, Bool.false_eq_true, not_true_eq_false, not_false_eq_true, ite_self, v_robb, v_rob0, v_rob1, List.nil_append, G_189_0, P_189_0, G_189_1, G_189_2, P_189_2, G_189_3, P_189_3, G_189_4, P_189_4, G_189_5, P_189_5, G_189_6, P_189_6, G_189_7, P_189_7, G_189_8, P_189_8, G_189_9, P_189_9, G_189_10, P_189_10, G_189_11, P_189_11, G_189_12, P_189_12, G_189_13, G_189_14, G_189_15, G_189_16, G_189_17, G_189_18, P_189_18, G_189_19, P_189_19, G_189_20, G_189_21, G_189_22, P_189_22, G_189_23, P_189_23, G_189_24, P_189_24, G_189_25, P_189_25, G_189_26, P_189_26, G_189_27, G_189_28, G_189_29, G_189_30, G_189_31, G_189_32, P_189_32, G_189_33, P_189_33, G_189_34, P_189_34, G_189_35, P_189_35, G_189_36, P_189_36, G_189_37, P_189_37, G_189_38, G_189_39, P_189_39, G_189_40, P_189_40, G_189_41, G_189_42, G_189_43, G_189_44, G_189_45, G_189_46, G_189_47, G_189_48, P_189_48, G_189_49, P_189_49, G_189_50, P_189_50, G_189_51, P_189_51, G_189_52, G_189_53, P_189_53, G_189_54, P_189_54, R_189, S_190, A_190, N_190, S_191, A_191, N_191, S_192, A_192, N_192, S_193, A_193, N_193, S_194, A_194, N_194, S_195, A_195, N_195, S_196, A_196, N_196, S_197, A_197, N_197, S_198, A_198, N_198, S_199, A_199, N_199, S_200, A_200, N_200, S_201, A_201, N_201, S_202, A_202, N_202, S_203, A_203, N_203, S_204, A_204, N_204, S_205, A_205, N_205, S_206, A_206, N_206, S_207, A_207, N_207, S_208, A_208, N_208, S_209, A_209, N_209, S_210, A_210, N_210, S_211, A_211, N_211, S_212, A_212, N_212, b0, b2, b3]
