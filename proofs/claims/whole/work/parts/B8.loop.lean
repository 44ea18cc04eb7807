/-! ===== the law's loop ===== -/
theorem nw_RL_8 : eCls RL 8 10 := ⟨by decide, eTBi 136 (by decide +kernel) rfl, eTBi 137 (by decide +kernel) rfl, eTBi 110 (by decide +kernel) rfl⟩
theorem tb29 : (Cond.methodLink "RootDiscsLaw" 125 ⟨"RootDiscs", "<init>", "()V"⟩) ∈ eTB := eTBi 138 (by decide +kernel) rfl
theorem tb30 : (Cond.instanceMethod ⟨"RootDiscs", "<init>", "()V"⟩) ∈ eTB := eTBi 139 (by decide +kernel) rfl
theorem nw_RL_126 : eCls RL 126 11 := ⟨by decide, eTBi 1534 (by decide +kernel) rfl, eTBi 1535 (by decide +kernel) rfl, eTBi 121 (by decide +kernel) rfl⟩
theorem tb1427 : (Cond.methodLink "RootDiscsLaw" 128 ⟨"RootDiscsModel", "<init>", "()V"⟩) ∈ eTB := eTBi 1536 (by decide +kernel) rfl
theorem tb1428 : (Cond.instanceMethod ⟨"RootDiscsModel", "<init>", "()V"⟩) ∈ eTB := eTBi 1537 (by decide +kernel) rfl
def sNest {S : eCtx → Prop} {sx : eSx} : List (Nat × sP S sx) → sP S sx → sP S sx
  | [], a => a
  | (T, c) :: r, a => sNest r (sSeq (sBlk T a) c)
theorem sNest_out {S : eCtx → Prop} {sx : eSx} (cs : List (Nat × sP S sx)) : ∀ (a : sP S sx) (σ σ1 : eSt) (E : Nat), sDen a σ = some (some (.inl E), σ1) → (∀ q ∈ cs, q.1 ≠ E) → sDen (sNest cs a) σ = some (some (.inl E), σ1) := by
  induction cs with
  | nil => intro a σ σ1 E h _; exact h
  | cons q r ih =>
    obtain ⟨T, c⟩ := q
    intro a σ σ1 E h hq
    refine ih _ σ σ1 E ?_ (fun q hq2 => hq q (List.mem_cons_of_mem _ hq2))
    rw [v_sseq, v_sblk, h, v_c1, if_neg (fun z => hq (T, c) List.mem_cons_self z.symm)]
    rfl
theorem sNest_in {S : eCtx → Prop} {sx : eSx} (cs : List (Nat × sP S sx)) : ∀ (j : Nat) (T : Nat) (c a : sP S sx) (σ σ1 σ2 : eSt) (E : Nat), cs[j]? = some (T, c) → (∀ i, i < j → (cs.map Prod.fst).getD i 0 ≠ T) → sDen a σ = some (some (.inl T), σ1) → sDen c σ1 = some (some (.inl E), σ2) → (∀ q ∈ cs, q.1 ≠ E) → sDen (sNest cs a) σ = some (some (.inl E), σ2) := by
  induction cs with
  | nil => intro j T c a σ σ1 σ2 E h; cases h
  | cons q r ih =>
    obtain ⟨T0, c0⟩ := q
    intro j T c a σ σ1 σ2 E hj hd ha hc hq
    cases j with
    | zero =>
      cases hj
      refine sNest_out r _ σ σ2 E ?_ (fun q hq2 => hq q (List.mem_cons_of_mem _ hq2))
      rw [v_sseq, v_sblk, ha, v_c1, if_pos rfl, v_b0]
      exact hc
    | succ j =>
      refine ih j T c _ σ σ1 σ2 E hj (fun i hi => hd (i + 1) (by omega)) ?_ hc (fun q hq2 => hq q (List.mem_cons_of_mem _ hq2))
      rw [v_sseq, v_sblk, ha, v_c1, if_neg (fun z => hd 0 (by omega) z.symm)]
      rfl
def lwCs {b L : Nat} {xs : Nat → Int32} : List (Nat × PL b L xs) := [(284, cL_0), (388, cL_1), (444, cL_2), (488, cL_3), (532, cL_4), (545, cL_5), (558, cL_6), (571, cL_7), (627, cL_8), (640, cL_9), (696, cL_10), (791, cL_11), (886, cL_12), (899, cL_13), (967, cL_14), (980, cL_15), (1048, cL_16), (1131, cL_17), (1214, cL_18), (1269, cL_19), (1353, cL_20), (1428, cL_21), (1484, cL_22), (1497, cL_23), (1510, cL_24), (1523, cL_25), (1560, cL_26), (1573, cL_27), (1598, cL_28), (1611, cL_29), (1731, cL_30), (1744, cL_31), (1781, cL_32), (1794, cL_33), (1850, cL_34), (1918, cL_35), (1931, cL_36), (1999, cL_37), (2055, cL_38), (2098, cL_39), (2154, cL_40), (2195, cL_41), (2251, cL_42), (2264, cL_43), (2320, cL_44), (2376, cL_45), (2389, cL_46), (2469, cL_47), (2525, cL_48), (2581, cL_49), (2637, cL_50), (2705, cL_51), (2761, cL_52), (2774, cL_53), (2830, cL_54), (2843, cL_55), (2856, cL_56)]
def lwT : List Nat := [284, 388, 444, 488, 532, 545, 558, 571, 627, 640, 696, 791, 886, 899, 967, 980, 1048, 1131, 1214, 1269, 1353, 1428, 1484, 1497, 1510, 1523, 1560, 1573, 1598, 1611, 1731, 1744, 1781, 1794, 1850, 1918, 1931, 1999, 2055, 2098, 2154, 2195, 2251, 2264, 2320, 2376, 2389, 2469, 2525, 2581, 2637, 2705, 2761, 2774, 2830, 2843, 2856]
theorem lwCs_T {b L : Nat} {xs : Nat → Int32} : (lwCs (b := b) (L := L) (xs := xs)).map Prod.fst = lwT := rfl
theorem lwT_d : ∀ j, j < 57 → ∀ i, i < j → lwT.getD i 0 ≠ lwT.getD j 2900 := by decide +kernel
theorem lwT_e : ∀ T ∈ lwT, T ≠ 2900 := by decide +kernel
def lwO : List Int := [244, 348, 404, 448, 492, 505, 518, 531, 587, 600, 656, 751, 846, 859, 927, 940, 1008, 1091, 1174, 1229, 1313, 1388, 1444, 1457, 1470, 1483, 1520, 1533, 1558, 1571, 1691, 1704, 1741, 1754, 1810, 1878, 1891, 1959, 2015, 2058, 2114, 2155, 2211, 2224, 2280, 2336, 2349, 2429, 2485, 2541, 2597, 2665, 2721, 2734, 2790, 2803, 2816]
theorem lwO_t : ∀ j, j < 64 → eTgt 40 (nI j).toInt 0 2860 lwO = lwT.getD j 2900 := by decide +kernel
def lwSw {b L : Nat} {xs : Nat → Int32} : PL b L xs := sBlk 2900 (sNest lwCs (sE (p_table 40 244 284 (0) (2860) lwO (by decide))))
theorem lw_case {b L : Nat} {xs : Nat → Int32} {n B : Nat} (hn : n + 5 < L) (hL : L ≤ 3072) (hB : B < 2140000000) (t : Nat × Nat × Bool) (I : Nat → Nat → Int32) (Lg : Nat → Nat → Int64) (V : Nat → Option Nat) (hW : WW I B) : ∀ j, j < 57 → ∃ c, (lwCs (b := b) (L := L) (xs := xs))[j]? = some (lwT.getD j 2900, c) ∧ LCo n t B (sDen c (lv0 n, [], mM t I Lg V)) := by
  intro j hj
  match j, hj with
  | 0, _ => exact ⟨_, rfl, cs_0 hn hL hB t I Lg V hW⟩
  | 1, _ => exact ⟨_, rfl, cs_1 hn hL hB t I Lg V hW⟩
  | 2, _ => exact ⟨_, rfl, cs_2 hn hL hB t I Lg V hW⟩
  | 3, _ => exact ⟨_, rfl, cs_3 hn hL hB t I Lg V hW⟩
  | 4, _ => exact ⟨_, rfl, cs_4 hn hL hB t I Lg V hW⟩
  | 5, _ => exact ⟨_, rfl, cs_5 hn hL hB t I Lg V hW⟩
  | 6, _ => exact ⟨_, rfl, cs_6 hn hL hB t I Lg V hW⟩
  | 7, _ => exact ⟨_, rfl, cs_7 hn hL hB t I Lg V hW⟩
  | 8, _ => exact ⟨_, rfl, cs_8 hn hL hB t I Lg V hW⟩
  | 9, _ => exact ⟨_, rfl, cs_9 hn hL hB t I Lg V hW⟩
  | 10, _ => exact ⟨_, rfl, cs_10 hn hL hB t I Lg V hW⟩
  | 11, _ => exact ⟨_, rfl, cs_11 hn hL hB t I Lg V hW⟩
  | 12, _ => exact ⟨_, rfl, cs_12 hn hL hB t I Lg V hW⟩
  | 13, _ => exact ⟨_, rfl, cs_13 hn hL hB t I Lg V hW⟩
  | 14, _ => exact ⟨_, rfl, cs_14 hn hL hB t I Lg V hW⟩
  | 15, _ => exact ⟨_, rfl, cs_15 hn hL hB t I Lg V hW⟩
  | 16, _ => exact ⟨_, rfl, cs_16 hn hL hB t I Lg V hW⟩
  | 17, _ => exact ⟨_, rfl, cs_17 hn hL hB t I Lg V hW⟩
  | 18, _ => exact ⟨_, rfl, cs_18 hn hL hB t I Lg V hW⟩
  | 19, _ => exact ⟨_, rfl, cs_19 hn hL hB t I Lg V hW⟩
  | 20, _ => exact ⟨_, rfl, cs_20 hn hL hB t I Lg V hW⟩
  | 21, _ => exact ⟨_, rfl, cs_21 hn hL hB t I Lg V hW⟩
  | 22, _ => exact ⟨_, rfl, cs_22 hn hL hB t I Lg V hW⟩
  | 23, _ => exact ⟨_, rfl, cs_23 hn hL hB t I Lg V hW⟩
  | 24, _ => exact ⟨_, rfl, cs_24 hn hL hB t I Lg V hW⟩
  | 25, _ => exact ⟨_, rfl, cs_25 hn hL hB t I Lg V hW⟩
  | 26, _ => exact ⟨_, rfl, cs_26 hn hL hB t I Lg V hW⟩
  | 27, _ => exact ⟨_, rfl, cs_27 hn hL hB t I Lg V hW⟩
  | 28, _ => exact ⟨_, rfl, cs_28 hn hL hB t I Lg V hW⟩
  | 29, _ => exact ⟨_, rfl, cs_29 hn hL hB t I Lg V hW⟩
  | 30, _ => exact ⟨_, rfl, cs_30 hn hL hB t I Lg V hW⟩
  | 31, _ => exact ⟨_, rfl, cs_31 hn hL hB t I Lg V hW⟩
  | 32, _ => exact ⟨_, rfl, cs_32 hn hL hB t I Lg V hW⟩
  | 33, _ => exact ⟨_, rfl, cs_33 hn hL hB t I Lg V hW⟩
  | 34, _ => exact ⟨_, rfl, cs_34 hn hL hB t I Lg V hW⟩
  | 35, _ => exact ⟨_, rfl, cs_35 hn hL hB t I Lg V hW⟩
  | 36, _ => exact ⟨_, rfl, cs_36 hn hL hB t I Lg V hW⟩
  | 37, _ => exact ⟨_, rfl, cs_37 hn hL hB t I Lg V hW⟩
  | 38, _ => exact ⟨_, rfl, cs_38 hn hL hB t I Lg V hW⟩
  | 39, _ => exact ⟨_, rfl, cs_39 hn hL hB t I Lg V hW⟩
  | 40, _ => exact ⟨_, rfl, cs_40 hn hL hB t I Lg V hW⟩
  | 41, _ => exact ⟨_, rfl, cs_41 hn hL hB t I Lg V hW⟩
  | 42, _ => exact ⟨_, rfl, cs_42 hn hL hB t I Lg V hW⟩
  | 43, _ => exact ⟨_, rfl, cs_43 hn hL hB t I Lg V hW⟩
  | 44, _ => exact ⟨_, rfl, cs_44 hn hL hB t I Lg V hW⟩
  | 45, _ => exact ⟨_, rfl, cs_45 hn hL hB t I Lg V hW⟩
  | 46, _ => exact ⟨_, rfl, cs_46 hn hL hB t I Lg V hW⟩
  | 47, _ => exact ⟨_, rfl, cs_47 hn hL hB t I Lg V hW⟩
  | 48, _ => exact ⟨_, rfl, cs_48 hn hL hB t I Lg V hW⟩
  | 49, _ => exact ⟨_, rfl, cs_49 hn hL hB t I Lg V hW⟩
  | 50, _ => exact ⟨_, rfl, cs_50 hn hL hB t I Lg V hW⟩
  | 51, _ => exact ⟨_, rfl, cs_51 hn hL hB t I Lg V hW⟩
  | 52, _ => exact ⟨_, rfl, cs_52 hn hL hB t I Lg V hW⟩
  | 53, _ => exact ⟨_, rfl, cs_53 hn hL hB t I Lg V hW⟩
  | 54, _ => exact ⟨_, rfl, cs_54 hn hL hB t I Lg V hW⟩
  | 55, _ => exact ⟨_, rfl, cs_55 hn hL hB t I Lg V hW⟩
  | 56, _ => exact ⟨_, rfl, cs_56 hn hL hB t I Lg V hW⟩
  | j + 57, hj => exact absurd hj (by omega)
theorem and63 (x : Int32) : ∃ j, j < 64 ∧ x &&& (Int8.ofInt 63).toInt32 = nI j := by
  refine ⟨(x &&& (Int8.ofInt 63).toInt32).toBitVec.toNat, ?_, ?_⟩
  · have e : (Int8.ofInt 63).toInt32.toBitVec = 63#32 := by decide
    rw [Int32.toBitVec_and, e, BitVec.toNat_and]
    exact Nat.lt_of_le_of_lt Nat.and_le_right (by decide)
  · apply Int32.toBitVec_inj.mp
    show _ = BitVec.ofNat 32 _
    rw [BitVec.ofNat_toNat, BitVec.setWidth_eq]
theorem v_tbl {sx : eSx} (pc len stop : Nat) (lo dflt : Int) (offs : List Int) (hp) (lv st : List Value) (μ : eMem) (x : Int32) : eDen (sx := sx) (p_table pc len stop lo dflt offs hp) (lv, .int x :: st, μ) = some (some (.inl (eTgt pc x.toInt lo dflt offs)), (lv, st, μ)) := id rfl
theorem lw_sw {b L : Nat} {xs : Nat → Int32} {n B : Nat} (hn : n + 5 < L) (hL : L ≤ 3072) (hB : B < 2140000000) (t : Nat × Nat × Bool) (I : Nat → Nat → Int32) (Lg : Nat → Nat → Int64) (V : Nat → Option Nat) (hW : WW I B) (x : Int32) :
    ∃ a1 a2 a3 a4 t1 I2 L2 V2, sDen (lwSw (b := b) (L := L) (xs := xs)) (lv0 n, [.int (x &&& (Int8.ofInt 63).toInt32)], mM t I Lg V) = some (none, ([.ref 3000, .ref 0, .ref 189, .ref 212, .int (nI n), a1, a2, a3, a4], [], mM t1 I2 L2 V2)) ∧ WW I2 (B + 42000) ∧ (t1 = t ∨ t1 = tT t) := by
  obtain ⟨j, hj, e⟩ := and63 x
  have hE : ∀ q ∈ lwCs (b := b) (L := L) (xs := xs), q.1 ≠ 2900 := fun q hq => lwT_e q.1 (by rw [← lwCs_T (b := b) (L := L) (xs := xs)]; exact List.mem_map_of_mem hq)
  rw [e]
  unfold lwSw
  rw [v_sblk]
  by_cases h : j < 57
  · obtain ⟨c, h1, a1, a2, a3, a4, t1, I2, L2, V2, h2, h3, h4⟩ := lw_case (b := b) (xs := xs) hn hL hB t I Lg V hW j h
    refine ⟨a1, a2, a3, a4, t1, I2, L2, V2, ?_, h3, h4⟩
    rw [sNest_in lwCs j _ c _ _ (lv0 n, [], mM t I Lg V) _ 2900 h1 (by rw [lwCs_T]; exact lwT_d j h) (by rw [v_sE, v_tbl, lwO_t j hj]) h2 hE, v_c1, if_pos rfl]
  · refine ⟨eJ, eJ, eJ, eJ, t, I, Lg, V, ?_, hW.mono (by omega), Or.inl rfl⟩
    rw [sNest_out lwCs _ _ (lv0 n, [], mM t I Lg V) 2900 (by rw [v_sE, v_tbl, lwO_t j hj, List.getD_eq_getElem?_getD, List.getElem?_eq_none (by show 57 ≤ j; omega)]; rfl) hE, v_c1, if_pos rfl]
    rfl
def lwBd {b L : Nat} {xs : Nat → Int32} : PL b L xs := (sSeq (sE (p_iload 23 4))
(sSeq (sE (p_aload_n 25 0))
(sSeq (sLift sLw_1 (p_slen 26))
(sSeq (sE (p_bipush 27 (6)))
(sSeq (sE (p_isub 29))
(sSeq (sE (p_icmp_gt 30 (2876) 2906 (by decide)))
(sSeq (sE (p_aload_n 33 0))
(sSeq (sE (p_iload 34 4))
(sSeq (sLift sLw_1 (p_sld 36))
(sSeq (sE (p_bipush 37 (63)))
(sSeq (sE (p_iand 39))
(sSeq lwSw
(sSeq (sE (eFgt 2900 [5, 6, 7, 8]))
(sSeq (sE (p_iinc 2900 4 (6)))
(sE (p_goto 2903 (-2880) 23 (by decide)))))))))))))))))
theorem lw_lt {L n : Nat} (hL : L ≤ 3072) (hn : n ≤ 6000) : (nI L - nI 6 < nI n) = (L < n + 6) := by
  apply propext
  rw [Int32.lt_iff_toInt_lt, Int32.toInt_sub, nI_toInt (by omega), nI_toInt (by omega), nI_toInt (by omega), Int.bmod_eq_of_le (by omega) (by omega)]
  omega
theorem lw_body {b L : Nat} {xs : Nat → Int32} {n B : Nat} (hn : n + 5 < L) (hL : L ≤ 3072) (hB : B < 2140000000) (t : Nat × Nat × Bool) (I : Nat → Nat → Int32) (Lg : Nat → Nat → Int64) (V : Nat → Option Nat) (hW : WW I B) :
    ∃ t1 I2 L2 V2, sDen (lwBd (b := b) (L := L) (xs := xs)) (lv0 n, [], mM t I Lg V) = some (some (.inl 23), (lv0 (n + 6), [], mM t1 I2 L2 V2)) ∧ WW I2 (B + 42000) ∧ (t1 = t ∨ t1 = tT t) := by
  obtain ⟨a1, a2, a3, a4, t1, I2, L2, V2, h1, h2, h3⟩ := lw_sw (b := b) (xs := xs) hn hL hB t I Lg V hW (xs n)
  refine ⟨t1, I2, L2, V2, ?_, h2, h3⟩
  have c6 : (Int8.ofInt 6).toInt32 = nI 6 := by decide
  have i6 : Int32.ofInt 6 = nI 6 := rfl
  have hs := v_sld (b := b) (L := L) (xs := xs) (sx := (RL, false, true, 9)) 36 (m := n) (lv0 n) [] (mM t I Lg V) (by omega) hL
  unfold lv0 at hs h1
  rw [show (Int8.ofInt 63).toInt32 = nI 63 by decide] at h1
  simp only [lwBd, lv0, v_sseq, v_sE, v_lift, v_slen, hs, c6, i6, h1, lw_lt hL (show n ≤ 6000 by omega), (show ¬ L < n + 6 by omega), nI_add, v_TM, v_seq, v_blk, v_lop, v_fgt, v_fg0, v_fg1, v_b0, v_b1, v_bn, v_bi, v_c0, v_c1, v_c2, v_cn, v_ci, v_st0, v_st1, v_stn, v_iadd, v_isub, v_imul, v_iand, v_ior, v_ixor, v_ishl, v_ishr, v_ladd, v_lsub, v_lmul, v_lor, v_land, v_ineg, v_lneg, v_lcmp, v_lshl, v_i2l, v_l2i, v_i2b, v_i2c, v_i2f, v_i2d, v_idiv, v_irem, v_ldiv, v_lrem, v_iconst, v_bipush, v_sipush, v_lconst0, v_lconst1, v_null, v_fconst0, v_dconst0, v_ldcS, v_dupi, v_dupr, v_pop, v_dup2, vI_i, vL_l, vA_r, vA_n, vInc_i, v_iload_n0, v_iload_n1, v_iload_n2, v_iload_n3, v_iload, v_lload_n0, v_lload_n1, v_lload_n2, v_lload_n3, v_lload, v_dload_n0, v_dload_n1, v_dload_n2, v_dload_n3, v_dload, v_aload_n0, v_aload_n1, v_aload_n2, v_aload_n3, v_aload, v_at0, v_ok0, v_at1, v_ok1, v_at2, v_ok2, v_at3, v_ok3, v_at4, v_ok4, v_at5, v_ok5, v_at6, v_ok6, v_at7, v_ok7, v_at8, v_ok8, v_at9, v_ok9, v_at10, v_ok10, v_at11, v_ok11, v_at12, v_ok12, v_at13, v_ok13, v_at14, v_ok14, v_at15, v_ok15, v_c2i, v_c2l, v_c2r, v_c2n, v_c2j, v_istore_n0, v_astore_n0, v_istore_n1, v_astore_n1, v_istore_n2, v_astore_n2, v_istore_n3, v_astore_n3, v_istore, v_astore, v_lstore_n0, v_lstore_n1, v_lstore_n2, v_lstore_n3, v_lstore, v_iinc, v_if_eq, v_if_ne, v_if_lt, v_if_ge, v_if_gt, v_if_le, v_icmp_eq, v_icmp_ne, v_icmp_lt, v_icmp_ge, v_icmp_gt, v_icmp_le, v_ifnull0, v_ifnull1, v_ifnonnull0, v_ifnonnull1, v_goto, v_ireturn, v_lreturn, v_areturn, v_areturn0, v_return, v_throw, v_throwW, v_table, v_cs0, v_csi, v_csl, v_csr, v_an0, v_an1, v_ani, v_call0, v_call1, v_call2, v_call3, v_call4, v_call5, v_call6, v_call7, v_rI, v_fin, v_finX, v_fini, v_ro0, v_roi, v_rol, v_rob0, v_rob1, v_roo, v_roon, v_kbm99, v_kbm64, v_kbm8, v_kbm5, v_kb6, v_kb7, v_kb8, v_kb9, v_kb10, v_kb12, v_kb14, v_kb19, v_kb20, v_kb24, v_kb25, v_kb30, v_kb31, v_kb32, v_kb37, v_kb40, v_kb41, v_kb45, v_kb48, v_kb50, v_kb57, v_kb59, v_kb60, v_kb63, v_kb64, v_kb97, v_kb99, v_kb112, v_kb114, v_kb122, v_kim8, v_kim1, v_ki0, v_ki1, v_ki2, v_ki3, v_ki4, v_ki5, v_ksm9999, v_ksm256, v_ks128, v_ks199, v_ks200, v_ks255, v_ks256, v_ks400, v_ks457, v_ks1000, v_ks1024, v_ks2742, v_ks9999, v_ks10000, v_ld, v_st, v_ldc2_RX7_142, v_ldc2_RX7_144, v_ldc2_RX7_146, v_ldc2_RX7_148, v_ldc2_RX7_154, v_ldc2_RX7_163, v_ldc2_RX3_81, v_ldc2_RX7_207, v_ldc2_RX7_209, v_ldc2_RX13_190, v_ldc2_RX13_212, v_ldc2_RX13_218, v_ldc2_RX13_220, v_ldc2_RX13_254, v_ldc2_RX13_256, v_ldc2_RX13_287, v_ldc2_RX13_297, v_ldc2_RX13_302, v_ldc2_RX13_323, v_ldc2_RX13_343, v_ldc2_RX13_345, v_ldc2_RX13_351, v_ldc2_RX13_374, v_ldc2_RX13_400, v_ldc2_RX13_402, v_ldc2_RX13_413, v_ldc2_RX13_439, v_ldc2_RX13_461, v_ldc2_RX13_481, v_ldc2_RX13_486, v_ldc2_RX13_488, v_ldc2_RX13_490, v_ldc2_RX13_492, v_ldc2_RX13_494, v_ldc2_RX13_496, v_ldc2_RX13_498, v_ldc2_RX13_500, if_true, if_false, Bool.not_false, Bool.not_true, Nat.reduceEqDiff, Nat.reduceLeDiff, Nat.reduceLT, Nat.reduceAdd, Nat.reduceMul, Nat.reduceSub, and_self, and_true, true_and, and_false, false_and, Bool.false_eq_true, not_true_eq_false, not_false_eq_true, ite_self, v_robb, v_rob0, v_rob1, List.nil_append]
theorem lw_end {b L : Nat} {xs : Nat → Int32} {n : Nat} (hn : L < n + 6) (hn2 : n ≤ 6000) (hL : L ≤ 3072) (μ : eMem) : sDen (lwBd (b := b) (L := L) (xs := xs)) (lv0 n, [], μ) = some (some (.inl 2906), (lv0 n, [], μ)) := by
  have c6 : (Int8.ofInt 6).toInt32 = nI 6 := by decide
  simp only [lwBd, lv0, v_sseq, v_sE, v_lift, v_slen, c6, lw_lt hL hn2, hn, v_TM, v_seq, v_blk, v_lop, v_fgt, v_fg0, v_fg1, v_b0, v_b1, v_bn, v_bi, v_c0, v_c1, v_c2, v_cn, v_ci, v_st0, v_st1, v_stn, v_iadd, v_isub, v_imul, v_iand, v_ior, v_ixor, v_ishl, v_ishr, v_ladd, v_lsub, v_lmul, v_lor, v_land, v_ineg, v_lneg, v_lcmp, v_lshl, v_i2l, v_l2i, v_i2b, v_i2c, v_i2f, v_i2d, v_idiv, v_irem, v_ldiv, v_lrem, v_iconst, v_bipush, v_sipush, v_lconst0, v_lconst1, v_null, v_fconst0, v_dconst0, v_ldcS, v_dupi, v_dupr, v_pop, v_dup2, vI_i, vL_l, vA_r, vA_n, vInc_i, v_iload_n0, v_iload_n1, v_iload_n2, v_iload_n3, v_iload, v_lload_n0, v_lload_n1, v_lload_n2, v_lload_n3, v_lload, v_dload_n0, v_dload_n1, v_dload_n2, v_dload_n3, v_dload, v_aload_n0, v_aload_n1, v_aload_n2, v_aload_n3, v_aload, v_at0, v_ok0, v_at1, v_ok1, v_at2, v_ok2, v_at3, v_ok3, v_at4, v_ok4, v_at5, v_ok5, v_at6, v_ok6, v_at7, v_ok7, v_at8, v_ok8, v_at9, v_ok9, v_at10, v_ok10, v_at11, v_ok11, v_at12, v_ok12, v_at13, v_ok13, v_at14, v_ok14, v_at15, v_ok15, v_c2i, v_c2l, v_c2r, v_c2n, v_c2j, v_istore_n0, v_astore_n0, v_istore_n1, v_astore_n1, v_istore_n2, v_astore_n2, v_istore_n3, v_astore_n3, v_istore, v_astore, v_lstore_n0, v_lstore_n1, v_lstore_n2, v_lstore_n3, v_lstore, v_iinc, v_if_eq, v_if_ne, v_if_lt, v_if_ge, v_if_gt, v_if_le, v_icmp_eq, v_icmp_ne, v_icmp_lt, v_icmp_ge, v_icmp_gt, v_icmp_le, v_ifnull0, v_ifnull1, v_ifnonnull0, v_ifnonnull1, v_goto, v_ireturn, v_lreturn, v_areturn, v_areturn0, v_return, v_throw, v_throwW, v_table, v_cs0, v_csi, v_csl, v_csr, v_an0, v_an1, v_ani, v_call0, v_call1, v_call2, v_call3, v_call4, v_call5, v_call6, v_call7, v_rI, v_fin, v_finX, v_fini, v_ro0, v_roi, v_rol, v_rob0, v_rob1, v_roo, v_roon, v_kbm99, v_kbm64, v_kbm8, v_kbm5, v_kb6, v_kb7, v_kb8, v_kb9, v_kb10, v_kb12, v_kb14, v_kb19, v_kb20, v_kb24, v_kb25, v_kb30, v_kb31, v_kb32, v_kb37, v_kb40, v_kb41, v_kb45, v_kb48, v_kb50, v_kb57, v_kb59, v_kb60, v_kb63, v_kb64, v_kb97, v_kb99, v_kb112, v_kb114, v_kb122, v_kim8, v_kim1, v_ki0, v_ki1, v_ki2, v_ki3, v_ki4, v_ki5, v_ksm9999, v_ksm256, v_ks128, v_ks199, v_ks200, v_ks255, v_ks256, v_ks400, v_ks457, v_ks1000, v_ks1024, v_ks2742, v_ks9999, v_ks10000, v_ld, v_st, v_ldc2_RX7_142, v_ldc2_RX7_144, v_ldc2_RX7_146, v_ldc2_RX7_148, v_ldc2_RX7_154, v_ldc2_RX7_163, v_ldc2_RX3_81, v_ldc2_RX7_207, v_ldc2_RX7_209, v_ldc2_RX13_190, v_ldc2_RX13_212, v_ldc2_RX13_218, v_ldc2_RX13_220, v_ldc2_RX13_254, v_ldc2_RX13_256, v_ldc2_RX13_287, v_ldc2_RX13_297, v_ldc2_RX13_302, v_ldc2_RX13_323, v_ldc2_RX13_343, v_ldc2_RX13_345, v_ldc2_RX13_351, v_ldc2_RX13_374, v_ldc2_RX13_400, v_ldc2_RX13_402, v_ldc2_RX13_413, v_ldc2_RX13_439, v_ldc2_RX13_461, v_ldc2_RX13_481, v_ldc2_RX13_486, v_ldc2_RX13_488, v_ldc2_RX13_490, v_ldc2_RX13_492, v_ldc2_RX13_494, v_ldc2_RX13_496, v_ldc2_RX13_498, v_ldc2_RX13_500, if_true, if_false, Bool.not_false, Bool.not_true, Nat.reduceEqDiff, Nat.reduceLeDiff, Nat.reduceLT, Nat.reduceAdd, Nat.reduceMul, Nat.reduceSub, and_self, and_true, true_and, and_false, false_and, Bool.false_eq_true, not_true_eq_false, not_false_eq_true, ite_self, v_robb, v_rob0, v_rob1, List.nil_append]
theorem lw_loop {b L : Nat} {xs : Nat → Int32} (hL : L ≤ 3072) (t : Nat × Nat × Bool) (I : Nat → Nat → Int32) (Lg : Nat → Nat → Int64) (V : Nat → Option Nat) (hW : WW I 2) :
    ∃ n t1 I2 L2 V2, sDen (sLop 23 (lwBd (b := b) (L := L) (xs := xs))) (lv0 0, [], mM t I Lg V) = some (some (.inl 2906), (lv0 n, [], mM t1 I2 L2 V2)) ∧ t1.1 ≤ t.1 + 512 ∧ t1.2.1 ≤ t.2.1 + 3072 := by
  have key := eLoop_i (h := 23) (d := sDen (lwBd (b := b) (L := L) (xs := xs))) (fun k σ => ∃ i t1 I1 L1 V1, k + 6 * i = 6000 ∧ 6 * i < L + 6 ∧ σ = (lv0 (6 * i), [], mM t1 I1 L1 V1) ∧ WW I1 (2 + 42000 * i) ∧ t1.1 ≤ t.1 + i ∧ t1.2.1 ≤ t.2.1 + 6 * i)
    (fun r => ∃ n t1 I2 L2 V2, r = some (some (.inl 2906), (lv0 n, [], mM t1 I2 L2 V2)) ∧ t1.1 ≤ t.1 + 512 ∧ t1.2.1 ≤ t.2.1 + 3072)
    (by rintro σ ⟨n, t1, I2, L2, V2, z, -⟩; cases z) (by
      rintro k σ ⟨i, t1, I1, L1, V1, h1, h2, rfl, h3, h4, h5⟩
      by_cases h : L < 6 * i + 6
      · exact Or.inr ⟨_, lw_end h (by omega) hL _, _, _, _, _, _, rfl, by omega, by omega⟩
      · obtain ⟨t2, I2, L2, V2, g1, g2, g3⟩ := lw_body (b := b) (xs := xs) (n := 6 * i) (B := 2 + 42000 * i) (by omega) hL (by omega) t1 I1 L1 V1 h3
        refine Or.inl ⟨k - 6, _, by omega, g1, i + 1, t2, I2, L2, V2, by omega, by omega, by rw [show 6 * i + 6 = 6 * (i + 1) by omega], by rw [show 2 + 42000 * (i + 1) = 2 + 42000 * i + 42000 by omega]; exact g2, ?_, ?_⟩
        · rcases g3 with rfl | rfl
          · omega
          · show t1.1 + 1 ≤ _; omega
        · rcases g3 with rfl | rfl
          · omega
          · show t1.2.1 + 6 ≤ _; omega) 6000 (lv0 0, [], mM t I Lg V) ⟨0, t, I, Lg, V, by omega, by omega, rfl, hW, by omega, by omega⟩ (by omega)
  obtain ⟨r, h1, n, t1, I2, L2, V2, h2, h3, h4⟩ := key
  rw [v_slop, h1, h2]
  exact ⟨n, t1, I2, L2, V2, rfl, h3, h4⟩
def lwP : eP (RL, false, true, 9) := (eSeq (p_new 0 8 10 nw_RL_8)
(eSeq (p_dup 3)
(eSeq (p_call 4 1 (.invokespecial 125) _ mX12_init (eLnkI rfl rfl tb29 tb30 (by decide +kernel)))
(eSeq (p_astore_n 7 1)
(eSeq (p_new 8 126 11 nw_RL_126)
(eSeq (p_dup 11)
(eSeq (p_call 12 1 (.invokespecial 128) _ mX13_init (eLnkI rfl rfl tb1427 tb1428 (by decide +kernel)))
(eSeq (p_astore_n 15 2)
(eSeq (p_iconst 16 (1))
(eSeq (p_newa 17 52 1 (Or.inr (Or.inr rfl)) tb193)
(eSeq (p_astore_n 19 3)
(eSeq (p_iconst 20 (0))
(p_istore 21 4)))))))))))))
def lwPre {b L : Nat} {xs : Nat → Int32} : PL b L xs := sE lwP
def lwAll {b L : Nat} {xs : Nat → Int32} : PL b L xs := (sSeq lwPre (sSeq (sBlk 2906 (sLop 23 lwBd)) (sSeq (sE (p_iconst 2906 (1))) (sE (p_ireturn 2907 2908)))))
theorem lw_all {b L : Nat} {xs : Nat → Int32} (hL : L ≤ 3072) (σ : eSt) (t : Nat × Nat × Bool) (I : Nat → Nat → Int32) (Lg : Nat → Nat → Int64) (V : Nat → Option Nat) (hW : WW I 2) (hp : sDen (lwPre (b := b) (L := L) (xs := xs)) σ = some (none, (lv0 0, [], mM t I Lg V))) :
    ∃ n t1 I2 L2 V2, sDen (lwAll (b := b) (L := L) (xs := xs)) σ = some (some (.inr (.inl (some (.int (nI 1))))), (lv0 n, [.int (nI 1)], mM t1 I2 L2 V2)) ∧ t1.1 ≤ t.1 + 512 ∧ t1.2.1 ≤ t.2.1 + 3072 := by
  obtain ⟨n, t1, I2, L2, V2, h1, h2, h3⟩ := lw_loop (b := b) (xs := xs) hL t I Lg V hW
  refine ⟨n, t1, I2, L2, V2, ?_, h2, h3⟩
  unfold lwAll
  rw [v_sseq, hp, v_b0, v_sseq, v_sblk, h1, v_c1, if_pos rfl, v_b0]
  rfl
