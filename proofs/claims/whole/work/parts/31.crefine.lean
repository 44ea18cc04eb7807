/-! ===== the class: refining ===== -/
theorem vH_congr {sl : Bool} {c c' : Nat → Int32} {n : Nat} {x y : Int64} (h : ∀ k, k ≤ n → c k = c' k) : ∀ j, vH sl c n x y j = vH sl c' n x y j := by
  intro j
  induction j with
  | zero => unfold vH; rw [h n (Nat.le_refl n)]
  | succ j ih => unfold vH; rw [ih, h _ (Nat.sub_le _ _)]
theorem vV_congr {sl : Bool} {c c' : Nat → Int32} {n : Nat} {x y : Int64} (h : ∀ k, k ≤ n → c k = c' k) : vV sl c n x y = vV sl c' n x y := vH_congr h _
theorem vP_congr {X Y X' Y' : Nat → Int32} {ld : Int64} {p n : Nat} (hp : p < n) (hx : ∀ q, q < n → X q = X' q) (hy : ∀ q, q < n → Y q = Y' q) : ∀ q, q ≤ n → vP X Y ld p q = vP X' Y' ld p q := by
  intro q
  induction q with
  | zero => intro _; rfl
  | succ q ih =>
    intro h
    unfold vP
    rw [ih (by omega), hx q (by omega), hy q (by omega), hx p hp, hy p hp]
theorem vS_congr {X Y X' Y' : Nat → Int32} {ld : Int64} {p n : Nat} (hp : p < n) (hx : ∀ q, q < n → X q = X' q) (hy : ∀ q, q < n → Y q = Y' q) : ∀ q, q ≤ n → vS X Y ld p q = vS X' Y' ld p q := by
  intro q
  induction q with
  | zero => intro _; rfl
  | succ q ih =>
    intro h
    unfold vS
    rw [ih (by omega), hx q (by omega), hy q (by omega), hx p hp, hy p hp]
abbrev rVal (sl : Bool) (s : Row) (n : Nat) (x y : Int32) : Int64 × Int64 := vV sl (fun k => s (5 + k)) n x.toInt64 y.toInt64
abbrev rPro (s : Row) (n p : Nat) : Int64 × Int64 := vP (fun k => s (19 + k)) (fun k => s (25 + k)) (s (5 + n)).toInt64 p n
def stR (s : Row) (n p : Nat) : Int32 × Int32 := stS (rVal false s n (s (19 + p)) (s (25 + p))).1 (rVal false s n (s (19 + p)) (s (25 + p))).2 (rPro s n p).1 (rPro s n p).2
def nxX (s : Row) (n p : Nat) : Int32 := limI (s (19 + p) - (stR s n p).1) (nI 256)
def nxY (s : Row) (n p : Nat) : Int32 := limI (s (25 + p) - (stR s n p).2) (nI 256)
def pl2 (s : Row) (v p : Nat) (x y x2 y2 : Int32) : Row × Nat × Nat := ((plS (plS s v p x y).1 (plS s v p x y).2.1 (p + 1) x2 y2).1, (plS (plS s v p x y).1 (plS s v p x y).2.1 (p + 1) x2 y2).2.1, (plS s v p x y).2.2 + (plS (plS s v p x y).1 (plS s v p x y).2.1 (p + 1) x2 y2).2.2)
/-- to refine a point, or a pair by its first one -/
def rfS (s : Row) (v n p : Nat) : Row × Nat × Nat :=
  if rol s p = nI 1 then
    if nxY s n p < nI 1 then pl2 (sPart s p) v p (limI (nxX s n p - nI 1) (nI 256)) (nI 0) (limI (nxX s n p + nI 1) (nI 256)) (nI 0)
    else pl2 s v p (nxX s n p) (nxY s n p) (nxX s n p) (-nxY s n p)
  else plS s v p (nxX s n p) (nxY s n p)
def fstP (s : Row) (p : Nat) : Nat := if rol s p = nI 2 then p - 1 else p
def PR (n : Nat) (s : Row) : Prop := ∀ p, p < n → s (31 + p) = -nI 1 ∨ (p + 1 < n ∧ s (31 + p) = nI (p + 1) ∧ s (31 + (p + 1)) = nI p ∧ nI 1 ≤ s (25 + p)) ∨ (1 ≤ p ∧ s (31 + p) = nI (p - 1) ∧ s (31 + (p - 1)) = nI p)
theorem nI_m1 {p : Nat} (h : p < 100) : ¬ nI p = -nI 1 := by
  intro z
  have := congrArg Int32.toInt z
  rw [nI_toInt (by omega), show (-nI 1).toInt = -1 by decide] at this
  omega
theorem PR_role {n : Nat} {s : Row} (h : PR n s) (hn : n ≤ 6) {p : Nat} (hp : p < n) : (rol s p = nI 0 ∧ s (31 + p) = -nI 1) ∨ (rol s p = nI 1 ∧ p + 1 < n ∧ s (31 + p) = nI (p + 1) ∧ s (31 + (p + 1)) = nI p ∧ nI 1 ≤ s (25 + p)) ∨ (rol s p = nI 2 ∧ 1 ≤ p ∧ s (31 + p) = nI (p - 1) ∧ s (31 + (p - 1)) = nI p) := by
  unfold rol
  rcases h p hp with h1 | h1 | h1
  · exact Or.inl ⟨by rw [if_pos h1], h1⟩
  · refine Or.inr (Or.inl ⟨?_, h1⟩)
    rw [h1.2.1, if_neg (nI_m1 (by omega)), if_pos rfl]
  · refine Or.inr (Or.inr ⟨?_, h1⟩)
    rw [h1.2.1, if_neg (nI_m1 (by omega)), if_neg]
    rw [nI_eq (by omega) (by omega)]
    omega
theorem rol_cases {n : Nat} {s : Row} (h : PR n s) (hn : n ≤ 6) {p : Nat} (hp : p < n) (h1 : rol s p = nI 1) : p + 1 < n ∧ s (31 + p) = nI (p + 1) ∧ s (31 + (p + 1)) = nI p ∧ nI 1 ≤ s (25 + p) := by
  rcases PR_role h hn hp with z | z | z
  · rw [z.1] at h1; exact absurd h1 (by decide)
  · exact z.2
  · rw [z.1] at h1; exact absurd h1 (by decide)
theorem fst_lt {n : Nat} {s : Row} {p : Nat} (hp : p < n) : fstP s p < n := by unfold fstP; split <;> omega
theorem lim_I (x : Int32) : (lim x.toInt64 256).toInt32 = limI x (nI 256) := by
  unfold lim limI
  have e1 : (256 : Int64) = (nI 256).toInt64 := by decide
  have e2 : -(nI 256).toInt64 = (-nI 256).toInt64 := by decide
  rw [e1, e2]
  simp only [i2l_lt]
  by_cases h1 : nI 256 < x
  · rw [if_pos h1, if_pos h1, if_neg, Int32.toInt32_toInt64]
    intro z
    exact absurd (Int32.lt_trans h1 z) (by decide)
  · rw [if_neg h1, if_neg h1]
    split
    · rw [Int32.toInt32_toInt64]
    · rw [Int32.toInt32_toInt64]
theorem plS_v (s : Row) (v p : Nat) (x y : Int32) : (plS s v p x y).2.1 = v + (plS s v p x y).2.2 ∧ (plS s v p x y).2.2 ≤ 1 := by
  unfold plS
  split <;> simp
theorem pl2_v (s : Row) (v p : Nat) (x y x2 y2 : Int32) : (pl2 s v p x y x2 y2).2.1 = v + (pl2 s v p x y x2 y2).2.2 ∧ (pl2 s v p x y x2 y2).2.2 ≤ 2 := by
  unfold pl2
  have h1 := plS_v s v p x y
  have h2 := plS_v (plS s v p x y).1 (plS s v p x y).2.1 (p + 1) x2 y2
  dsimp only
  omega
theorem rfS_v (s : Row) (v n p : Nat) : (rfS s v n p).2.1 = v + (rfS s v n p).2.2 ∧ (rfS s v n p).2.2 ≤ 2 := by
  unfold rfS
  split
  · split
    · exact pl2_v _ _ _ _ _ _ _
    · exact pl2_v _ _ _ _ _ _ _
  · have := plS_v s v p (nxX s n p) (nxY s n p)
    omega
theorem c_pl2_1 {m d v p : Nat} (hp : p + 1 < m) (hm : m ≤ 6) (hd : d ≤ 5) (hv : v < 2147482000) {s : Row} (x y x2 y2 : Int32) (t : Nat × Nat × Bool) (I : Nat → Nat → Int32) (L : Nat → Nat → Int64) (V : Nat → Option Nat) (h : CS I 1 m d v s) : ∃ I1 I', eCall mX7_place [.ref 1, .int (nI p), .int x, .int y] (mM t I L V) = some (.inl (some (.int (nI (plS s v p x y).2.2))), mM t I1 L V) ∧ eCall mX7_place [.ref 1, .int (nI (p + 1)), .int x2, .int y2] (mM t I1 L V) = some (.inl (some (.int (nI (plS (plS s v p x y).1 (plS s v p x y).2.1 (p + 1) x2 y2).2.2))), mM t I' L V) ∧ CS I' 1 m d (pl2 s v p x y x2 y2).2.1 (pl2 s v p x y x2 y2).1 ∧ Fr 1 I I' ∧ I' 1 = I 1 := by
  obtain ⟨I1, e1, e2, e3, e4⟩ := c_place_1 (show p < m by omega) hm hd (by omega) x y t I L V h
  have := plS_v s v p x y
  obtain ⟨I', f1, f2, f3, f4⟩ := c_place_1 hp hm hd (by omega) x2 y2 t I1 L V e2
  exact ⟨I1, I', e1, f1, f2, e3.trans f3, by rw [f4, e4]⟩
theorem c_refineAt_1 {n d v p : Nat} (hp : p < n) (h1 : 1 ≤ n) (hn : n ≤ 6) (hd : d ≤ 5) (hv : v < 2147481000) {s : Row} (hs : s 0 = nI n) (hPR : PR n s) (t : Nat × Nat × Bool) (I : Nat → Nat → Int32) (L : Nat → Nat → Int64) (V : Nat → Option Nat) (h : CS I 1 n d v s) : ∃ I' L', (∀ k, k ≠ 17 → k ≠ 18 → L' k = L k) ∧ eCall mX7_refineAt [.ref 1, .int (nI p)] (mM t I L V) = some (.inl (some (.int (nI (rfS s v n (fstP s p)).2.2))), mM t I' L' V) ∧ CS I' 1 n d (rfS s v n (fstP s p)).2.1 (rfS s v n (fstP s p)).1 ∧ Fr 1 I I' := by
  obtain ⟨a1, a2, a3, a4, a5, a6⟩ := id h
  have p0 : I 6 0 = nI n := a3.1
  have q0 : I 4 0 = nI n := a2.1.trans hs
  have b1 := c_firstOf_1 hp hn t I L V p0
  rw [(a3.2 p hp).2.2] at b1
  have ef : (if rol s p = nI 2 then nI p - nI 1 else nI p) = nI (fstP s p) := by
    unfold fstP
    by_cases hr : rol s p = nI 2
    · rw [if_pos hr, if_pos hr]
      rcases PR_role hPR hn hp with z | z | z
      · rw [z.1] at hr; exact absurd hr (by decide)
      · rw [z.1] at hr; exact absurd hr (by decide)
      · exact pk_sub z.2.1
    · rw [if_neg hr, if_neg hr]
  rw [ef] at b1
  have hf : fstP s p < n := fst_lt hp
  generalize fstP s p = f at *
  obtain ⟨fx, fy, fr⟩ := a3.2 f hf
  obtain ⟨L', hL', b2⟩ := c_step_1 hf h1 hn t I L V q0 p0
  have ev : vV false (I 5) n (I 7 f).toInt64 (I 8 f).toInt64 = rVal false s n (s (19 + f)) (s (25 + f)) := by
    rw [show I 7 f = s (19 + f) from fx, show I 8 f = s (25 + f) from fy]
    exact vV_congr (fun k hk => a2.2 k (by omega))
  have ep : vP (I 7) (I 8) (I 5 n).toInt64 f n = rPro s n f := by
    rw [show I 5 n = s (5 + n) from a2.2 n (by omega)]
    exact vP_congr hf (fun q hq => (a3.2 q hq).1) (fun q hq => (a3.2 q hq).2.1) n (Nat.le_refl n)
  rw [ev, ep] at b2
  change eCall _ _ _ = some (.inl none, mM t (si2 I 1 9 10 (stR s n f).1 (stR s n f).2) L' V) at b2
  have hcs : CS (si2 I 1 9 10 (stR s n f).1 (stR s n f).2) 1 n d v s := h.keep (fun k g1 g2 => si2_n (by omega)) (by unfold si2; rw [si_m (by decide), si_m (by decide)]) hn hd
  have g9 : si2 I 1 9 10 (stR s n f).1 (stR s n f).2 1 9 = (stR s n f).1 := by unfold si2; rw [si_m (by decide), si_s]
  have g10 : si2 I 1 9 10 (stR s n f).1 (stR s n f).2 1 10 = (stR s n f).2 := by unfold si2; rw [si_s]
  have hfr : Fr 1 I (si2 I 1 9 10 (stR s n f).1 (stR s n f).2) := fun k hk => si2_n (by omega)
  generalize si2 I 1 9 10 (stR s n f).1 (stR s n f).2 = I2 at *
  obtain ⟨o1, o2, o3, o4, o5, o6⟩ := id hcs
  have p2 : I2 6 0 = nI n := o3.1
  have b3 := c_xOf_1 hf hn t I2 L' V p2
  have b4 := c_yOf_1 hf hn t I2 L' V p2
  have b5 := c_roleOf_1 hf hn t I2 L' V p2
  obtain ⟨gx, gy, gr⟩ := o3.2 f hf
  rw [gx] at b3
  rw [gy] at b4
  rw [gr] at b5
  have ex : limI (s (19 + f) - (stR s n f).1) (nI 256) = nxX s n f := rfl
  have ey : limI (s (25 + f) - (stR s n f).2) (nI 256) = nxY s n f := rfl
  unfold rfS
  by_cases hr : rol s f = nI 1
  · obtain ⟨z1, z2, z3, z4⟩ := rol_cases hPR hn hf hr
    rw [if_pos hr]
    by_cases hy : nxY s n f < nI 1
    · rw [if_pos hy]
      have b6 := c_partAt_1 z1 hn t I2 L' V p2
      have hcs2 : CS (si (si I2 9 f (nI 0)) 9 (f + 1) (nI 0)) 1 n d v (sPart s f) := CS_roles hcs hn hd (fun j hj => sPart_o (by omega) (by omega)) (fun q => rol_part s f q)
      have hfr2 : Fr 1 I2 (si (si I2 9 f (nI 0)) 9 (f + 1) (nI 0)) := fun k hk => by rw [si_n (by omega), si_n (by omega)]
      obtain ⟨I3, I', e1, e2, e3, e4, -⟩ := c_pl2_1 z1 hn hd (by omega) (limI (nxX s n f - nI 1) (nI 256)) (nI 0) (limI (nxX s n f + nI 1) (nI 256)) (nI 0) t _ L' V hcs2
      refine ⟨I', L', hL', ?_, e3, (hfr.trans hfr2).trans e4⟩
      simp only [kX7_refineAt, gX7_refineAt, v_TM, v_seq, v_blk, v_lop, v_fgt, v_fg0, v_fg1, v_b0, v_b1, v_bn, v_bi, v_c0, v_c1, v_c2, v_cn, v_ci, v_st0, v_st1, v_stn, v_iadd, v_isub, v_imul, v_iand, v_ior, v_ixor, v_ishl, v_ishr, v_ladd, v_lsub, v_lmul, v_lor, v_land, v_ineg, v_lneg, v_lcmp, v_lshl, v_i2l, v_l2i, v_i2b, v_i2c, v_i2f, v_i2d, v_idiv, v_irem, v_ldiv, v_lrem, v_iconst, v_bipush, v_sipush, v_lconst0, v_lconst1, v_null, v_fconst0, v_dconst0, v_ldcS, v_dupi, v_dupr, v_pop, v_dup2, vI_i, vL_l, vA_r, vA_n, vInc_i, v_iload_n0, v_iload_n1, v_iload_n2, v_iload_n3, v_iload, v_lload_n0, v_lload_n1, v_lload_n2, v_lload_n3, v_lload, v_dload_n0, v_dload_n1, v_dload_n2, v_dload_n3, v_dload, v_aload_n0, v_aload_n1, v_aload_n2, v_aload_n3, v_aload, v_at0, v_ok0, v_at1, v_ok1, v_at2, v_ok2, v_at3, v_ok3, v_at4, v_ok4, v_at5, v_ok5, v_at6, v_ok6, v_at7, v_ok7, v_at8, v_ok8, v_at9, v_ok9, v_at10, v_ok10, v_at11, v_ok11, v_at12, v_ok12, v_at13, v_ok13, v_at14, v_ok14, v_at15, v_ok15, v_c2i, v_c2l, v_c2r, v_c2n, v_c2j, v_istore_n0, v_astore_n0, v_istore_n1, v_astore_n1, v_istore_n2, v_astore_n2, v_istore_n3, v_astore_n3, v_istore, v_astore, v_lstore_n0, v_lstore_n1, v_lstore_n2, v_lstore_n3, v_lstore, v_iinc, v_if_eq, v_if_ne, v_if_lt, v_if_ge, v_if_gt, v_if_le, v_icmp_eq, v_icmp_ne, v_icmp_lt, v_icmp_ge, v_icmp_gt, v_icmp_le, v_ifnull0, v_ifnull1, v_ifnonnull0, v_ifnonnull1, v_goto, v_ireturn, v_lreturn, v_areturn, v_areturn0, v_return, v_throw, v_throwW, v_table, v_cs0, v_csi, v_csl, v_csr, v_an0, v_an1, v_ani, v_call0, v_call1, v_call2, v_call3, v_call4, v_call5, v_call6, v_call7, v_rI, v_fin, v_finX, v_fini, v_ro0, v_roi, v_rol, v_rob0, v_rob1, v_roo, v_roon, v_kbm99, v_kbm64, v_kbm8, v_kbm5, v_kb6, v_kb7, v_kb8, v_kb9, v_kb10, v_kb12, v_kb14, v_kb19, v_kb20, v_kb24, v_kb25, v_kb30, v_kb31, v_kb32, v_kb37, v_kb40, v_kb41, v_kb45, v_kb48, v_kb50, v_kb57, v_kb59, v_kb60, v_kb63, v_kb64, v_kb97, v_kb99, v_kb112, v_kb114, v_kb122, v_kim8, v_kim1, v_ki0, v_ki1, v_ki2, v_ki3, v_ki4, v_ki5, v_ksm9999, v_ksm256, v_ks128, v_ks199, v_ks200, v_ks255, v_ks256, v_ks400, v_ks457, v_ks1000, v_ks1024, v_ks2742, v_ks9999, v_ks10000, v_ld, v_st, v_ldc2_RX7_142, v_ldc2_RX7_144, v_ldc2_RX7_146, v_ldc2_RX7_148, v_ldc2_RX7_154, v_ldc2_RX7_163, v_ldc2_RX3_81, v_ldc2_RX7_207, v_ldc2_RX7_209, v_ldc2_RX13_190, v_ldc2_RX13_212, v_ldc2_RX13_218, v_ldc2_RX13_220, v_ldc2_RX13_254, v_ldc2_RX13_256, v_ldc2_RX13_287, v_ldc2_RX13_297, v_ldc2_RX13_302, v_ldc2_RX13_323, v_ldc2_RX13_343, v_ldc2_RX13_345, v_ldc2_RX13_351, v_ldc2_RX13_374, v_ldc2_RX13_400, v_ldc2_RX13_402, v_ldc2_RX13_413, v_ldc2_RX13_439, v_ldc2_RX13_461, v_ldc2_RX13_481, v_ldc2_RX13_486, v_ldc2_RX13_488, v_ldc2_RX13_490, v_ldc2_RX13_492, v_ldc2_RX13_494, v_ldc2_RX13_496, v_ldc2_RX13_498, v_ldc2_RX13_500, if_true, if_false, Bool.not_false, Bool.not_true, Nat.reduceEqDiff, Nat.reduceLeDiff, Nat.reduceLT, Nat.reduceAdd, Nat.reduceMul, Nat.reduceSub, and_self, and_true, true_and, and_false, false_and, Bool.false_eq_true, not_true_eq_false, not_false_eq_true, ite_self, v_robb, v_rob0, v_rob1, List.nil_append, G_0_0, G_0_1, G_0_2, G_0_3, P_0_3, G_0_4, G_0_5, P_0_5, G_0_6, P_0_6, G_0_7, G_0_8, G_0_9, G_0_10, G_0_11, G_0_12, G_0_13, G_0_14, P_0_14, R_0, G_1_0, G_1_1, G_1_2, G_1_3, G_1_4, G_1_5, P_1_5, G_1_6, G_1_7, G_1_8, G_1_9, P_1_9, G_1_10, P_1_10, R_1, G_2_0, P_2_0, G_2_1, R_2, S_3, A_3, N_3, G_4_0, P_4_0, G_4_1, R_4, S_5, A_5, N_5, G_6_0, P_6_0, G_6_1, G_6_2, G_6_3, R_6, S_7, A_7, N_7, S_8, A_8, N_8, S_9, A_9, N_9, G_10_0, P_10_0, G_10_1, G_10_2, G_10_3, G_10_4, R_10, S_11, A_11, N_11, S_12, A_12, N_12, S_13, A_13, N_13, S_14, A_14, N_14, G_15_0, P_15_0, G_15_1, P_15_1, G_15_2, R_15, S_16, A_16, N_16, G_17_0, P_17_0, G_17_1, P_17_1, R_17, G_18_0, P_18_0, G_18_1, P_18_1, R_18, S_19, A_19, N_19, G_20_0, G_20_1, G_20_2, G_20_3, G_20_4, G_20_5, P_20_5, G_20_6, G_20_7, G_20_8, G_20_9, P_20_9, G_20_10, P_20_10, R_20, G_21_0, P_21_0, G_21_1, R_21, S_22, A_22, N_22, G_23_0, P_23_0, G_23_1, R_23, S_24, A_24, N_24, G_25_0, P_25_0, G_25_1, G_25_2, G_25_3, R_25, S_26, A_26, N_26, S_27, A_27, N_27, S_28, A_28, N_28, G_29_0, P_29_0, G_29_1, G_29_2, G_29_3, G_29_4, R_29, S_30, A_30, N_30, S_31, A_31, N_31, S_32, A_32, N_32, S_33, A_33, N_33, G_34_0, P_34_0, G_34_1, P_34_1, G_34_2, R_34, S_35, A_35, N_35, G_36_0, P_36_0, G_36_1, P_36_1, R_36, G_37_0, P_37_0, G_37_1, P_37_1, R_37, S_38, A_38, N_38, A_58, N_58, G_59_0, P_59_0, G_59_1, G_59_2, G_59_3, R_59, S_60, A_60, N_60, S_61, A_61, N_61, G_62_0, P_62_0, G_62_1, P_62_1, R_62, G_63_0, P_63_0, G_63_1, P_63_1, R_63, S_64, A_64, N_64, G_65_0, P_65_0, G_65_1, G_65_2, P_65_2, G_65_3, P_65_3, G_65_4, P_65_4, G_65_5, P_65_5, G_65_6, P_65_6, G_65_7, P_65_7, R_65, S_66, A_66, N_66, G_67_0, P_67_0, R_67, G_68_0, P_68_0, G_68_1, P_68_1, G_68_2, P_68_2, G_68_3, G_68_4, G_68_5, G_68_6, G_68_7, R_68, A_69, N_69, S_70, A_70, N_70, S_71, A_71, N_71, S_72, A_72, N_72, S_73, A_73, N_73, S_74, A_74, N_74, b1, b2, b3, b4, b5, g9, g10, c_limit, v_rS, lim_I, ex, ey, hr, hy, b6, e1, nI_add, e2]
      rfl
    · rw [if_neg hy]
      obtain ⟨I3, I', e1, e2, e3, e4, -⟩ := c_pl2_1 z1 hn hd (by omega) (nxX s n f) (nxY s n f) (nxX s n f) (-nxY s n f) t _ L' V hcs
      refine ⟨I', L', hL', ?_, e3, hfr.trans e4⟩
      simp only [kX7_refineAt, gX7_refineAt, v_TM, v_seq, v_blk, v_lop, v_fgt, v_fg0, v_fg1, v_b0, v_b1, v_bn, v_bi, v_c0, v_c1, v_c2, v_cn, v_ci, v_st0, v_st1, v_stn, v_iadd, v_isub, v_imul, v_iand, v_ior, v_ixor, v_ishl, v_ishr, v_ladd, v_lsub, v_lmul, v_lor, v_land, v_ineg, v_lneg, v_lcmp, v_lshl, v_i2l, v_l2i, v_i2b, v_i2c, v_i2f, v_i2d, v_idiv, v_irem, v_ldiv, v_lrem, v_iconst, v_bipush, v_sipush, v_lconst0, v_lconst1, v_null, v_fconst0, v_dconst0, v_ldcS, v_dupi, v_dupr, v_pop, v_dup2, vI_i, vL_l, vA_r, vA_n, vInc_i, v_iload_n0, v_iload_n1, v_iload_n2, v_iload_n3, v_iload, v_lload_n0, v_lload_n1, v_lload_n2, v_lload_n3, v_lload, v_dload_n0, v_dload_n1, v_dload_n2, v_dload_n3, v_dload, v_aload_n0, v_aload_n1, v_aload_n2, v_aload_n3, v_aload, v_at0, v_ok0, v_at1, v_ok1, v_at2, v_ok2, v_at3, v_ok3, v_at4, v_ok4, v_at5, v_ok5, v_at6, v_ok6, v_at7, v_ok7, v_at8, v_ok8, v_at9, v_ok9, v_at10, v_ok10, v_at11, v_ok11, v_at12, v_ok12, v_at13, v_ok13, v_at14, v_ok14, v_at15, v_ok15, v_c2i, v_c2l, v_c2r, v_c2n, v_c2j, v_istore_n0, v_astore_n0, v_istore_n1, v_astore_n1, v_istore_n2, v_astore_n2, v_istore_n3, v_astore_n3, v_istore, v_astore, v_lstore_n0, v_lstore_n1, v_lstore_n2, v_lstore_n3, v_lstore, v_iinc, v_if_eq, v_if_ne, v_if_lt, v_if_ge, v_if_gt, v_if_le, v_icmp_eq, v_icmp_ne, v_icmp_lt, v_icmp_ge, v_icmp_gt, v_icmp_le, v_ifnull0, v_ifnull1, v_ifnonnull0, v_ifnonnull1, v_goto, v_ireturn, v_lreturn, v_areturn, v_areturn0, v_return, v_throw, v_throwW, v_table, v_cs0, v_csi, v_csl, v_csr, v_an0, v_an1, v_ani, v_call0, v_call1, v_call2, v_call3, v_call4, v_call5, v_call6, v_call7, v_rI, v_fin, v_finX, v_fini, v_ro0, v_roi, v_rol, v_rob0, v_rob1, v_roo, v_roon, v_kbm99, v_kbm64, v_kbm8, v_kbm5, v_kb6, v_kb7, v_kb8, v_kb9, v_kb10, v_kb12, v_kb14, v_kb19, v_kb20, v_kb24, v_kb25, v_kb30, v_kb31, v_kb32, v_kb37, v_kb40, v_kb41, v_kb45, v_kb48, v_kb50, v_kb57, v_kb59, v_kb60, v_kb63, v_kb64, v_kb97, v_kb99, v_kb112, v_kb114, v_kb122, v_kim8, v_kim1, v_ki0, v_ki1, v_ki2, v_ki3, v_ki4, v_ki5, v_ksm9999, v_ksm256, v_ks128, v_ks199, v_ks200, v_ks255, v_ks256, v_ks400, v_ks457, v_ks1000, v_ks1024, v_ks2742, v_ks9999, v_ks10000, v_ld, v_st, v_ldc2_RX7_142, v_ldc2_RX7_144, v_ldc2_RX7_146, v_ldc2_RX7_148, v_ldc2_RX7_154, v_ldc2_RX7_163, v_ldc2_RX3_81, v_ldc2_RX7_207, v_ldc2_RX7_209, v_ldc2_RX13_190, v_ldc2_RX13_212, v_ldc2_RX13_218, v_ldc2_RX13_220, v_ldc2_RX13_254, v_ldc2_RX13_256, v_ldc2_RX13_287, v_ldc2_RX13_297, v_ldc2_RX13_302, v_ldc2_RX13_323, v_ldc2_RX13_343, v_ldc2_RX13_345, v_ldc2_RX13_351, v_ldc2_RX13_374, v_ldc2_RX13_400, v_ldc2_RX13_402, v_ldc2_RX13_413, v_ldc2_RX13_439, v_ldc2_RX13_461, v_ldc2_RX13_481, v_ldc2_RX13_486, v_ldc2_RX13_488, v_ldc2_RX13_490, v_ldc2_RX13_492, v_ldc2_RX13_494, v_ldc2_RX13_496, v_ldc2_RX13_498, v_ldc2_RX13_500, if_true, if_false, Bool.not_false, Bool.not_true, Nat.reduceEqDiff, Nat.reduceLeDiff, Nat.reduceLT, Nat.reduceAdd, Nat.reduceMul, Nat.reduceSub, and_self, and_true, true_and, and_false, false_and, Bool.false_eq_true, not_true_eq_false, not_false_eq_true, ite_self, v_robb, v_rob0, v_rob1, List.nil_append, G_0_0, G_0_1, G_0_2, G_0_3, P_0_3, G_0_4, G_0_5, P_0_5, G_0_6, P_0_6, G_0_7, G_0_8, G_0_9, G_0_10, G_0_11, G_0_12, G_0_13, G_0_14, P_0_14, R_0, G_1_0, G_1_1, G_1_2, G_1_3, G_1_4, G_1_5, P_1_5, G_1_6, G_1_7, G_1_8, G_1_9, P_1_9, G_1_10, P_1_10, R_1, G_2_0, P_2_0, G_2_1, R_2, S_3, A_3, N_3, G_4_0, P_4_0, G_4_1, R_4, S_5, A_5, N_5, G_6_0, P_6_0, G_6_1, G_6_2, G_6_3, R_6, S_7, A_7, N_7, S_8, A_8, N_8, S_9, A_9, N_9, G_10_0, P_10_0, G_10_1, G_10_2, G_10_3, G_10_4, R_10, S_11, A_11, N_11, S_12, A_12, N_12, S_13, A_13, N_13, S_14, A_14, N_14, G_15_0, P_15_0, G_15_1, P_15_1, G_15_2, R_15, S_16, A_16, N_16, G_17_0, P_17_0, G_17_1, P_17_1, R_17, G_18_0, P_18_0, G_18_1, P_18_1, R_18, S_19, A_19, N_19, G_20_0, G_20_1, G_20_2, G_20_3, G_20_4, G_20_5, P_20_5, G_20_6, G_20_7, G_20_8, G_20_9, P_20_9, G_20_10, P_20_10, R_20, G_21_0, P_21_0, G_21_1, R_21, S_22, A_22, N_22, G_23_0, P_23_0, G_23_1, R_23, S_24, A_24, N_24, G_25_0, P_25_0, G_25_1, G_25_2, G_25_3, R_25, S_26, A_26, N_26, S_27, A_27, N_27, S_28, A_28, N_28, G_29_0, P_29_0, G_29_1, G_29_2, G_29_3, G_29_4, R_29, S_30, A_30, N_30, S_31, A_31, N_31, S_32, A_32, N_32, S_33, A_33, N_33, G_34_0, P_34_0, G_34_1, P_34_1, G_34_2, R_34, S_35, A_35, N_35, G_36_0, P_36_0, G_36_1, P_36_1, R_36, G_37_0, P_37_0, G_37_1, P_37_1, R_37, S_38, A_38, N_38, A_58, N_58, G_59_0, P_59_0, G_59_1, G_59_2, G_59_3, R_59, S_60, A_60, N_60, S_61, A_61, N_61, G_62_0, P_62_0, G_62_1, P_62_1, R_62, G_63_0, P_63_0, G_63_1, P_63_1, R_63, S_64, A_64, N_64, G_65_0, P_65_0, G_65_1, G_65_2, P_65_2, G_65_3, P_65_3, G_65_4, P_65_4, G_65_5, P_65_5, G_65_6, P_65_6, G_65_7, P_65_7, R_65, S_66, A_66, N_66, G_67_0, P_67_0, R_67, G_68_0, P_68_0, G_68_1, P_68_1, G_68_2, P_68_2, G_68_3, G_68_4, G_68_5, G_68_6, G_68_7, R_68, A_69, N_69, S_70, A_70, N_70, S_71, A_71, N_71, S_72, A_72, N_72, S_73, A_73, N_73, S_74, A_74, N_74, b1, b2, b3, b4, b5, g9, g10, c_limit, v_rS, lim_I, ex, ey, hr, hy, e1, nI_add, e2]
      rfl
  · rw [if_neg hr]
    obtain ⟨I', e1, e2, e3, e4⟩ := c_place_1 hf hn hd (by omega) (nxX s n f) (nxY s n f) t _ L' V hcs
    refine ⟨I', L', hL', ?_, e2, hfr.trans e3⟩
    simp only [kX7_refineAt, gX7_refineAt, v_TM, v_seq, v_blk, v_lop, v_fgt, v_fg0, v_fg1, v_b0, v_b1, v_bn, v_bi, v_c0, v_c1, v_c2, v_cn, v_ci, v_st0, v_st1, v_stn, v_iadd, v_isub, v_imul, v_iand, v_ior, v_ixor, v_ishl, v_ishr, v_ladd, v_lsub, v_lmul, v_lor, v_land, v_ineg, v_lneg, v_lcmp, v_lshl, v_i2l, v_l2i, v_i2b, v_i2c, v_i2f, v_i2d, v_idiv, v_irem, v_ldiv, v_lrem, v_iconst, v_bipush, v_sipush, v_lconst0, v_lconst1, v_null, v_fconst0, v_dconst0, v_ldcS, v_dupi, v_dupr, v_pop, v_dup2, vI_i, vL_l, vA_r, vA_n, vInc_i, v_iload_n0, v_iload_n1, v_iload_n2, v_iload_n3, v_iload, v_lload_n0, v_lload_n1, v_lload_n2, v_lload_n3, v_lload, v_dload_n0, v_dload_n1, v_dload_n2, v_dload_n3, v_dload, v_aload_n0, v_aload_n1, v_aload_n2, v_aload_n3, v_aload, v_at0, v_ok0, v_at1, v_ok1, v_at2, v_ok2, v_at3, v_ok3, v_at4, v_ok4, v_at5, v_ok5, v_at6, v_ok6, v_at7, v_ok7, v_at8, v_ok8, v_at9, v_ok9, v_at10, v_ok10, v_at11, v_ok11, v_at12, v_ok12, v_at13, v_ok13, v_at14, v_ok14, v_at15, v_ok15, v_c2i, v_c2l, v_c2r, v_c2n, v_c2j, v_istore_n0, v_astore_n0, v_istore_n1, v_astore_n1, v_istore_n2, v_astore_n2, v_istore_n3, v_astore_n3, v_istore, v_astore, v_lstore_n0, v_lstore_n1, v_lstore_n2, v_lstore_n3, v_lstore, v_iinc, v_if_eq, v_if_ne, v_if_lt, v_if_ge, v_if_gt, v_if_le, v_icmp_eq, v_icmp_ne, v_icmp_lt, v_icmp_ge, v_icmp_gt, v_icmp_le, v_ifnull0, v_ifnull1, v_ifnonnull0, v_ifnonnull1, v_goto, v_ireturn, v_lreturn, v_areturn, v_areturn0, v_return, v_throw, v_throwW, v_table, v_cs0, v_csi, v_csl, v_csr, v_an0, v_an1, v_ani, v_call0, v_call1, v_call2, v_call3, v_call4, v_call5, v_call6, v_call7, v_rI, v_fin, v_finX, v_fini, v_ro0, v_roi, v_rol, v_rob0, v_rob1, v_roo, v_roon, v_kbm99, v_kbm64, v_kbm8, v_kbm5, v_kb6, v_kb7, v_kb8, v_kb9, v_kb10, v_kb12, v_kb14, v_kb19, v_kb20, v_kb24, v_kb25, v_kb30, v_kb31, v_kb32, v_kb37, v_kb40, v_kb41, v_kb45, v_kb48, v_kb50, v_kb57, v_kb59, v_kb60, v_kb63, v_kb64, v_kb97, v_kb99, v_kb112, v_kb114, v_kb122, v_kim8, v_kim1, v_ki0, v_ki1, v_ki2, v_ki3, v_ki4, v_ki5, v_ksm9999, v_ksm256, v_ks128, v_ks199, v_ks200, v_ks255, v_ks256, v_ks400, v_ks457, v_ks1000, v_ks1024, v_ks2742, v_ks9999, v_ks10000, v_ld, v_st, v_ldc2_RX7_142, v_ldc2_RX7_144, v_ldc2_RX7_146, v_ldc2_RX7_148, v_ldc2_RX7_154, v_ldc2_RX7_163, v_ldc2_RX3_81, v_ldc2_RX7_207, v_ldc2_RX7_209, v_ldc2_RX13_190, v_ldc2_RX13_212, v_ldc2_RX13_218, v_ldc2_RX13_220, v_ldc2_RX13_254, v_ldc2_RX13_256, v_ldc2_RX13_287, v_ldc2_RX13_297, v_ldc2_RX13_302, v_ldc2_RX13_323, v_ldc2_RX13_343, v_ldc2_RX13_345, v_ldc2_RX13_351, v_ldc2_RX13_374, v_ldc2_RX13_400, v_ldc2_RX13_402, v_ldc2_RX13_413, v_ldc2_RX13_439, v_ldc2_RX13_461, v_ldc2_RX13_481, v_ldc2_RX13_486, v_ldc2_RX13_488, v_ldc2_RX13_490, v_ldc2_RX13_492, v_ldc2_RX13_494, v_ldc2_RX13_496, v_ldc2_RX13_498, v_ldc2_RX13_500, if_true, if_false, Bool.not_false, Bool.not_true, Nat.reduceEqDiff, Nat.reduceLeDiff, Nat.reduceLT, Nat.reduceAdd, Nat.reduceMul, Nat.reduceSub, and_self, and_true, true_and, and_false, false_and, Bool.false_eq_true, not_true_eq_false, not_false_eq_true, ite_self, v_robb, v_rob0, v_rob1, List.nil_append, G_0_0, G_0_1, G_0_2, G_0_3, P_0_3, G_0_4, G_0_5, P_0_5, G_0_6, P_0_6, G_0_7, G_0_8, G_0_9, G_0_10, G_0_11, G_0_12, G_0_13, G_0_14, P_0_14, R_0, G_1_0, G_1_1, G_1_2, G_1_3, G_1_4, G_1_5, P_1_5, G_1_6, G_1_7, G_1_8, G_1_9, P_1_9, G_1_10, P_1_10, R_1, G_2_0, P_2_0, G_2_1, R_2, S_3, A_3, N_3, G_4_0, P_4_0, G_4_1, R_4, S_5, A_5, N_5, G_6_0, P_6_0, G_6_1, G_6_2, G_6_3, R_6, S_7, A_7, N_7, S_8, A_8, N_8, S_9, A_9, N_9, G_10_0, P_10_0, G_10_1, G_10_2, G_10_3, G_10_4, R_10, S_11, A_11, N_11, S_12, A_12, N_12, S_13, A_13, N_13, S_14, A_14, N_14, G_15_0, P_15_0, G_15_1, P_15_1, G_15_2, R_15, S_16, A_16, N_16, G_17_0, P_17_0, G_17_1, P_17_1, R_17, G_18_0, P_18_0, G_18_1, P_18_1, R_18, S_19, A_19, N_19, G_20_0, G_20_1, G_20_2, G_20_3, G_20_4, G_20_5, P_20_5, G_20_6, G_20_7, G_20_8, G_20_9, P_20_9, G_20_10, P_20_10, R_20, G_21_0, P_21_0, G_21_1, R_21, S_22, A_22, N_22, G_23_0, P_23_0, G_23_1, R_23, S_24, A_24, N_24, G_25_0, P_25_0, G_25_1, G_25_2, G_25_3, R_25, S_26, A_26, N_26, S_27, A_27, N_27, S_28, A_28, N_28, G_29_0, P_29_0, G_29_1, G_29_2, G_29_3, G_29_4, R_29, S_30, A_30, N_30, S_31, A_31, N_31, S_32, A_32, N_32, S_33, A_33, N_33, G_34_0, P_34_0, G_34_1, P_34_1, G_34_2, R_34, S_35, A_35, N_35, G_36_0, P_36_0, G_36_1, P_36_1, R_36, G_37_0, P_37_0, G_37_1, P_37_1, R_37, S_38, A_38, N_38, A_58, N_58, G_59_0, P_59_0, G_59_1, G_59_2, G_59_3, R_59, S_60, A_60, N_60, S_61, A_61, N_61, G_62_0, P_62_0, G_62_1, P_62_1, R_62, G_63_0, P_63_0, G_63_1, P_63_1, R_63, S_64, A_64, N_64, G_65_0, P_65_0, G_65_1, G_65_2, P_65_2, G_65_3, P_65_3, G_65_4, P_65_4, G_65_5, P_65_5, G_65_6, P_65_6, G_65_7, P_65_7, R_65, S_66, A_66, N_66, G_67_0, P_67_0, R_67, G_68_0, P_68_0, G_68_1, P_68_1, G_68_2, P_68_2, G_68_3, G_68_4, G_68_5, G_68_6, G_68_7, R_68, A_69, N_69, S_70, A_70, N_70, S_71, A_71, N_71, S_72, A_72, N_72, S_73, A_73, N_73, S_74, A_74, N_74, b1, b2, b3, b4, b5, g9, g10, c_limit, v_rS, lim_I, ex, ey, hr, e1, nI_add]
theorem c_pl2_20 {m d v p : Nat} (hp : p + 1 < m) (hm : m ≤ 6) (hd : d ≤ 5) (hv : v < 2147482000) {s : Row} (x y x2 y2 : Int32) (t : Nat × Nat × Bool) (I : Nat → Nat → Int32) (L : Nat → Nat → Int64) (V : Nat → Option Nat) (h : CS I 20 m d v s) : ∃ I1 I', eCall mX7_place [.ref 20, .int (nI p), .int x, .int y] (mM t I L V) = some (.inl (some (.int (nI (plS s v p x y).2.2))), mM t I1 L V) ∧ eCall mX7_place [.ref 20, .int (nI (p + 1)), .int x2, .int y2] (mM t I1 L V) = some (.inl (some (.int (nI (plS (plS s v p x y).1 (plS s v p x y).2.1 (p + 1) x2 y2).2.2))), mM t I' L V) ∧ CS I' 20 m d (pl2 s v p x y x2 y2).2.1 (pl2 s v p x y x2 y2).1 ∧ Fr 20 I I' ∧ I' 20 = I 20 := by
  obtain ⟨I1, e1, e2, e3, e4⟩ := c_place_20 (show p < m by omega) hm hd (by omega) x y t I L V h
  have := plS_v s v p x y
  obtain ⟨I', f1, f2, f3, f4⟩ := c_place_20 hp hm hd (by omega) x2 y2 t I1 L V e2
  exact ⟨I1, I', e1, f1, f2, e3.trans f3, by rw [f4, e4]⟩
theorem c_refineAt_20 {n d v p : Nat} (hp : p < n) (h1 : 1 ≤ n) (hn : n ≤ 6) (hd : d ≤ 5) (hv : v < 2147481000) {s : Row} (hs : s 0 = nI n) (hPR : PR n s) (t : Nat × Nat × Bool) (I : Nat → Nat → Int32) (L : Nat → Nat → Int64) (V : Nat → Option Nat) (h : CS I 20 n d v s) : ∃ I' L', (∀ k, k ≠ 36 → k ≠ 37 → L' k = L k) ∧ eCall mX7_refineAt [.ref 20, .int (nI p)] (mM t I L V) = some (.inl (some (.int (nI (rfS s v n (fstP s p)).2.2))), mM t I' L' V) ∧ CS I' 20 n d (rfS s v n (fstP s p)).2.1 (rfS s v n (fstP s p)).1 ∧ Fr 20 I I' := by
  obtain ⟨a1, a2, a3, a4, a5, a6⟩ := id h
  have p0 : I 25 0 = nI n := a3.1
  have q0 : I 23 0 = nI n := a2.1.trans hs
  have b1 := c_firstOf_20 hp hn t I L V p0
  rw [(a3.2 p hp).2.2] at b1
  have ef : (if rol s p = nI 2 then nI p - nI 1 else nI p) = nI (fstP s p) := by
    unfold fstP
    by_cases hr : rol s p = nI 2
    · rw [if_pos hr, if_pos hr]
      rcases PR_role hPR hn hp with z | z | z
      · rw [z.1] at hr; exact absurd hr (by decide)
      · rw [z.1] at hr; exact absurd hr (by decide)
      · exact pk_sub z.2.1
    · rw [if_neg hr, if_neg hr]
  rw [ef] at b1
  have hf : fstP s p < n := fst_lt hp
  generalize fstP s p = f at *
  obtain ⟨fx, fy, fr⟩ := a3.2 f hf
  obtain ⟨L', hL', b2⟩ := c_step_20 hf h1 hn t I L V q0 p0
  have ev : vV false (I 24) n (I 26 f).toInt64 (I 27 f).toInt64 = rVal false s n (s (19 + f)) (s (25 + f)) := by
    rw [show I 26 f = s (19 + f) from fx, show I 27 f = s (25 + f) from fy]
    exact vV_congr (fun k hk => a2.2 k (by omega))
  have ep : vP (I 26) (I 27) (I 24 n).toInt64 f n = rPro s n f := by
    rw [show I 24 n = s (5 + n) from a2.2 n (by omega)]
    exact vP_congr hf (fun q hq => (a3.2 q hq).1) (fun q hq => (a3.2 q hq).2.1) n (Nat.le_refl n)
  rw [ev, ep] at b2
  change eCall _ _ _ = some (.inl none, mM t (si2 I 20 9 10 (stR s n f).1 (stR s n f).2) L' V) at b2
  have hcs : CS (si2 I 20 9 10 (stR s n f).1 (stR s n f).2) 20 n d v s := h.keep (fun k g1 g2 => si2_n (by omega)) (by unfold si2; rw [si_m (by decide), si_m (by decide)]) hn hd
  have g9 : si2 I 20 9 10 (stR s n f).1 (stR s n f).2 20 9 = (stR s n f).1 := by unfold si2; rw [si_m (by decide), si_s]
  have g10 : si2 I 20 9 10 (stR s n f).1 (stR s n f).2 20 10 = (stR s n f).2 := by unfold si2; rw [si_s]
  have hfr : Fr 20 I (si2 I 20 9 10 (stR s n f).1 (stR s n f).2) := fun k hk => si2_n (by omega)
  generalize si2 I 20 9 10 (stR s n f).1 (stR s n f).2 = I2 at *
  obtain ⟨o1, o2, o3, o4, o5, o6⟩ := id hcs
  have p2 : I2 25 0 = nI n := o3.1
  have b3 := c_xOf_20 hf hn t I2 L' V p2
  have b4 := c_yOf_20 hf hn t I2 L' V p2
  have b5 := c_roleOf_20 hf hn t I2 L' V p2
  obtain ⟨gx, gy, gr⟩ := o3.2 f hf
  rw [gx] at b3
  rw [gy] at b4
  rw [gr] at b5
  have ex : limI (s (19 + f) - (stR s n f).1) (nI 256) = nxX s n f := rfl
  have ey : limI (s (25 + f) - (stR s n f).2) (nI 256) = nxY s n f := rfl
  unfold rfS
  by_cases hr : rol s f = nI 1
  · obtain ⟨z1, z2, z3, z4⟩ := rol_cases hPR hn hf hr
    rw [if_pos hr]
    by_cases hy : nxY s n f < nI 1
    · rw [if_pos hy]
      have b6 := c_partAt_20 z1 hn t I2 L' V p2
      have hcs2 : CS (si (si I2 28 f (nI 0)) 28 (f + 1) (nI 0)) 20 n d v (sPart s f) := CS_roles hcs hn hd (fun j hj => sPart_o (by omega) (by omega)) (fun q => rol_part s f q)
      have hfr2 : Fr 20 I2 (si (si I2 28 f (nI 0)) 28 (f + 1) (nI 0)) := fun k hk => by rw [si_n (by omega), si_n (by omega)]
      obtain ⟨I3, I', e1, e2, e3, e4, -⟩ := c_pl2_20 z1 hn hd (by omega) (limI (nxX s n f - nI 1) (nI 256)) (nI 0) (limI (nxX s n f + nI 1) (nI 256)) (nI 0) t _ L' V hcs2
      refine ⟨I', L', hL', ?_, e3, (hfr.trans hfr2).trans e4⟩
      simp only [kX7_refineAt, gX7_refineAt, v_TM, v_seq, v_blk, v_lop, v_fgt, v_fg0, v_fg1, v_b0, v_b1, v_bn, v_bi, v_c0, v_c1, v_c2, v_cn, v_ci, v_st0, v_st1, v_stn, v_iadd, v_isub, v_imul, v_iand, v_ior, v_ixor, v_ishl, v_ishr, v_ladd, v_lsub, v_lmul, v_lor, v_land, v_ineg, v_lneg, v_lcmp, v_lshl, v_i2l, v_l2i, v_i2b, v_i2c, v_i2f, v_i2d, v_idiv, v_irem, v_ldiv, v_lrem, v_iconst, v_bipush, v_sipush, v_lconst0, v_lconst1, v_null, v_fconst0, v_dconst0, v_ldcS, v_dupi, v_dupr, v_pop, v_dup2, vI_i, vL_l, vA_r, vA_n, vInc_i, v_iload_n0, v_iload_n1, v_iload_n2, v_iload_n3, v_iload, v_lload_n0, v_lload_n1, v_lload_n2, v_lload_n3, v_lload, v_dload_n0, v_dload_n1, v_dload_n2, v_dload_n3, v_dload, v_aload_n0, v_aload_n1, v_aload_n2, v_aload_n3, v_aload, v_at0, v_ok0, v_at1, v_ok1, v_at2, v_ok2, v_at3, v_ok3, v_at4, v_ok4, v_at5, v_ok5, v_at6, v_ok6, v_at7, v_ok7, v_at8, v_ok8, v_at9, v_ok9, v_at10, v_ok10, v_at11, v_ok11, v_at12, v_ok12, v_at13, v_ok13, v_at14, v_ok14, v_at15, v_ok15, v_c2i, v_c2l, v_c2r, v_c2n, v_c2j, v_istore_n0, v_astore_n0, v_istore_n1, v_astore_n1, v_istore_n2, v_astore_n2, v_istore_n3, v_astore_n3, v_istore, v_astore, v_lstore_n0, v_lstore_n1, v_lstore_n2, v_lstore_n3, v_lstore, v_iinc, v_if_eq, v_if_ne, v_if_lt, v_if_ge, v_if_gt, v_if_le, v_icmp_eq, v_icmp_ne, v_icmp_lt, v_icmp_ge, v_icmp_gt, v_icmp_le, v_ifnull0, v_ifnull1, v_ifnonnull0, v_ifnonnull1, v_goto, v_ireturn, v_lreturn, v_areturn, v_areturn0, v_return, v_throw, v_throwW, v_table, v_cs0, v_csi, v_csl, v_csr, v_an0, v_an1, v_ani, v_call0, v_call1, v_call2, v_call3, v_call4, v_call5, v_call6, v_call7, v_rI, v_fin, v_finX, v_fini, v_ro0, v_roi, v_rol, v_rob0, v_rob1, v_roo, v_roon, v_kbm99, v_kbm64, v_kbm8, v_kbm5, v_kb6, v_kb7, v_kb8, v_kb9, v_kb10, v_kb12, v_kb14, v_kb19, v_kb20, v_kb24, v_kb25, v_kb30, v_kb31, v_kb32, v_kb37, v_kb40, v_kb41, v_kb45, v_kb48, v_kb50, v_kb57, v_kb59, v_kb60, v_kb63, v_kb64, v_kb97, v_kb99, v_kb112, v_kb114, v_kb122, v_kim8, v_kim1, v_ki0, v_ki1, v_ki2, v_ki3, v_ki4, v_ki5, v_ksm9999, v_ksm256, v_ks128, v_ks199, v_ks200, v_ks255, v_ks256, v_ks400, v_ks457, v_ks1000, v_ks1024, v_ks2742, v_ks9999, v_ks10000, v_ld, v_st, v_ldc2_RX7_142, v_ldc2_RX7_144, v_ldc2_RX7_146, v_ldc2_RX7_148, v_ldc2_RX7_154, v_ldc2_RX7_163, v_ldc2_RX3_81, v_ldc2_RX7_207, v_ldc2_RX7_209, v_ldc2_RX13_190, v_ldc2_RX13_212, v_ldc2_RX13_218, v_ldc2_RX13_220, v_ldc2_RX13_254, v_ldc2_RX13_256, v_ldc2_RX13_287, v_ldc2_RX13_297, v_ldc2_RX13_302, v_ldc2_RX13_323, v_ldc2_RX13_343, v_ldc2_RX13_345, v_ldc2_RX13_351, v_ldc2_RX13_374, v_ldc2_RX13_400, v_ldc2_RX13_402, v_ldc2_RX13_413, v_ldc2_RX13_439, v_ldc2_RX13_461, v_ldc2_RX13_481, v_ldc2_RX13_486, v_ldc2_RX13_488, v_ldc2_RX13_490, v_ldc2_RX13_492, v_ldc2_RX13_494, v_ldc2_RX13_496, v_ldc2_RX13_498, v_ldc2_RX13_500, if_true, if_false, Bool.not_false, Bool.not_true, Nat.reduceEqDiff, Nat.reduceLeDiff, Nat.reduceLT, Nat.reduceAdd, Nat.reduceMul, Nat.reduceSub, and_self, and_true, true_and, and_false, false_and, Bool.false_eq_true, not_true_eq_false, not_false_eq_true, ite_self, v_robb, v_rob0, v_rob1, List.nil_append, G_0_0, G_0_1, G_0_2, G_0_3, P_0_3, G_0_4, G_0_5, P_0_5, G_0_6, P_0_6, G_0_7, G_0_8, G_0_9, G_0_10, G_0_11, G_0_12, G_0_13, G_0_14, P_0_14, R_0, G_1_0, G_1_1, G_1_2, G_1_3, G_1_4, G_1_5, P_1_5, G_1_6, G_1_7, G_1_8, G_1_9, P_1_9, G_1_10, P_1_10, R_1, G_2_0, P_2_0, G_2_1, R_2, S_3, A_3, N_3, G_4_0, P_4_0, G_4_1, R_4, S_5, A_5, N_5, G_6_0, P_6_0, G_6_1, G_6_2, G_6_3, R_6, S_7, A_7, N_7, S_8, A_8, N_8, S_9, A_9, N_9, G_10_0, P_10_0, G_10_1, G_10_2, G_10_3, G_10_4, R_10, S_11, A_11, N_11, S_12, A_12, N_12, S_13, A_13, N_13, S_14, A_14, N_14, G_15_0, P_15_0, G_15_1, P_15_1, G_15_2, R_15, S_16, A_16, N_16, G_17_0, P_17_0, G_17_1, P_17_1, R_17, G_18_0, P_18_0, G_18_1, P_18_1, R_18, S_19, A_19, N_19, G_20_0, G_20_1, G_20_2, G_20_3, G_20_4, G_20_5, P_20_5, G_20_6, G_20_7, G_20_8, G_20_9, P_20_9, G_20_10, P_20_10, R_20, G_21_0, P_21_0, G_21_1, R_21, S_22, A_22, N_22, G_23_0, P_23_0, G_23_1, R_23, S_24, A_24, N_24, G_25_0, P_25_0, G_25_1, G_25_2, G_25_3, R_25, S_26, A_26, N_26, S_27, A_27, N_27, S_28, A_28, N_28, G_29_0, P_29_0, G_29_1, G_29_2, G_29_3, G_29_4, R_29, S_30, A_30, N_30, S_31, A_31, N_31, S_32, A_32, N_32, S_33, A_33, N_33, G_34_0, P_34_0, G_34_1, P_34_1, G_34_2, R_34, S_35, A_35, N_35, G_36_0, P_36_0, G_36_1, P_36_1, R_36, G_37_0, P_37_0, G_37_1, P_37_1, R_37, S_38, A_38, N_38, A_58, N_58, G_59_0, P_59_0, G_59_1, G_59_2, G_59_3, R_59, S_60, A_60, N_60, S_61, A_61, N_61, G_62_0, P_62_0, G_62_1, P_62_1, R_62, G_63_0, P_63_0, G_63_1, P_63_1, R_63, S_64, A_64, N_64, G_65_0, P_65_0, G_65_1, G_65_2, P_65_2, G_65_3, P_65_3, G_65_4, P_65_4, G_65_5, P_65_5, G_65_6, P_65_6, G_65_7, P_65_7, R_65, S_66, A_66, N_66, G_67_0, P_67_0, R_67, G_68_0, P_68_0, G_68_1, P_68_1, G_68_2, P_68_2, G_68_3, G_68_4, G_68_5, G_68_6, G_68_7, R_68, A_69, N_69, S_70, A_70, N_70, S_71, A_71, N_71, S_72, A_72, N_72, S_73, A_73, N_73, S_74, A_74, N_74, b1, b2, b3, b4, b5, g9, g10, c_limit, v_rS, lim_I, ex, ey, hr, hy, b6, e1, nI_add, e2]
      rfl
    · rw [if_neg hy]
      obtain ⟨I3, I', e1, e2, e3, e4, -⟩ := c_pl2_20 z1 hn hd (by omega) (nxX s n f) (nxY s n f) (nxX s n f) (-nxY s n f) t _ L' V hcs
      refine ⟨I', L', hL', ?_, e3, hfr.trans e4⟩
      simp only [kX7_refineAt, gX7_refineAt, v_TM, v_seq, v_blk, v_lop, v_fgt, v_fg0, v_fg1, v_b0, v_b1, v_bn, v_bi, v_c0, v_c1, v_c2, v_cn, v_ci, v_st0, v_st1, v_stn, v_iadd, v_isub, v_imul, v_iand, v_ior, v_ixor, v_ishl, v_ishr, v_ladd, v_lsub, v_lmul, v_lor, v_land, v_ineg, v_lneg, v_lcmp, v_lshl, v_i2l, v_l2i, v_i2b, v_i2c, v_i2f, v_i2d, v_idiv, v_irem, v_ldiv, v_lrem, v_iconst, v_bipush, v_sipush, v_lconst0, v_lconst1, v_null, v_fconst0, v_dconst0, v_ldcS, v_dupi, v_dupr, v_pop, v_dup2, vI_i, vL_l, vA_r, vA_n, vInc_i, v_iload_n0, v_iload_n1, v_iload_n2, v_iload_n3, v_iload, v_lload_n0, v_lload_n1, v_lload_n2, v_lload_n3, v_lload, v_dload_n0, v_dload_n1, v_dload_n2, v_dload_n3, v_dload, v_aload_n0, v_aload_n1, v_aload_n2, v_aload_n3, v_aload, v_at0, v_ok0, v_at1, v_ok1, v_at2, v_ok2, v_at3, v_ok3, v_at4, v_ok4, v_at5, v_ok5, v_at6, v_ok6, v_at7, v_ok7, v_at8, v_ok8, v_at9, v_ok9, v_at10, v_ok10, v_at11, v_ok11, v_at12, v_ok12, v_at13, v_ok13, v_at14, v_ok14, v_at15, v_ok15, v_c2i, v_c2l, v_c2r, v_c2n, v_c2j, v_istore_n0, v_astore_n0, v_istore_n1, v_astore_n1, v_istore_n2, v_astore_n2, v_istore_n3, v_astore_n3, v_istore, v_astore, v_lstore_n0, v_lstore_n1, v_lstore_n2, v_lstore_n3, v_lstore, v_iinc, v_if_eq, v_if_ne, v_if_lt, v_if_ge, v_if_gt, v_if_le, v_icmp_eq, v_icmp_ne, v_icmp_lt, v_icmp_ge, v_icmp_gt, v_icmp_le, v_ifnull0, v_ifnull1, v_ifnonnull0, v_ifnonnull1, v_goto, v_ireturn, v_lreturn, v_areturn, v_areturn0, v_return, v_throw, v_throwW, v_table, v_cs0, v_csi, v_csl, v_csr, v_an0, v_an1, v_ani, v_call0, v_call1, v_call2, v_call3, v_call4, v_call5, v_call6, v_call7, v_rI, v_fin, v_finX, v_fini, v_ro0, v_roi, v_rol, v_rob0, v_rob1, v_roo, v_roon, v_kbm99, v_kbm64, v_kbm8, v_kbm5, v_kb6, v_kb7, v_kb8, v_kb9, v_kb10, v_kb12, v_kb14, v_kb19, v_kb20, v_kb24, v_kb25, v_kb30, v_kb31, v_kb32, v_kb37, v_kb40, v_kb41, v_kb45, v_kb48, v_kb50, v_kb57, v_kb59, v_kb60, v_kb63, v_kb64, v_kb97, v_kb99, v_kb112, v_kb114, v_kb122, v_kim8, v_kim1, v_ki0, v_ki1, v_ki2, v_ki3, v_ki4, v_ki5, v_ksm9999, v_ksm256, v_ks128, v_ks199, v_ks200, v_ks255, v_ks256, v_ks400, v_ks457, v_ks1000, v_ks1024, v_ks2742, v_ks9999, v_ks10000, v_ld, v_st, v_ldc2_RX7_142, v_ldc2_RX7_144, v_ldc2_RX7_146, v_ldc2_RX7_148, v_ldc2_RX7_154, v_ldc2_RX7_163, v_ldc2_RX3_81, v_ldc2_RX7_207, v_ldc2_RX7_209, v_ldc2_RX13_190, v_ldc2_RX13_212, v_ldc2_RX13_218, v_ldc2_RX13_220, v_ldc2_RX13_254, v_ldc2_RX13_256, v_ldc2_RX13_287, v_ldc2_RX13_297, v_ldc2_RX13_302, v_ldc2_RX13_323, v_ldc2_RX13_343, v_ldc2_RX13_345, v_ldc2_RX13_351, v_ldc2_RX13_374, v_ldc2_RX13_400, v_ldc2_RX13_402, v_ldc2_RX13_413, v_ldc2_RX13_439, v_ldc2_RX13_461, v_ldc2_RX13_481, v_ldc2_RX13_486, v_ldc2_RX13_488, v_ldc2_RX13_490, v_ldc2_RX13_492, v_ldc2_RX13_494, v_ldc2_RX13_496, v_ldc2_RX13_498, v_ldc2_RX13_500, if_true, if_false, Bool.not_false, Bool.not_true, Nat.reduceEqDiff, Nat.reduceLeDiff, Nat.reduceLT, Nat.reduceAdd, Nat.reduceMul, Nat.reduceSub, and_self, and_true, true_and, and_false, false_and, Bool.false_eq_true, not_true_eq_false, not_false_eq_true, ite_self, v_robb, v_rob0, v_rob1, List.nil_append, G_0_0, G_0_1, G_0_2, G_0_3, P_0_3, G_0_4, G_0_5, P_0_5, G_0_6, P_0_6, G_0_7, G_0_8, G_0_9, G_0_10, G_0_11, G_0_12, G_0_13, G_0_14, P_0_14, R_0, G_1_0, G_1_1, G_1_2, G_1_3, G_1_4, G_1_5, P_1_5, G_1_6, G_1_7, G_1_8, G_1_9, P_1_9, G_1_10, P_1_10, R_1, G_2_0, P_2_0, G_2_1, R_2, S_3, A_3, N_3, G_4_0, P_4_0, G_4_1, R_4, S_5, A_5, N_5, G_6_0, P_6_0, G_6_1, G_6_2, G_6_3, R_6, S_7, A_7, N_7, S_8, A_8, N_8, S_9, A_9, N_9, G_10_0, P_10_0, G_10_1, G_10_2, G_10_3, G_10_4, R_10, S_11, A_11, N_11, S_12, A_12, N_12, S_13, A_13, N_13, S_14, A_14, N_14, G_15_0, P_15_0, G_15_1, P_15_1, G_15_2, R_15, S_16, A_16, N_16, G_17_0, P_17_0, G_17_1, P_17_1, R_17, G_18_0, P_18_0, G_18_1, P_18_1, R_18, S_19, A_19, N_19, G_20_0, G_20_1, G_20_2, G_20_3, G_20_4, G_20_5, P_20_5, G_20_6, G_20_7, G_20_8, G_20_9, P_20_9, G_20_10, P_20_10, R_20, G_21_0, P_21_0, G_21_1, R_21, S_22, A_22, N_22, G_23_0, P_23_0, G_23_1, R_23, S_24, A_24, N_24, G_25_0, P_25_0, G_25_1, G_25_2, G_25_3, R_25, S_26, A_26, N_26, S_27, A_27, N_27, S_28, A_28, N_28, G_29_0, P_29_0, G_29_1, G_29_2, G_29_3, G_29_4, R_29, S_30, A_30, N_30, S_31, A_31, N_31, S_32, A_32, N_32, S_33, A_33, N_33, G_34_0, P_34_0, G_34_1, P_34_1, G_34_2, R_34, S_35, A_35, N_35, G_36_0, P_36_0, G_36_1, P_36_1, R_36, G_37_0, P_37_0, G_37_1, P_37_1, R_37, S_38, A_38, N_38, A_58, N_58, G_59_0, P_59_0, G_59_1, G_59_2, G_59_3, R_59, S_60, A_60, N_60, S_61, A_61, N_61, G_62_0, P_62_0, G_62_1, P_62_1, R_62, G_63_0, P_63_0, G_63_1, P_63_1, R_63, S_64, A_64, N_64, G_65_0, P_65_0, G_65_1, G_65_2, P_65_2, G_65_3, P_65_3, G_65_4, P_65_4, G_65_5, P_65_5, G_65_6, P_65_6, G_65_7, P_65_7, R_65, S_66, A_66, N_66, G_67_0, P_67_0, R_67, G_68_0, P_68_0, G_68_1, P_68_1, G_68_2, P_68_2, G_68_3, G_68_4, G_68_5, G_68_6, G_68_7, R_68, A_69, N_69, S_70, A_70, N_70, S_71, A_71, N_71, S_72, A_72, N_72, S_73, A_73, N_73, S_74, A_74, N_74, b1, b2, b3, b4, b5, g9, g10, c_limit, v_rS, lim_I, ex, ey, hr, hy, e1, nI_add, e2]
      rfl
  · rw [if_neg hr]
    obtain ⟨I', e1, e2, e3, e4⟩ := c_place_20 hf hn hd (by omega) (nxX s n f) (nxY s n f) t _ L' V hcs
    refine ⟨I', L', hL', ?_, e2, hfr.trans e3⟩
    simp only [kX7_refineAt, gX7_refineAt, v_TM, v_seq, v_blk, v_lop, v_fgt, v_fg0, v_fg1, v_b0, v_b1, v_bn, v_bi, v_c0, v_c1, v_c2, v_cn, v_ci, v_st0, v_st1, v_stn, v_iadd, v_isub, v_imul, v_iand, v_ior, v_ixor, v_ishl, v_ishr, v_ladd, v_lsub, v_lmul, v_lor, v_land, v_ineg, v_lneg, v_lcmp, v_lshl, v_i2l, v_l2i, v_i2b, v_i2c, v_i2f, v_i2d, v_idiv, v_irem, v_ldiv, v_lrem, v_iconst, v_bipush, v_sipush, v_lconst0, v_lconst1, v_null, v_fconst0, v_dconst0, v_ldcS, v_dupi, v_dupr, v_pop, v_dup2, vI_i, vL_l, vA_r, vA_n, vInc_i, v_iload_n0, v_iload_n1, v_iload_n2, v_iload_n3, v_iload, v_lload_n0, v_lload_n1, v_lload_n2, v_lload_n3, v_lload, v_dload_n0, v_dload_n1, v_dload_n2, v_dload_n3, v_dload, v_aload_n0, v_aload_n1, v_aload_n2, v_aload_n3, v_aload, v_at0, v_ok0, v_at1, v_ok1, v_at2, v_ok2, v_at3, v_ok3, v_at4, v_ok4, v_at5, v_ok5, v_at6, v_ok6, v_at7, v_ok7, v_at8, v_ok8, v_at9, v_ok9, v_at10, v_ok10, v_at11, v_ok11, v_at12, v_ok12, v_at13, v_ok13, v_at14, v_ok14, v_at15, v_ok15, v_c2i, v_c2l, v_c2r, v_c2n, v_c2j, v_istore_n0, v_astore_n0, v_istore_n1, v_astore_n1, v_istore_n2, v_astore_n2, v_istore_n3, v_astore_n3, v_istore, v_astore, v_lstore_n0, v_lstore_n1, v_lstore_n2, v_lstore_n3, v_lstore, v_iinc, v_if_eq, v_if_ne, v_if_lt, v_if_ge, v_if_gt, v_if_le, v_icmp_eq, v_icmp_ne, v_icmp_lt, v_icmp_ge, v_icmp_gt, v_icmp_le, v_ifnull0, v_ifnull1, v_ifnonnull0, v_ifnonnull1, v_goto, v_ireturn, v_lreturn, v_areturn, v_areturn0, v_return, v_throw, v_throwW, v_table, v_cs0, v_csi, v_csl, v_csr, v_an0, v_an1, v_ani, v_call0, v_call1, v_call2, v_call3, v_call4, v_call5, v_call6, v_call7, v_rI, v_fin, v_finX, v_fini, v_ro0, v_roi, v_rol, v_rob0, v_rob1, v_roo, v_roon, v_kbm99, v_kbm64, v_kbm8, v_kbm5, v_kb6, v_kb7, v_kb8, v_kb9, v_kb10, v_kb12, v_kb14, v_kb19, v_kb20, v_kb24, v_kb25, v_kb30, v_kb31, v_kb32, v_kb37, v_kb40, v_kb41, v_kb45, v_kb48, v_kb50, v_kb57, v_kb59, v_kb60, v_kb63, v_kb64, v_kb97, v_kb99, v_kb112, v_kb114, v_kb122, v_kim8, v_kim1, v_ki0, v_ki1, v_ki2, v_ki3, v_ki4, v_ki5, v_ksm9999, v_ksm256, v_ks128, v_ks199, v_ks200, v_ks255, v_ks256, v_ks400, v_ks457, v_ks1000, v_ks1024, v_ks2742, v_ks9999, v_ks10000, v_ld, v_st, v_ldc2_RX7_142, v_ldc2_RX7_144, v_ldc2_RX7_146, v_ldc2_RX7_148, v_ldc2_RX7_154, v_ldc2_RX7_163, v_ldc2_RX3_81, v_ldc2_RX7_207, v_ldc2_RX7_209, v_ldc2_RX13_190, v_ldc2_RX13_212, v_ldc2_RX13_218, v_ldc2_RX13_220, v_ldc2_RX13_254, v_ldc2_RX13_256, v_ldc2_RX13_287, v_ldc2_RX13_297, v_ldc2_RX13_302, v_ldc2_RX13_323, v_ldc2_RX13_343, v_ldc2_RX13_345, v_ldc2_RX13_351, v_ldc2_RX13_374, v_ldc2_RX13_400, v_ldc2_RX13_402, v_ldc2_RX13_413, v_ldc2_RX13_439, v_ldc2_RX13_461, v_ldc2_RX13_481, v_ldc2_RX13_486, v_ldc2_RX13_488, v_ldc2_RX13_490, v_ldc2_RX13_492, v_ldc2_RX13_494, v_ldc2_RX13_496, v_ldc2_RX13_498, v_ldc2_RX13_500, if_true, if_false, Bool.not_false, Bool.not_true, Nat.reduceEqDiff, Nat.reduceLeDiff, Nat.reduceLT, Nat.reduceAdd, Nat.reduceMul, Nat.reduceSub, and_self, and_true, true_and, and_false, false_and, Bool.false_eq_true, not_true_eq_false, not_false_eq_true, ite_self, v_robb, v_rob0, v_rob1, List.nil_append, G_0_0, G_0_1, G_0_2, G_0_3, P_0_3, G_0_4, G_0_5, P_0_5, G_0_6, P_0_6, G_0_7, G_0_8, G_0_9, G_0_10, G_0_11, G_0_12, G_0_13, G_0_14, P_0_14, R_0, G_1_0, G_1_1, G_1_2, G_1_3, G_1_4, G_1_5, P_1_5, G_1_6, G_1_7, G_1_8, G_1_9, P_1_9, G_1_10, P_1_10, R_1, G_2_0, P_2_0, G_2_1, R_2, S_3, A_3, N_3, G_4_0, P_4_0, G_4_1, R_4, S_5, A_5, N_5, G_6_0, P_6_0, G_6_1, G_6_2, G_6_3, R_6, S_7, A_7, N_7, S_8, A_8, N_8, S_9, A_9, N_9, G_10_0, P_10_0, G_10_1, G_10_2, G_10_3, G_10_4, R_10, S_11, A_11, N_11, S_12, A_12, N_12, S_13, A_13, N_13, S_14, A_14, N_14, G_15_0, P_15_0, G_15_1, P_15_1, G_15_2, R_15, S_16, A_16, N_16, G_17_0, P_17_0, G_17_1, P_17_1, R_17, G_18_0, P_18_0, G_18_1, P_18_1, R_18, S_19, A_19, N_19, G_20_0, G_20_1, G_20_2, G_20_3, G_20_4, G_20_5, P_20_5, G_20_6, G_20_7, G_20_8, G_20_9, P_20_9, G_20_10, P_20_10, R_20, G_21_0, P_21_0, G_21_1, R_21, S_22, A_22, N_22, G_23_0, P_23_0, G_23_1, R_23, S_24, A_24, N_24, G_25_0, P_25_0, G_25_1, G_25_2, G_25_3, R_25, S_26, A_26, N_26, S_27, A_27, N_27, S_28, A_28, N_28, G_29_0, P_29_0, G_29_1, G_29_2, G_29_3, G_29_4, R_29, S_30, A_30, N_30, S_31, A_31, N_31, S_32, A_32, N_32, S_33, A_33, N_33, G_34_0, P_34_0, G_34_1, P_34_1, G_34_2, R_34, S_35, A_35, N_35, G_36_0, P_36_0, G_36_1, P_36_1, R_36, G_37_0, P_37_0, G_37_1, P_37_1, R_37, S_38, A_38, N_38, A_58, N_58, G_59_0, P_59_0, G_59_1, G_59_2, G_59_3, R_59, S_60, A_60, N_60, S_61, A_61, N_61, G_62_0, P_62_0, G_62_1, P_62_1, R_62, G_63_0, P_63_0, G_63_1, P_63_1, R_63, S_64, A_64, N_64, G_65_0, P_65_0, G_65_1, G_65_2, P_65_2, G_65_3, P_65_3, G_65_4, P_65_4, G_65_5, P_65_5, G_65_6, P_65_6, G_65_7, P_65_7, R_65, S_66, A_66, N_66, G_67_0, P_67_0, R_67, G_68_0, P_68_0, G_68_1, P_68_1, G_68_2, P_68_2, G_68_3, G_68_4, G_68_5, G_68_6, G_68_7, R_68, A_69, N_69, S_70, A_70, N_70, S_71, A_71, N_71, S_72, A_72, N_72, S_73, A_73, N_73, S_74, A_74, N_74, b1, b2, b3, b4, b5, g9, g10, c_limit, v_rS, lim_I, ex, ey, hr, e1, nI_add]
