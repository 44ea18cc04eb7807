/-! ===== from the world that is made to the world as it is spoken of; the law's rest ===== -/
theorem arrV_cg {cA : ClassId} {N : Nat} {f g : Nat → Value} (h : ∀ j, j < N → f j = g j) : arrV cA N f = arrV cA N g := by
  unfold arrV
  have e : (fun j : Fin N => f j.val) = fun j : Fin N => g j.val := funext fun j => h _ j.isLt
  rw [e]
theorem eH_cong {w : eWd} {μ μ' : eMem} {H : Heap} (h0 : μ'.1 = μ.1) (h : ∀ k, k < eN μ → ∀ i, i < szO k → eI μ' k i = eI μ k i ∧ eL μ' k i = eL μ k i ∧ eA μ' k i = eA μ k i) (hH : eH w μ H) : eH w μ' H := by
  obtain ⟨hP, a, b, c⟩ := hH
  have hN : eN μ' = eN μ := congrArg Prod.fst h0
  have hO : eO μ' = eO μ := congrArg (fun q => q.2.2.2) h0
  refine ⟨fun k q hq => ?_, by rw [hN]; exact a, by rw [hN]; exact b, by rw [hN, hO]; exact c⟩
  have hk : k < eN μ := by
    have := (List.getElem?_eq_some_iff.mp hq).1
    rw [eWl_len, hN] at this
    exact this
  rw [eWl_at (by rw [hN]; exact hk)] at hq
  cases hq
  have old := hP k _ (eWl_at hk)
  have hk2 := h k hk
  unfold szO at hk2
  unfold eEn at old ⊢
  generalize eShp k = sh at old hk2 ⊢
  obtain ⟨q, n⟩ := sh
  dsimp only at old hk2 ⊢
  split at old
  · have hk3 : ∀ i, i < n → _ := hk2
    show H[eB w + k]? = some (vp_cell _ _)
    have old : H[eB w + k]? = some (vp_cell (w.2.2.1 0) (n, .inl (eI μ k))) := old
    rw [old, vp_cell_i, vp_cell_i, arrV_cg (fun j hj => congrArg Value.int (hk3 j hj).1)]
  · have hk3 : ∀ i, i < n → _ := hk2
    show H[eB w + k]? = some (vp_cell _ _)
    have old : H[eB w + k]? = some (vp_cell (w.2.2.1 1) (n, .inl (eI μ k))) := old
    rw [old, vp_cell_i, vp_cell_i, arrV_cg (fun j hj => congrArg Value.int (hk3 j hj).1)]
  · have hk3 : ∀ i, i < n → _ := hk2
    show H[eB w + k]? = some (vp_cell _ _)
    have old : H[eB w + k]? = some (vp_cell (w.2.2.1 2) (n, .inr (.inl (eL μ k)))) := old
    rw [old, vp_cell_l, vp_cell_l, arrV_cg (fun j hj => congrArg Value.long (hk3 j hj).2.1)]
  · have hk3 : ∀ i, i < n → _ := hk2
    show H[eB w + k]? = some (vp_cell _ _)
    have old : H[eB w + k]? = some (vp_cell (w.2.2.1 3) (n, .inr (.inr (.inr (.inr fun i => (eA μ k i).map (eAd w)))))) := old
    rw [old, vp_cell_q, vp_cell_q, arrV_cg (fun j hj => congrArg (fun r => va_rf (Option.map (eAd w) r)) (hk3 j hj).2.2)]
  · have hk3 : ∀ i, i < n → _ := hk2
    show H[eB w + k]? = some (vp_cell _ _)
    have old : H[eB w + k]? = some (vp_cell (w.2.2.1 4) (n, .inr (.inr (.inr (.inr fun i => (eA μ k i).map (eAd w)))))) := old
    rw [old, vp_cell_q, vp_cell_q, arrV_cg (fun j hj => congrArg (fun r => va_rf (Option.map (eAd w) r)) (hk3 j hj).2.2)]
  · rename_i ci n0 n1 n2 n3 n4
    have e : eFs (eAd w) q μ' k = eFs (eAd w) q μ k := by
      by_cases hq : q < 12
      · rw [if_pos (show q < 50 by omega)] at hk2
        have hk3 : ∀ i, i < eClN q → _ := hk2
        unfold eFs
        refine List.map_congr_left fun i hi => ?_
        have := hk3 i (List.mem_range.mp hi)
        unfold eFv
        rw [this.1, this.2.1, this.2.2]
      · have z : eClN q = 0 := by
          unfold eClN
          split <;> first | omega | rfl
        unfold eFs
        rw [z]
        rfl
    rw [e]
    exact old
theorem eE_cong {x : eCtx} {pc : Nat} {lv st : List Value} {μ μ' : eMem} (h0 : μ'.1 = μ.1) (h : ∀ k, k < eN μ → ∀ i, i < szO k → eI μ' k i = eI μ k i ∧ eL μ' k i = eL μ k i ∧ eA μ' k i = eA μ k i) (k : eE x pc (lv, st, μ')) : eE x pc (lv, st, μ) := by
  obtain ⟨p, l, e, R, s, m, args, below, meth, c, Q, nL, c0, s0, w⟩ := x
  intro H locs cells slots ls hls hH hS e1 e2
  have hC : eC μ' = eC μ := congrArg (fun q => q.2.1) h0
  have hZ : eZ μ' = eZ μ := congrArg (fun q => q.2.2.1) h0
  exact k H locs cells slots ls hls (eH_cong h0 h hH) hS (by dsimp only; rw [hC]; exact e1) (by dsimp only; rw [hZ]; exact e2)
theorem ckC_spec {k lo n : Nat} {μ : eMem} (h : ckC k lo n μ = true) : ∀ i, lo ≤ i → i < lo + n → eI μ k i = iT k i ∧ eL μ k i = 0 ∧ eA μ k i = eA0 k i := by
  intro i h1 h2
  have := List.all_eq_true.mp h (i - lo) (List.mem_range.mpr (by omega))
  simp only [Bool.and_eq_true, decide_eq_true_eq] at this
  rw [show lo + (i - lo) = i by omega] at this
  exact this
theorem ckG_spec {lo n : Nat} {μ : eMem} (h : ckG lo n μ = true) : ∀ k, lo ≤ k → k < lo + n → ∀ i, i < szO k → eI μ k i = iT k i ∧ eL μ k i = 0 ∧ eA μ k i = eA0 k i := by
  intro k h1 h2 i hi
  have this : ckC (lo + (k - lo)) 0 (szO (lo + (k - lo))) μ = true := List.all_eq_true.mp h (k - lo) (List.mem_range.mpr (by omega))
  rw [show lo + (k - lo) = k by omega] at this
  exact ckC_spec this i (by omega) (by omega)
theorem ckH_spec {μ : eMem} (h : ckH μ = true) : μ.1 = (213, 213, 8885, true) := by
  unfold ckH at h
  simp only [Bool.and_eq_true] at h
  obtain ⟨⟨a, b, c, d⟩, m2⟩ := μ
  obtain ⟨h1, h2, h3, h4⟩ := h
  dsimp only at h1 h2 h3 h4
  rw [Nat.eq_of_beq_eq_true h1, Nat.eq_of_beq_eq_true h2, Nat.eq_of_beq_eq_true h3, h4]
theorem beg : ∃ μ, eDen lwP (lvE, [], mu0) = some (none, (lv0 0, [], μ)) ∧ μ.1 = (213, 213, 8885, true) ∧ ∀ k, k < 213 → ∀ i, i < szO k → eI μ k i = iT k i ∧ eL μ k i = 0 ∧ eA μ k i = eA0 k i := by
  obtain ⟨μ, h1, h2⟩ := ckR_spec beg_h
  refine ⟨μ, h1, ckH_spec h2, fun k hk => ?_⟩
  have b0 := beg_0
  have b1 := beg_1
  have b2 := beg_2
  have b3 := beg_3
  have b4 := beg_4
  have b5 := beg_5
  have b6 := beg_6
  have b7 := beg_7
  have b8 := beg_8
  have b9 := beg_9
  have b10 := beg_10
  have b11 := beg_11
  have b12 := beg_12
  have b13 := beg_13
  have b14 := beg_14
  have b15 := beg_15
  have b16 := beg_16
  have b17 := beg_17
  rw [h1] at b0 b1 b2 b3 b4 b5 b6 b7 b8 b9 b10 b11 b12 b13 b14 b15 b16 b17
  dsimp only [ckF] at b0 b1 b2 b3 b4 b5 b6 b7 b8 b9 b10 b11 b12 b13 b14 b15 b16 b17
  by_cases q : k < 20
  · exact ckG_spec b0 k (by omega) (by omega)
  by_cases q : k < 39
  · exact ckG_spec b1 k (by omega) (by omega)
  by_cases q : k < 58
  · exact ckG_spec b2 k (by omega) (by omega)
  by_cases q : k < 66
  · exact ckG_spec b3 k (by omega) (by omega)
  by_cases q : k < 67
  · exact ckG_spec b4 k (by omega) (by omega)
  by_cases q : k < 75
  · exact ckG_spec b5 k (by omega) (by omega)
  by_cases q : k < 113
  · exact ckG_spec b6 k (by omega) (by omega)
  by_cases q : k < 151
  · exact ckG_spec b7 k (by omega) (by omega)
  by_cases q : k < 189
  · exact ckG_spec b8 k (by omega) (by omega)
  by_cases q : k < 191
  · exact ckG_spec b9 k (by omega) (by omega)
  by_cases q : k < 192
  · exact ckG_spec b10 k (by omega) (by omega)
  by_cases q : k < 193
  · exact ckG_spec b11 k (by omega) (by omega)
  by_cases q : k < 194
  · have e : k = 193 := by omega
    subst e
    intro i hi
    have hi : i < 2742 := hi
    by_cases q1 : i < 700
    · exact ckC_spec b12 i (by omega) (by omega)
    by_cases q1 : i < 1400
    · exact ckC_spec b13 i (by omega) (by omega)
    by_cases q1 : i < 2100
    · exact ckC_spec b14 i (by omega) (by omega)
    · exact ckC_spec b15 i (by omega) (by omega)
  by_cases q : k < 202
  · exact ckG_spec b16 k (by omega) (by omega)
  · exact ckG_spec b17 k (by omega) (by omega)
theorem mu1_A (k i : Nat) : eA mu1 k i = eA0 k i := by
  show va_up eA0 69 (fun _ => none) k i = eA0 k i
  by_cases h : k = 69
  · subst h
    rw [va_up_self]
    rfl
  · rw [va_up_ne _ _ h]
theorem iT_RV : RV 2 2 (iT 191) := by
  refine ⟨⟨rfl, by decide, by decide⟩, rfl, rfl, rfl, by decide, fun p hp => ?_, ?_, ?_, ⟨?_, ?_, by decide, ?_, ?_, by decide⟩, ?_⟩
  · match p, hp with
    | 0, _ => exact Or.inl rfl
    | 1, _ => exact Or.inl rfl
  · intro p hp
    match p, hp with
    | 0, _ => decide
    | 1, _ => decide
  · intro p hp
    match p, hp with
    | 0, _ => decide
    | 1, _ => decide
  · intro k hk
    match k, hk with
    | 0, _ => decide
    | 1, _ => decide
    | 2, _ => decide
  · intro k h1 h2
    have h : k = 3 ∨ k = 4 ∨ k = 5 ∨ k = 6 := by omega
    rcases h with rfl | rfl | rfl | rfl <;> rfl
  · intro k hk
    match k, hk with
    | 0, _ => decide
    | 1, _ => decide
    | 2, _ => decide
  · intro k h1 h2
    have h : k = 3 ∨ k = 4 ∨ k = 5 ∨ k = 6 := by omega
    rcases h with rfl | rfl | rfl | rfl <;> rfl
  · intro k h1 h2
    have h : k = 2 ∨ k = 3 ∨ k = 4 ∨ k = 5 := by omega
    rcases h with rfl | rfl | rfl | rfl <;> rfl
theorem iT_CS : CS iT 1 2 0 2 (iT 191) := by
  refine ⟨⟨rfl, ?_⟩, ⟨rfl, ?_⟩, ⟨rfl, ?_⟩, ⟨rfl, fun k hk => absurd hk (Nat.not_lt_zero k)⟩, ⟨rfl, rfl, ?_⟩, rfl⟩
  · decide
  · decide
  · intro p hp
    match p, hp with
    | 0, _ => decide
    | 1, _ => decide
  · intro i hi
    match i, hi with
    | 0, _ => decide
    | 1, _ => decide
theorem iT_WW : WW iT 2 := by
  refine ⟨⟨⟨2, 2, 0, 2, by decide, iT_RV.iv, iT_CS⟩, ⟨rfl, Or.inl rfl⟩, 0, 0, by decide, by decide, rfl, rfl, rfl, fun j hj => absurd hj (Nat.not_lt_zero j)⟩, ⟨0, by decide, rfl, rfl, fun i hi => absurd hi (Nat.not_lt_zero i)⟩, ⟨rfl, rfl⟩, ⟨0, by decide, rfl, Or.inl ⟨rfl, rfl⟩, fun i hi => absurd hi (Nat.not_lt_zero i)⟩⟩
def lwRest {b L : Nat} {xs : Nat → Int32} : PL b L xs := sSeq (sBlk 2906 (sLop 23 lwBd)) (sSeq (sE (p_iconst 2906 1)) (sE (p_ireturn 2907 2908)))
theorem lw_rest {b L : Nat} {xs : Nat → Int32} (hL : L ≤ 3072) : ∃ n t1 I2 L2 V2, sDen (lwRest (b := b) (L := L) (xs := xs)) (lv0 0, [], mu1) = some (some (.inr (.inl (some (.int (nI 1))))), (lv0 n, [.int (nI 1)], mM t1 I2 L2 V2)) ∧ t1.1 ≤ 725 ∧ t1.2.1 ≤ 11957 := by
  obtain ⟨n, t1, I2, L2, V2, h1, h2, h3⟩ := lw_loop (b := b) (xs := xs) hL (213, 8885, true) iT (fun _ _ => 0) (fun _ => none) iT_WW
  refine ⟨n, t1, I2, L2, V2, ?_, h2, h3⟩
  unfold lwRest mu1
  rw [v_sseq, v_sblk, h1, v_c1, if_pos rfl, v_b0]
  rfl
theorem lwP_ck : (lwP.1.2.2.2.1 code && (Nat.ble lwP.1.2.2.1.1 2048 && Nat.ble lwP.1.2.2.1.2 84000)) = true := by decide +kernel
