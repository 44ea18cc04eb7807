/-! ===== statements: what stays true of the row; how far they go ===== -/
def RV (n m : Nat) (s : Row) : Prop := (s 0 = nI n ∧ 1 ≤ n ∧ n ≤ 6) ∧ s 1 = nI n ∧ s 3 = nI 0 ∧ s 4 = nI m ∧ m ≤ n ∧ PR m s ∧ (∀ p, p < m → plc (s (19 + p)) (s (25 + p))) ∧ (∀ i, i < m → plc (s (57 + 2 * i)) (s (58 + 2 * i))) ∧ CF n n s ∧ ∀ p, m ≤ p → p < 6 → s (31 + p) = -nI 1
theorem RV.iv {n : Nat} {s : Row} (h : RV n n s) : Iv n n 0 n s := by
  obtain ⟨⟨a1, a2, a3⟩, a4, a5, a6, -, a8, a9, a10, a11, a12⟩ := h
  exact ⟨⟨a1, a2, a3⟩, ⟨a4, a3, Nat.le_refl _, ⟨rfl, fun i hi => absurd hi (Nat.not_lt_zero i)⟩⟩, a5, a6, a8, a9, fun i hi => a10 i (by omega), a11, a12⟩
theorem RV.goal {n m : Nat} {s : Row} (h : RV n m s) (x : Int32) : RV n m (upd s 2 x) := by
  obtain ⟨⟨a1, a2, a3⟩, a4, a5, a6, a7, a8, a9, a10, a11, a12⟩ := h
  refine ⟨⟨by rw [pk_un (by omega)]; exact a1, a2, a3⟩, by rw [pk_un (by omega)]; exact a4, by rw [pk_un (by omega)]; exact a5, by rw [pk_un (by omega)]; exact a6, a7, fun p hp => ?_, fun p hp => ?_, fun i hi => ?_, a11.keep a3 a3 (fun j h1 h2 => pk_un (by omega)), fun p h1 h2 => by rw [pk_un (by omega)]; exact a12 p h1 h2⟩
  · rw [pk_un (by omega), pk_un (by omega), pk_un (by omega), pk_un (by omega)]; exact a8 p hp
  · rw [pk_un (by omega), pk_un (by omega)]; exact a9 p hp
  · rw [pk_un (by omega), pk_un (by omega)]; exact a10 i hi
theorem ptS_4 {s : Row} {v m : Nat} {x y : Int32} : ptS s v m x y 4 = nI (v + 1) := vis_4 _ _ _ _
theorem ptS_vx {s : Row} {v m : Nat} {x y : Int32} (hm : m < 6) (i : Nat) (hv : v < 200) : ptS s v m x y (57 + 2 * i) = if i = v then x else s (57 + 2 * i) := by
  unfold ptS
  rw [vis_x, Nat.mod_eq_of_lt hv, lay1_o (by omega) (by omega)]
theorem ptS_vy {s : Row} {v m : Nat} {x y : Int32} (hm : m < 6) (i : Nat) (hv : v < 200) : ptS s v m x y (58 + 2 * i) = if i = v then y else s (58 + 2 * i) := by
  unfold ptS
  rw [vis_y, Nat.mod_eq_of_lt hv, lay1_o (by omega) (by omega)]
set_option maxHeartbeats 4000000 in
theorem RV.at1 {n m : Nat} {s : Row} (h : RV n m s) (hm : m + 1 ≤ n) {x y : Int32} (hp : plc x y) : RV n (m + 1) (ptS s m m x y) := by
  obtain ⟨⟨a1, a2, a3⟩, a4, a5, a6, a7, a8, a9, a10, a11, a12⟩ := h
  have lo : ∀ j, j < 57 → j ≠ 4 → j ≠ 19 + m → j ≠ 25 + m → ptS s m m x y j = s j := fun j h1 h2 h3 h4 => ptS_lo h1 h2 h3 h4
  refine ⟨⟨by rw [lo _ (by omega) (by omega) (by omega) (by omega)]; exact a1, a2, a3⟩, by rw [lo _ (by omega) (by omega) (by omega) (by omega)]; exact a4, by rw [lo _ (by omega) (by omega) (by omega) (by omega)]; exact a5, ptS_4, hm, fun p hp => ?_, fun p hp => ?_, fun i hi => ?_, a11.keep a3 a3 (fun j h1 h2 => lo j (by omega) (by omega) (by omega) (by omega)), fun p h1 h2 => by rw [lo _ (by omega) (by omega) (by omega) (by omega)]; exact a12 p (by omega) h2⟩
  · by_cases g : p = m
    · subst g
      left
      rw [lo _ (by omega) (by omega) (by omega) (by omega)]
      exact a12 p (Nat.le_refl _) (by omega)
    · rcases a8 p (by omega) with z | ⟨z1, z2, z3, z4⟩ | ⟨z1, z2, z3⟩
      · left
        rw [lo _ (by omega) (by omega) (by omega) (by omega)]
        exact z
      · right; left
        rw [lo _ (by omega) (by omega) (by omega) (by omega), lo _ (by omega) (by omega) (by omega) (by omega), lo _ (by omega) (by omega) (by omega) (by omega)]
        exact ⟨by omega, z2, z3, z4⟩
      · right; right
        rw [lo _ (by omega) (by omega) (by omega) (by omega), lo _ (by omega) (by omega) (by omega) (by omega)]
        exact ⟨z1, z2, z3⟩
  · rw [ptS_x (by omega) (by omega), ptS_y (by omega) (by omega)]
    by_cases g : p = m
    · rw [if_pos g, if_pos g]; assumption
    · rw [if_neg g, if_neg g]; exact a9 p (by omega)
  · rw [ptS_vx (by omega) i (by omega), ptS_vy (by omega) i (by omega)]
    by_cases g : i = m
    · rw [if_pos g, if_pos g]; assumption
    · rw [if_neg g, if_neg g]; exact a10 i (by omega)
theorem plc_neg {x y : Int32} (h : plc x y) : plc x (-y) := by
  obtain ⟨h1, h2, h3, h4⟩ := h
  have e : (-y).toInt = -y.toInt := by
    rw [Int32.not_lt, Int32.le_iff_toInt_le] at h3 h4
    rw [show (-nI 256).toInt = -256 by decide] at h3
    rw [show (nI 256).toInt = 256 by decide] at h4
    rw [Int32.toInt_neg, Int.bmod_eq_of_le (by omega) (by omega)]
  refine ⟨h1, h2, ?_, ?_⟩
  · rw [Int32.not_lt, Int32.le_iff_toInt_le] at h4 ⊢
    rw [e, show (-nI 256).toInt = -256 by decide]
    rw [show (nI 256).toInt = 256 by decide] at h4
    omega
  · rw [Int32.not_lt, Int32.le_iff_toInt_le] at h3 ⊢
    rw [e, show (nI 256).toInt = 256 by decide]
    rw [show (-nI 256).toInt = -256 by decide] at h3
    omega
set_option maxHeartbeats 4000000 in
theorem RV.pair {n m : Nat} {s : Row} (h : RV n m s) (hm : m + 2 ≤ n) {x y : Int32} (hp : plc x y) (hy : nI 1 ≤ y) : RV n (m + 2) (ptS (ptS (sJoin s m) m m x y) (m + 1) (m + 1) x (-y)) := by
  obtain ⟨⟨a1, a2, a3⟩, a4, a5, a6, a7, a8, a9, a10, a11, a12⟩ := h
  have hq := plc_neg hp
  generalize hs2 : ptS (ptS (sJoin s m) m m x y) (m + 1) (m + 1) x (-y) = s2
  have lo : ∀ j, j < 57 → j ≠ 4 → j ≠ 19 + m → j ≠ 25 + m → j ≠ 19 + (m + 1) → j ≠ 25 + (m + 1) → s2 j = sJoin s m j := fun j h1 h2 h3 h4 h5 h6 => by rw [← hs2, ptS_lo h1 h2 h5 h6, ptS_lo h1 h2 h3 h4]
  have lo2 : ∀ j, j < 57 → j ≠ 4 → j ≠ 19 + m → j ≠ 25 + m → j ≠ 19 + (m + 1) → j ≠ 25 + (m + 1) → j ≠ 31 + m → j ≠ 31 + (m + 1) → s2 j = s j := fun j h1 h2 h3 h4 h5 h6 h7 h8 => by rw [lo j h1 h2 h3 h4 h5 h6, sJ_o h7 h8]
  have ex : ∀ q, q < 6 → s2 (19 + q) = if q = m + 1 then x else if q = m then x else s (19 + q) := fun q hq => by rw [← hs2, ptS_x (by omega) hq, ptS_x (by omega) hq, sJ_o (by omega) (by omega)]
  have ey : ∀ q, q < 6 → s2 (25 + q) = if q = m + 1 then -y else if q = m then y else s (25 + q) := fun q hq => by rw [← hs2, ptS_y (by omega) hq, ptS_y (by omega) hq, sJ_o (by omega) (by omega)]
  have vx : ∀ q, s2 (57 + 2 * q) = if q = m + 1 then x else if q = m then x else s (57 + 2 * q) := fun q => by rw [← hs2, ptS_vx (by omega) q (by omega), ptS_vx (by omega) q (by omega), sJ_o (by omega) (by omega)]
  have vy : ∀ q, s2 (58 + 2 * q) = if q = m + 1 then -y else if q = m then y else s (58 + 2 * q) := fun q => by rw [← hs2, ptS_vy (by omega) q (by omega), ptS_vy (by omega) q (by omega), sJ_o (by omega) (by omega)]
  have j0 : s2 (31 + m) = nI (m + 1) := by rw [lo _ (by omega) (by omega) (by omega) (by omega) (by omega) (by omega)]; exact sJ_0 s m
  have j1 : s2 (31 + (m + 1)) = nI m := by rw [lo _ (by omega) (by omega) (by omega) (by omega) (by omega) (by omega)]; exact sJ_1 s m
  refine ⟨⟨by rw [lo2 _ (by omega) (by omega) (by omega) (by omega) (by omega) (by omega) (by omega) (by omega)]; exact a1, a2, a3⟩, by rw [lo2 _ (by omega) (by omega) (by omega) (by omega) (by omega) (by omega) (by omega) (by omega)]; exact a4, by rw [lo2 _ (by omega) (by omega) (by omega) (by omega) (by omega) (by omega) (by omega) (by omega)]; exact a5, by rw [← hs2]; exact ptS_4, hm, fun p hp => ?_, fun p hp => ?_, fun i hi => ?_, a11.keep a3 a3 (fun j h1 h2 => lo2 j (by omega) (by omega) (by omega) (by omega) (by omega) (by omega) (by omega) (by omega)), fun p h1 h2 => by rw [lo2 _ (by omega) (by omega) (by omega) (by omega) (by omega) (by omega) (by omega) (by omega)]; exact a12 p (by omega) h2⟩
  · by_cases g : p = m
    · subst g
      right; left
      refine ⟨by omega, j0, j1, ?_⟩
      rw [ey p (by omega), if_neg (by omega), if_pos rfl]
      exact hy
    · by_cases g1 : p = m + 1
      · subst g1
        right; right
        exact ⟨by omega, j1, j0⟩
      · rcases a8 p (by omega) with z | ⟨z1, z2, z3, z4⟩ | ⟨z1, z2, z3⟩
        · left
          rw [lo2 _ (by omega) (by omega) (by omega) (by omega) (by omega) (by omega) (by omega) (by omega)]
          exact z
        · right; left
          rw [lo2 (31 + p) (by omega) (by omega) (by omega) (by omega) (by omega) (by omega) (by omega) (by omega), lo2 (31 + (p + 1)) (by omega) (by omega) (by omega) (by omega) (by omega) (by omega) (by omega) (by omega), lo2 (25 + p) (by omega) (by omega) (by omega) (by omega) (by omega) (by omega) (by omega) (by omega)]
          exact ⟨by omega, z2, z3, z4⟩
        · right; right
          rw [lo2 (31 + p) (by omega) (by omega) (by omega) (by omega) (by omega) (by omega) (by omega) (by omega), lo2 (31 + (p - 1)) (by omega) (by omega) (by omega) (by omega) (by omega) (by omega) (by omega) (by omega)]
          exact ⟨z1, z2, z3⟩
  · rw [ex p (by omega), ey p (by omega)]
    by_cases g1 : p = m + 1
    · rw [if_pos g1, if_pos g1]; exact hq
    · rw [if_neg g1, if_neg g1]
      by_cases g : p = m
      · rw [if_pos g, if_pos g]; assumption
      · rw [if_neg g, if_neg g]; exact a9 p (by omega)
  · rw [vx i, vy i]
    by_cases g1 : i = m + 1
    · rw [if_pos g1, if_pos g1]; exact hq
    · rw [if_neg g1, if_neg g1]
      by_cases g : i = m
      · rw [if_pos g, if_pos g]; assumption
      · rw [if_neg g, if_neg g]; exact a10 i (by omega)
theorem nuS_in {buf : Nat → Nat} {len b : Nat} {sg : Bool} {lo hi : Int32} (h : (nuS buf len b sg lo hi).1 = 0) : rng lo hi (nvS buf len b sg) := by
  unfold nuS at h
  split at h
  · split at h
    · exact absurd h (Nat.succ_ne_zero _)
    · rename_i g
      exact ⟨fun z => g (Or.inl z), fun z => g (Or.inr z)⟩
  · exact absurd h (Nat.succ_ne_zero _)
/-- a statement that is read keeps what is true of the row -/
theorem RV.st {buf : Nat → Nat} {len b n m : Nat} {s : Row} {g : Bool} (h : RV n m s) (hr : (snR buf len b n m g).1 = 0) : RV n (stM buf len b m) (stW buf len b s m) := by
  unfold snR at hr
  unfold stM stW
  have P : ∀ pr, (poR buf len b n m pr).1 = 0 → m + poK pr ≤ n ∧ rng (-nI 256) (nI 256) (poX buf len b) ∧ rng (poLo pr) (nI 256) (poY buf len b) := by
    intro pr hp
    unfold poR at hp
    split at hp
    · exact absurd hp (Nat.succ_ne_zero _)
    · rename_i g1
      split at hp
      · rename_i g2; exact absurd hp g2
      · rename_i g2
        split at hp
        · rename_i g3; exact absurd hp g3
        · rename_i g3
          exact ⟨Nat.not_lt.mp g1, nuS_in (Classical.not_not.mp g2), nuS_in (Classical.not_not.mp g3)⟩
  by_cases g1 : wB buf len b [97, 116] = true
  · simp only [if_pos g1] at hr ⊢
    obtain ⟨p1, p2, p3⟩ := P false hr
    exact h.at1 p1 ⟨p2.1, p2.2, p3.1, p3.2⟩
  · simp only [if_neg g1] at hr ⊢
    by_cases g2 : wB buf len b [112, 97, 105, 114] = true
    · simp only [if_pos g2] at hr ⊢
      obtain ⟨p1, p2, p3⟩ := P true hr
      have hy : nI 1 ≤ poY buf len b := Int32.not_lt.mp p3.1
      exact h.pair p1 ⟨p2.1, p2.2, Int32.not_lt.mpr (Int32.le_trans (show -nI 256 ≤ nI 1 by decide) hy), p3.2⟩ hy
    · simp only [if_neg g2]
      exact h.goal _
theorem nbS_rng {buf : Nat → Nat} {len b : Nat} (hb : b ≤ len) (sg : Bool) : b ≤ nbS buf len b sg ∧ nbS buf len b sg ≤ len := by
  have h1 := tkS_rng (buf := buf) hb
  have h2 := tkE_rng (buf := buf) hb
  unfold nbS
  split <;> omega
theorem tkE_gt {buf : Nat → Nat} {len b : Nat} (hb : b ≤ len) (h : ¬ tkK buf len b = 3) : b < tkE buf len b ∧ tkE buf len b ≤ len := by
  have h1 := tkS_rng (buf := buf) hb
  rcases tk_cases (buf := buf) hb with ⟨-, -, h2⟩ | ⟨g1, g2, g3, -⟩
  · exact absurd h2 h
  · omega
theorem tkE_ge {buf : Nat → Nat} {len b : Nat} (hb : b ≤ len) : b ≤ tkE buf len b ∧ tkE buf len b ≤ len := by
  have h1 := tkS_rng (buf := buf) hb
  have h2 := tkE_rng (buf := buf) hb
  omega
theorem sgS_ok {buf : Nat → Nat} {len b c : Nat} (h : (sgS buf len b c).1 = 0) : (sgS buf len b c).2 = tkE buf len b := by
  unfold sgS at h ⊢
  split
  · rfl
  · rename_i g
    rw [if_neg g] at h
    exact absurd h (Nat.succ_ne_zero _)
/-- a statement that is read goes on in the text -/
theorem snR_gt {buf : Nat → Nat} {len b n m : Nat} {g : Bool} (hb : b ≤ len) (hk : ¬ tkK buf len b = 3) (hr : (snR buf len b n m g).1 = 0) : b < (snR buf len b n m g).2 ∧ (snR buf len b n m g).2 ≤ len := by
  obtain ⟨e1, e2⟩ := tkE_gt hb hk
  have P : ∀ pr, (poR buf len b n m pr).1 = 0 → b < (poR buf len b n m pr).2 ∧ (poR buf len b n m pr).2 ≤ len := by
    intro pr hp
    obtain ⟨f1, f2⟩ := nbS_rng (buf := buf) e2 true
    obtain ⟨f3, f4⟩ := tkE_ge (buf := buf) f2
    obtain ⟨f5, f6⟩ := nbS_rng (buf := buf) f4 true
    obtain ⟨f7, f8⟩ := tkE_ge (buf := buf) f6
    obtain ⟨f9, f10⟩ := tkE_ge (buf := buf) f8
    unfold poR at hp ⊢
    split at hp
    · exact absurd hp (Nat.succ_ne_zero _)
    · rename_i g1
      split at hp
      · rename_i g2; exact absurd hp g2
      · rename_i g2
        split at hp
        · rename_i g3; exact absurd hp g3
        · rename_i g3
          rw [if_neg g1, if_neg g2, if_neg g3, sgS_ok hp]
          unfold poB at *
          omega
  unfold snR at hr ⊢
  by_cases g1 : wB buf len b [97, 116] = true
  · simp only [if_pos g1] at hr ⊢
    exact P false hr
  · simp only [if_neg g1] at hr ⊢
    by_cases g2 : wB buf len b [112, 97, 105, 114] = true
    · simp only [if_pos g2] at hr ⊢
      exact P true hr
    · simp only [if_neg g2] at hr ⊢
      by_cases g3 : wB buf len b [103, 111, 97, 108] = true
      · simp only [if_pos g3] at hr ⊢
        obtain ⟨f1, f2⟩ := tkE_ge (buf := buf) e2
        obtain ⟨f3, f4⟩ := tkE_ge (buf := buf) f2
        unfold goR at hr ⊢
        split at hr
        · exact absurd hr (Nat.succ_ne_zero _)
        · rename_i q1
          split at hr
          · rename_i q2; exact absurd hr q2
          · rename_i q2
            rw [if_neg q1, if_neg q2, sgS_ok hr]
            omega
      · simp only [if_neg g3] at hr
        exact absurd hr (Nat.succ_ne_zero _)
