/-! ===== what always holds of a row; a sweep ===== -/
def CF (n f : Nat) (s : Row) : Prop := (∀ k, k ≤ n → rng (-nI (if n = 6 then 99 else 9999)) (nI (if n = 6 then 99 else 9999)) (s (5 + k))) ∧ (∀ k, n < k → k < 7 → s (5 + k) = nI 0) ∧ ¬ s (5 + n) = nI 0 ∧ (∀ k, k ≤ f → rng (-nI 99) (nI 99) (s (12 + k))) ∧ (∀ k, f < k → k < 7 → s (12 + k) = nI 0) ∧ ¬ s (12 + f) = nI 0
/-- the degrees of the factors that were divided out -/
def smD (s : Row) : Nat → Nat
  | 0 => 0
  | k + 1 => smD s k + (if s (38 + 4 * k) = nI 0 then 1 else 2)
def DbI (n f d : Nat) (s : Row) : Prop := n + smD s d = f ∧ ∀ i, i < d → -8 ≤ (s (37 + 4 * i)).toInt ∧ (s (37 + 4 * i)).toInt ≤ 8 ∧ 0 ≤ (s (38 + 4 * i)).toInt ∧ (s (38 + 4 * i)).toInt ≤ 8
theorem smD_keep {s s' : Row} {d : Nat} (hd : d ≤ 5) (hk : ∀ j, 37 ≤ j → j < 37 + 4 * d → s' j = s j) : smD s' d = smD s d := by
  induction d with
  | zero => rfl
  | succ d ih =>
    unfold smD
    rw [ih (by omega) (fun j h1 h2 => hk j h1 (by omega)), hk (38 + 4 * d) (by omega) (by omega)]
theorem DbI.keep {n f d : Nat} {s s' : Row} (h : DbI n f d s) (hd : d ≤ 5) (hk : ∀ j, 37 ≤ j → j < 57 → s' j = s j) : DbI n f d s' := by
  refine ⟨?_, fun i hi => ?_⟩
  · rw [smD_keep hd (fun j h1 h2 => hk j h1 (by omega))]; exact h.1
  · rw [hk _ (by omega) (by omega), hk _ (by omega) (by omega)]; exact h.2 i hi
def Iv (n f d v : Nat) (s : Row) : Prop := (s 0 = nI n ∧ 1 ≤ n ∧ n ≤ 6) ∧ (s 1 = nI f ∧ f ≤ 6 ∧ n + d ≤ f ∧ DbI n f d s) ∧ s 3 = nI d ∧ s 4 = nI v ∧ PR n s ∧ (∀ p, p < n → plc (s (19 + p)) (s (25 + p))) ∧ (∀ i, i < min v 200 → plc (s (57 + 2 * i)) (s (58 + 2 * i))) ∧ CF n f s ∧ ∀ p, n ≤ p → p < 6 → s (31 + p) = -nI 1
theorem CF.keep {n f : Nat} {s s' : Row} (h : CF n f s) (hn : n ≤ 6) (hf : f ≤ 6) (hk : ∀ j, 5 ≤ j → j < 19 → s' j = s j) : CF n f s' := by
  obtain ⟨a1, a2, a3, a4, a5, a6⟩ := h
  exact ⟨fun k h => by rw [hk _ (by omega) (by omega)]; exact a1 k h, fun k h1 h2 => by rw [hk _ (by omega) (by omega)]; exact a2 k h1 h2, by rw [hk _ (by omega) (by omega)]; exact a3, fun k h => by rw [hk _ (by omega) (by omega)]; exact a4 k h, fun k h1 h2 => by rw [hk _ (by omega) (by omega)]; exact a5 k h1 h2, by rw [hk _ (by omega) (by omega)]; exact a6⟩
theorem Iv.vis {n f d v : Nat} {s : Row} {x y : Int32} (h : Iv n f d v s) (hp : plc x y) : Iv n f d (v + 1) (vis s v x y) := by
  obtain ⟨⟨a1, a2, a3⟩, ⟨b1, b2, b3⟩, c, e, pr, pc, vc, cf, pt⟩ := h
  refine ⟨⟨by rw [vis_lo (by decide) (by decide)]; exact a1, a2, a3⟩, ⟨by rw [vis_lo (by decide) (by decide)]; exact b1, b2, b3.1, b3.2.keep (by omega) (fun j _ _ => vis_lo (by omega) (by omega))⟩, by rw [vis_lo (by decide) (by decide)]; exact c, vis_4 _ _ _ _, fun p h => ?_, fun p h => ?_, fun i h => ?_, cf.keep a3 b2 (fun j h1 h2 => vis_lo (by omega) (by omega)), fun p h1 h2 => by rw [vis_lo (by omega) (by omega)]; exact pt p h1 h2⟩
  · rw [vis_lo (by omega) (by omega), vis_lo (by omega) (by omega), vis_lo (by omega) (by omega), vis_lo (by omega) (by omega)]
    exact pr p h
  · rw [vis_lo (by omega) (by omega), vis_lo (by omega) (by omega)]
    exact pc p h
  · rw [vis_x, vis_y]
    by_cases h9 : i = v % 200
    · rw [if_pos h9, if_pos h9]; exact hp
    · rw [if_neg h9, if_neg h9]; exact vc i (by omega)
theorem Iv.lay {n f d v p : Nat} {s : Row} {x y : Int32} (h : Iv n f d v s) (hp : p < n) (hxy : plc x y) (hy : rol s p = nI 1 → nI 1 ≤ y) : Iv n f d v (lay1 s p x y) := by
  obtain ⟨⟨a1, a2, a3⟩, ⟨b1, b2, b3⟩, c, e, pr, pc, vc, cf, pt⟩ := h
  refine ⟨⟨by rw [lay1_o (by omega) (by omega)]; exact a1, a2, a3⟩, ⟨by rw [lay1_o (by omega) (by omega)]; exact b1, b2, b3.1, b3.2.keep (by omega) (fun j _ _ => lay1_o (by omega) (by omega))⟩, by rw [lay1_o (by omega) (by omega)]; exact c, by rw [lay1_o (by omega) (by omega)]; exact e, fun q h => ?_, fun q h => ?_, fun i h => ?_, cf.keep a3 b2 (fun j h1 h2 => lay1_o (by omega) (by omega)), fun p h1 h2 => by rw [lay1_o (by omega) (by omega)]; exact pt p h1 h2⟩
  · rw [lay1_y q (by omega) (by omega), lay1_o (by omega) (by omega), lay1_o (by omega) (by omega), lay1_o (by omega) (by omega)]
    by_cases hq : q = p
    · subst hq
      rw [if_pos rfl]
      rcases PR_role pr a3 hp with z | z | z
      · exact Or.inl z.2
      · exact Or.inr (Or.inl ⟨z.2.1, z.2.2.1, z.2.2.2.1, hy z.1⟩)
      · exact Or.inr (Or.inr z.2)
    · rw [if_neg hq]
      exact pr q h
  · rw [lay1_x q (by omega) (by omega), lay1_y q (by omega) (by omega)]
    by_cases hq : q = p
    · rw [if_pos hq, if_pos hq]; exact hxy
    · rw [if_neg hq, if_neg hq]; exact pc q h
  · rw [lay1_o (by omega) (by omega), lay1_o (by omega) (by omega)]
    exact vc i h
theorem Iv.place {n f d v p : Nat} {s : Row} {x y : Int32} (h : Iv n f d v s) (hp : p < n) (hxy : plc x y) (hy : rol s p = nI 1 → nI 1 ≤ y) : Iv n f d (plS s v p x y).2.1 (plS s v p x y).1 := by
  unfold plS
  by_cases h9 : s (19 + p) = x ∧ s (25 + p) = y
  · rw [if_pos h9]; exact h
  · rw [if_neg h9]; exact (h.lay hp hxy hy).vis hxy
theorem rol_plS (s : Row) (v p : Nat) (x y : Int32) (hp : p < 6) (q : Nat) (hq : q < 6) : rol (plS s v p x y).1 q = rol s q := by
  unfold plS
  split
  · rfl
  · unfold rol
    have e : vis (lay1 s p x y) v x y (31 + q) = s (31 + q) := by rw [vis_lo (by omega) (by omega), lay1_o (by omega) (by omega)]
    simp only [e]
theorem Iv.part {n f d v p : Nat} {s : Row} (h : Iv n f d v s) (hp : p < n) (hr : rol s p = nI 1) : Iv n f d v (sPart s p) := by
  obtain ⟨⟨a1, a2, a3⟩, ⟨b1, b2, b3⟩, c, e, pr, pc, vc, cf, pt⟩ := h
  have hz := rol_cases pr a3 hp hr
  refine ⟨⟨by rw [sPart_o (by omega) (by omega)]; exact a1, a2, a3⟩, ⟨by rw [sPart_o (by omega) (by omega)]; exact b1, b2, b3.1, b3.2.keep (by omega) (fun j _ _ => sPart_o (by omega) (by omega))⟩, by rw [sPart_o (by omega) (by omega)]; exact c, by rw [sPart_o (by omega) (by omega)]; exact e, fun q h => ?_, fun q h => ?_, fun i h => ?_, cf.keep a3 b2 (fun j h1 h2 => sPart_o (by omega) (by omega)), fun q h1 h2 => ?_⟩
  · rw [sPart_at, sPart_at, sPart_at, sPart_o (by omega) (by omega)]
    by_cases h1 : q = p
    · exact Or.inl (by rw [if_pos h1])
    · by_cases h2 : q = p + 1
      · exact Or.inl (by rw [if_neg h1, if_pos h2])
      · rw [if_neg h1, if_neg h2]
        rcases pr q h with z | z | z
        · exact Or.inl z
        · refine Or.inr (Or.inl ⟨z.1, z.2.1, ?_, z.2.2.2⟩)
          have g1 : q + 1 ≠ p := fun e9 => by
            have := z.2.2.1
            rw [e9, hz.2.1, nI_eq (by omega) (by omega)] at this
            omega
          rw [if_neg g1, if_neg (by omega)]
          exact z.2.2.1
        · refine Or.inr (Or.inr ⟨z.1, z.2.1, ?_⟩)
          have g1 : q - 1 ≠ p + 1 := fun e9 => by
            have := z.2.2
            rw [e9, hz.2.2.1, nI_eq (by omega) (by omega)] at this
            omega
          rw [if_neg (by omega), if_neg g1]
          exact z.2.2
  · rw [sPart_o (by omega) (by omega), sPart_o (by omega) (by omega)]
    exact pc q h
  · rw [sPart_o (by omega) (by omega), sPart_o (by omega) (by omega)]
    exact vc i h
  · rw [sPart_at]
    split
    · rfl
    · split
      · rfl
      · exact pt q h1 h2
theorem plc_iff (x y : Int32) : plc x y ↔ -256 ≤ x.toInt ∧ x.toInt ≤ 256 ∧ -256 ≤ y.toInt ∧ y.toInt ≤ 256 := by
  unfold plc
  simp only [Int32.lt_iff_toInt_lt, show (-nI 256).toInt = -256 by decide, show (nI 256).toInt = 256 by decide]
  omega
theorem limI_iv (x : Int32) : -256 ≤ (limI x (nI 256)).toInt ∧ (limI x (nI 256)).toInt ≤ 256 := by
  unfold limI
  simp only [Int32.lt_iff_toInt_lt, show (-nI 256).toInt = -256 by decide, show (nI 256).toInt = 256 by decide]
  split
  · rw [show (-nI 256).toInt = -256 by decide]; omega
  · split
    · rw [show (nI 256).toInt = 256 by decide]; omega
    · omega
theorem neg_iv {x : Int32} (h1 : -256 ≤ x.toInt) (h2 : x.toInt ≤ 256) : (-x).toInt = -x.toInt := by
  rw [Int32.toInt_neg]
  exact Int.bmod_eq_of_le (by omega) (by omega)
theorem Iv.pl2 {n f d v p : Nat} {s : Row} {x y x2 y2 : Int32} (h : Iv n f d v s) (hp : p + 1 < n) (h1 : plc x y) (h2 : plc x2 y2) (hy : rol s p = nI 1 → nI 1 ≤ y) (hr : ¬ rol s (p + 1) = nI 1) : Iv n f d (pl2 s v p x y x2 y2).2.1 (pl2 s v p x y x2 y2).1 := by
  have hn := h.1.2.2
  exact (h.place (by omega) h1 hy).place hp h2 (fun z => absurd (by rw [rol_plS _ _ _ _ _ (by omega) _ (by omega)] at z; exact z) hr)
theorem rol_2 {n : Nat} {s : Row} (h : PR n s) (hn : n ≤ 6) {p : Nat} (hp : p < n) (h1 : rol s p = nI 1) : rol s (p + 1) = nI 2 := by
  obtain ⟨z1, z2, z3, z4⟩ := rol_cases h hn hp h1
  unfold rol
  rw [z3, if_neg (nI_m1 (by omega)), if_neg]
  rw [nI_eq (by omega) (by omega)]
  omega
theorem Iv.rf {n f d v p : Nat} {s : Row} (h : Iv n f d v s) (hp : p < n) : Iv n f d (rfS s v n p).2.1 (rfS s v n p).1 := by
  have hn := h.1.2.2
  have hPR := h.2.2.2.2.1
  unfold rfS
  have lx := limI_iv (s (19 + p) - (stR s n p).1)
  have ly := limI_iv (s (25 + p) - (stR s n p).2)
  change -256 ≤ (nxX s n p).toInt ∧ (nxX s n p).toInt ≤ 256 at lx
  change -256 ≤ (nxY s n p).toInt ∧ (nxY s n p).toInt ≤ 256 at ly
  by_cases hr : rol s p = nI 1
  · rw [if_pos hr]
    have hz := rol_cases hPR hn hp hr
    by_cases hy : nxY s n p < nI 1
    · rw [if_pos hy]
      have l1 := limI_iv (nxX s n p - nI 1)
      have l2 := limI_iv (nxX s n p + nI 1)
      have e0 : (nI 0).toInt = 0 := by decide
      refine (h.part hp hr).pl2 hz.1 ((plc_iff _ _).mpr ⟨l1.1, l1.2, by rw [e0]; decide, by rw [e0]; decide⟩) ((plc_iff _ _).mpr ⟨l2.1, l2.2, by rw [e0]; decide, by rw [e0]; decide⟩) (fun z => ?_) (fun z => ?_)
      · rw [rol_part, if_pos rfl] at z; exact absurd z (by decide)
      · rw [rol_part, if_neg (by omega), if_pos rfl] at z; exact absurd z (by decide)
    · rw [if_neg hy]
      have e0 := neg_iv ly.1 ly.2
      refine h.pl2 hz.1 ((plc_iff _ _).mpr ⟨lx.1, lx.2, ly.1, ly.2⟩) ((plc_iff _ _).mpr ⟨lx.1, lx.2, by rw [e0]; omega, by rw [e0]; omega⟩) (fun _ => Int32.not_lt.mp hy) (fun z => ?_)
      rw [rol_2 hPR hn hp hr] at z
      exact absurd z (by decide)
  · rw [if_neg hr]
    exact h.place hp ((plc_iff _ _).mpr ⟨lx.1, lx.2, ly.1, ly.2⟩) (fun z => absurd z hr)
/-- a sweep from a point on -/
def swS (n : Nat) : Nat → Row → Nat → Nat → Row × Nat × Nat
  | 0, s, v, _ => (s, v, 0)
  | k + 1, s, v, p => if p < n then ((swS n k (rfS s v n p).1 (rfS s v n p).2.1 (p + (if rol s p = nI 1 then 2 else 1))).1, (swS n k (rfS s v n p).1 (rfS s v n p).2.1 (p + (if rol s p = nI 1 then 2 else 1))).2.1, (rfS s v n p).2.2 + (swS n k (rfS s v n p).1 (rfS s v n p).2.1 (p + (if rol s p = nI 1 then 2 else 1))).2.2) else (s, v, 0)
/-- the roles behind a refining: those of other points stay -/
theorem rol_rf {n f d v p : Nat} {s : Row} (h : Iv n f d v s) (hp : p < n) (q : Nat) (hq : q < n) (h1 : q ≠ p) (h2 : q ≠ p + 1) : rol (rfS s v n p).1 q = rol s q := by
  have hn := h.1.2.2
  have hPR := h.2.2.2.2.1
  unfold rfS
  by_cases hr : rol s p = nI 1
  · rw [if_pos hr]
    have hz := rol_cases hPR hn hp hr
    split
    · unfold pl2
      dsimp only
      rw [rol_plS _ _ _ _ _ (by omega) _ (by omega), rol_plS _ _ _ _ _ (by omega) _ (by omega), rol_part, if_neg h1, if_neg h2]
    · unfold pl2
      dsimp only
      rw [rol_plS _ _ _ _ _ (by omega) _ (by omega), rol_plS _ _ _ _ _ (by omega) _ (by omega)]
  · rw [if_neg hr, rol_plS _ _ _ _ _ (by omega) _ (by omega)]
theorem rol_rf1 {n f d v p : Nat} {s : Row} (h : Iv n f d v s) (hp : p < n) (q : Nat) (hq : q < n) (hr : ¬ rol s p = nI 1) : rol (rfS s v n p).1 q = rol s q := by
  have hn := h.1.2.2
  unfold rfS
  rw [if_neg hr, rol_plS _ _ _ _ _ (by omega) _ (by omega)]
/-- the next point of a sweep is no second one -/
theorem sw_next {n f d v p : Nat} {s : Row} (h : Iv n f d v s) (hp : p < n) (h0 : ¬ rol s p = nI 2) : p + (if rol s p = nI 1 then 2 else 1) < n → ¬ rol (rfS s v n p).1 (p + (if rol s p = nI 1 then 2 else 1)) = nI 2 := by
  have hn := h.1.2.2
  have hPR := h.2.2.2.2.1
  by_cases hr : rol s p = nI 1
  · rw [if_pos hr]
    intro hlt z
    rw [rol_rf h hp _ hlt (by omega) (by omega)] at z
    have hz := rol_cases hPR hn hp hr
    rcases PR_role hPR hn hlt with w | w | w
    · rw [w.1] at z; exact absurd z (by decide)
    · rw [w.1] at z; exact absurd z (by decide)
    · have := w.2.2.2
      rw [show p + 2 - 1 = p + 1 by omega, hz.2.2.1, nI_eq (by omega) (by omega)] at this
      omega
  · rw [if_neg hr]
    intro hlt z
    rw [rol_rf1 h hp _ hlt hr] at z
    rcases PR_role hPR hn hlt with w | w | w
    · rw [w.1] at z; exact absurd z (by decide)
    · rw [w.1] at z; exact absurd z (by decide)
    · have := w.2.2.2
      rw [show p + 1 - 1 = p by omega] at this
      rcases PR_role hPR hn hp with u | u | u
      · rw [u.2] at this
        exact nI_m1 (by omega) this.symm
      · exact hr u.1
      · exact h0 u.1
