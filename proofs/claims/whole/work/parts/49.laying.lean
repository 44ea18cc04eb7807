/-! ===== laying many points: in numbers ===== -/
theorem plS_upd {r : Row} {v p j : Nat} {x y z : Int32} (hp : p < 6) (h1 : 31 ≤ j) (h2 : j < 37) : (plS (upd r j z) v p x y).1 = upd (plS r v p x y).1 j z ∧ (plS (upd r j z) v p x y).2 = (plS r v p x y).2 := by
  unfold plS
  rw [pk_un (show 19 + p ≠ j by omega), pk_un (show 25 + p ≠ j by omega)]
  by_cases h : r (19 + p) = x ∧ r (25 + p) = y
  · rw [if_pos h, if_pos h]
    exact ⟨rfl, rfl⟩
  · rw [if_neg h, if_neg h]
    refine ⟨?_, rfl⟩
    dsimp only
    rw [vis_upd (by omega) (by omega)]
    congr 1
    unfold lay1
    rw [upd_comm (show j ≠ 19 + p by omega), upd_comm (show j ≠ 25 + p by omega)]
def pv1 (F : Row) (k : Nat) (T : Row × Nat × Nat) : Row × Nat × Nat := plS (upd T.1 (31 + k) (F (31 + k))) T.2.1 k (F (19 + k)) (F (25 + k))
/-- the first points are laid as a row has them, and visited -/
def stg (s F : Row) (v : Nat) : Nat → Row × Nat × Nat
  | 0 => (s, v, 0)
  | k + 1 => ((pv1 F k (stg s F v k)).1, (pv1 F k (stg s F v k)).2.1, (stg s F v k).2.2 + (pv1 F k (stg s F v k)).2.2)
theorem stg_s (s F : Row) (v k : Nat) : stg s F v (k + 1) = ((pv1 F k (stg s F v k)).1, (pv1 F k (stg s F v k)).2.1, (stg s F v k).2.2 + (pv1 F k (stg s F v k)).2.2) := rfl
theorem stg_v (s F : Row) (v : Nat) : ∀ k, (stg s F v k).2.1 = v + (stg s F v k).2.2 ∧ (stg s F v k).2.2 ≤ k := by
  intro k
  induction k with
  | zero => exact ⟨rfl, Nat.le_refl _⟩
  | succ k ih =>
    have h := plS_v (upd (stg s F v k).1 (31 + k) (F (31 + k))) (stg s F v k).2.1 k (F (19 + k)) (F (25 + k))
    change (pv1 F k (stg s F v k)).2.1 = _ + (pv1 F k (stg s F v k)).2.2 ∧ (pv1 F k (stg s F v k)).2.2 ≤ 1 at h
    rw [stg_s]
    dsimp only
    omega
theorem stg_m (s F : Row) (v k i : Nat) : (stg s F v k).2.2 ≤ (stg s F v (k + i)).2.2 := by
  induction i with
  | zero => exact Nat.le_refl _
  | succ i ih => exact Nat.le_trans ih (Nat.le_add_right _ _)
theorem plS_o {s : Row} {v p j : Nat} {x y : Int32} (h1 : j ≠ 19 + p) (h2 : j ≠ 25 + p) (h3 : j < 57) (h4 : j ≠ 4) : (plS s v p x y).1 j = s j := by
  unfold plS
  split
  · rfl
  · dsimp only
    rw [vis_lo h3 h4, lay1_o h1 h2]
theorem stg_hi (s F : Row) (v : Nat) : ∀ k, k ≤ 6 → ∀ j, (19 + k ≤ j ∧ j < 25) ∨ (25 + k ≤ j ∧ j < 31) ∨ (31 + k ≤ j ∧ j < 37) → (stg s F v k).1 j = s j := by
  intro k
  induction k with
  | zero => intro _ j _; rfl
  | succ k ih =>
    intro hk j hj
    rw [stg_s]
    unfold pv1
    dsimp only
    rw [plS_o (by omega) (by omega) (by omega) (by omega), pk_un (by omega)]
    exact ih (by omega) j (by omega)
def finF (F : Row) (k : Nat) (r : Row) : Row := fun j => if (19 + k ≤ j ∧ j < 25) ∨ (25 + k ≤ j ∧ j < 31) ∨ (31 + k ≤ j ∧ j < 37) then F j else r j
theorem vis_at (s : Row) (v : Nat) (x y : Int32) (j : Nat) : vis s v x y j = if j = 4 then nI (v + 1) else if j = 57 + 2 * (v % 200) + 1 then y else if j = 57 + 2 * (v % 200) then x else s j := rfl
theorem lay1_at (s : Row) (p : Nat) (x y : Int32) (j : Nat) : lay1 s p x y j = if j = 25 + p then y else if j = 19 + p then x else s j := rfl
theorem stg_cm {s F : Row} {v : Nat} (hF : ∀ j, j < 19 ∨ 37 ≤ j → F j = s j) : ∀ k, k ≤ 6 → (cm (fun p => s (19 + p)) (fun p => s (25 + p)) F v k) = (finF F k (stg s F v k).1, (stg s F v k).2.1, (stg s F v k).2.2) := by
  intro k
  induction k with
  | zero =>
    intro _
    have : F = finF F 0 s := by
      funext j
      unfold finF
      by_cases h : (19 + 0 ≤ j ∧ j < 25) ∨ (25 + 0 ≤ j ∧ j < 31) ∨ (31 + 0 ≤ j ∧ j < 37)
      · rw [if_pos h]
      · rw [if_neg h]; exact hF j (by omega)
    show (F, v, 0) = _
    rw [← show F = finF F 0 (stg s F v 0).1 from this]
    rfl
  | succ k ih =>
    intro hk
    have ih := ih (by omega)
    rw [cm_s, ih]
    have gx := stg_hi s F v k (by omega) (19 + k) (by omega)
    have gy := stg_hi s F v k (by omega) (25 + k) (by omega)
    rw [stg_s]
    generalize stg s F v k = T at *
    unfold pv1 plS
    dsimp only
    rw [pk_un (show 19 + k ≠ 31 + k by omega), pk_un (show 25 + k ≠ 31 + k by omega), gx, gy]
    by_cases h : F (19 + k) = s (19 + k) ∧ F (25 + k) = s (25 + k)
    · rw [if_pos h, if_pos ⟨h.1.symm, h.2.symm⟩]
      dsimp only
      rw [Nat.add_zero]
      congr 1
      funext j
      unfold finF
      rw [upd_at]
      by_cases h1 : (19 + k ≤ j ∧ j < 25) ∨ (25 + k ≤ j ∧ j < 31) ∨ (31 + k ≤ j ∧ j < 37)
      · rw [if_pos h1]
        by_cases h2 : (19 + (k + 1) ≤ j ∧ j < 25) ∨ (25 + (k + 1) ≤ j ∧ j < 31) ∨ (31 + (k + 1) ≤ j ∧ j < 37)
        · rw [if_pos h2]
        · rw [if_neg h2]
          by_cases h3 : j = 31 + k
          · rw [if_pos h3, h3]
          · rw [if_neg h3]
            by_cases h4 : j = 19 + k
            · rw [h4, gx]; exact h.1
            · have h5 : j = 25 + k := by omega
              rw [h5, gy]; exact h.2
      · rw [if_neg h1, if_neg (by omega), if_neg (by omega)]
    · rw [if_neg h, if_neg (fun z => h ⟨z.1.symm, z.2.symm⟩)]
      dsimp only
      congr 1
      funext j
      unfold finF
      rw [vis_at, vis_at, lay1_at, upd_at]
      by_cases h0 : j = 4
      · subst h0
        rw [if_pos rfl, if_neg (by omega), if_pos rfl]
      · rw [if_neg h0, if_neg h0]
        by_cases h9 : 57 ≤ j
        · have n1 : ¬ ((19 + (k + 1) ≤ j ∧ j < 25) ∨ (25 + (k + 1) ≤ j ∧ j < 31) ∨ (31 + (k + 1) ≤ j ∧ j < 37)) := by omega
          have n2 : ¬ ((19 + k ≤ j ∧ j < 25) ∨ (25 + k ≤ j ∧ j < 31) ∨ (31 + k ≤ j ∧ j < 37)) := by omega
          rw [if_neg n1, if_neg n2]
          by_cases e1 : j = 57 + 2 * (T.2.1 % 200) + 1
          · rw [if_pos e1, if_pos e1]
          · rw [if_neg e1, if_neg e1]
            by_cases e2 : j = 57 + 2 * (T.2.1 % 200)
            · rw [if_pos e2, if_pos e2]
            · rw [if_neg e2, if_neg e2, if_neg (show ¬ j = 25 + k by omega), if_neg (show ¬ j = 19 + k by omega), if_neg (show ¬ j = 31 + k by omega)]
        · rw [if_neg (show ¬ j = 57 + 2 * (T.2.1 % 200) + 1 by omega), if_neg (show ¬ j = 57 + 2 * (T.2.1 % 200) by omega), if_neg (show ¬ j = 57 + 2 * (T.2.1 % 200) + 1 by omega), if_neg (show ¬ j = 57 + 2 * (T.2.1 % 200) by omega)]
          by_cases h1 : (19 + k ≤ j ∧ j < 25) ∨ (25 + k ≤ j ∧ j < 31) ∨ (31 + k ≤ j ∧ j < 37)
          · rw [if_pos h1]
            by_cases h2 : (19 + (k + 1) ≤ j ∧ j < 25) ∨ (25 + (k + 1) ≤ j ∧ j < 31) ∨ (31 + (k + 1) ≤ j ∧ j < 37)
            · rw [if_pos h2]
            · rw [if_neg h2]
              by_cases h3 : j = 25 + k
              · rw [if_pos h3, h3]
              · rw [if_neg h3]
                by_cases h4 : j = 19 + k
                · rw [if_pos h4, h4]
                · rw [if_neg h4, if_pos (by omega)]
                  congr 1
                  omega
          · rw [if_neg h1, if_neg (by omega), if_neg (by omega), if_neg (by omega), if_neg (by omega)]
theorem stg_cm_n {s F : Row} {v n : Nat} (hn : n ≤ 6) (hF : ∀ j, j < 19 ∨ 37 ≤ j → F j = s j) (hp : ∀ p, n ≤ p → p < 6 → F (19 + p) = s (19 + p) ∧ F (25 + p) = s (25 + p) ∧ F (31 + p) = s (31 + p)) : cm (fun p => s (19 + p)) (fun p => s (25 + p)) F v n = stg s F v n := by
  rw [stg_cm hF n hn]
  have : finF F n (stg s F v n).1 = (stg s F v n).1 := by
    funext j
    unfold finF
    by_cases h1 : (19 + n ≤ j ∧ j < 25) ∨ (25 + n ≤ j ∧ j < 31) ∨ (31 + n ≤ j ∧ j < 37)
    · rw [if_pos h1, stg_hi s F v n hn j h1]
      rcases h1 with h | h | h
      · have := (hp (j - 19) (by omega) (by omega)).1
        rw [show 19 + (j - 19) = j by omega] at this
        exact this
      · have := (hp (j - 25) (by omega) (by omega)).2.1
        rw [show 25 + (j - 25) = j by omega] at this
        exact this
      · have := (hp (j - 31) (by omega) (by omega)).2.2
        rw [show 31 + (j - 31) = j by omega] at this
        exact this
    · rw [if_neg h1]
  rw [this]
/-- what always holds, where points are laid anew -/
theorem Iv.laid {n f d v : Nat} {s F : Row} (h : Iv n f d v s) (hF : ∀ j, j < 19 ∨ 37 ≤ j → F j = s j) (hPR : PR n F) (hpl : ∀ p, p < n → plc (F (19 + p)) (F (25 + p))) (hm : ∀ p, n ≤ p → p < 6 → F (31 + p) = -nI 1) : Iv n f d v F := by
  obtain ⟨⟨a1, a2, a3⟩, ⟨b1, b2, b3⟩, c, e, pr, pc, vc, cf, pt⟩ := h
  refine ⟨⟨by rw [hF _ (by decide)]; exact a1, a2, a3⟩, ⟨by rw [hF _ (by decide)]; exact b1, b2, b3.1, b3.2.keep (by omega) (fun j _ _ => hF j (by omega))⟩, by rw [hF _ (by decide)]; exact c, by rw [hF _ (by decide)]; exact e, hPR, hpl, fun i hi => by rw [hF _ (by omega), hF _ (by omega)]; exact vc i hi, cf.keep a3 b2 (fun j h1 h2 => hF _ (by omega)), hm⟩
theorem Iv.cm {n f d v : Nat} {F wx wy : Row} (h : Iv n f d v F) : ∀ k, k ≤ n → Iv n f d (cm wx wy F v k).2.1 (cm wx wy F v k).1 := by
  intro k
  induction k with
  | zero => intro _; exact h
  | succ k ih =>
    intro hk
    rw [cm_s]
    split
    · exact ih (by omega)
    · exact (ih (by omega)).vis (h.2.2.2.2.2.1 k (by omega))
/-! one round -/
def rdX (r : Int32) (m i : Nat) : Int32 := nI 2 * r * nI (i + 1) / nI (m + 1) - r
def RND (F : Row) (a many : Nat) (r : Int32) : Prop := (∀ i, i < many / 2 → F (19 + (a + 2 * i)) = rdX r (many / 2) i ∧ F (25 + (a + 2 * i)) = r ∧ F (31 + (a + 2 * i)) = nI (a + 2 * i + 1) ∧ F (19 + (a + 2 * i + 1)) = rdX r (many / 2) i ∧ F (25 + (a + 2 * i + 1)) = -r ∧ F (31 + (a + 2 * i + 1)) = nI (a + 2 * i)) ∧ (many % 2 = 1 → F (19 + (a + many - 1)) = -r ∧ F (25 + (a + many - 1)) = nI 0 ∧ F (31 + (a + many - 1)) = -nI 1)
theorem RND_keep {F F' : Row} {a many : Nat} {r : Int32} (h : RND F a many r) (hk : ∀ p, a ≤ p → p < a + many → F' (19 + p) = F (19 + p) ∧ F' (25 + p) = F (25 + p) ∧ F' (31 + p) = F (31 + p)) : RND F' a many r := by
  refine ⟨fun i hi => ?_, fun ho => ?_⟩
  · obtain ⟨e1, e2, e3⟩ := hk (a + 2 * i) (by omega) (by omega)
    obtain ⟨f1, f2, f3⟩ := hk (a + 2 * i + 1) (by omega) (by omega)
    rw [e1, e2, e3, f1, f2, f3]
    exact h.1 i hi
  · obtain ⟨e1, e2, e3⟩ := hk (a + many - 1) (by omega) (by omega)
    rw [e1, e2, e3]
    exact h.2 ho
theorem rdX_iv : ∀ r, r < 257 → ∀ m, m < 4 → ∀ i, i < m → -256 ≤ (rdX (nI r) m i).toInt ∧ (rdX (nI r) m i).toInt ≤ 256 := by decide +kernel
theorem RND_ok {F : Row} {a many n r p : Nat} (h : RND F a many (nI r)) (hn : a + many ≤ n) (h6 : n ≤ 6) (hr : 1 ≤ r) (hr2 : r ≤ 256) (h1 : a ≤ p) (h2 : p < a + many) : plc (F (19 + p)) (F (25 + p)) ∧ (F (31 + p) = -nI 1 ∨ (p + 1 < n ∧ F (31 + p) = nI (p + 1) ∧ F (31 + (p + 1)) = nI p ∧ nI 1 ≤ F (25 + p)) ∨ (1 ≤ p ∧ F (31 + p) = nI (p - 1) ∧ F (31 + (p - 1)) = nI p)) := by
  have e0 : (nI 0).toInt = 0 := by decide
  have er : (nI r).toInt = r := nI_toInt (by omega)
  have en : (-nI r).toInt = -r := by rw [neg_iv (by omega) (by omega), er]
  by_cases ho : many % 2 = 1 ∧ p = a + many - 1
  · obtain ⟨g1, g2, g3⟩ := h.2 ho.1
    rw [ho.2, g1, g2, g3]
    exact ⟨(plc_iff _ _).mpr ⟨by omega, by omega, by omega, by omega⟩, Or.inl rfl⟩
  · have hx := fun i (hi : i < many / 2) => rdX_iv r (by omega) (many / 2) (by omega) i hi
    by_cases hev : (p - a) % 2 = 0
    · obtain ⟨g1, g2, g3, g4, g5, g6⟩ := h.1 ((p - a) / 2) (by omega)
      have hx := hx ((p - a) / 2) (by omega)
      rw [show a + 2 * ((p - a) / 2) = p by omega] at g1 g2 g3 g4 g5 g6
      rw [g1, g2]
      exact ⟨(plc_iff _ _).mpr ⟨by omega, by omega, by omega, by omega⟩, Or.inr (Or.inl ⟨by omega, g3, g6, nI_le hr (by omega)⟩)⟩
    · obtain ⟨g1, g2, g3, g4, g5, g6⟩ := h.1 ((p - a) / 2) (by omega)
      have hx := hx ((p - a) / 2) (by omega)
      rw [show a + 2 * ((p - a) / 2) + 1 = p by omega] at g4 g5 g6
      rw [show a + 2 * ((p - a) / 2) = p - 1 by omega] at g6
      rw [show a + 2 * ((p - a) / 2) + 1 = p by omega, show a + 2 * ((p - a) / 2) = p - 1 by omega] at g3
      rw [g4, g5]
      exact ⟨(plc_iff _ _).mpr ⟨by omega, by omega, by omega, by omega⟩, Or.inr (Or.inr ⟨by omega, g6, g3⟩)⟩
/-! the class -/
theorem stg_2 {s F : Row} {v k : Nat} (hk : k + 1 < 6) (h1 : F (31 + k) = nI (k + 1)) (h2 : F (31 + (k + 1)) = nI k) : (pl2 (sJoin (stg s F v k).1 k) (stg s F v k).2.1 k (F (19 + k)) (F (25 + k)) (F (19 + (k + 1))) (F (25 + (k + 1)))).1 = (stg s F v (k + 2)).1 ∧ (pl2 (sJoin (stg s F v k).1 k) (stg s F v k).2.1 k (F (19 + k)) (F (25 + k)) (F (19 + (k + 1))) (F (25 + (k + 1)))).2.1 = (stg s F v (k + 2)).2.1 ∧ (stg s F v k).2.2 + (pl2 (sJoin (stg s F v k).1 k) (stg s F v k).2.1 k (F (19 + k)) (F (25 + k)) (F (19 + (k + 1))) (F (25 + (k + 1)))).2.2 = (stg s F v (k + 2)).2.2 := by
  have e := plS_upd (r := upd (stg s F v k).1 (31 + k) (nI (k + 1))) (v := (stg s F v k).2.1) (x := F (19 + k)) (y := F (25 + k)) (z := nI k) (show k < 6 by omega) (show 31 ≤ 31 + (k + 1) by omega) (by omega)
  unfold pl2 sJoin
  dsimp only
  rw [e.1, e.2]
  rw [show k + 2 = k + 1 + 1 from rfl, stg_s, stg_s]
  unfold pv1
  dsimp only
  rw [h1, h2]
  exact ⟨rfl, rfl, (Nat.add_assoc _ _ _).symm⟩
theorem CPt_role1 {I : Nat → Nat → Int32} {o m p : Nat} {a : Int32} {s s' : Row} (h : CPt I o m s) (hm : m ≤ 6) (hx : ∀ j, 19 ≤ j → j < 31 → s' j = s j) (hr : ∀ q, rol s' q = if q = p then a else rol s q) : CPt (si I (o + 3) p a) o m s' := by
  refine ⟨by rw [si_n (by omega)]; exact h.1, fun q hq => ?_⟩
  obtain ⟨h1, h2, h3⟩ := h.2 q hq
  refine ⟨by rw [si_n (by omega), hx _ (by omega) (by omega)]; exact h1, by rw [si_n (by omega), hx _ (by omega) (by omega)]; exact h2, ?_⟩
  rw [hr, si_eq]
  by_cases e1 : q = p
  · subst e1; simp
  · simp [e1]; exact h3
theorem CS_role1 {I : Nat → Nat → Int32} {b m d v p : Nat} {a : Int32} {s s' : Row} (h : CS I b m d v s) (hm : m ≤ 6) (hd : d ≤ 5) (hx : ∀ j, j < 31 ∨ 37 ≤ j → s' j = s j) (hr : ∀ q, rol s' q = if q = p then a else rol s q) : CS (si I (b + 8) p a) b m d v s' := by
  obtain ⟨a1, a2, a3, a4, a5, a6⟩ := h
  have k : ∀ k, k ≠ b + 8 → (si I (b + 8) p a) k = I k := fun k hk => by rw [si_n hk]
  exact ⟨a1.keep (by rw [k _ (by omega)]) (k _ (by omega)) (hx _ (by omega)) (fun j hj => hx _ (by omega)), a2.keep (by rw [k _ (by omega)]) (k _ (by omega)) (hx _ (by omega)) (fun j hj => hx _ (by omega)), CPt_role1 a3 hm (fun j h1 h2 => hx _ (by omega)) hr, a4.keep (by rw [k _ (by omega)]) (k _ (by omega)) (k _ (by omega)) (k _ (by omega)) (k _ (by omega)) hd (fun j h1 h2 => hx _ (by omega)), a5.keep (k _ (by omega)) (k _ (by omega)) (fun j h1 => hx _ (by omega)), by rw [k _ (by omega), hx _ (by omega)]; exact a6⟩
theorem rol_alone (s : Row) (p q : Nat) : rol (upd s (31 + p) (-nI 1)) q = if q = p then nI 0 else rol s q := by
  unfold rol
  rw [upd_at]
  by_cases h : q = p
  · subst h; simp
  · rw [if_neg h, if_neg (show ¬ 31 + q = 31 + p by omega)]
theorem nI_div2 : ∀ m, m < 7 → nI m / nI 2 = nI (m / 2) := by decide
theorem nI_mod2 : ∀ m, m < 7 → nI m - nI (m / 2) * nI 2 = nI (m % 2) := by decide
theorem c_lay {n d v a many : Nat} {s F : Row} {r : Int32} (hn : a + many ≤ n) (h6 : n ≤ 6) (hd : d ≤ 5) (hv : v < 2147480000) (hF : RND F a many r) (t : Nat × Nat × Bool) (I : Nat → Nat → Int32) (L : Nat → Nat → Int64) (V : Nat → Option Nat) (h : CS I 1 n d (stg s F v a).2.1 (stg s F v a).1) : ∃ I', eCall mX7_lay [.ref 1, .int (nI a), .int (nI many), .int r] (mM t I L V) = some (.inl (some (.int (nI ((stg s F v (a + many)).2.2 - (stg s F v a).2.2)))), mM t I' L V) ∧ CS I' 1 n d (stg s F v (a + many)).2.1 (stg s F v (a + many)).1 ∧ Fr 1 I I' := by
  have hmm := nI_div2 many (by omega)
  have hm2 := nI_mod2 many (by omega)
  have h20 : (nI 2 = nI 0) = False := by decide
  obtain ⟨r0, hr, I1, e1, e2, e3⟩ := eLoop_i (h := 11) (d := eDen gX7_lay_L11)
    (fun k σ => ∃ i I1, σ = ([.ref 1, .int (nI a), .int (nI many), .int r, .int (nI (many / 2)), .int (nI ((stg s F v (a + 2 * i)).2.2 - (stg s F v a).2.2)), .int (nI i), eJ, eJ], [], mM t I1 L V) ∧ k + i = many / 2 ∧ CS I1 1 n d (stg s F v (a + 2 * i)).2.1 (stg s F v (a + 2 * i)).1 ∧ Fr 1 I I1)
    (fun r' => ∃ I1, r' = some (none, ([.ref 1, .int (nI a), .int (nI many), .int r, .int (nI (many / 2)), .int (nI ((stg s F v (a + 2 * (many / 2))).2.2 - (stg s F v a).2.2)), .int (nI (many / 2)), eJ, eJ], [], mM t I1 L V)) ∧ CS I1 1 n d (stg s F v (a + 2 * (many / 2))).2.1 (stg s F v (a + 2 * (many / 2))).1 ∧ Fr 1 I I1)
    (fun σ ⟨_, z, _⟩ => by cases z) (fun k σ hi => by
      obtain ⟨i, I1, rfl, g1, g2, g3⟩ := hi
      cases k with
      | zero =>
        right
        have gi : i = many / 2 := by omega
        subst gi
        refine ⟨_, rfl, I1, ?_, g2, g3⟩
        simp only [gX7_lay_L11, v_TM, v_seq, v_blk, v_lop, v_fgt, v_fg0, v_fg1, v_b0, v_b1, v_bn, v_bi, v_c0, v_c1, v_c2, v_cn, v_ci, v_st0, v_st1, v_stn, v_iadd, v_isub, v_imul, v_iand, v_ior, v_ixor, v_ishl, v_ishr, v_ladd, v_lsub, v_lmul, v_lor, v_land, v_ineg, v_lneg, v_lcmp, v_lshl, v_i2l, v_l2i, v_i2b, v_i2c, v_i2f, v_i2d, v_idiv, v_irem, v_ldiv, v_lrem, v_iconst, v_bipush, v_sipush, v_lconst0, v_lconst1, v_null, v_fconst0, v_dconst0, v_ldcS, v_dupi, v_dupr, v_pop, v_dup2, vI_i, vL_l, vA_r, vA_n, vInc_i, v_iload_n0, v_iload_n1, v_iload_n2, v_iload_n3, v_iload, v_lload_n0, v_lload_n1, v_lload_n2, v_lload_n3, v_lload, v_dload_n0, v_dload_n1, v_dload_n2, v_dload_n3, v_dload, v_aload_n0, v_aload_n1, v_aload_n2, v_aload_n3, v_aload, v_at0, v_ok0, v_at1, v_ok1, v_at2, v_ok2, v_at3, v_ok3, v_at4, v_ok4, v_at5, v_ok5, v_at6, v_ok6, v_at7, v_ok7, v_at8, v_ok8, v_at9, v_ok9, v_at10, v_ok10, v_at11, v_ok11, v_at12, v_ok12, v_at13, v_ok13, v_at14, v_ok14, v_at15, v_ok15, v_c2i, v_c2l, v_c2r, v_c2n, v_c2j, v_istore_n0, v_astore_n0, v_istore_n1, v_astore_n1, v_istore_n2, v_astore_n2, v_istore_n3, v_astore_n3, v_istore, v_astore, v_lstore_n0, v_lstore_n1, v_lstore_n2, v_lstore_n3, v_lstore, v_iinc, v_if_eq, v_if_ne, v_if_lt, v_if_ge, v_if_gt, v_if_le, v_icmp_eq, v_icmp_ne, v_icmp_lt, v_icmp_ge, v_icmp_gt, v_icmp_le, v_ifnull0, v_ifnull1, v_ifnonnull0, v_ifnonnull1, v_goto, v_ireturn, v_lreturn, v_areturn, v_areturn0, v_return, v_throw, v_throwW, v_table, v_cs0, v_csi, v_csl, v_csr, v_an0, v_an1, v_ani, v_call0, v_call1, v_call2, v_call3, v_call4, v_call5, v_call6, v_call7, v_rI, v_fin, v_finX, v_fini, v_ro0, v_roi, v_rol, v_rob0, v_rob1, v_roo, v_roon, v_kbm99, v_kbm64, v_kbm8, v_kbm5, v_kb6, v_kb7, v_kb8, v_kb9, v_kb10, v_kb12, v_kb14, v_kb19, v_kb20, v_kb24, v_kb25, v_kb30, v_kb31, v_kb32, v_kb37, v_kb40, v_kb41, v_kb45, v_kb48, v_kb50, v_kb57, v_kb59, v_kb60, v_kb63, v_kb64, v_kb97, v_kb99, v_kb112, v_kb114, v_kb122, v_kim8, v_kim1, v_ki0, v_ki1, v_ki2, v_ki3, v_ki4, v_ki5, v_ksm9999, v_ksm256, v_ks128, v_ks199, v_ks200, v_ks255, v_ks256, v_ks400, v_ks457, v_ks1000, v_ks1024, v_ks2742, v_ks9999, v_ks10000, v_ld, v_st, v_ldc2_RX7_142, v_ldc2_RX7_144, v_ldc2_RX7_146, v_ldc2_RX7_148, v_ldc2_RX7_154, v_ldc2_RX7_163, v_ldc2_RX3_81, v_ldc2_RX7_207, v_ldc2_RX7_209, v_ldc2_RX13_190, v_ldc2_RX13_212, v_ldc2_RX13_218, v_ldc2_RX13_220, v_ldc2_RX13_254, v_ldc2_RX13_256, v_ldc2_RX13_287, v_ldc2_RX13_297, v_ldc2_RX13_302, v_ldc2_RX13_323, v_ldc2_RX13_343, v_ldc2_RX13_345, v_ldc2_RX13_351, v_ldc2_RX13_374, v_ldc2_RX13_400, v_ldc2_RX13_402, v_ldc2_RX13_413, v_ldc2_RX13_439, v_ldc2_RX13_461, v_ldc2_RX13_481, v_ldc2_RX13_486, v_ldc2_RX13_488, v_ldc2_RX13_490, v_ldc2_RX13_492, v_ldc2_RX13_494, v_ldc2_RX13_496, v_ldc2_RX13_498, v_ldc2_RX13_500, if_true, if_false, Bool.not_false, Bool.not_true, Nat.reduceEqDiff, Nat.reduceLeDiff, Nat.reduceLT, Nat.reduceAdd, Nat.reduceMul, Nat.reduceSub, and_self, and_true, true_and, and_false, false_and, Bool.false_eq_true, not_true_eq_false, not_false_eq_true, ite_self, v_robb, v_rob0, v_rob1, List.nil_append, G_0_0, G_0_1, G_0_2, G_0_3, P_0_3, G_0_4, G_0_5, P_0_5, G_0_6, P_0_6, G_0_7, G_0_8, G_0_9, G_0_10, G_0_11, G_0_12, G_0_13, G_0_14, P_0_14, R_0, G_1_0, G_1_1, G_1_2, G_1_3, G_1_4, G_1_5, P_1_5, G_1_6, G_1_7, G_1_8, G_1_9, P_1_9, G_1_10, P_1_10, R_1, G_2_0, P_2_0, G_2_1, R_2, S_3, A_3, N_3, G_4_0, P_4_0, G_4_1, R_4, S_5, A_5, N_5, G_6_0, P_6_0, G_6_1, G_6_2, G_6_3, R_6, S_7, A_7, N_7, S_8, A_8, N_8, S_9, A_9, N_9, G_10_0, P_10_0, G_10_1, G_10_2, G_10_3, G_10_4, R_10, S_11, A_11, N_11, S_12, A_12, N_12, S_13, A_13, N_13, S_14, A_14, N_14, G_15_0, P_15_0, G_15_1, P_15_1, G_15_2, R_15, S_16, A_16, N_16, G_17_0, P_17_0, G_17_1, P_17_1, R_17, G_18_0, P_18_0, G_18_1, P_18_1, R_18, S_19, A_19, N_19, G_20_0, G_20_1, G_20_2, G_20_3, G_20_4, G_20_5, P_20_5, G_20_6, G_20_7, G_20_8, G_20_9, P_20_9, G_20_10, P_20_10, R_20, G_21_0, P_21_0, G_21_1, R_21, S_22, A_22, N_22, G_23_0, P_23_0, G_23_1, R_23, S_24, A_24, N_24, G_25_0, P_25_0, G_25_1, G_25_2, G_25_3, R_25, S_26, A_26, N_26, S_27, A_27, N_27, S_28, A_28, N_28, G_29_0, P_29_0, G_29_1, G_29_2, G_29_3, G_29_4, R_29, S_30, A_30, N_30, S_31, A_31, N_31, S_32, A_32, N_32, S_33, A_33, N_33, G_34_0, P_34_0, G_34_1, P_34_1, G_34_2, R_34, S_35, A_35, N_35, G_36_0, P_36_0, G_36_1, P_36_1, R_36, G_37_0, P_37_0, G_37_1, P_37_1, R_37, S_38, A_38, N_38, A_58, N_58, G_59_0, P_59_0, G_59_1, G_59_2, G_59_3, R_59, S_60, A_60, N_60, S_61, A_61, N_61, G_62_0, P_62_0, G_62_1, P_62_1, R_62, G_63_0, P_63_0, G_63_1, P_63_1, R_63, S_64, A_64, N_64, G_65_0, P_65_0, G_65_1, G_65_2, P_65_2, G_65_3, P_65_3, G_65_4, P_65_4, G_65_5, P_65_5, G_65_6, P_65_6, G_65_7, P_65_7, R_65, S_66, A_66, N_66, G_67_0, P_67_0, R_67, G_68_0, P_68_0, G_68_1, P_68_1, G_68_2, P_68_2, G_68_3, G_68_4, G_68_5, G_68_6, G_68_7, R_68, A_69, N_69, S_70, A_70, N_70, S_71, A_71, N_71, S_72, A_72, N_72, S_73, A_73, N_73, S_74, A_74, N_74, show (nI (many / 2) ≤ nI (many / 2)) = True from eq_true (Int32.le_refl _)]
      | succ k =>
        left
        have c1 : (nI (many / 2) ≤ nI i) = False := eq_false (nI_ge (by omega) (by omega))
        have c2 : (nI (many / 2 + 1) = nI 0) = False := eq_false (by rw [nI_eq (by omega) (by omega)]; omega)
        obtain ⟨w1, w2, w3, w4, w5, w6⟩ := hF.1 i (by omega)
        have vb := stg_v s F v (a + 2 * i)
        have vm := stg_m s F v a (2 * i)
        have vm2 := stg_m s F v (a + 2 * i) 2
        have p0 : I1 6 0 = nI n := g2.2.2.1.1
        have j1 := c_joinAt_1 (show a + 2 * i + 1 < n by omega) h6 t I1 L V p0
        have hcs : CS (si (si I1 9 (a + 2 * i) (nI 1)) 9 (a + 2 * i + 1) (nI 2)) 1 n d (stg s F v (a + 2 * i)).2.1 (sJoin (stg s F v (a + 2 * i)).1 (a + 2 * i)) := CS_roles g2 h6 hd (fun j hj => sJoin_o (by omega) (by omega)) (fun q => rol_join (by omega) q)
        obtain ⟨I2, I3, e1, e2, e3, e4, -⟩ := c_pl2_1 (show a + 2 * i + 1 < n by omega) h6 hd (by omega) (F (19 + (a + 2 * i))) (F (25 + (a + 2 * i))) (F (19 + (a + 2 * i + 1))) (F (25 + (a + 2 * i + 1))) t _ L V hcs
        obtain ⟨q1, q2, q3⟩ := stg_2 (s := s) (v := v) (show a + 2 * i + 1 < 6 by omega) w3 w6
        change (stg s F v (a + 2 * i)).2.2 + ((plS _ _ _ _ _).2.2 + (plS _ _ _ _ _).2.2) = _ at q3
        rw [q1, q2] at e3
        rw [w1, w2] at e1 e2
        rw [w4, w5] at e2
        have w7 : nI 2 * r * nI (i + 1) / nI (many / 2 + 1) - r = rdX r (many / 2) i := rfl
        rw [w1, w2, w4, w5] at q3
        refine ⟨k, _, Nat.lt_succ_self k, ?_, i + 1, I3, rfl, by omega, e3, (g3.trans (fun k hk => by rw [si_n (by omega), si_n (by omega)])).trans e4⟩
        simp only [gX7_lay_L11, v_TM, v_seq, v_blk, v_lop, v_fgt, v_fg0, v_fg1, v_b0, v_b1, v_bn, v_bi, v_c0, v_c1, v_c2, v_cn, v_ci, v_st0, v_st1, v_stn, v_iadd, v_isub, v_imul, v_iand, v_ior, v_ixor, v_ishl, v_ishr, v_ladd, v_lsub, v_lmul, v_lor, v_land, v_ineg, v_lneg, v_lcmp, v_lshl, v_i2l, v_l2i, v_i2b, v_i2c, v_i2f, v_i2d, v_idiv, v_irem, v_ldiv, v_lrem, v_iconst, v_bipush, v_sipush, v_lconst0, v_lconst1, v_null, v_fconst0, v_dconst0, v_ldcS, v_dupi, v_dupr, v_pop, v_dup2, vI_i, vL_l, vA_r, vA_n, vInc_i, v_iload_n0, v_iload_n1, v_iload_n2, v_iload_n3, v_iload, v_lload_n0, v_lload_n1, v_lload_n2, v_lload_n3, v_lload, v_dload_n0, v_dload_n1, v_dload_n2, v_dload_n3, v_dload, v_aload_n0, v_aload_n1, v_aload_n2, v_aload_n3, v_aload, v_at0, v_ok0, v_at1, v_ok1, v_at2, v_ok2, v_at3, v_ok3, v_at4, v_ok4, v_at5, v_ok5, v_at6, v_ok6, v_at7, v_ok7, v_at8, v_ok8, v_at9, v_ok9, v_at10, v_ok10, v_at11, v_ok11, v_at12, v_ok12, v_at13, v_ok13, v_at14, v_ok14, v_at15, v_ok15, v_c2i, v_c2l, v_c2r, v_c2n, v_c2j, v_istore_n0, v_astore_n0, v_istore_n1, v_astore_n1, v_istore_n2, v_astore_n2, v_istore_n3, v_astore_n3, v_istore, v_astore, v_lstore_n0, v_lstore_n1, v_lstore_n2, v_lstore_n3, v_lstore, v_iinc, v_if_eq, v_if_ne, v_if_lt, v_if_ge, v_if_gt, v_if_le, v_icmp_eq, v_icmp_ne, v_icmp_lt, v_icmp_ge, v_icmp_gt, v_icmp_le, v_ifnull0, v_ifnull1, v_ifnonnull0, v_ifnonnull1, v_goto, v_ireturn, v_lreturn, v_areturn, v_areturn0, v_return, v_throw, v_throwW, v_table, v_cs0, v_csi, v_csl, v_csr, v_an0, v_an1, v_ani, v_call0, v_call1, v_call2, v_call3, v_call4, v_call5, v_call6, v_call7, v_rI, v_fin, v_finX, v_fini, v_ro0, v_roi, v_rol, v_rob0, v_rob1, v_roo, v_roon, v_kbm99, v_kbm64, v_kbm8, v_kbm5, v_kb6, v_kb7, v_kb8, v_kb9, v_kb10, v_kb12, v_kb14, v_kb19, v_kb20, v_kb24, v_kb25, v_kb30, v_kb31, v_kb32, v_kb37, v_kb40, v_kb41, v_kb45, v_kb48, v_kb50, v_kb57, v_kb59, v_kb60, v_kb63, v_kb64, v_kb97, v_kb99, v_kb112, v_kb114, v_kb122, v_kim8, v_kim1, v_ki0, v_ki1, v_ki2, v_ki3, v_ki4, v_ki5, v_ksm9999, v_ksm256, v_ks128, v_ks199, v_ks200, v_ks255, v_ks256, v_ks400, v_ks457, v_ks1000, v_ks1024, v_ks2742, v_ks9999, v_ks10000, v_ld, v_st, v_ldc2_RX7_142, v_ldc2_RX7_144, v_ldc2_RX7_146, v_ldc2_RX7_148, v_ldc2_RX7_154, v_ldc2_RX7_163, v_ldc2_RX3_81, v_ldc2_RX7_207, v_ldc2_RX7_209, v_ldc2_RX13_190, v_ldc2_RX13_212, v_ldc2_RX13_218, v_ldc2_RX13_220, v_ldc2_RX13_254, v_ldc2_RX13_256, v_ldc2_RX13_287, v_ldc2_RX13_297, v_ldc2_RX13_302, v_ldc2_RX13_323, v_ldc2_RX13_343, v_ldc2_RX13_345, v_ldc2_RX13_351, v_ldc2_RX13_374, v_ldc2_RX13_400, v_ldc2_RX13_402, v_ldc2_RX13_413, v_ldc2_RX13_439, v_ldc2_RX13_461, v_ldc2_RX13_481, v_ldc2_RX13_486, v_ldc2_RX13_488, v_ldc2_RX13_490, v_ldc2_RX13_492, v_ldc2_RX13_494, v_ldc2_RX13_496, v_ldc2_RX13_498, v_ldc2_RX13_500, if_true, if_false, Bool.not_false, Bool.not_true, Nat.reduceEqDiff, Nat.reduceLeDiff, Nat.reduceLT, Nat.reduceAdd, Nat.reduceMul, Nat.reduceSub, and_self, and_true, true_and, and_false, false_and, Bool.false_eq_true, not_true_eq_false, not_false_eq_true, ite_self, v_robb, v_rob0, v_rob1, List.nil_append, G_0_0, G_0_1, G_0_2, G_0_3, P_0_3, G_0_4, G_0_5, P_0_5, G_0_6, P_0_6, G_0_7, G_0_8, G_0_9, G_0_10, G_0_11, G_0_12, G_0_13, G_0_14, P_0_14, R_0, G_1_0, G_1_1, G_1_2, G_1_3, G_1_4, G_1_5, P_1_5, G_1_6, G_1_7, G_1_8, G_1_9, P_1_9, G_1_10, P_1_10, R_1, G_2_0, P_2_0, G_2_1, R_2, S_3, A_3, N_3, G_4_0, P_4_0, G_4_1, R_4, S_5, A_5, N_5, G_6_0, P_6_0, G_6_1, G_6_2, G_6_3, R_6, S_7, A_7, N_7, S_8, A_8, N_8, S_9, A_9, N_9, G_10_0, P_10_0, G_10_1, G_10_2, G_10_3, G_10_4, R_10, S_11, A_11, N_11, S_12, A_12, N_12, S_13, A_13, N_13, S_14, A_14, N_14, G_15_0, P_15_0, G_15_1, P_15_1, G_15_2, R_15, S_16, A_16, N_16, G_17_0, P_17_0, G_17_1, P_17_1, R_17, G_18_0, P_18_0, G_18_1, P_18_1, R_18, S_19, A_19, N_19, G_20_0, G_20_1, G_20_2, G_20_3, G_20_4, G_20_5, P_20_5, G_20_6, G_20_7, G_20_8, G_20_9, P_20_9, G_20_10, P_20_10, R_20, G_21_0, P_21_0, G_21_1, R_21, S_22, A_22, N_22, G_23_0, P_23_0, G_23_1, R_23, S_24, A_24, N_24, G_25_0, P_25_0, G_25_1, G_25_2, G_25_3, R_25, S_26, A_26, N_26, S_27, A_27, N_27, S_28, A_28, N_28, G_29_0, P_29_0, G_29_1, G_29_2, G_29_3, G_29_4, R_29, S_30, A_30, N_30, S_31, A_31, N_31, S_32, A_32, N_32, S_33, A_33, N_33, G_34_0, P_34_0, G_34_1, P_34_1, G_34_2, R_34, S_35, A_35, N_35, G_36_0, P_36_0, G_36_1, P_36_1, R_36, G_37_0, P_37_0, G_37_1, P_37_1, R_37, S_38, A_38, N_38, A_58, N_58, G_59_0, P_59_0, G_59_1, G_59_2, G_59_3, R_59, S_60, A_60, N_60, S_61, A_61, N_61, G_62_0, P_62_0, G_62_1, P_62_1, R_62, G_63_0, P_63_0, G_63_1, P_63_1, R_63, S_64, A_64, N_64, G_65_0, P_65_0, G_65_1, G_65_2, P_65_2, G_65_3, P_65_3, G_65_4, P_65_4, G_65_5, P_65_5, G_65_6, P_65_6, G_65_7, P_65_7, R_65, S_66, A_66, N_66, G_67_0, P_67_0, R_67, G_68_0, P_68_0, G_68_1, P_68_1, G_68_2, P_68_2, G_68_3, G_68_4, G_68_5, G_68_6, G_68_7, R_68, A_69, N_69, S_70, A_70, N_70, S_71, A_71, N_71, S_72, A_72, N_72, S_73, A_73, N_73, S_74, A_74, N_74, c1, pk_mul, nI_add, c2, w7, j1, e1, e2]
        rw [show (stg s F v (a + 2 * (i + 1))).2.2 - (stg s F v a).2.2 = (stg s F v (a + 2 * i)).2.2 - (stg s F v a).2.2 + ((plS (sJoin (stg s F v (a + 2 * i)).1 (a + 2 * i)) (stg s F v (a + 2 * i)).2.1 (a + 2 * i) (rdX r (many / 2) i) r).2.2 + (plS (plS (sJoin (stg s F v (a + 2 * i)).1 (a + 2 * i)) (stg s F v (a + 2 * i)).2.1 (a + 2 * i) (rdX r (many / 2) i) r).1 (plS (sJoin (stg s F v (a + 2 * i)).1 (a + 2 * i)) (stg s F v (a + 2 * i)).2.1 (a + 2 * i) (rdX r (many / 2) i) r).2.1 (a + 2 * i + 1) (rdX r (many / 2) i) (-r)).2.2) from by
          show (stg s F v (a + 2 * i + 2)).2.2 - _ = _
          omega])
    (many / 2) ([.ref 1, .int (nI a), .int (nI many), .int r, .int (nI (many / 2)), .int (nI 0), .int (nI 0), eJ, eJ], [], (mM t I L V))
    ⟨0, I, by rw [Nat.mul_zero, Nat.add_zero, Nat.sub_self], by omega, h, Fr.rf _ _⟩ (by omega)
  subst e1
  by_cases ho : many % 2 = 1
  · have ea : a + 2 * (many / 2) = a + many - 1 := by omega
    rw [ea] at hr e2
    obtain ⟨w1, w2, w3⟩ := hF.2 ho
    have vb := stg_v s F v (a + many - 1)
    have vm := stg_m s F v a (many - 1)
    rw [show a + (many - 1) = a + many - 1 by omega] at vm
    have p0 : I1 6 0 = nI n := e2.2.2.1.1
    have b1 := c_setRole_1 (show a + many - 1 < n by omega) h6 (nI 0) t I1 L V p0
    have hcs : CS (si I1 9 (a + many - 1) (nI 0)) 1 n d (stg s F v (a + many - 1)).2.1 (upd (stg s F v (a + many - 1)).1 (31 + (a + many - 1)) (-nI 1)) := CS_role1 e2 h6 hd (fun j hj => pk_un (by omega)) (fun q => rol_alone _ _ q)
    obtain ⟨I2, f1, f2, f3, -⟩ := c_place_1 (show a + many - 1 < n by omega) h6 hd (by omega) (-r) (nI 0) t _ L V hcs
    have hs : stg s F v (a + many) = stg s F v (a + many - 1 + 1) := by congr 1; omega
    have hp : pv1 F (a + many - 1) (stg s F v (a + many - 1)) = plS (upd (stg s F v (a + many - 1)).1 (31 + (a + many - 1)) (-nI 1)) (stg s F v (a + many - 1)).2.1 (a + many - 1) (-r) (nI 0) := by
      unfold pv1
      rw [w1, w2, w3]
    have e1' : nI (a + many) - nI 1 = nI (a + many - 1) := pk_sub (by omega)
    rw [← hp] at f1 f2
    have hcc : (stg s F v (a + many)).2.2 - (stg s F v a).2.2 = (stg s F v (a + many - 1)).2.2 - (stg s F v a).2.2 + (pv1 F (a + many - 1) (stg s F v (a + many - 1))).2.2 := by
      rw [hs]
      show (stg s F v (a + many - 1)).2.2 + _ - _ = _
      omega
    rw [hcc]
    refine ⟨I2, ?_, by rw [hs]; exact f2, (e3.trans (fun k hk => by rw [si_n (by omega)])).trans f3⟩
    rw [ho] at hm2
    simp only [kX7_lay, gX7_lay, v_TM, v_seq, v_blk, v_lop, v_fgt, v_fg0, v_fg1, v_b0, v_b1, v_bn, v_bi, v_c0, v_c1, v_c2, v_cn, v_ci, v_st0, v_st1, v_stn, v_iadd, v_isub, v_imul, v_iand, v_ior, v_ixor, v_ishl, v_ishr, v_ladd, v_lsub, v_lmul, v_lor, v_land, v_ineg, v_lneg, v_lcmp, v_lshl, v_i2l, v_l2i, v_i2b, v_i2c, v_i2f, v_i2d, v_idiv, v_irem, v_ldiv, v_lrem, v_iconst, v_bipush, v_sipush, v_lconst0, v_lconst1, v_null, v_fconst0, v_dconst0, v_ldcS, v_dupi, v_dupr, v_pop, v_dup2, vI_i, vL_l, vA_r, vA_n, vInc_i, v_iload_n0, v_iload_n1, v_iload_n2, v_iload_n3, v_iload, v_lload_n0, v_lload_n1, v_lload_n2, v_lload_n3, v_lload, v_dload_n0, v_dload_n1, v_dload_n2, v_dload_n3, v_dload, v_aload_n0, v_aload_n1, v_aload_n2, v_aload_n3, v_aload, v_at0, v_ok0, v_at1, v_ok1, v_at2, v_ok2, v_at3, v_ok3, v_at4, v_ok4, v_at5, v_ok5, v_at6, v_ok6, v_at7, v_ok7, v_at8, v_ok8, v_at9, v_ok9, v_at10, v_ok10, v_at11, v_ok11, v_at12, v_ok12, v_at13, v_ok13, v_at14, v_ok14, v_at15, v_ok15, v_c2i, v_c2l, v_c2r, v_c2n, v_c2j, v_istore_n0, v_astore_n0, v_istore_n1, v_astore_n1, v_istore_n2, v_astore_n2, v_istore_n3, v_astore_n3, v_istore, v_astore, v_lstore_n0, v_lstore_n1, v_lstore_n2, v_lstore_n3, v_lstore, v_iinc, v_if_eq, v_if_ne, v_if_lt, v_if_ge, v_if_gt, v_if_le, v_icmp_eq, v_icmp_ne, v_icmp_lt, v_icmp_ge, v_icmp_gt, v_icmp_le, v_ifnull0, v_ifnull1, v_ifnonnull0, v_ifnonnull1, v_goto, v_ireturn, v_lreturn, v_areturn, v_areturn0, v_return, v_throw, v_throwW, v_table, v_cs0, v_csi, v_csl, v_csr, v_an0, v_an1, v_ani, v_call0, v_call1, v_call2, v_call3, v_call4, v_call5, v_call6, v_call7, v_rI, v_fin, v_finX, v_fini, v_ro0, v_roi, v_rol, v_rob0, v_rob1, v_roo, v_roon, v_kbm99, v_kbm64, v_kbm8, v_kbm5, v_kb6, v_kb7, v_kb8, v_kb9, v_kb10, v_kb12, v_kb14, v_kb19, v_kb20, v_kb24, v_kb25, v_kb30, v_kb31, v_kb32, v_kb37, v_kb40, v_kb41, v_kb45, v_kb48, v_kb50, v_kb57, v_kb59, v_kb60, v_kb63, v_kb64, v_kb97, v_kb99, v_kb112, v_kb114, v_kb122, v_kim8, v_kim1, v_ki0, v_ki1, v_ki2, v_ki3, v_ki4, v_ki5, v_ksm9999, v_ksm256, v_ks128, v_ks199, v_ks200, v_ks255, v_ks256, v_ks400, v_ks457, v_ks1000, v_ks1024, v_ks2742, v_ks9999, v_ks10000, v_ld, v_st, v_ldc2_RX7_142, v_ldc2_RX7_144, v_ldc2_RX7_146, v_ldc2_RX7_148, v_ldc2_RX7_154, v_ldc2_RX7_163, v_ldc2_RX3_81, v_ldc2_RX7_207, v_ldc2_RX7_209, v_ldc2_RX13_190, v_ldc2_RX13_212, v_ldc2_RX13_218, v_ldc2_RX13_220, v_ldc2_RX13_254, v_ldc2_RX13_256, v_ldc2_RX13_287, v_ldc2_RX13_297, v_ldc2_RX13_302, v_ldc2_RX13_323, v_ldc2_RX13_343, v_ldc2_RX13_345, v_ldc2_RX13_351, v_ldc2_RX13_374, v_ldc2_RX13_400, v_ldc2_RX13_402, v_ldc2_RX13_413, v_ldc2_RX13_439, v_ldc2_RX13_461, v_ldc2_RX13_481, v_ldc2_RX13_486, v_ldc2_RX13_488, v_ldc2_RX13_490, v_ldc2_RX13_492, v_ldc2_RX13_494, v_ldc2_RX13_496, v_ldc2_RX13_498, v_ldc2_RX13_500, if_true, if_false, Bool.not_false, Bool.not_true, Nat.reduceEqDiff, Nat.reduceLeDiff, Nat.reduceLT, Nat.reduceAdd, Nat.reduceMul, Nat.reduceSub, and_self, and_true, true_and, and_false, false_and, Bool.false_eq_true, not_true_eq_false, not_false_eq_true, ite_self, v_robb, v_rob0, v_rob1, List.nil_append, G_0_0, G_0_1, G_0_2, G_0_3, P_0_3, G_0_4, G_0_5, P_0_5, G_0_6, P_0_6, G_0_7, G_0_8, G_0_9, G_0_10, G_0_11, G_0_12, G_0_13, G_0_14, P_0_14, R_0, G_1_0, G_1_1, G_1_2, G_1_3, G_1_4, G_1_5, P_1_5, G_1_6, G_1_7, G_1_8, G_1_9, P_1_9, G_1_10, P_1_10, R_1, G_2_0, P_2_0, G_2_1, R_2, S_3, A_3, N_3, G_4_0, P_4_0, G_4_1, R_4, S_5, A_5, N_5, G_6_0, P_6_0, G_6_1, G_6_2, G_6_3, R_6, S_7, A_7, N_7, S_8, A_8, N_8, S_9, A_9, N_9, G_10_0, P_10_0, G_10_1, G_10_2, G_10_3, G_10_4, R_10, S_11, A_11, N_11, S_12, A_12, N_12, S_13, A_13, N_13, S_14, A_14, N_14, G_15_0, P_15_0, G_15_1, P_15_1, G_15_2, R_15, S_16, A_16, N_16, G_17_0, P_17_0, G_17_1, P_17_1, R_17, G_18_0, P_18_0, G_18_1, P_18_1, R_18, S_19, A_19, N_19, G_20_0, G_20_1, G_20_2, G_20_3, G_20_4, G_20_5, P_20_5, G_20_6, G_20_7, G_20_8, G_20_9, P_20_9, G_20_10, P_20_10, R_20, G_21_0, P_21_0, G_21_1, R_21, S_22, A_22, N_22, G_23_0, P_23_0, G_23_1, R_23, S_24, A_24, N_24, G_25_0, P_25_0, G_25_1, G_25_2, G_25_3, R_25, S_26, A_26, N_26, S_27, A_27, N_27, S_28, A_28, N_28, G_29_0, P_29_0, G_29_1, G_29_2, G_29_3, G_29_4, R_29, S_30, A_30, N_30, S_31, A_31, N_31, S_32, A_32, N_32, S_33, A_33, N_33, G_34_0, P_34_0, G_34_1, P_34_1, G_34_2, R_34, S_35, A_35, N_35, G_36_0, P_36_0, G_36_1, P_36_1, R_36, G_37_0, P_37_0, G_37_1, P_37_1, R_37, S_38, A_38, N_38, A_58, N_58, G_59_0, P_59_0, G_59_1, G_59_2, G_59_3, R_59, S_60, A_60, N_60, S_61, A_61, N_61, G_62_0, P_62_0, G_62_1, P_62_1, R_62, G_63_0, P_63_0, G_63_1, P_63_1, R_63, S_64, A_64, N_64, G_65_0, P_65_0, G_65_1, G_65_2, P_65_2, G_65_3, P_65_3, G_65_4, P_65_4, G_65_5, P_65_5, G_65_6, P_65_6, G_65_7, P_65_7, R_65, S_66, A_66, N_66, G_67_0, P_67_0, R_67, G_68_0, P_68_0, G_68_1, P_68_1, G_68_2, P_68_2, G_68_3, G_68_4, G_68_5, G_68_6, G_68_7, R_68, A_69, N_69, S_70, A_70, N_70, S_71, A_71, N_71, S_72, A_72, N_72, S_73, A_73, N_73, S_74, A_74, N_74, h20, hmm, hr, hm2, nI_add, e1', b1, f1]
  · have ea : a + 2 * (many / 2) = a + many := by omega
    rw [ea] at hr e2
    refine ⟨I1, ?_, e2, e3⟩
    have h1 : many % 2 = 0 := by omega
    rw [h1] at hm2
    simp only [kX7_lay, gX7_lay, v_TM, v_seq, v_blk, v_lop, v_fgt, v_fg0, v_fg1, v_b0, v_b1, v_bn, v_bi, v_c0, v_c1, v_c2, v_cn, v_ci, v_st0, v_st1, v_stn, v_iadd, v_isub, v_imul, v_iand, v_ior, v_ixor, v_ishl, v_ishr, v_ladd, v_lsub, v_lmul, v_lor, v_land, v_ineg, v_lneg, v_lcmp, v_lshl, v_i2l, v_l2i, v_i2b, v_i2c, v_i2f, v_i2d, v_idiv, v_irem, v_ldiv, v_lrem, v_iconst, v_bipush, v_sipush, v_lconst0, v_lconst1, v_null, v_fconst0, v_dconst0, v_ldcS, v_dupi, v_dupr, v_pop, v_dup2, vI_i, vL_l, vA_r, vA_n, vInc_i, v_iload_n0, v_iload_n1, v_iload_n2, v_iload_n3, v_iload, v_lload_n0, v_lload_n1, v_lload_n2, v_lload_n3, v_lload, v_dload_n0, v_dload_n1, v_dload_n2, v_dload_n3, v_dload, v_aload_n0, v_aload_n1, v_aload_n2, v_aload_n3, v_aload, v_at0, v_ok0, v_at1, v_ok1, v_at2, v_ok2, v_at3, v_ok3, v_at4, v_ok4, v_at5, v_ok5, v_at6, v_ok6, v_at7, v_ok7, v_at8, v_ok8, v_at9, v_ok9, v_at10, v_ok10, v_at11, v_ok11, v_at12, v_ok12, v_at13, v_ok13, v_at14, v_ok14, v_at15, v_ok15, v_c2i, v_c2l, v_c2r, v_c2n, v_c2j, v_istore_n0, v_astore_n0, v_istore_n1, v_astore_n1, v_istore_n2, v_astore_n2, v_istore_n3, v_astore_n3, v_istore, v_astore, v_lstore_n0, v_lstore_n1, v_lstore_n2, v_lstore_n3, v_lstore, v_iinc, v_if_eq, v_if_ne, v_if_lt, v_if_ge, v_if_gt, v_if_le, v_icmp_eq, v_icmp_ne, v_icmp_lt, v_icmp_ge, v_icmp_gt, v_icmp_le, v_ifnull0, v_ifnull1, v_ifnonnull0, v_ifnonnull1, v_goto, v_ireturn, v_lreturn, v_areturn, v_areturn0, v_return, v_throw, v_throwW, v_table, v_cs0, v_csi, v_csl, v_csr, v_an0, v_an1, v_ani, v_call0, v_call1, v_call2, v_call3, v_call4, v_call5, v_call6, v_call7, v_rI, v_fin, v_finX, v_fini, v_ro0, v_roi, v_rol, v_rob0, v_rob1, v_roo, v_roon, v_kbm99, v_kbm64, v_kbm8, v_kbm5, v_kb6, v_kb7, v_kb8, v_kb9, v_kb10, v_kb12, v_kb14, v_kb19, v_kb20, v_kb24, v_kb25, v_kb30, v_kb31, v_kb32, v_kb37, v_kb40, v_kb41, v_kb45, v_kb48, v_kb50, v_kb57, v_kb59, v_kb60, v_kb63, v_kb64, v_kb97, v_kb99, v_kb112, v_kb114, v_kb122, v_kim8, v_kim1, v_ki0, v_ki1, v_ki2, v_ki3, v_ki4, v_ki5, v_ksm9999, v_ksm256, v_ks128, v_ks199, v_ks200, v_ks255, v_ks256, v_ks400, v_ks457, v_ks1000, v_ks1024, v_ks2742, v_ks9999, v_ks10000, v_ld, v_st, v_ldc2_RX7_142, v_ldc2_RX7_144, v_ldc2_RX7_146, v_ldc2_RX7_148, v_ldc2_RX7_154, v_ldc2_RX7_163, v_ldc2_RX3_81, v_ldc2_RX7_207, v_ldc2_RX7_209, v_ldc2_RX13_190, v_ldc2_RX13_212, v_ldc2_RX13_218, v_ldc2_RX13_220, v_ldc2_RX13_254, v_ldc2_RX13_256, v_ldc2_RX13_287, v_ldc2_RX13_297, v_ldc2_RX13_302, v_ldc2_RX13_323, v_ldc2_RX13_343, v_ldc2_RX13_345, v_ldc2_RX13_351, v_ldc2_RX13_374, v_ldc2_RX13_400, v_ldc2_RX13_402, v_ldc2_RX13_413, v_ldc2_RX13_439, v_ldc2_RX13_461, v_ldc2_RX13_481, v_ldc2_RX13_486, v_ldc2_RX13_488, v_ldc2_RX13_490, v_ldc2_RX13_492, v_ldc2_RX13_494, v_ldc2_RX13_496, v_ldc2_RX13_498, v_ldc2_RX13_500, if_true, if_false, Bool.not_false, Bool.not_true, Nat.reduceEqDiff, Nat.reduceLeDiff, Nat.reduceLT, Nat.reduceAdd, Nat.reduceMul, Nat.reduceSub, and_self, and_true, true_and, and_false, false_and, Bool.false_eq_true, not_true_eq_false, not_false_eq_true, ite_self, v_robb, v_rob0, v_rob1, List.nil_append, G_0_0, G_0_1, G_0_2, G_0_3, P_0_3, G_0_4, G_0_5, P_0_5, G_0_6, P_0_6, G_0_7, G_0_8, G_0_9, G_0_10, G_0_11, G_0_12, G_0_13, G_0_14, P_0_14, R_0, G_1_0, G_1_1, G_1_2, G_1_3, G_1_4, G_1_5, P_1_5, G_1_6, G_1_7, G_1_8, G_1_9, P_1_9, G_1_10, P_1_10, R_1, G_2_0, P_2_0, G_2_1, R_2, S_3, A_3, N_3, G_4_0, P_4_0, G_4_1, R_4, S_5, A_5, N_5, G_6_0, P_6_0, G_6_1, G_6_2, G_6_3, R_6, S_7, A_7, N_7, S_8, A_8, N_8, S_9, A_9, N_9, G_10_0, P_10_0, G_10_1, G_10_2, G_10_3, G_10_4, R_10, S_11, A_11, N_11, S_12, A_12, N_12, S_13, A_13, N_13, S_14, A_14, N_14, G_15_0, P_15_0, G_15_1, P_15_1, G_15_2, R_15, S_16, A_16, N_16, G_17_0, P_17_0, G_17_1, P_17_1, R_17, G_18_0, P_18_0, G_18_1, P_18_1, R_18, S_19, A_19, N_19, G_20_0, G_20_1, G_20_2, G_20_3, G_20_4, G_20_5, P_20_5, G_20_6, G_20_7, G_20_8, G_20_9, P_20_9, G_20_10, P_20_10, R_20, G_21_0, P_21_0, G_21_1, R_21, S_22, A_22, N_22, G_23_0, P_23_0, G_23_1, R_23, S_24, A_24, N_24, G_25_0, P_25_0, G_25_1, G_25_2, G_25_3, R_25, S_26, A_26, N_26, S_27, A_27, N_27, S_28, A_28, N_28, G_29_0, P_29_0, G_29_1, G_29_2, G_29_3, G_29_4, R_29, S_30, A_30, N_30, S_31, A_31, N_31, S_32, A_32, N_32, S_33, A_33, N_33, G_34_0, P_34_0, G_34_1, P_34_1, G_34_2, R_34, S_35, A_35, N_35, G_36_0, P_36_0, G_36_1, P_36_1, R_36, G_37_0, P_37_0, G_37_1, P_37_1, R_37, S_38, A_38, N_38, A_58, N_58, G_59_0, P_59_0, G_59_1, G_59_2, G_59_3, R_59, S_60, A_60, N_60, S_61, A_61, N_61, G_62_0, P_62_0, G_62_1, P_62_1, R_62, G_63_0, P_63_0, G_63_1, P_63_1, R_63, S_64, A_64, N_64, G_65_0, P_65_0, G_65_1, G_65_2, P_65_2, G_65_3, P_65_3, G_65_4, P_65_4, G_65_5, P_65_5, G_65_6, P_65_6, G_65_7, P_65_7, R_65, S_66, A_66, N_66, G_67_0, P_67_0, R_67, G_68_0, P_68_0, G_68_1, P_68_1, G_68_2, P_68_2, G_68_3, G_68_4, G_68_5, G_68_6, G_68_7, R_68, A_69, N_69, S_70, A_70, N_70, S_71, A_71, N_71, S_72, A_72, N_72, S_73, A_73, N_73, S_74, A_74, N_74, h20, hmm, hr, hm2, show (nI 0 = nI 1) = False by decide]
