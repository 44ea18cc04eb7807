/-! ===== dividing: both sides ===== -/
theorem wy0 {s : Row} {n : Nat} {a b : Int32} (h : wyS s n a b = 0) : fdN b < n ∧ (∃ p, nrF s a b n = some p) ∧ isD s n a b (n - fdN b + 1) = true := by
  unfold wyS at h
  by_cases h1 : n ≤ fdN b
  · rw [if_pos h1] at h; exact absurd h (by decide)
  · rw [if_neg h1] at h
    by_cases h2 : nrF s a b n = none
    · rw [if_pos h2] at h; exact absurd h (by decide)
    · rw [if_neg h2] at h
      by_cases h3 : isD s n a b (n - fdN b + 1) = true
      · refine ⟨by omega, ?_, h3⟩
        cases hq : nrF s a b n with
        | none => exact absurd hq h2
        | some p => exact ⟨p, rfl⟩
      · rw [if_neg h3] at h; exact absurd h (by decide)
abbrev r1I (s : Row) (n : Nat) (a b : Int32) : Int32 := (r1S s n a b).toInt32
abbrev r0I (s : Row) (n : Nat) (a b : Int32) : Int32 := (QS s n a b 0).toInt32
def dv1 (s : Row) (n d : Nat) (a b : Int32) : Row := upd (upd (upd (upd (upd s (37 + 4 * d) a) (37 + 4 * d + 1) b) (37 + 4 * d + 2) (r1I s n a b)) (37 + 4 * d + 3) (r0I s n a b)) 3 (nI (d + 1))
def dv2 (s : Row) (n d : Nat) (a b : Int32) (i : Nat) : Row := fun j => if 5 ≤ j ∧ j < 5 + i then qtS s n a b (j - 5) else dv1 s n d a b j
def dvS (s : Row) (n d : Nat) (a b : Int32) (p : Nat) : Row := if b = nI 0 then gaS (dv2 s n d a b 7) n p else gaS (gaS (sPart (dv2 s n d a b 7) p) n (p + 1)) (n - 1) p
theorem dv1_at (s : Row) (n d : Nat) (a b : Int32) (j : Nat) : dv1 s n d a b j = if j = 3 then nI (d + 1) else if j = 37 + 4 * d + 3 then r0I s n a b else if j = 37 + 4 * d + 2 then r1I s n a b else if j = 37 + 4 * d + 1 then b else if j = 37 + 4 * d then a else s j := rfl
theorem dv2_o {s : Row} {n d : Nat} {a b : Int32} {i j : Nat} (hd : d < 5) (h : j < 3 ∨ j = 4 ∨ (12 ≤ j ∧ j < 37) ∨ 57 ≤ j) (hi : i ≤ 7) : dv2 s n d a b i j = s j := by
  unfold dv2
  rw [if_neg (by omega), dv1_at, if_neg (by omega), if_neg (by omega), if_neg (by omega), if_neg (by omega), if_neg (by omega)]
theorem dv2_s (s : Row) (n d : Nat) (a b : Int32) (i : Nat) : upd (dv2 s n d a b i) (5 + i) (qtS s n a b i) = dv2 s n d a b (i + 1) := by
  funext j
  rw [upd_at]
  unfold dv2
  by_cases h : j = 5 + i
  · subst h
    rw [if_pos rfl, if_pos (by omega), Nat.add_sub_cancel_left]
  · rw [if_neg h]
    by_cases h2 : 5 ≤ j ∧ j < 5 + i
    · rw [if_pos h2, if_pos (by omega)]
    · rw [if_neg h2, if_neg (by omega)]
abbrev rq (p fd q : Nat) : Nat := if q < p then q else q + fd
theorem PR_congr {s s' : Row} {n : Nat} (hn : n ≤ 6) (h : PR n s) (hk : ∀ j, 19 ≤ j → j < 37 → s' j = s j) : PR n s' := by
  intro p hp
  rcases h p hp with z | z | z
  · exact Or.inl (by rw [hk _ (by omega) (by omega)]; exact z)
  · exact Or.inr (Or.inl (by rw [hk _ (by omega) (by omega), hk _ (by omega) (by omega), hk _ (by omega) (by omega)]; exact z))
  · exact Or.inr (Or.inr (by rw [hk _ (by omega) (by omega), hk _ (by omega) (by omega)]; exact z))
theorem rol_congr {s s' : Row} {p : Nat} (h : s' (31 + p) = s (31 + p)) : rol s' p = rol s p := by unfold rol; rw [h]
/-- what the row is then -/
theorem dvS_pts {n f d v p : Nat} {s : Row} {a b : Int32} (hI : Iv n f d v s) (hd : d < 5) (hp : nrF s a b n = some p) (hfn : fdN b < n) : p + fdN b ≤ n ∧ PR (n - fdN b) (dvS s n d a b p) ∧ (∀ q, q < n - fdN b → rol (dvS s n d a b p) q = rol s (rq p (fdN b) q) ∧ dvS s n d a b p (19 + q) = s (19 + rq p (fdN b) q) ∧ dvS s n d a b p (25 + q) = s (25 + rq p (fdN b) q)) ∧ (∀ q, n - fdN b ≤ q → q < 6 → dvS s n d a b p (31 + q) = -nI 1) ∧ dvS s n d a b p 0 = nI (n - fdN b) ∧ ∀ j, (0 < j ∧ j < 19) ∨ 37 ≤ j → dvS s n d a b p j = dv2 s n d a b 7 j := by
  obtain ⟨⟨i1, i2, hn⟩, -, -, -, hPR, -, -, -, pt⟩ := id hI
  obtain ⟨hpn, hw⟩ := nrs_rng _ _ _ _ hp
  have ho : ∀ j, 19 ≤ j → j < 37 → dv2 s n d a b 7 j = s j := fun j h1 h2 => dv2_o hd (by omega) (by omega)
  unfold dvS
  by_cases hb : b = nI 0
  · rw [if_pos hb]
    have ef : fdN b = 1 := if_pos hb
    have hw : rol s p = nI 0 := hw.trans (if_pos hb)
    have hal : s (31 + p) = -nI 1 := by
      rcases PR_role hPR hn hpn with z | z | z
      · exact z.2
      · rw [z.1] at hw; exact absurd hw (by decide)
      · rw [z.1] at hw; exact absurd hw (by decide)
    have h2 := gaS_PR hn hpn (PR_congr hn hPR ho) (by rw [ho _ (by omega) (by omega)]; exact hal)
    rw [ef]
    refine ⟨by omega, h2.1, fun q hq => ⟨?_, ?_, ?_⟩, fun q h1 h3 => ?_, gaS_0, fun j hj => gaS_o hn i2 hpn hj⟩
    · rw [h2.2 q hq]
      exact rol_congr (ho _ (by omega) (by unfold gq; split <;> omega))
    · rw [gaS_x hn hpn hq, ho _ (by omega) (by unfold gq; split <;> omega)]
    · rw [gaS_y hn hpn hq, ho _ (by omega) (by unfold gq; split <;> omega)]
    · by_cases hq : q = n - 1
      · subst hq; exact gaS_pn i2
      · rw [gaS_ph hn hpn (by omega) h3, ho _ (by omega) (by omega)]
        exact pt q (by omega) h3
  · rw [if_neg hb]
    have ef : fdN b = 2 := if_neg hb
    have hw : rol s p = nI 1 := hw.trans (if_neg hb)
    have hr := rol_cases hPR hn hpn hw
    have hIp := hI.part hpn hw
    have hPs : ∀ j, 19 ≤ j → j < 37 → sPart (dv2 s n d a b 7) p j = sPart s p j := fun j h1 h2 => by
      unfold sPart
      rw [upd_at, upd_at, upd_at, upd_at, ho j h1 h2]
    have P1 := PR_congr hn hIp.2.2.2.2.1 hPs
    have al1 : sPart (dv2 s n d a b 7) p (31 + (p + 1)) = -nI 1 := by rw [sPart_at, if_neg (by omega), if_pos rfl]
    have h1 := gaS_PR hn hr.1 P1 al1
    have al2 : gaS (sPart (dv2 s n d a b 7) p) n (p + 1) (31 + p) = -nI 1 := by
      rw [gaS_p hn hr.1 (by omega), show gq (p + 1) p = p from if_pos (by omega), sPart_at, if_pos rfl]
      exact dc_m1 _ (by omega)
    have h2 := gaS_PR (n := n - 1) (by omega) (show p < n - 1 by omega) h1.1 al2
    have eg : ∀ q, gq (p + 1) (gq p q) = rq p 2 q := fun q => by unfold gq rq; split <;> split <;> omega
    rw [ef]
    rw [ef] at hfn
    refine ⟨by omega, h2.1, fun q hq => ⟨?_, ?_, ?_⟩, fun q h3 h4 => ?_, gaS_0, fun j hj => ?_⟩
    · have hg : gq p q < n - 1 := by unfold gq; split <;> omega
      rw [h2.2 q hq, h1.2 _ hg, eg, rol_congr (hPs (31 + rq p 2 q) (by omega) (by unfold rq; split <;> omega)), rol_part, if_neg (by unfold rq; split <;> omega), if_neg (by unfold rq; split <;> omega)]
    · have hg : gq p q < n - 1 := by unfold gq; split <;> omega
      rw [gaS_x (n := n - 1) (by omega) (by omega) hq, gaS_x hn hr.1 hg, eg, hPs _ (by omega) (by unfold rq; split <;> omega), sPart_o (by unfold rq; split <;> omega) (by unfold rq; split <;> omega)]
    · have hg : gq p q < n - 1 := by unfold gq; split <;> omega
      rw [gaS_y (n := n - 1) (by omega) (by omega) hq, gaS_y hn hr.1 hg, eg, hPs _ (by omega) (by unfold rq; split <;> omega), sPart_o (by unfold rq; split <;> omega) (by unfold rq; split <;> omega)]
    · by_cases hq : q = n - 2
      · subst hq
        have := gaS_pn (s := gaS (sPart (dv2 s n d a b 7) p) n (p + 1)) (n := n - 1) (g := p) (by omega)
        rw [show n - 1 - 1 = n - 2 by omega] at this
        exact this
      · rw [gaS_ph (by omega) (by omega) (by omega) h4]
        by_cases hq2 : q = n - 1
        · subst hq2; exact gaS_pn i2
        · rw [gaS_ph hn hr.1 (by omega) h4, hPs _ (by omega) (by omega), sPart_at, if_neg (by omega), if_neg (by omega)]
          exact pt q (by omega) h4
    · rw [gaS_o (by omega) (by omega) (by omega) hj, gaS_o hn i2 hr.1 hj, sPart_o (by omega) (by omega)]
theorem Iv.div {n f d v p : Nat} {s : Row} {a b : Int32} (hf : FA a b) (hI : Iv n f d v s) (hy : wyS s n a b = 0) (hp : nrF s a b n = some p) : Iv (n - fdN b) f (d + 1) v (dvS s n d a b p) := by
  obtain ⟨⟨i1, i2, hn⟩, ⟨i4, i5, i6⟩, i7, i8, hPR, hpl, hvi, hcf, pt⟩ := id hI
  obtain ⟨hfn, -, hd⟩ := wy0 hy
  have hfd := fdN_1 b
  obtain ⟨w1, w2, w3, w4, w5, w6⟩ := dvS_pts (v := v) hI (show d < 5 by omega) hp hfn
  have hlo : ∀ j, j < 3 ∨ j = 4 ∨ (12 ≤ j ∧ j < 19) ∨ 57 ≤ j → 0 < j → dvS s n d a b p j = s j := fun j hj h0 => by rw [w6 j (by omega)]; exact dv2_o (by omega) (by omega) (by omega)
  have hC : ∀ k, k < 7 → dvS s n d a b p (5 + k) = qtS s n a b k := fun k hk => by
    rw [w6 _ (by omega)]
    unfold dv2
    rw [if_pos (by omega), Nat.add_sub_cancel_left]
  obtain ⟨c1, c2, c3, c4, c5, c6⟩ := hcf
  have hQ := (isD_iff s n a b _).mp hd
  have hdb : ∀ j, 37 ≤ j → j < 57 → dvS s n d a b p j = dv1 s n d a b j := fun j h1 h2 => by
    rw [w6 j (by omega)]
    unfold dv2
    rw [if_neg (by omega)]
  have hDb : DbI (n - fdN b) f (d + 1) (dvS s n d a b p) := by
    obtain ⟨g1, g2⟩ := i6.2
    have ho : ∀ j, 37 ≤ j → j < 37 + 4 * d → dvS s n d a b p j = s j := fun j h1 h2 => by
      rw [hdb j h1 (by omega), dv1_at, if_neg (by omega), if_neg (by omega), if_neg (by omega), if_neg (by omega), if_neg (by omega)]
    have e8 : dvS s n d a b p (38 + 4 * d) = b := by
      rw [hdb _ (by omega) (by omega), dv1_at, if_neg (by omega), if_neg (by omega), if_neg (by omega), if_pos (by omega)]
    have e7 : dvS s n d a b p (37 + 4 * d) = a := by
      rw [hdb _ (by omega) (by omega), dv1_at, if_neg (by omega), if_neg (by omega), if_neg (by omega), if_neg (by omega), if_pos (by omega)]
    have es : smD (dvS s n d a b p) (d + 1) = smD s d + fdN b := by
      show smD (dvS s n d a b p) d + (if dvS s n d a b p (38 + 4 * d) = nI 0 then 1 else 2) = _
      rw [e8, smD_keep (by omega) ho]
      rfl
    refine ⟨by omega, fun i hi => ?_⟩
    by_cases h9 : i = d
    · subst h9
      rw [e7, e8]
      exact hf
    · rw [ho _ (by omega) (by omega), ho _ (by omega) (by omega)]
      exact g2 i (by omega)
  refine ⟨⟨w5, by omega, by omega⟩, ⟨by rw [hlo 1 (by omega) (by omega)]; exact i4, i5, by omega, hDb⟩, ?_, by rw [hlo 4 (by omega) (by omega)]; exact i8, w2, fun q hq => ?_, fun i hi => ?_, ⟨fun k hk => ?_, fun k h1 h2 => ?_, ?_, fun k hk => ?_, fun k h1 h2 => ?_, ?_⟩, w4⟩
  · rw [w6 3 (by omega)]
    unfold dv2
    rw [if_neg (by omega), dv1_at, if_pos rfl]
  · obtain ⟨-, g2, g3⟩ := w3 q hq
    rw [g2, g3]
    exact hpl _ (by unfold rq; split <;> omega)
  · rw [hlo _ (by omega) (by omega), hlo _ (by omega) (by omega)]
    exact hvi i hi
  · rw [if_neg (by omega), hC k (by omega)]
    unfold qtS
    rw [if_pos hk]
    have h1 := hQ (n - (k + fdN b)) (by omega)
    rw [show n - (n - (k + fdN b)) = k + fdN b by omega, abL_9 (QS_b hf hI _)] at h1
    have h2 := h1.1
    have h3 := h1.2
    rw [Int64.lt_iff_toInt_lt, show (9999 : Int64).toInt = 9999 by decide] at h2
    rw [Int64.lt_iff_toInt_lt, show (-9999 : Int64).toInt = -9999 by decide] at h3
    have e : (QS s n a b (k + fdN b)).toInt32.toInt = (QS s n a b (k + fdN b)).toInt := by
      rw [Int64.toInt_toInt32]
      exact Int.bmod_eq_of_le (by omega) (by omega)
    unfold rng
    rw [Int32.lt_iff_toInt_lt, Int32.lt_iff_toInt_lt, e, show (nI 9999).toInt = 9999 by decide, show (-nI 9999).toInt = -9999 by decide]
    exact ⟨h3, h2⟩
  · rw [hC k h2]
    unfold qtS
    rw [if_neg (by omega)]
  · rw [hC _ (by omega)]
    unfold qtS
    rw [if_pos (Nat.le_refl _), show n - fdN b + fdN b = n by omega, QS_r s n a b (by omega), QS_hi s n a b hn (n + 1) (by omega), QS_hi s n a b hn (n + 2) (by omega), Int64.mul_zero, Int64.mul_zero]
    rw [show (if loN b ≤ n then (0 : Int64) else 0) = 0 by split <;> rfl, Int64.add_zero, Int64.sub_zero, Int32.toInt32_toInt64]
    unfold atI
    rw [if_pos (Nat.le_refl n)]
    exact c3
  · rw [hlo _ (by omega) (by omega)]; exact c4 k hk
  · rw [hlo _ (by omega) (by omega)]; exact c5 k h1 h2
  · rw [hlo _ (by omega) (by omega)]; exact c6
/-! the class -/
theorem c_divideBy {n f d v p : Nat} {s : Row} {a b : Int32} (hf : FA a b) (hI : Iv n f d v s) (hy : wyS s n a b = 0) (hp : nrF s a b n = some p) (t : Nat × Nat × Bool) (I : Nat → Nat → Int32) (L : Nat → Nat → Int64) (V : Nat → Option Nat) (h : CS I 1 n d v s) : ∃ I' L', (∀ k, k ≠ 19 → L' k = L k) ∧ eCall mX7_divideBy [.ref 1, .int a, .int b] (mM t I L V) = some (.inl (some (.int (abI (r1I s n a b) + abI (r0I s n a b)))), mM t I' L' V) ∧ CS I' 1 (n - fdN b) (d + 1) v (dvS s n d a b p) ∧ Fr 1 I I' := by
  obtain ⟨⟨i1, i2, hn⟩, ⟨i4, i5, i6⟩, i7, i8, hPR, hpl, hvi, hcf, pt⟩ := id hI
  obtain ⟨hfn, -, hd⟩ := wy0 hy
  have hfd := fdN_1 b
  obtain ⟨w1, w2, w3, w4, w5, w6⟩ := dvS_pts (v := v) hI (show d < 5 by omega) hp hfn
  obtain ⟨a1, a2, a3, a4, a5, a6⟩ := id h
  have p0 : I 4 0 = nI n := a2.1.trans i1
  have b1 := c_reckonQuotient (a := a) (b := b) hI t I L V a2
  have r7 : ∀ k, k < 7 → rqL L (QS s n a b) 7 19 k = QS s n a b k := fun k hk => rqL_at (by omega) hk
  generalize hL : rqL L (QS s n a b) 7 = L' at b1 r7
  have b2 := c_addDebt (show d < 5 by omega) a b (r1I s n a b) (r0I s n a b) t I L' V a4.1
  have m1 : ∀ k, k ≠ 10 → k ≠ 11 → k ≠ 12 → k ≠ 13 → k ≠ 14 → adI I d a b (r1I s n a b) (r0I s n a b) k = I k := fun k q1 q2 q3 q4 q5 => by
    unfold adI
    rw [si_n q1, si_n q5, si_n q4, si_n q3, si_n q2]
  have v10 : adI I d a b (r1I s n a b) (r0I s n a b) 10 0 = nI (d + 1) := by unfold adI; rw [si_s]
  have v11 : ∀ k, adI I d a b (r1I s n a b) (r0I s n a b) 11 k = if k = d then a else I 11 k := fun k => by unfold adI; simp [si_eq]
  have v12 : ∀ k, adI I d a b (r1I s n a b) (r0I s n a b) 12 k = if k = d then b else I 12 k := fun k => by unfold adI; simp [si_eq]
  have v13 : ∀ k, adI I d a b (r1I s n a b) (r0I s n a b) 13 k = if k = d then r1I s n a b else I 13 k := fun k => by unfold adI; simp [si_eq]
  have v14 : ∀ k, adI I d a b (r1I s n a b) (r0I s n a b) 14 k = if k = d then r0I s n a b else I 14 k := fun k => by unfold adI; simp [si_eq]
  generalize hI1 : adI I d a b (r1I s n a b) (r0I s n a b) = I1 at *
  have t1 : CPt I1 6 n s := a3.keep (by rw [m1 6 (by decide) (by decide) (by decide) (by decide) (by decide)]) (m1 _ (by decide) (by decide) (by decide) (by decide) (by decide)) (m1 _ (by decide) (by decide) (by decide) (by decide) (by decide)) (m1 _ (by decide) (by decide) (by decide) (by decide) (by decide)) hn (fun _ _ _ => rfl)
  have b3 := c_nearestFor hf hI t I1 L' V t1
  rw [hp] at b3
  have b4 := c_remove hn w1 hfd.1 t I1 L' V t1.1
  generalize hI2 : si (rmI I1 p (fdN b) (n - fdN b - p)) 6 0 (nI (n - fdN b)) = I2 at b4
  have m2 : ∀ k, k ≠ 6 → k ≠ 7 → k ≠ 8 → k ≠ 9 → I2 k = I1 k := fun k q1 q2 q3 q4 => by
    rw [← hI2, si_n q1]
    funext j
    unfold rmI
    rw [if_neg (by omega)]
  have p2 : I2 4 0 = nI n := by rw [m2 4 (by decide) (by decide) (by decide) (by decide), m1 4 (by decide) (by decide) (by decide) (by decide) (by decide)]; exact p0
  have b5 := c_takeQuotient (a := a) (b := b) hn (by omega) t I2 L' V p2 r7
  generalize hI3 : tqI (si I2 4 0 (nI (n - fdN b))) (qtS s n a b) 7 = I3 at b5
  have m3 : ∀ k, k ≠ 4 → k ≠ 5 → I3 k = I2 k := fun k q1 q2 => by
    rw [← hI3]
    funext j
    unfold tqI
    rw [if_neg (fun z => q2 z.1), si_n q1]
  have v3 : I3 10 0 = nI (d + 1) := by rw [m3 10 (by decide) (by decide), m2 10 (by decide) (by decide) (by decide) (by decide)]; exact v10
  have e9 : nI (d + 1) - nI 1 = nI d := by rw [pk_sub (by omega)]; rfl
  have b6 := c_sizeOf (show d + 1 ≤ 5 by omega) (show d < d + 1 by omega) t I3 L' V v3
  have g13 : I3 13 d = r1I s n a b := by rw [m3 13 (by decide) (by decide), m2 13 (by decide) (by decide) (by decide) (by decide), v13, if_pos rfl]
  have g14 : I3 14 d = r0I s n a b := by rw [m3 14 (by decide) (by decide), m2 14 (by decide) (by decide) (by decide) (by decide), v14, if_pos rfl]
  rw [g13, g14] at b6
  have mm : ∀ k, (k < 4 ∨ 15 ≤ k) → I3 k = I k := fun k hk => by rw [m3 k (by omega) (by omega), m2 k (by omega) (by omega) (by omega) (by omega), m1 k (by omega) (by omega) (by omega) (by omega) (by omega)]
  refine ⟨I3, L', fun k hk => ?_, ?_, ⟨?_, ?_, ?_, ?_, ?_, ?_⟩, fun k hk => mm k (by omega)⟩
  · rw [← hL]
    funext j
    unfold rqL
    rw [if_neg (fun z => hk z.1)]
  · have x0 := ix (show 0 < 7 by decide) (by decide)
    have x1 := ix (show 1 < 7 by decide) (by decide)
    by_cases hb : b = nI 0
    · have ef : fdN b = 1 := if_pos hb
      have e1 : r1I s n a b = nI 0 := by show (r1S s n a b).toInt32 = _; unfold r1S; rw [if_pos hb]; decide
      rw [e1] at b2 b6 ⊢
      rw [ef] at b4 b5
      subst hb
      simp only [kX7_divideBy, gX7_divideBy, v_TM, v_seq, v_blk, v_lop, v_fgt, v_fg0, v_fg1, v_b0, v_b1, v_bn, v_bi, v_c0, v_c1, v_c2, v_cn, v_ci, v_st0, v_st1, v_stn, v_iadd, v_isub, v_imul, v_iand, v_ior, v_ixor, v_ishl, v_ishr, v_ladd, v_lsub, v_lmul, v_lor, v_land, v_ineg, v_lneg, v_lcmp, v_lshl, v_i2l, v_l2i, v_i2b, v_i2c, v_i2f, v_i2d, v_idiv, v_irem, v_ldiv, v_lrem, v_iconst, v_bipush, v_sipush, v_lconst0, v_lconst1, v_null, v_fconst0, v_dconst0, v_ldcS, v_dupi, v_dupr, v_pop, v_dup2, vI_i, vL_l, vA_r, vA_n, vInc_i, v_iload_n0, v_iload_n1, v_iload_n2, v_iload_n3, v_iload, v_lload_n0, v_lload_n1, v_lload_n2, v_lload_n3, v_lload, v_dload_n0, v_dload_n1, v_dload_n2, v_dload_n3, v_dload, v_aload_n0, v_aload_n1, v_aload_n2, v_aload_n3, v_aload, v_at0, v_ok0, v_at1, v_ok1, v_at2, v_ok2, v_at3, v_ok3, v_at4, v_ok4, v_at5, v_ok5, v_at6, v_ok6, v_at7, v_ok7, v_at8, v_ok8, v_at9, v_ok9, v_at10, v_ok10, v_at11, v_ok11, v_at12, v_ok12, v_at13, v_ok13, v_at14, v_ok14, v_at15, v_ok15, v_c2i, v_c2l, v_c2r, v_c2n, v_c2j, v_istore_n0, v_astore_n0, v_istore_n1, v_astore_n1, v_istore_n2, v_astore_n2, v_istore_n3, v_astore_n3, v_istore, v_astore, v_lstore_n0, v_lstore_n1, v_lstore_n2, v_lstore_n3, v_lstore, v_iinc, v_if_eq, v_if_ne, v_if_lt, v_if_ge, v_if_gt, v_if_le, v_icmp_eq, v_icmp_ne, v_icmp_lt, v_icmp_ge, v_icmp_gt, v_icmp_le, v_ifnull0, v_ifnull1, v_ifnonnull0, v_ifnonnull1, v_goto, v_ireturn, v_lreturn, v_areturn, v_areturn0, v_return, v_throw, v_throwW, v_table, v_cs0, v_csi, v_csl, v_csr, v_an0, v_an1, v_ani, v_call0, v_call1, v_call2, v_call3, v_call4, v_call5, v_call6, v_call7, v_rI, v_fin, v_finX, v_fini, v_ro0, v_roi, v_rol, v_rob0, v_rob1, v_roo, v_roon, v_kbm99, v_kbm64, v_kbm8, v_kbm5, v_kb6, v_kb7, v_kb8, v_kb9, v_kb10, v_kb12, v_kb14, v_kb19, v_kb20, v_kb24, v_kb25, v_kb30, v_kb31, v_kb32, v_kb37, v_kb40, v_kb41, v_kb45, v_kb48, v_kb50, v_kb57, v_kb59, v_kb60, v_kb63, v_kb64, v_kb97, v_kb99, v_kb112, v_kb114, v_kb122, v_kim8, v_kim1, v_ki0, v_ki1, v_ki2, v_ki3, v_ki4, v_ki5, v_ksm9999, v_ksm256, v_ks128, v_ks199, v_ks200, v_ks255, v_ks256, v_ks400, v_ks457, v_ks1000, v_ks1024, v_ks2742, v_ks9999, v_ks10000, v_ld, v_st, v_ldc2_RX7_142, v_ldc2_RX7_144, v_ldc2_RX7_146, v_ldc2_RX7_148, v_ldc2_RX7_154, v_ldc2_RX7_163, v_ldc2_RX3_81, v_ldc2_RX7_207, v_ldc2_RX7_209, v_ldc2_RX13_190, v_ldc2_RX13_212, v_ldc2_RX13_218, v_ldc2_RX13_220, v_ldc2_RX13_254, v_ldc2_RX13_256, v_ldc2_RX13_287, v_ldc2_RX13_297, v_ldc2_RX13_302, v_ldc2_RX13_323, v_ldc2_RX13_343, v_ldc2_RX13_345, v_ldc2_RX13_351, v_ldc2_RX13_374, v_ldc2_RX13_400, v_ldc2_RX13_402, v_ldc2_RX13_413, v_ldc2_RX13_439, v_ldc2_RX13_461, v_ldc2_RX13_481, v_ldc2_RX13_486, v_ldc2_RX13_488, v_ldc2_RX13_490, v_ldc2_RX13_492, v_ldc2_RX13_494, v_ldc2_RX13_496, v_ldc2_RX13_498, v_ldc2_RX13_500, if_true, if_false, Bool.not_false, Bool.not_true, Nat.reduceEqDiff, Nat.reduceLeDiff, Nat.reduceLT, Nat.reduceAdd, Nat.reduceMul, Nat.reduceSub, and_self, and_true, true_and, and_false, false_and, Bool.false_eq_true, not_true_eq_false, not_false_eq_true, ite_self, v_robb, v_rob0, v_rob1, List.nil_append, G_0_0, G_0_1, G_0_2, G_0_3, P_0_3, G_0_4, G_0_5, P_0_5, G_0_6, P_0_6, G_0_7, G_0_8, G_0_9, G_0_10, G_0_11, G_0_12, G_0_13, G_0_14, P_0_14, R_0, G_1_0, G_1_1, G_1_2, G_1_3, G_1_4, G_1_5, P_1_5, G_1_6, G_1_7, G_1_8, G_1_9, P_1_9, G_1_10, P_1_10, R_1, G_2_0, P_2_0, G_2_1, R_2, S_3, A_3, N_3, G_4_0, P_4_0, G_4_1, R_4, S_5, A_5, N_5, G_6_0, P_6_0, G_6_1, G_6_2, G_6_3, R_6, S_7, A_7, N_7, S_8, A_8, N_8, S_9, A_9, N_9, G_10_0, P_10_0, G_10_1, G_10_2, G_10_3, G_10_4, R_10, S_11, A_11, N_11, S_12, A_12, N_12, S_13, A_13, N_13, S_14, A_14, N_14, G_15_0, P_15_0, G_15_1, P_15_1, G_15_2, R_15, S_16, A_16, N_16, G_17_0, P_17_0, G_17_1, P_17_1, R_17, G_18_0, P_18_0, G_18_1, P_18_1, R_18, S_19, A_19, N_19, G_20_0, G_20_1, G_20_2, G_20_3, G_20_4, G_20_5, P_20_5, G_20_6, G_20_7, G_20_8, G_20_9, P_20_9, G_20_10, P_20_10, R_20, G_21_0, P_21_0, G_21_1, R_21, S_22, A_22, N_22, G_23_0, P_23_0, G_23_1, R_23, S_24, A_24, N_24, G_25_0, P_25_0, G_25_1, G_25_2, G_25_3, R_25, S_26, A_26, N_26, S_27, A_27, N_27, S_28, A_28, N_28, G_29_0, P_29_0, G_29_1, G_29_2, G_29_3, G_29_4, R_29, S_30, A_30, N_30, S_31, A_31, N_31, S_32, A_32, N_32, S_33, A_33, N_33, G_34_0, P_34_0, G_34_1, P_34_1, G_34_2, R_34, S_35, A_35, N_35, G_36_0, P_36_0, G_36_1, P_36_1, R_36, G_37_0, P_37_0, G_37_1, P_37_1, R_37, S_38, A_38, N_38, A_58, N_58, G_59_0, P_59_0, G_59_1, G_59_2, G_59_3, R_59, S_60, A_60, N_60, S_61, A_61, N_61, G_62_0, P_62_0, G_62_1, P_62_1, R_62, G_63_0, P_63_0, G_63_1, P_63_1, R_63, S_64, A_64, N_64, G_65_0, P_65_0, G_65_1, G_65_2, P_65_2, G_65_3, P_65_3, G_65_4, P_65_4, G_65_5, P_65_5, G_65_6, P_65_6, G_65_7, P_65_7, R_65, S_66, A_66, N_66, G_67_0, P_67_0, R_67, G_68_0, P_68_0, G_68_1, P_68_1, G_68_2, P_68_2, G_68_3, G_68_4, G_68_5, G_68_6, G_68_7, R_68, A_69, N_69, S_70, A_70, N_70, S_71, A_71, N_71, S_72, A_72, N_72, S_73, A_73, N_73, S_74, A_74, N_74, show (nI 1 ≤ nI 7) = True by decide, b1, x0, r7 0 (by decide), b2, b3, opI, b4, b5, v3, e9, b6]
    · have ef : fdN b = 2 := if_neg hb
      have e1 : r1I s n a b = (QS s n a b 1).toInt32 := by show (r1S s n a b).toInt32 = _; unfold r1S; rw [if_neg hb]
      rw [e1] at b2 b6 ⊢
      rw [ef] at b4 b5
      simp only [kX7_divideBy, gX7_divideBy, v_TM, v_seq, v_blk, v_lop, v_fgt, v_fg0, v_fg1, v_b0, v_b1, v_bn, v_bi, v_c0, v_c1, v_c2, v_cn, v_ci, v_st0, v_st1, v_stn, v_iadd, v_isub, v_imul, v_iand, v_ior, v_ixor, v_ishl, v_ishr, v_ladd, v_lsub, v_lmul, v_lor, v_land, v_ineg, v_lneg, v_lcmp, v_lshl, v_i2l, v_l2i, v_i2b, v_i2c, v_i2f, v_i2d, v_idiv, v_irem, v_ldiv, v_lrem, v_iconst, v_bipush, v_sipush, v_lconst0, v_lconst1, v_null, v_fconst0, v_dconst0, v_ldcS, v_dupi, v_dupr, v_pop, v_dup2, vI_i, vL_l, vA_r, vA_n, vInc_i, v_iload_n0, v_iload_n1, v_iload_n2, v_iload_n3, v_iload, v_lload_n0, v_lload_n1, v_lload_n2, v_lload_n3, v_lload, v_dload_n0, v_dload_n1, v_dload_n2, v_dload_n3, v_dload, v_aload_n0, v_aload_n1, v_aload_n2, v_aload_n3, v_aload, v_at0, v_ok0, v_at1, v_ok1, v_at2, v_ok2, v_at3, v_ok3, v_at4, v_ok4, v_at5, v_ok5, v_at6, v_ok6, v_at7, v_ok7, v_at8, v_ok8, v_at9, v_ok9, v_at10, v_ok10, v_at11, v_ok11, v_at12, v_ok12, v_at13, v_ok13, v_at14, v_ok14, v_at15, v_ok15, v_c2i, v_c2l, v_c2r, v_c2n, v_c2j, v_istore_n0, v_astore_n0, v_istore_n1, v_astore_n1, v_istore_n2, v_astore_n2, v_istore_n3, v_astore_n3, v_istore, v_astore, v_lstore_n0, v_lstore_n1, v_lstore_n2, v_lstore_n3, v_lstore, v_iinc, v_if_eq, v_if_ne, v_if_lt, v_if_ge, v_if_gt, v_if_le, v_icmp_eq, v_icmp_ne, v_icmp_lt, v_icmp_ge, v_icmp_gt, v_icmp_le, v_ifnull0, v_ifnull1, v_ifnonnull0, v_ifnonnull1, v_goto, v_ireturn, v_lreturn, v_areturn, v_areturn0, v_return, v_throw, v_throwW, v_table, v_cs0, v_csi, v_csl, v_csr, v_an0, v_an1, v_ani, v_call0, v_call1, v_call2, v_call3, v_call4, v_call5, v_call6, v_call7, v_rI, v_fin, v_finX, v_fini, v_ro0, v_roi, v_rol, v_rob0, v_rob1, v_roo, v_roon, v_kbm99, v_kbm64, v_kbm8, v_kbm5, v_kb6, v_kb7, v_kb8, v_kb9, v_kb10, v_kb12, v_kb14, v_kb19, v_kb20, v_kb24, v_kb25, v_kb30, v_kb31, v_kb32, v_kb37, v_kb40, v_kb41, v_kb45, v_kb48, v_kb50, v_kb57, v_kb59, v_kb60, v_kb63, v_kb64, v_kb97, v_kb99, v_kb112, v_kb114, v_kb122, v_kim8, v_kim1, v_ki0, v_ki1, v_ki2, v_ki3, v_ki4, v_ki5, v_ksm9999, v_ksm256, v_ks128, v_ks199, v_ks200, v_ks255, v_ks256, v_ks400, v_ks457, v_ks1000, v_ks1024, v_ks2742, v_ks9999, v_ks10000, v_ld, v_st, v_ldc2_RX7_142, v_ldc2_RX7_144, v_ldc2_RX7_146, v_ldc2_RX7_148, v_ldc2_RX7_154, v_ldc2_RX7_163, v_ldc2_RX3_81, v_ldc2_RX7_207, v_ldc2_RX7_209, v_ldc2_RX13_190, v_ldc2_RX13_212, v_ldc2_RX13_218, v_ldc2_RX13_220, v_ldc2_RX13_254, v_ldc2_RX13_256, v_ldc2_RX13_287, v_ldc2_RX13_297, v_ldc2_RX13_302, v_ldc2_RX13_323, v_ldc2_RX13_343, v_ldc2_RX13_345, v_ldc2_RX13_351, v_ldc2_RX13_374, v_ldc2_RX13_400, v_ldc2_RX13_402, v_ldc2_RX13_413, v_ldc2_RX13_439, v_ldc2_RX13_461, v_ldc2_RX13_481, v_ldc2_RX13_486, v_ldc2_RX13_488, v_ldc2_RX13_490, v_ldc2_RX13_492, v_ldc2_RX13_494, v_ldc2_RX13_496, v_ldc2_RX13_498, v_ldc2_RX13_500, if_true, if_false, Bool.not_false, Bool.not_true, Nat.reduceEqDiff, Nat.reduceLeDiff, Nat.reduceLT, Nat.reduceAdd, Nat.reduceMul, Nat.reduceSub, and_self, and_true, true_and, and_false, false_and, Bool.false_eq_true, not_true_eq_false, not_false_eq_true, ite_self, v_robb, v_rob0, v_rob1, List.nil_append, G_0_0, G_0_1, G_0_2, G_0_3, P_0_3, G_0_4, G_0_5, P_0_5, G_0_6, P_0_6, G_0_7, G_0_8, G_0_9, G_0_10, G_0_11, G_0_12, G_0_13, G_0_14, P_0_14, R_0, G_1_0, G_1_1, G_1_2, G_1_3, G_1_4, G_1_5, P_1_5, G_1_6, G_1_7, G_1_8, G_1_9, P_1_9, G_1_10, P_1_10, R_1, G_2_0, P_2_0, G_2_1, R_2, S_3, A_3, N_3, G_4_0, P_4_0, G_4_1, R_4, S_5, A_5, N_5, G_6_0, P_6_0, G_6_1, G_6_2, G_6_3, R_6, S_7, A_7, N_7, S_8, A_8, N_8, S_9, A_9, N_9, G_10_0, P_10_0, G_10_1, G_10_2, G_10_3, G_10_4, R_10, S_11, A_11, N_11, S_12, A_12, N_12, S_13, A_13, N_13, S_14, A_14, N_14, G_15_0, P_15_0, G_15_1, P_15_1, G_15_2, R_15, S_16, A_16, N_16, G_17_0, P_17_0, G_17_1, P_17_1, R_17, G_18_0, P_18_0, G_18_1, P_18_1, R_18, S_19, A_19, N_19, G_20_0, G_20_1, G_20_2, G_20_3, G_20_4, G_20_5, P_20_5, G_20_6, G_20_7, G_20_8, G_20_9, P_20_9, G_20_10, P_20_10, R_20, G_21_0, P_21_0, G_21_1, R_21, S_22, A_22, N_22, G_23_0, P_23_0, G_23_1, R_23, S_24, A_24, N_24, G_25_0, P_25_0, G_25_1, G_25_2, G_25_3, R_25, S_26, A_26, N_26, S_27, A_27, N_27, S_28, A_28, N_28, G_29_0, P_29_0, G_29_1, G_29_2, G_29_3, G_29_4, R_29, S_30, A_30, N_30, S_31, A_31, N_31, S_32, A_32, N_32, S_33, A_33, N_33, G_34_0, P_34_0, G_34_1, P_34_1, G_34_2, R_34, S_35, A_35, N_35, G_36_0, P_36_0, G_36_1, P_36_1, R_36, G_37_0, P_37_0, G_37_1, P_37_1, R_37, S_38, A_38, N_38, A_58, N_58, G_59_0, P_59_0, G_59_1, G_59_2, G_59_3, R_59, S_60, A_60, N_60, S_61, A_61, N_61, G_62_0, P_62_0, G_62_1, P_62_1, R_62, G_63_0, P_63_0, G_63_1, P_63_1, R_63, S_64, A_64, N_64, G_65_0, P_65_0, G_65_1, G_65_2, P_65_2, G_65_3, P_65_3, G_65_4, P_65_4, G_65_5, P_65_5, G_65_6, P_65_6, G_65_7, P_65_7, R_65, S_66, A_66, N_66, G_67_0, P_67_0, R_67, G_68_0, P_68_0, G_68_1, P_68_1, G_68_2, P_68_2, G_68_3, G_68_4, G_68_5, G_68_6, G_68_7, R_68, A_69, N_69, S_70, A_70, N_70, S_71, A_71, N_71, S_72, A_72, N_72, S_73, A_73, N_73, S_74, A_74, N_74, show (nI 1 ≤ nI 7) = True by decide, b1, hb, x0, x1, show (nI 7 < nI 2) = False by decide, show (nI 2 ≤ nI 7) = True by decide, r7 0 (by decide), r7 1 (by decide), b2, b3, opI, b4, b5, v3, e9, b6]
  · exact a1.keep (by rw [mm 2 (by decide)]) (mm 3 (by decide)) (by rw [w6 1 (by omega)]; exact dv2_o (by omega) (by omega) (by omega)) (fun k hk => by rw [w6 _ (by omega)]; exact dv2_o (by omega) (by omega) (by omega))
  · refine ⟨?_, fun k hk => ?_⟩
    · rw [w5, ← hI3]
      unfold tqI
      rw [if_neg (by omega), si_s]
    · rw [w6 _ (by omega), ← hI3]
      unfold tqI dv2
      rw [if_pos ⟨rfl, hk⟩, if_pos (by omega), Nat.add_sub_cancel_left]
  · refine ⟨?_, fun q hq => ?_⟩
    · rw [m3 6 (by decide) (by decide), ← hI2, si_s]
    · obtain ⟨g1, g2, g3⟩ := w3 q hq
      obtain ⟨z1, z2, z3⟩ := t1.2 (rq p (fdN b) q) (by unfold rq; split <;> omega)
      rw [g1, g2, g3, m3 7 (by decide) (by decide), m3 8 (by decide) (by decide), m3 9 (by decide) (by decide), ← hI2, si_n (by decide), si_n (by decide), si_n (by decide), ← z1, ← z2, ← z3]
      have rr : ∀ o, (o = 7 ∨ o = 8 ∨ o = 9) → rmI I1 p (fdN b) (n - fdN b - p) o q = I1 o (rq p (fdN b) q) := by
        intro o ho
        unfold rmI rq
        by_cases h9 : q < p
        · rw [if_neg (fun z => by omega), if_pos h9]
        · rw [if_pos ⟨ho, by omega, by omega⟩, if_neg h9]
      exact ⟨rr 7 (by omega), rr 8 (by omega), rr 9 (by omega)⟩
  · refine ⟨v3, fun k hk => ?_⟩
    have g : ∀ c, c < 4 → dvS s n d a b p (37 + c + 4 * k) = if k = d then (if c = 3 then r0I s n a b else if c = 2 then r1I s n a b else if c = 1 then b else a) else s (37 + c + 4 * k) := fun c hc => by
      rw [w6 _ (by omega)]
      unfold dv2
      rw [if_neg (by omega), dv1_at]
      by_cases hkd : k = d
      · subst hkd
        rw [if_pos rfl, if_neg (by omega)]
        by_cases c3 : c = 3
        · rw [if_pos (by omega), if_pos c3]
        · rw [if_neg (by omega), if_neg c3]
          by_cases c2 : c = 2
          · rw [if_pos (by omega), if_pos c2]
          · rw [if_neg (by omega), if_neg c2]
            by_cases c1 : c = 1
            · rw [if_pos (by omega), if_pos c1]
            · rw [if_neg (by omega), if_neg c1, if_pos (by omega)]
      · rw [if_neg hkd, if_neg (by omega), if_neg (by omega), if_neg (by omega), if_neg (by omega), if_neg (by omega)]
    have u : ∀ o, o = 11 ∨ o = 12 ∨ o = 13 ∨ o = 14 → I3 o = I1 o := fun o ho => by rw [m3 o (by omega) (by omega), m2 o (by omega) (by omega) (by omega) (by omega)]
    rw [u 11 (by omega), u 12 (by omega), u 13 (by omega), u 14 (by omega), v11, v12, v13, v14]
    have g0 := g 0 (by decide)
    have g1 := g 1 (by decide)
    have g2 := g 2 (by decide)
    have g3 := g 3 (by decide)
    rw [show 37 + 0 + 4 * k = 37 + 4 * k by omega] at g0
    rw [show 37 + 1 + 4 * k = 38 + 4 * k by omega] at g1
    rw [show 37 + 2 + 4 * k = 39 + 4 * k by omega] at g2
    rw [show 37 + 3 + 4 * k = 40 + 4 * k by omega] at g3
    rw [g0, g1, g2, g3]
    by_cases hkd : k = d
    · simp [hkd]
    · obtain ⟨q1, q2, q3, q4⟩ := a4.2 k (by omega)
      simp only [hkd, if_false]
      exact ⟨q1, q2, q3, q4⟩
  · exact a5.keep (mm 15 (by decide)) (mm 16 (by decide)) (fun j hj => by rw [w6 _ (by omega)]; exact dv2_o (by omega) (by omega) (by omega))
  · rw [mm 1 (by decide), w6 2 (by omega), dv2_o (by omega) (by omega) (by omega)]
    exact a6
