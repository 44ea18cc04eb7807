/-! ===== what always holds between class and model ===== -/
def WS (I : Nat → Nat → Int32) (B : Nat) : Prop := St I 1 (I 191) B ∧ (I 0 3 = I 189 19 ∧ (I 189 19 = nI 0 ∨ (I 189 19 = nI 1 ∧ St I 39 (I 192) B))) ∧ ∃ u pn, u ≤ 6 ∧ pn < 6 ∧ I 0 5 = nI pn ∧ I 0 6 = nI u ∧ I 189 18 = nI u ∧ ∀ j, j < u → St I (75 + 19 * ((pn + 6 - u + j) % 6)) (fun k => I 193 (457 * j + k)) B
def WT (I : Nat → Nat → Int32) : Prop := ∃ len, len ≤ 400 ∧ I 65 0 = nI len ∧ I 189 2 = nI len ∧ ∀ i, i < len → ∃ c, c < 256 ∧ I 190 i = nI c ∧ I 66 i &&& nI 255 = nI c
def WE (I : Nat → Nat → Int32) : Prop := I 65 4 = I 189 10 ∧ I 65 5 = I 189 11
def WR (I : Nat → Nat → Int32) : Prop := ∃ rl, rl ≤ 128 ∧ I 0 14 = nI rl ∧ ((I 189 54 = nI 0 ∧ rl = 0) ∨ (I 189 54 = nI 1 ∧ I 189 53 = nI rl)) ∧ ∀ i, i < rl → I 74 i = I 211 i
def WW (I : Nat → Nat → Int32) (B : Nat) : Prop := WS I B ∧ WT I ∧ WE I ∧ WR I
def wkS (k i : Nat) : Prop := (k = 0 ∧ (i = 3 ∨ i = 5 ∨ i = 6)) ∨ (1 < k ∧ k < 17) ∨ (k = 1 ∧ i = 5) ∨ (39 < k ∧ k < 55) ∨ (k = 39 ∧ i = 5) ∨ (75 ≤ k ∧ k < 189) ∨ k = 191 ∨ k = 192 ∨ k = 193 ∨ (k = 189 ∧ (i = 18 ∨ i = 19))
def wkX (k i : Nat) : Prop := (k = 0 ∧ i = 14) ∨ (k = 65 ∧ (i = 0 ∨ i = 4 ∨ i = 5)) ∨ k = 66 ∨ k = 74 ∨ k = 190 ∨ k = 211 ∨ (k = 189 ∧ (i = 2 ∨ i = 10 ∨ i = 11 ∨ i = 53 ∨ i = 54))
theorem WS.keep {I I' : Nat → Nat → Int32} {B B' : Nat} (h : WS I B) (hk : ∀ k i, wkS k i → I' k i = I k i) (hB : B ≤ B') : WS I' B' := by
  have kf : ∀ k, (1 < k ∧ k < 17) ∨ (39 < k ∧ k < 55) ∨ (75 ≤ k ∧ k < 189) ∨ k = 191 ∨ k = 192 ∨ k = 193 → I' k = I k := fun k hk2 => by
    funext i
    refine hk k i ?_
    unfold wkS
    omega
  have k1 : ∀ k i, wkS k i → I' k i = I k i := hk
  obtain ⟨h1, ⟨h2, h3⟩, u, pn, hu, hpn, h5, h6, h7, h8⟩ := h
  refine ⟨h1.keep (fun k a b => kf k (by omega)) (k1 1 5 (by unfold wkS; omega)) (fun j _ => by rw [kf 191 (by omega)]) hB, ⟨?_, ?_⟩, u, pn, hu, hpn, ?_, ?_, ?_, fun j hj => ?_⟩
  · rw [k1 0 3 (by unfold wkS; omega), k1 189 19 (by unfold wkS; omega)]; exact h2
  · rw [k1 189 19 (by unfold wkS; omega)]
    rcases h3 with z | z
    · exact Or.inl z
    · exact Or.inr ⟨z.1, z.2.keep (fun k a b => kf k (by omega)) (k1 39 5 (by unfold wkS; omega)) (fun j _ => by rw [kf 192 (by omega)]) hB⟩
  · rw [k1 0 5 (by unfold wkS; omega)]; exact h5
  · rw [k1 0 6 (by unfold wkS; omega)]; exact h6
  · rw [k1 189 18 (by unfold wkS; omega)]; exact h7
  · have hm : (pn + 6 - u + j) % 6 < 6 := Nat.mod_lt _ (by decide)
    exact (h8 j hj).keep (fun k a b => kf k (by omega)) (by rw [kf _ (by omega)]) (fun i _ => by rw [kf 193 (by omega)]) hB
theorem WX_keep {I I' : Nat → Nat → Int32} (h : WT I ∧ WE I ∧ WR I) (hk : ∀ k i, wkX k i → I' k i = I k i) : WT I' ∧ WE I' ∧ WR I' := by
  have k1 : ∀ k i, wkX k i → I' k i = I k i := hk
  have kf : ∀ k i, k = 66 ∨ k = 74 ∨ k = 190 ∨ k = 211 → I' k i = I k i := fun k i h => hk k i (by unfold wkX; omega)
  obtain ⟨⟨len, a1, a2, a3, a4⟩, ⟨b1, b2⟩, rl, c1, c2, c3, c4⟩ := h
  refine ⟨⟨len, a1, ?_, ?_, fun i hi => ?_⟩, ⟨?_, ?_⟩, rl, c1, ?_, ?_, fun i hi => ?_⟩
  · rw [k1 65 0 (by unfold wkX; omega)]; exact a2
  · rw [k1 189 2 (by unfold wkX; omega)]; exact a3
  · rw [kf 190 i (by omega), kf 66 i (by omega)]; exact a4 i hi
  · rw [k1 65 4 (by unfold wkX; omega), k1 189 10 (by unfold wkX; omega)]; exact b1
  · rw [k1 65 5 (by unfold wkX; omega), k1 189 11 (by unfold wkX; omega)]; exact b2
  · rw [k1 0 14 (by unfold wkX; omega)]; exact c2
  · rw [k1 189 54 (by unfold wkX; omega), k1 189 53 (by unfold wkX; omega)]; exact c3
  · rw [kf 74 i (by omega), kf 211 i (by omega)]; exact c4 i hi
theorem WW.keep {I I' : Nat → Nat → Int32} {B B' : Nat} (h : WW I B) (hk : ∀ k i, wkS k i ∨ wkX k i → I' k i = I k i) (hB : B ≤ B') : WW I' B' := by
  have h2 := WX_keep ⟨h.2.1, h.2.2.1, h.2.2.2⟩ (fun k i z => hk k i (Or.inr z))
  exact ⟨h.1.keep (fun k i z => hk k i (Or.inl z)) hB, h2⟩
theorem WW.mono {I : Nat → Nat → Int32} {B B' : Nat} (h : WW I B) (hB : B ≤ B') : WW I B' := h.keep (fun _ _ _ => rfl) hB
theorem WW.code {I : Nat → Nat → Int32} {B : Nat} (h : WW I B) (x : Int32) : WW (si I 189 0 x) B := by
  refine h.keep (fun k i z => ?_) (Nat.le_refl _)
  rw [si_eq, if_neg]
  rintro ⟨rfl, rfl⟩
  unfold wkS wkX at z
  omega
theorem WW.codeR {I : Nat → Nat → Int32} {B : Nat} (h : WW I B) (x : Int32) : WW (wR (si I 189 0 x) (I 191)) B := by
  have : wR (si I 189 0 x) (I 191) = si I 189 0 x := by
    rw [← w_sn (by decide), w_self]
  rw [this]
  exact h.code x
/-- where the places of the class's past lie -/
theorem pn_a {pn u j : Nat} (hp : pn < 6) (hu : u < 6) (hj : j < u) : (pnx pn + 6 - unx u + j) % 6 = (pn + 6 - u + j) % 6 ∧ (pn + 6 - u + j) % 6 ≠ pn := by
  have hx : unx u = u + 1 := if_neg (by omega)
  rw [hx]
  unfold pnx
  split <;> omega
theorem pn_b {pn u : Nat} (hp : pn < 6) (hu : u < 6) : (pnx pn + 6 - unx u + u) % 6 = pn := by
  have hx : unx u = u + 1 := if_neg (by omega)
  rw [hx]
  unfold pnx
  split <;> omega
theorem pn_c {pn j : Nat} (hp : pn < 6) (hj : j < 5) : (pnx pn + 6 - 6 + j) % 6 = (pn + 6 - 6 + (j + 1)) % 6 ∧ (pnx pn + 6 - 6 + j) % 6 ≠ pn := by
  unfold pnx
  split <;> omega
theorem pn_d {pn : Nat} (hp : pn < 6) : (pnx pn + 6 - 6 + 5) % 6 = pn := by
  unfold pnx
  split <;> omega
theorem pnx_lt {pn : Nat} (hp : pn < 6) : pnx pn < 6 := by unfold pnx; split <;> omega
theorem unx_le {u : Nat} (hu : u ≤ 6) : unx u ≤ 6 := by unfold unx; split <;> omega
theorem kp_lo (I : Nat → Nat → Int32) {u j k : Nat} (hu : u < 6) (hj : j < u) (hk : k < 457) : kpP I u (457 * j + k) = I 193 (457 * j + k) := by
  unfold kpP
  rw [if_neg (by omega)]
  exact if_neg (by omega)
theorem kp_hi (I : Nat → Nat → Int32) {u k : Nat} (hu : u < 6) (hk : k < 457) : kpP I u (457 * u + k) = I 194 k := by
  unfold kpP
  rw [if_neg (by omega)]
  show (if _ then I 194 (457 * u + k - 457 * u) else _) = _
  rw [if_pos (by omega), Nat.add_sub_cancel_left]
theorem kp_6l (I : Nat → Nat → Int32) {j k : Nat} (hj : j < 5) (hk : k < 457) : kpP I 6 (457 * j + k) = I 193 (457 * (j + 1) + k) := by
  unfold kpP
  rw [if_pos rfl]
  show (if _ then I 193 (457 * j + k + 457) else _) = _
  rw [if_pos (by omega)]
  congr 1
  omega
theorem kp_6h (I : Nat → Nat → Int32) {k : Nat} (hk : k < 457) : kpP I 6 (457 * 5 + k) = I 194 k := by
  unfold kpP
  rw [if_pos rfl, if_neg (by omega), if_pos (by omega), show 457 * 5 + k - 2285 = k by omega]
/-- a change: the class keeps, changes; the model lays aside, changes, keeps -/
theorem WW.chg {I : Nat → Nat → Int32} {B : Nat} (hW : WW I B) : ∃ pn u, pn < 6 ∧ u ≤ 6 ∧ I 0 5 = nI pn ∧ I 0 6 = nI u ∧ I 189 18 = nI u ∧ ∀ (I2 I3 : Nat → Nat → Int32) (F : Row) (B' : Nat),
    (∀ k i, (k = 0 ∧ i < 15) ∨ (39 ≤ k ∧ k < 59) ∨ (65 ≤ k ∧ k ≤ 66) ∨ (74 ≤ k ∧ k ≠ 189) ∨ (k = 189 ∧ (i = 2 ∨ i = 10 ∨ i = 11 ∨ i = 18 ∨ i = 19 ∨ i = 53 ∨ i = 54)) → I2 k i = kpI I pn u k i) → St I2 1 F B' → B ≤ B' →
    (∀ k i, wkX k i ∨ (wkS k i ∧ k ≠ 191) → I3 k i = I2 k i) → (∀ j, j < 457 → I3 194 j = I 191 j) → WW (wR (si (vR I3 (kpP I3 u)) 189 18 (nI (unx u))) F) B' := by
  obtain ⟨⟨h1, ⟨h2, h3⟩, u, pn, hu, hpn, h5, h6, h7, h8⟩, hX⟩ := id hW
  refine ⟨pn, u, hpn, hu, h5, h6, h7, fun I2 I3 F B' q1 q2 qB q3 q4 => ?_⟩
  have hK : ∀ k i, (k < 75 + 19 * pn ∨ 75 + 19 * pn + 16 ≤ k) → ¬ (k = 0 ∧ (i = 5 ∨ i = 6)) → kpI I pn u k i = I k i := fun k i a b => by
    unfold kpI
    rw [si_eq, if_neg (by omega), si_eq, if_neg (by omega), cSt_n a]
  have hpst : ∀ k, 75 ≤ k → k < 189 → I3 k = kpI I pn u k := fun k a b => by
    funext i
    rw [q3 k i (Or.inr ⟨by unfold wkS; omega, by omega⟩), q1 k i (by omega)]
  have hN : St I 1 (I 191) B := h1
  have hnew : St I3 (75 + 19 * pn) (I 191) B' := by
    have e := hN.cp (b := 75 + 19 * pn) (c := 1) (by omega)
    refine e.keep (fun k a b => ?_) ?_ (fun _ _ => rfl) qB
    · rw [hpst k (by omega) (by omega)]
      unfold kpI
      rw [si_n (by omega), si_n (by omega)]
    · rw [hpst _ (by omega) (by omega)]
      unfold kpI
      rw [si_n (by omega), si_n (by omega)]
  have hold : ∀ m r, m < 6 → m ≠ pn → ∀ r', (∀ j, j < 457 → r' j = r j) → St I (75 + 19 * m) r B → St I3 (75 + 19 * m) r' B' := fun m r hm hne r' hr hs => by
    refine hs.keep (fun k a b => ?_) ?_ hr qB
    · funext i
      rw [hpst k (by omega) (by omega)]
      exact hK k i (by omega) (by omega)
    · rw [hpst _ (by omega) (by omega)]
      exact hK _ _ (by omega) (by omega)
  generalize hJ : wR (si (vR I3 (kpP I3 u)) 189 18 (nI (unx u))) F = J
  have j191 : J 191 = F := by rw [← hJ]; exact w_191 _ _
  have j193 : J 193 = kpP I3 u := by rw [← hJ, w_n (by decide), si_n (by decide)]; exact vR_193 _ _
  have jn : ∀ k i, k ≠ 191 → k ≠ 193 → ¬ (k = 189 ∧ i = 18) → J k i = I3 k i := fun k i a b c => by
    rw [← hJ, w_n a, si_eq, if_neg c, vR_n b]
  have j18 : J 189 18 = nI (unx u) := by rw [← hJ, w_n (by decide), si_s]
  have jf : ∀ k, k ≠ 191 → k ≠ 193 → k ≠ 189 → J k = I3 k := fun k a b c => by funext i; exact jn k i a b (fun z => c z.1)
  refine ⟨⟨?_, ⟨?_, ?_⟩, unx u, pnx pn, unx_le hu, pnx_lt hpn, ?_, ?_, j18, ?_⟩, ?_⟩
  · rw [j191]
    refine q2.keep (fun k a b => ?_) ?_ (fun _ _ => rfl) (Nat.le_refl _)
    · rw [jf k (by omega) (by omega) (by omega)]
      funext i
      exact q3 k i (Or.inr ⟨by unfold wkS; omega, by omega⟩)
    · rw [jn 1 5 (by omega) (by omega) (by omega)]
      exact q3 1 5 (Or.inr ⟨by unfold wkS; omega, by omega⟩)
  · rw [jn 0 3 (by omega) (by omega) (by omega), jn 189 19 (by omega) (by omega) (by omega), q3 0 3 (Or.inr ⟨by unfold wkS; omega, by omega⟩), q3 189 19 (Or.inr ⟨by unfold wkS; omega, by omega⟩), q1 0 3 (by omega), q1 189 19 (by omega), hK 0 3 (by omega) (by omega), hK 189 19 (by omega) (by omega)]
    exact h2
  · rw [jn 189 19 (by omega) (by omega) (by omega), q3 189 19 (Or.inr ⟨by unfold wkS; omega, by omega⟩), q1 189 19 (by omega), hK 189 19 (by omega) (by omega)]
    rcases h3 with z | z
    · exact Or.inl z
    · refine Or.inr ⟨z.1, z.2.keep (fun k a b => ?_) ?_ (fun i _ => ?_) qB⟩
      · funext i
        rw [jn k i (by omega) (by omega) (by omega), q3 k i (Or.inr ⟨by unfold wkS; omega, by omega⟩), q1 k i (by omega)]
        exact hK k i (by omega) (by omega)
      · rw [jn 39 5 (by omega) (by omega) (by omega), q3 39 5 (Or.inr ⟨by unfold wkS; omega, by omega⟩), q1 39 5 (by omega)]
        exact hK 39 5 (by omega) (by omega)
      · rw [jn 192 i (by omega) (by omega) (by omega), q3 192 i (Or.inr ⟨by unfold wkS; omega, by omega⟩), q1 192 i (by omega)]
        exact hK 192 i (by omega) (by omega)
  · rw [jn 0 5 (by omega) (by omega) (by omega), q3 0 5 (Or.inr ⟨by unfold wkS; omega, by omega⟩), q1 0 5 (by omega)]
    unfold kpI
    rw [si_m (by decide), si_s]
  · rw [jn 0 6 (by omega) (by omega) (by omega), q3 0 6 (Or.inr ⟨by unfold wkS; omega, by omega⟩), q1 0 6 (by omega)]
    unfold kpI
    rw [si_s]
  · have i193 : ∀ i, I3 193 i = I 193 i := fun i => by
      rw [q3 193 i (Or.inr ⟨by unfold wkS; omega, by omega⟩), q1 193 i (by omega)]
      exact hK 193 i (by omega) (by omega)
    have push : ∀ b r, b + 16 ≤ 189 → 75 ≤ b → St I3 b r B' → ∀ r', (∀ j, j < 457 → r' j = r j) → St J b r' B' := fun b r hb hb2 hs r' hr => by
      refine hs.keep (fun k a c => jf k (by omega) (by omega) (by omega)) (jn b 5 (by omega) (by omega) (by omega)) hr (Nat.le_refl _)
    intro j hj
    rw [j193]
    by_cases h9 : u = 6
    · subst h9
      rw [show unx 6 = 6 from rfl] at hj ⊢
      by_cases hj5 : j = 5
      · subst hj5
        rw [pn_d hpn]
        exact push _ _ (by omega) (by omega) hnew _ (fun k hk => by rw [kp_6h I3 hk]; exact q4 k hk)
      · obtain ⟨e1, e2⟩ := pn_c (j := j) hpn (by omega)
        have hm : (pnx pn + 6 - 6 + j) % 6 < 6 := Nat.mod_lt _ (by decide)
        have h8 := h8 (j + 1) (by omega)
        rw [← e1] at h8
        exact push _ _ (by omega) (by omega) (hold _ _ hm e2 _ (fun _ _ => rfl) h8) _ (fun k hk => by rw [kp_6l I3 (by omega) hk]; exact i193 _)
    · have hx : unx u = u + 1 := if_neg h9
      by_cases hju : j = u
      · subst hju
        rw [pn_b hpn (by omega)]
        exact push _ _ (by omega) (by omega) hnew _ (fun k hk => by rw [kp_hi I3 (by omega) hk]; exact q4 k hk)
      · obtain ⟨e1, e2⟩ := pn_a (j := j) (u := u) hpn (by omega) (by omega)
        have hm : (pn + 6 - u + j) % 6 < 6 := Nat.mod_lt _ (by decide)
        rw [e1]
        exact push _ _ (by omega) (by omega) (hold _ _ hm e2 _ (fun _ _ => rfl) (h8 j (by omega))) _ (fun k hk => by rw [kp_lo I3 (by omega) (by omega) hk]; exact i193 _)
  · refine WX_keep hX (fun k i z => ?_)
    have z2 := z
    unfold wkX at z
    rw [jn k i (by omega) (by omega) (by omega), q3 k i (Or.inl z2), q1 k i (by omega)]
    exact hK k i (by omega) (by omega)
