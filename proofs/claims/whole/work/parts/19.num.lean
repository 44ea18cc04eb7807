/-! ===== numbers ===== -/
theorem nL_lt (a b : Nat) : (nI (@OfNat.ofNat Nat a (instOfNatNat a)) < nI (@OfNat.ofNat Nat b (instOfNatNat b))) = ((a : Int).bmod 4294967296 < (b : Int).bmod 4294967296) := by
  apply propext
  show Int32.ofNat a < Int32.ofNat b ↔ _
  rw [Int32.lt_iff_toInt_lt, Int32.toInt_ofNat', Int32.toInt_ofNat']
theorem nL_le (a b : Nat) : (nI (@OfNat.ofNat Nat a (instOfNatNat a)) ≤ nI (@OfNat.ofNat Nat b (instOfNatNat b))) = ((a : Int).bmod 4294967296 ≤ (b : Int).bmod 4294967296) := by
  apply propext
  show Int32.ofNat a ≤ Int32.ofNat b ↔ _
  rw [Int32.le_iff_toInt_le, Int32.toInt_ofNat', Int32.toInt_ofNat']
/-- a truth as an int -/
def bI (P : Prop) [Decidable P] : Int32 := if P then nI 1 else nI 0
theorem bI_1 : (nI 1 = nI 0) = False := by decide
theorem bI_0 (P : Prop) [Decidable P] : (bI P = nI 0) = ¬ P := by
  unfold bI
  by_cases h : P <;> simp [h, bI_1]
theorem bI_n (P : Prop) [Decidable P] : (¬ bI P = nI 0) = P := by rw [bI_0]; simp
theorem v_robb (P : Prop) [Decidable P] : eRetOK (some .boolean) (some (.int (bI P))) = true := by
  unfold bI
  by_cases h : P <;> simp [h] <;> rfl
theorem bI_if (P : Prop) [Decidable P] (m : eMem) : (if P then (some (.inl (some (.int (nI 1))), m) : Option ((Option Value ⊕ String) × eMem)) else some (.inl (some (.int (nI 0))), m)) = some (.inl (some (.int (bI P))), m) := by
  unfold bI
  split <;> rfl
theorem bI_ifn (P : Prop) [Decidable P] (m : eMem) : (if P then (some (.inl (some (.int (nI 0))), m) : Option ((Option Value ⊕ String) × eMem)) else some (.inl (some (.int (nI 1))), m)) = some (.inl (some (.int (bI (¬ P)))), m) := by
  unfold bI
  by_cases h : P <;> simp [h]
theorem nI_n0 {p : Nat} (h : p < 2147483648) : (nI p < nI 0) = False := by simp only [nI_ltI h (show 0 < 2 ^ 31 by decide)]; simp
/-! loops -/
theorem eLoop_go {h : Nat} {d : eSt → eRes} (f : Nat → eSt) (N : Nat) (hs : ∀ i, i < N → d (f i) = some (some (.inl h), f (i + 1))) {r : eRes} (he : d (f N) = r) (hr : ∀ σ, r ≠ some (some (.inl h), σ)) : ∀ n k, N - k < n → k ≤ N → eLoop n h d (f k) = r := by
  intro n
  induction n with
  | zero => intro k hk; omega
  | succ n ih =>
    intro k hk hle
    unfold eLoop
    by_cases hN : k = N
    · subst hN
      rw [he]
      cases r with
      | none => rfl
      | some q =>
        obtain ⟨o, σ1⟩ := q
        cases o with
        | none => rfl
        | some z =>
          cases z with
          | inr z => rfl
          | inl T =>
            dsimp only
            by_cases hT : T = h
            · subst hT
              exact absurd rfl (hr σ1)
            · rw [if_neg hT]
    · rw [hs k (by omega)]
      dsimp only
      rw [if_pos rfl]
      exact ih (k + 1) (by omega) (by omega)
theorem eLoop_run {h : Nat} {d : eSt → eRes} (f : Nat → eSt) (N : Nat) (hN : N < 4294967296) (hs : ∀ i, i < N → d (f i) = some (some (.inl h), f (i + 1))) {σ : eSt} (he : d (f N) = some (none, σ)) : eLoop eFuel h d (f 0) = some (none, σ) :=
  eLoop_go f N hs he (fun σ' z => by cases z) eFuel 0 (by unfold eFuel; omega) (Nat.zero_le _)
theorem eLoop_ret {h : Nat} {d : eSt → eRes} (f : Nat → eSt) (N : Nat) (hN : N < 4294967296) (hs : ∀ i, i < N → d (f i) = some (some (.inl h), f (i + 1))) {z : Option Value ⊕ String} {σ : eSt} (he : d (f N) = some (some (.inr z), σ)) : eLoop eFuel h d (f 0) = some (some (.inr z), σ) :=
  eLoop_go f N hs he (fun σ' z => by cases z) eFuel 0 (by unfold eFuel; omega) (Nat.zero_le _)
theorem eLoop_out {h T : Nat} (hT : T ≠ h) {d : eSt → eRes} (f : Nat → eSt) (N : Nat) (hN : N < 4294967296) (hs : ∀ i, i < N → d (f i) = some (some (.inl h), f (i + 1))) {σ : eSt} (he : d (f N) = some (some (.inl T), σ)) : eLoop eFuel h d (f 0) = some (some (.inl T), σ) :=
  eLoop_go f N hs he (fun σ' z => by cases z; exact hT rfl) eFuel 0 (by unfold eFuel; omega) (Nat.zero_le _)
theorem eLoop_r {h : Nat} {d : eSt → eRes} (f : Nat → eSt) (N : Nat) {σ0 σ : eSt} (h0 : f 0 = σ0) (hN : N < 4294967296) (hs : ∀ i, i < N → d (f i) = some (some (.inl h), f (i + 1))) (he : d (f N) = some (none, σ)) : eLoop eFuel h d σ0 = some (none, σ) := by
  rw [← h0]; exact eLoop_run f N hN hs he
theorem eLoop_rr {h : Nat} {d : eSt → eRes} (f : Nat → eSt) (N : Nat) {σ0 σ : eSt} {z : Option Value ⊕ String} (h0 : f 0 = σ0) (hN : N < 4294967296) (hs : ∀ i, i < N → d (f i) = some (some (.inl h), f (i + 1))) (he : d (f N) = some (some (.inr z), σ)) : eLoop eFuel h d σ0 = some (some (.inr z), σ) := by
  rw [← h0]; exact eLoop_ret f N hN hs he
theorem eLoop_ro {h T : Nat} (hT : T ≠ h) {d : eSt → eRes} (f : Nat → eSt) (N : Nat) {σ0 σ : eSt} (h0 : f 0 = σ0) (hN : N < 4294967296) (hs : ∀ i, i < N → d (f i) = some (some (.inl h), f (i + 1))) (he : d (f N) = some (some (.inl T), σ)) : eLoop eFuel h d σ0 = some (some (.inl T), σ) := by
  rw [← h0]; exact eLoop_out hT f N hN hs he
def rim (L : Nat → Nat → Int64) (a b : Int64) : Nat → Nat → Int64 := sl (sl L 189 24 a) 189 25 b
theorem rim_f (L : Nat → Nat → Int64) (a b : Int64) : sl (sl L 189 24 a) 189 25 b = rim L a b := rfl
theorem rim_24 (L : Nat → Nat → Int64) (a b c : Int64) : sl (rim L a b) 189 24 c = rim L c b := by
  unfold rim
  funext k i
  simp only [sl_eq]
  by_cases h1 : k = 189 <;> by_cases h2 : i = 24 <;> by_cases h3 : i = 25 <;> simp [h1, h2, h3]
theorem rim_25 (L : Nat → Nat → Int64) (a b c : Int64) : sl (rim L a b) 189 25 c = rim L a c := by
  unfold rim
  funext k i
  simp only [sl_eq]
  by_cases h1 : k = 189 <;> by_cases h2 : i = 24 <;> by_cases h3 : i = 25 <;> simp [h1, h2, h3]
theorem rim_a (L : Nat → Nat → Int64) (a b : Int64) : rim L a b 189 24 = a := by unfold rim; simp [sl_eq]
theorem rim_b (L : Nat → Nat → Int64) (a b : Int64) : rim L a b 189 25 = b := by unfold rim; simp [sl_eq]
theorem rim_n {L : Nat → Nat → Int64} {a b : Int64} {k : Nat} (h : k ≠ 189) : rim L a b k = L k := by unfold rim; rw [sl_n h, sl_n h]
theorem rim_r (L : Nat → Nat → Int64) (a b c d : Int64) : rim (rim L a b) c d = rim L c d := by
  show sl (sl (rim L a b) 189 24 c) 189 25 d = _
  rw [rim_24, rim_25]
theorem eLoop_inv {h : Nat} {d : eSt → eRes} {Inv : Nat → eSt → Prop} {Post : eRes → Prop} (hp : ∀ σ, ¬ Post (some (some (.inl h), σ))) (H : ∀ k σ, Inv k σ → (∃ k' σ', k' < k ∧ d σ = some (some (.inl h), σ') ∧ Inv k' σ') ∨ ∃ r, d σ = r ∧ Post r) : ∀ fuel k σ, Inv k σ → k < fuel → ∃ r, eLoop fuel h d σ = r ∧ Post r := by
  intro fuel
  induction fuel with
  | zero => intro k σ _ hk; omega
  | succ fuel ih =>
    intro k σ hi hk
    rcases H k σ hi with ⟨k', σ', h1, h2, h3⟩ | ⟨r, h1, h2⟩
    · obtain ⟨r, h4, h5⟩ := ih k' σ' h3 (by omega)
      refine ⟨r, ?_, h5⟩
      unfold eLoop
      rw [h2]
      dsimp only
      rw [if_pos rfl]
      exact h4
    · refine ⟨r, ?_, h2⟩
      unfold eLoop
      rw [h1]
      cases r with
      | none => rfl
      | some q =>
        obtain ⟨o, σ1⟩ := q
        cases o with
        | none => rfl
        | some z =>
          cases z with
          | inr z => rfl
          | inl T =>
            dsimp only
            by_cases hT : T = h
            · subst hT
              exact absurd h2 (hp σ1)
            · rw [if_neg hT]
theorem eLoop_i {h : Nat} {d : eSt → eRes} (Inv : Nat → eSt → Prop) (Post : eRes → Prop) (hp : ∀ σ, ¬ Post (some (some (.inl h), σ))) (H : ∀ k σ, Inv k σ → (∃ k' σ', k' < k ∧ d σ = some (some (.inl h), σ') ∧ Inv k' σ') ∨ ∃ r, d σ = r ∧ Post r) (k : Nat) (σ : eSt) (hi : Inv k σ) (hk : k < 4294967296) : ∃ r, eLoop eFuel h d σ = r ∧ Post r :=
  eLoop_inv hp H eFuel k σ hi (by unfold eFuel; exact hk)
/-! objects of which the shape is known -/
theorem N_g {o q n : Nat} (h : eShp o = (q, n)) (hq : 50 ≤ q ∧ q < 55) (ho : o < 213) {sx : eSx} (pc : Nat) (lv st : List Value) (t : Nat × Nat × Bool) (I : Nat → Nat → Int32) (L : Nat → Nat → Int64) (V : Nat → Option Nat) : eDen (sx := sx) (p_alen pc) (lv, .ref o :: st, mM t I L V) = some (none, (lv, .int (nI n) :: st, mM t I L V)) := by
  show Option.map _ (if o < 213 ∧ 50 ≤ (eShp o).1 ∧ (eShp o).1 < 55 then _ else none) = _
  rw [if_pos ⟨ho, by rw [h]; exact hq.1, by rw [h]; exact hq.2⟩, h]
  rfl
theorem A_g {o n : Nat} (h : eShp o = (50, n)) (ho : o < 213) {sx : eSx} (pc : Nat) (lv st : List Value) (t : Nat × Nat × Bool) (I : Nat → Nat → Int32) (L : Nat → Nat → Int64) (V : Nat → Option Nat) (i : Int32) : eDen (sx := sx) (p_iald pc) (lv, .int i :: .ref o :: st, mM t I L V) = vLd (eIx i n) (fun j => .int (I o j)) lv st (mM t I L V) := by
  show Option.map _ (if o < 213 ∧ (eShp o).1 = 50 then _ else none) = _
  rw [if_pos ⟨ho, by rw [h]⟩, h]
  dsimp only
  cases eIx i n <;> rfl
theorem S_g {o n : Nat} (h : eShp o = (50, n)) (ho : o < 213) {sx : eSx} (pc : Nat) (lv st : List Value) (t : Nat × Nat × Bool) (I : Nat → Nat → Int32) (L : Nat → Nat → Int64) (V : Nat → Option Nat) (i x : Int32) : eDen (sx := sx) (p_iast pc) (lv, .int x :: .int i :: .ref o :: st, mM t I L V) = vSt (eIx i n) (fun j => mM t (si I o j x) L V) lv st := by
  show Option.map _ (if o < 213 ∧ (eShp o).1 = 50 then _ else none) = _
  rw [if_pos ⟨ho, by rw [h]⟩, h]
  dsimp only
  cases eIx i n <;> rfl
def cpy (I : Nat → Nat → Int32) (a b n : Nat) : Nat → Nat → Int32 := fun k i => if k = b ∧ i < n then I a i else I k i
theorem cpy_0 (I : Nat → Nat → Int32) (a b : Nat) : cpy I a b 0 = I := by funext k i; simp [cpy]
theorem cpy_s (I : Nat → Nat → Int32) {a b : Nat} (hab : a ≠ b) (n : Nat) : si (cpy I a b n) b n (I a n) = cpy I a b (n + 1) := by
  funext k i
  rw [si_eq]
  unfold cpy
  by_cases hk : k = b
  · subst hk
    by_cases hi : i = n
    · subst hi; simp
    · by_cases hin : i < n
      · simp [hi, hin, show i < n + 1 by omega]
      · simp [hi, hin, show ¬ i < n + 1 by omega]
  · simp [hk]
theorem cpy_a (I : Nat → Nat → Int32) {a b : Nat} (hab : a ≠ b) (n i : Nat) : cpy I a b n a i = I a i := by unfold cpy; simp [hab]
theorem cpy_k (I : Nat → Nat → Int32) {a b k : Nat} (h : k ≠ b) (n : Nat) : cpy I a b n k = I k := by funext i; unfold cpy; simp [h]
theorem cpy_b (I : Nat → Nat → Int32) {a b n i : Nat} (h : i < n) : cpy I a b n b i = I a i := by unfold cpy; simp [h]
theorem lc_lt (x y : Int64) : (lg_cmp x y < nI 0) = (x < y) := by
  unfold lg_cmp
  apply propext
  split
  · rename_i h
    constructor
    · intro z; exact absurd z (by decide)
    · intro z; exact absurd z (Int64.lt_asymm h)
  · split
    · rename_i h1 h2
      subst h2
      constructor
      · intro z; exact absurd z (by decide)
      · intro z; exact absurd z (Int64.lt_irrefl)
    · rename_i h1 h2
      constructor
      · intro z; exact Int64.lt_of_le_of_ne (Int64.not_lt.mp h1) h2
      · intro z; decide
theorem lc_gt (x y : Int64) : (nI 0 < lg_cmp x y) = (y < x) := by
  unfold lg_cmp
  apply propext
  split
  · rename_i h
    exact ⟨fun _ => h, fun _ => by decide⟩
  · rename_i h1
    split
    · exact ⟨fun z => absurd z (by decide), fun z => absurd z h1⟩
    · exact ⟨fun z => absurd z (by decide), fun z => absurd z h1⟩
theorem lc_ge (x y : Int64) : (nI 0 ≤ lg_cmp x y) = (y ≤ x) := by
  rw [← Int32.not_lt, lc_lt, Int64.not_lt]
theorem lc_le (x y : Int64) : (lg_cmp x y ≤ nI 0) = (x ≤ y) := by
  rw [← Int32.not_lt, lc_gt, Int64.not_lt]
theorem lc_eq (x y : Int64) : (lg_cmp x y = nI 0) = (x = y) := by
  unfold lg_cmp
  apply propext
  split
  · rename_i h
    refine ⟨fun z => absurd z (by decide), fun z => ?_⟩
    subst z
    exact absurd h Int64.lt_irrefl
  · split
    · rename_i h2
      exact ⟨fun _ => h2, fun _ => rfl⟩
    · rename_i h2
      exact ⟨fun z => absurd z (by decide), fun z => absurd z h2⟩
theorem i2l_lt (x y : Int32) : (x.toInt64 < y.toInt64) = (x < y) := by
  rw [Int64.lt_iff_toInt_lt, Int32.lt_iff_toInt_lt, Int32.toInt_toInt64, Int32.toInt_toInt64]
theorem i2l_le (x y : Int32) : (x.toInt64 ≤ y.toInt64) = (x ≤ y) := by
  rw [Int64.le_iff_toInt_le, Int32.le_iff_toInt_le, Int32.toInt_toInt64, Int32.toInt_toInt64]

theorem bI_a1 (a : Prop) [Decidable a] (m : eMem) : (if a then (some (.inl (some (.int (nI 0))), m) : Option ((Option Value ⊕ String) × eMem)) else some (.inl (some (.int (nI 1))), m)) = some (.inl (some (.int (bI (¬ a)))), m) := by
  unfold bI
  by_cases h : a <;> simp [h]
theorem bI_a2 (a b : Prop) [Decidable a] [Decidable b] (m : eMem) : (if a then (some (.inl (some (.int (nI 0))), m) : Option ((Option Value ⊕ String) × eMem)) else if b then some (.inl (some (.int (nI 0))), m) else some (.inl (some (.int (nI 1))), m)) = some (.inl (some (.int (bI (¬ a ∧ ¬ b)))), m) := by
  unfold bI
  by_cases h : a <;> by_cases h2 : b <;> simp [h, h2]
theorem bI_a3 (a b c : Prop) [Decidable a] [Decidable b] [Decidable c] (m : eMem) : (if a then (some (.inl (some (.int (nI 0))), m) : Option ((Option Value ⊕ String) × eMem)) else if b then some (.inl (some (.int (nI 0))), m) else if c then some (.inl (some (.int (nI 0))), m) else some (.inl (some (.int (nI 1))), m)) = some (.inl (some (.int (bI (¬ a ∧ ¬ b ∧ ¬ c)))), m) := by
  unfold bI
  by_cases h : a <;> by_cases h2 : b <;> by_cases h3 : c <;> simp [h, h2, h3]
theorem bI_a4 (a b c d : Prop) [Decidable a] [Decidable b] [Decidable c] [Decidable d] (m : eMem) : (if a then (some (.inl (some (.int (nI 0))), m) : Option ((Option Value ⊕ String) × eMem)) else if b then some (.inl (some (.int (nI 0))), m) else if c then some (.inl (some (.int (nI 0))), m) else if d then some (.inl (some (.int (nI 0))), m) else some (.inl (some (.int (nI 1))), m)) = some (.inl (some (.int (bI (¬ a ∧ ¬ b ∧ ¬ c ∧ ¬ d)))), m) := by
  unfold bI
  by_cases h : a <;> by_cases h2 : b <;> by_cases h3 : c <;> by_cases h4 : d <;> simp [h, h2, h3, h4]
theorem i_dn (a : Int32) (j : Nat) : a - nI j + -nI 1 = a - nI (j + 1) := by
  show a - nI j + -1 = a - nI (j + 1)
  rw [nI_succ]
  generalize nI j = b
  grind
theorem i_m1 (m : Nat) : nI m - nI (m + 1) = -1 := by
  rw [nI_succ]
  generalize nI m = b
  grind
