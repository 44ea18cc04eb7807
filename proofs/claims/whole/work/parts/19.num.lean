/-! ===== numbers ===== -/
theorem nL_lt (a b : Nat) : (nI (@OfNat.ofNat Nat a (instOfNatNat a)) < nI (@OfNat.ofNat Nat b (instOfNatNat b))) = ((a : Int).bmod 4294967296 < (b : Int).bmod 4294967296) := by
  apply propext
  show Int32.ofNat a < Int32.ofNat b ↔ _
  rw [Int32.lt_iff_toInt_lt, Int32.toInt_ofNat', Int32.toInt_ofNat']
theorem nL_le (a b : Nat) : (nI (@OfNat.ofNat Nat a (instOfNatNat a)) ≤ nI (@OfNat.ofNat Nat b (instOfNatNat b))) = ((a : Int).bmod 4294967296 ≤ (b : Int).bmod 4294967296) := by
  apply propext
  show Int32.ofNat a ≤ Int32.ofNat b ↔ _
  rw [Int32.le_iff_toInt_le, Int32.toInt_ofNat', Int32.toInt_ofNat']
/-- a truth as an int -/
def bI (P : Prop) [Decidable P] : Int32 := if P then nI 1 else nI 0
theorem bI_1 : (nI 1 = nI 0) = False := by decide
theorem bI_0 (P : Prop) [Decidable P] : (bI P = nI 0) = ¬ P := by
  unfold bI
  by_cases h : P <;> simp [h, bI_1]
theorem bI_n (P : Prop) [Decidable P] : (¬ bI P = nI 0) = P := by rw [bI_0]; simp
theorem v_robb (P : Prop) [Decidable P] : eRetOK (some .boolean) (some (.int (bI P))) = true := by
  unfold bI
  by_cases h : P <;> simp [h] <;> rfl
theorem bI_if (P : Prop) [Decidable P] (m : eMem) : (if P then (some (.inl (some (.int (nI 1))), m) : Option ((Option Value ⊕ String) × eMem)) else some (.inl (some (.int (nI 0))), m)) = some (.inl (some (.int (bI P))), m) := by
  unfold bI
  split <;> rfl
theorem bI_ifn (P : Prop) [Decidable P] (m : eMem) : (if P then (some (.inl (some (.int (nI 0))), m) : Option ((Option Value ⊕ String) × eMem)) else some (.inl (some (.int (nI 1))), m)) = some (.inl (some (.int (bI (¬ P)))), m) := by
  unfold bI
  by_cases h : P <;> simp [h]
theorem nI_n0 {p : Nat} (h : p < 2147483648) : (nI p < nI 0) = False := by simp only [nI_ltI h (show 0 < 2 ^ 31 by decide)]; simp
/-! loops -/
theorem eLoop_go {h : Nat} {d : eSt → eRes} (f : Nat → eSt) (N : Nat) (hs : ∀ i, i < N → d (f i) = some (some (.inl h), f (i + 1))) {r : eRes} (he : d (f N) = r) (hr : ∀ σ, r ≠ some (some (.inl h), σ)) : ∀ n k, N - k < n → k ≤ N → eLoop n h d (f k) = r := by
  intro n
  induction n with
  | zero => intro k hk; omega
  | succ n ih =>
    intro k hk hle
    unfold eLoop
    by_cases hN : k = N
    · subst hN
      rw [he]
      split
      · rename_i T σ1 _
        split
        · rename_i hT
          subst hT
          exact absurd rfl (hr σ1)
        · rfl
      · rfl
    · rw [hs k (by omega)]
      dsimp only
      rw [if_pos rfl]
      exact ih (k + 1) (by omega) (by omega)
theorem eLoop_run {h : Nat} {d : eSt → eRes} (f : Nat → eSt) (N : Nat) (hN : N < 4294967296) (hs : ∀ i, i < N → d (f i) = some (some (.inl h), f (i + 1))) {σ : eSt} (he : d (f N) = some (none, σ)) : eLoop eFuel h d (f 0) = some (none, σ) :=
  eLoop_go f N hs he (fun σ' z => by cases z) eFuel 0 (by unfold eFuel; omega) (Nat.zero_le _)
theorem eLoop_ret {h : Nat} {d : eSt → eRes} (f : Nat → eSt) (N : Nat) (hN : N < 4294967296) (hs : ∀ i, i < N → d (f i) = some (some (.inl h), f (i + 1))) {z : Option Value ⊕ String} {σ : eSt} (he : d (f N) = some (some (.inr z), σ)) : eLoop eFuel h d (f 0) = some (some (.inr z), σ) :=
  eLoop_go f N hs he (fun σ' z => by cases z) eFuel 0 (by unfold eFuel; omega) (Nat.zero_le _)
theorem eLoop_out {h T : Nat} (hT : T ≠ h) {d : eSt → eRes} (f : Nat → eSt) (N : Nat) (hN : N < 4294967296) (hs : ∀ i, i < N → d (f i) = some (some (.inl h), f (i + 1))) {σ : eSt} (he : d (f N) = some (some (.inl T), σ)) : eLoop eFuel h d (f 0) = some (some (.inl T), σ) :=
  eLoop_go f N hs he (fun σ' z => by cases z; exact hT rfl) eFuel 0 (by unfold eFuel; omega) (Nat.zero_le _)
/-! objects of which the shape is known -/
theorem N_g {o q n : Nat} (h : eShp o = (q, n)) (hq : 50 ≤ q ∧ q < 55) (ho : o < 213) {sx : eSx} (pc : Nat) (lv st : List Value) (t : Nat × Nat × Bool) (I : Nat → Nat → Int32) (L : Nat → Nat → Int64) (V : Nat → Option Nat) : eDen (sx := sx) (p_alen pc) (lv, .ref o :: st, mM t I L V) = some (none, (lv, .int (nI n) :: st, mM t I L V)) := by
  show Option.map _ (if o < 213 ∧ 50 ≤ (eShp o).1 ∧ (eShp o).1 < 55 then _ else none) = _
  rw [if_pos ⟨ho, by rw [h]; exact hq.1, by rw [h]; exact hq.2⟩, h]
  rfl
theorem A_g {o n : Nat} (h : eShp o = (50, n)) (ho : o < 213) {sx : eSx} (pc : Nat) (lv st : List Value) (t : Nat × Nat × Bool) (I : Nat → Nat → Int32) (L : Nat → Nat → Int64) (V : Nat → Option Nat) (i : Int32) : eDen (sx := sx) (p_iald pc) (lv, .int i :: .ref o :: st, mM t I L V) = vLd (eIx i n) (fun j => .int (I o j)) lv st (mM t I L V) := by
  show Option.map _ (if o < 213 ∧ (eShp o).1 = 50 then _ else none) = _
  rw [if_pos ⟨ho, by rw [h]⟩, h]
  dsimp only
  cases eIx i n <;> rfl
theorem S_g {o n : Nat} (h : eShp o = (50, n)) (ho : o < 213) {sx : eSx} (pc : Nat) (lv st : List Value) (t : Nat × Nat × Bool) (I : Nat → Nat → Int32) (L : Nat → Nat → Int64) (V : Nat → Option Nat) (i x : Int32) : eDen (sx := sx) (p_iast pc) (lv, .int x :: .int i :: .ref o :: st, mM t I L V) = vSt (eIx i n) (fun j => mM t (si I o j x) L V) lv st := by
  show Option.map _ (if o < 213 ∧ (eShp o).1 = 50 then _ else none) = _
  rw [if_pos ⟨ho, by rw [h]⟩, h]
  dsimp only
  cases eIx i n <;> rfl
def cpy (I : Nat → Nat → Int32) (a b n : Nat) : Nat → Nat → Int32 := fun k i => if k = b ∧ i < n then I a i else I k i
theorem cpy_0 (I : Nat → Nat → Int32) (a b : Nat) : cpy I a b 0 = I := by funext k i; simp [cpy]
theorem cpy_s (I : Nat → Nat → Int32) {a b : Nat} (hab : a ≠ b) (n : Nat) : si (cpy I a b n) b n (I a n) = cpy I a b (n + 1) := by
  funext k i
  rw [si_eq]
  unfold cpy
  by_cases hk : k = b
  · subst hk
    by_cases hi : i = n
    · subst hi; simp
    · by_cases hin : i < n
      · simp [hi, hin, show i < n + 1 by omega]
      · simp [hi, hin, show ¬ i < n + 1 by omega]
  · simp [hk]
theorem cpy_a (I : Nat → Nat → Int32) {a b : Nat} (hab : a ≠ b) (n i : Nat) : cpy I a b n a i = I a i := by unfold cpy; simp [hab]
theorem cpy_k (I : Nat → Nat → Int32) {a b k : Nat} (h : k ≠ b) (n : Nat) : cpy I a b n k = I k := by funext i; unfold cpy; simp [h]
theorem cpy_b (I : Nat → Nat → Int32) {a b n i : Nat} (h : i < n) : cpy I a b n b i = I a i := by unfold cpy; simp [h]
