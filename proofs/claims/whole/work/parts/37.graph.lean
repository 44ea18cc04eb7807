/-! ===== clusters: the closure, and labels that sink ===== -/
def fw (A : Nat → Nat → Bool) : Nat → Nat → Nat → Bool
  | 0, p, q => A p q
  | k + 1, p, q => fw A k p q || (fw A k p k && fw A k k q)
def gOk (A : Nat → Nat → Bool) : Prop := (∀ p, A p p = true) ∧ ∀ p q, A p q = A q p
theorem fw_rf {A : Nat → Nat → Bool} (h : gOk A) : ∀ k p, fw A k p p = true := by
  intro k
  induction k with
  | zero => exact h.1
  | succ k ih => intro p; unfold fw; rw [ih p]; rfl
theorem fw_sy {A : Nat → Nat → Bool} (h : gOk A) : ∀ k p q, fw A k p q = fw A k q p := by
  intro k
  induction k with
  | zero => exact h.2
  | succ k ih =>
    intro p q
    unfold fw
    rw [ih p q, ih p k, ih k q, Bool.and_comm]
theorem fw_up {A : Nat → Nat → Bool} {k p q : Nat} (h : fw A k p q = true) : fw A (k + 1) p q = true := by unfold fw; rw [h]; rfl
theorem fw_A {A : Nat → Nat → Bool} {p q : Nat} (h : A p q = true) : ∀ k, fw A k p q = true := by
  intro k
  induction k with
  | zero => exact h
  | succ k ih => exact fw_up ih
theorem fw_tr {A : Nat → Nat → Bool} (h : gOk A) : ∀ k r p q, r < k → fw A k p r = true → fw A k r q = true → fw A k p q = true := by
  intro k
  induction k with
  | zero => intro r p q hr; omega
  | succ k ih =>
    intro r p q hr h1 h2
    have key : fw A k p k = true → fw A k k q = true → fw A (k + 1) p q = true := fun a b => by unfold fw; rw [a, b]; simp
    unfold fw at h1 h2
    simp only [Bool.or_eq_true, Bool.and_eq_true] at h1 h2
    by_cases hk : r = k
    · subst hk
      refine key ?_ ?_
      · rcases h1 with z | z
        · exact z
        · exact z.1
      · rcases h2 with z | z
        · exact z
        · exact z.2
    · have hr2 : r < k := by omega
      rcases h1 with a | a <;> rcases h2 with b | b
      · exact fw_up (ih r p q hr2 a b)
      · exact key (ih r p k hr2 a b.1) b.2
      · exact key a.1 (ih r k q hr2 a.2 b)
      · exact key a.1 b.2
/-- whatever is closed under A is closed under the closure -/
theorem fw_cl {A : Nat → Nat → Bool} {n : Nat} {S : Nat → Prop} (hS : ∀ p q, p < n → q < n → A p q = true → S p → S q) : ∀ k, k ≤ n → ∀ p q, p < n → q < n → fw A k p q = true → S p → S q := by
  intro k
  induction k with
  | zero => intro _ p q hp hq h; exact hS p q hp hq h
  | succ k ih =>
    intro hk p q hp hq h hs
    unfold fw at h
    simp only [Bool.or_eq_true, Bool.and_eq_true] at h
    rcases h with z | z
    · exact ih (by omega) p q hp hq z hs
    · exact ih (by omega) k q (by omega) hq z.2 (ih (by omega) p k hp (by omega) z.1 hs)
/-! labels -/
def lstep (A : Nat → Nat → Bool) (p q : Nat) (lb : Nat → Nat) : Nat → Nat := if A p q = true ∧ lb q < lb p then va_up lb p (lb q) else lb
def lq (A : Nat → Nat → Bool) (p : Nat) (lb : Nat → Nat) : Nat → Nat → Nat
  | 0 => lb
  | q + 1 => lstep A p q (lq A p lb q)
def lp (A : Nat → Nat → Bool) (n : Nat) (lb : Nat → Nat) : Nat → Nat → Nat
  | 0 => lb
  | p + 1 => lq A p (lp A n lb p) n
def llap (A : Nat → Nat → Bool) (n : Nat) : Nat → Nat → Nat
  | 0 => fun p => p
  | k + 1 => lp A n (llap A n k) n
theorem lstep_le (A : Nat → Nat → Bool) (p q : Nat) (lb : Nat → Nat) (x : Nat) : lstep A p q lb x ≤ lb x := by
  unfold lstep
  split
  · rename_i h
    unfold va_up
    split
    · rename_i h2; subst h2; omega
    · exact Nat.le_refl _
  · exact Nat.le_refl _
theorem lstep_pq {A : Nat → Nat → Bool} {p q : Nat} {lb : Nat → Nat} (h : A p q = true) : lstep A p q lb p ≤ lb q := by
  unfold lstep
  by_cases h2 : lb q < lb p
  · rw [if_pos ⟨h, h2⟩]
    unfold va_up
    rw [if_pos rfl]
    exact Nat.le_refl _
  · rw [if_neg (fun z => h2 z.2)]
    omega
theorem lq_le (A : Nat → Nat → Bool) (p : Nat) (lb : Nat → Nat) (x : Nat) : ∀ q, lq A p lb q x ≤ lb x := by
  intro q
  induction q with
  | zero => exact Nat.le_refl _
  | succ q ih => exact Nat.le_trans (lstep_le _ _ _ _ _) ih
theorem lq_mono (A : Nat → Nat → Bool) (p : Nat) (lb : Nat → Nat) (x : Nat) : ∀ q q', q ≤ q' → lq A p lb q' x ≤ lq A p lb q x := by
  intro q q' h
  induction h with
  | refl => exact Nat.le_refl _
  | step _ ih => exact Nat.le_trans (lstep_le _ _ _ _ _) ih
theorem lp_mono (A : Nat → Nat → Bool) (n : Nat) (lb : Nat → Nat) (x : Nat) : ∀ p p', p ≤ p' → lp A n lb p' x ≤ lp A n lb p x := by
  intro q q' h
  induction h with
  | refl => exact Nat.le_refl _
  | step _ ih => exact Nat.le_trans (lq_le _ _ _ _ _) ih
theorem lp_edge {A : Nat → Nat → Bool} {n p q : Nat} (hp : p < n) (hq : q < n) (h : A p q = true) (lb : Nat → Nat) : lp A n lb n p ≤ lb q := by
  have h1 : lp A n lb n p ≤ lp A n lb (p + 1) p := lp_mono A n lb p (p + 1) n hp
  have h2 : lp A n lb (p + 1) p ≤ lq A p (lp A n lb p) (q + 1) p := lq_mono A p _ p (q + 1) n hq
  have h3 : lq A p (lp A n lb p) (q + 1) p ≤ lq A p (lp A n lb p) q q := lstep_pq h
  have h4 : lq A p (lp A n lb p) q q ≤ lp A n lb p q := lq_le _ _ _ _ _
  have h5 : lp A n lb p q ≤ lb q := lp_mono A n lb q 0 p (Nat.zero_le _)
  omega
/-- a label is a point of the class -/
def labIn (A : Nat → Nat → Bool) (n : Nat) (lb : Nat → Nat) : Prop := ∀ x, x < n → lb x < n ∧ fw A n x (lb x) = true
theorem labIn_step {A : Nat → Nat → Bool} (hA : gOk A) {n p q : Nat} (hp : p < n) (hq : q < n) {lb : Nat → Nat} (h : labIn A n lb) : labIn A n (lstep A p q lb) := by
  intro x hx
  unfold lstep
  split
  · rename_i h9
    unfold va_up
    split
    · rename_i e
      subst e
      exact ⟨(h q hq).1, fw_tr hA n q _ _ hq (fw_A h9.1 n) (h q hq).2⟩
    · exact h x hx
  · exact h x hx
theorem labIn_q {A : Nat → Nat → Bool} (hA : gOk A) {n p : Nat} (hp : p < n) {lb : Nat → Nat} (h : labIn A n lb) : ∀ q, q ≤ n → labIn A n (lq A p lb q) := by
  intro q
  induction q with
  | zero => intro _; exact h
  | succ q ih => intro hq; exact labIn_step hA hp hq (ih (by omega))
theorem labIn_p {A : Nat → Nat → Bool} (hA : gOk A) {n : Nat} {lb : Nat → Nat} (h : labIn A n lb) : ∀ p, p ≤ n → labIn A n (lp A n lb p) := by
  intro p
  induction p with
  | zero => intro _; exact h
  | succ p ih => intro hp; exact labIn_q hA hp (ih (by omega)) n (Nat.le_refl n)
theorem labIn_lap {A : Nat → Nat → Bool} (hA : gOk A) (n : Nat) : ∀ k, labIn A n (llap A n k) := by
  intro k
  induction k with
  | zero => intro x hx; exact ⟨hx, fw_rf hA n x⟩
  | succ k ih => exact labIn_p hA ih n (Nat.le_refl n)
def cnt (f : Nat → Bool) : Nat → Nat
  | 0 => 0
  | n + 1 => cnt f n + (if f n = true then 1 else 0)
theorem cnt_le (f : Nat → Bool) : ∀ n, cnt f n ≤ n := by
  intro n
  induction n with
  | zero => exact Nat.le_refl _
  | succ n ih => unfold cnt; split <;> omega
theorem cnt_mono {f g : Nat → Bool} : ∀ n, (∀ x, x < n → f x = true → g x = true) → cnt f n ≤ cnt g n := by
  intro n
  induction n with
  | zero => intro _; exact Nat.le_refl _
  | succ n ih =>
    intro h
    have h1 := ih (fun x hx => h x (by omega))
    unfold cnt
    by_cases hf : f n = true
    · rw [if_pos hf, if_pos (h n (by omega) hf)]; omega
    · rw [if_neg hf]; split <;> omega
theorem cnt_lt {f g : Nat → Bool} : ∀ n, (∀ x, x < n → f x = true → g x = true) → ∀ b, b < n → g b = true → f b = false → cnt f n + 1 ≤ cnt g n := by
  intro n
  induction n with
  | zero => intro _ b hb; omega
  | succ n ih =>
    intro h b hb hg hf
    unfold cnt
    by_cases hbn : b = n
    · subst hbn
      have h1 := cnt_mono b (fun x hx => h x (by omega))
      rw [hf, hg]
      simp
      exact h1
    · have h1 := ih (fun x hx => h x (by omega)) b (by omega) hg hf
      by_cases hfn : f n = true
      · rw [if_pos hfn, if_pos (h n (by omega) hfn)]; omega
      · rw [if_neg hfn]; split <;> omega
theorem lab_min {A : Nat → Nat → Bool} (hA : gOk A) {n m : Nat} (hm : m < n) (hmin : ∀ x, x < n → fw A n m x = true → m ≤ x) : ∀ k, (∀ p, p < n → fw A n m p = true → llap A n k p = m) ∨ k + 1 ≤ cnt (fun p => decide (llap A n k p = m)) n := by
  have hge : ∀ k p, p < n → fw A n m p = true → m ≤ llap A n k p := by
    intro k p hp h
    have := labIn_lap hA n k p hp
    exact hmin _ this.1 (fw_tr hA n p _ _ hp h this.2)
  have hcl : ∀ k p, p < n → llap A n k p = m → fw A n m p = true := by
    intro k p hp h
    have := (labIn_lap hA n k p hp).2
    rw [h, fw_sy hA] at this
    exact this
  intro k
  induction k with
  | zero =>
    right
    have h0 : cnt (fun _ => false) n = 0 := by
      have : ∀ n, cnt (fun _ => false) n = 0 := by
        intro n
        induction n with
        | zero => rfl
        | succ n ih => unfold cnt; rw [ih]; rfl
      exact this n
    have := cnt_lt (f := fun _ => false) (g := fun p => decide (llap A n 0 p = m)) n (fun x _ h => by cases h) m hm (decide_eq_true rfl) rfl
    omega
  | succ k ih =>
    have hstep : ∀ p, p < n → llap A n k p = m → llap A n (k + 1) p = m := by
      intro p hp h
      have h1 : llap A n (k + 1) p ≤ llap A n k p := lp_mono A n _ p 0 n (Nat.zero_le _)
      have h2 := hge (k + 1) p hp (hcl k p hp h)
      omega
    rcases ih with h | h
    · left
      intro p hp hf
      exact hstep p hp (h p hp hf)
    · by_cases hall : ∀ p, p < n → fw A n m p = true → llap A n k p = m
      · left
        intro p hp hf
        exact hstep p hp (hall p hp hf)
      · right
        have hex : ∃ a b, a < n ∧ b < n ∧ A a b = true ∧ llap A n k a = m ∧ ¬ llap A n k b = m := by
          refine Classical.byContradiction fun hno => hall fun p hp hf => ?_
          have hk0 : llap A n k m = m := by
            have h1 := (lp_mono A n (fun p => p) m 0 0 (Nat.le_refl _))
            have h2 := hge k m hm (fw_rf hA n m)
            have h3 : ∀ k, llap A n k m ≤ m := by
              intro k
              induction k with
              | zero => exact Nat.le_refl _
              | succ k ih => exact Nat.le_trans (lp_mono A n _ m 0 n (Nat.zero_le _)) ih
            have := h3 k
            omega
          exact fw_cl (A := A) (n := n) (S := fun x => llap A n k x = m) (fun a b ha hb hab hs => Classical.byContradiction fun z => hno ⟨a, b, ha, hb, hab, hs, z⟩) n (Nat.le_refl n) m p hm hp hf hk0
        obtain ⟨a, b, ha, hb, hab, h1, h2⟩ := hex
        have hfb : fw A n m b = true := fw_tr hA n a _ _ ha (hcl k a ha h1) (fw_A hab n)
        have h3 : llap A n (k + 1) b ≤ llap A n k a := lp_edge hb ha (by rw [hA.2]; exact hab) _
        have h4 := hge (k + 1) b hb hfb
        have := cnt_lt (f := fun p => decide (llap A n k p = m)) (g := fun p => decide (llap A n (k + 1) p = m)) n (fun x hx h => decide_eq_true (hstep x hx (of_decide_eq_true h))) b hb (decide_eq_true (by omega)) (decide_eq_false h2)
        omega
theorem ex_min {P : Nat → Prop} : ∀ n, P n → ∃ m, P m ∧ ∀ x, P x → m ≤ x := by
  intro n
  induction n using Nat.strongRecOn with
  | ind n ih =>
    intro h
    by_cases h2 : ∃ k, k < n ∧ P k
    · obtain ⟨k, hk, hp⟩ := h2
      exact ih k hk hp
    · exact ⟨n, h, fun x hx => Nat.not_lt.mp fun z => h2 ⟨x, z, hx⟩⟩
/-- the labels behind n laps: the least point of each class -/
theorem lab_spec {A : Nat → Nat → Bool} (hA : gOk A) {n p : Nat} (hp : p < n) : llap A n n p < n ∧ fw A n p (llap A n n p) = true ∧ ∀ x, x < n → fw A n p x = true → llap A n n p ≤ x := by
  have hin := labIn_lap hA n n p hp
  refine ⟨hin.1, hin.2, ?_⟩
  obtain ⟨m, ⟨hm, hpm⟩, hmin⟩ := ex_min (P := fun x => x < n ∧ fw A n p x = true) p ⟨hp, fw_rf hA n p⟩
  have hmin2 : ∀ x, x < n → fw A n m x = true → m ≤ x := fun x hx h => hmin x ⟨hx, fw_tr hA n m _ _ hm hpm h⟩
  rcases lab_min hA hm hmin2 n with h | h
  · have := h p hp (by rw [fw_sy hA]; exact hpm)
    intro x hx hf
    rw [this]
    exact hmin x ⟨hx, hf⟩
  · have := cnt_le (fun p => decide (llap A n n p = m)) n
    omega
theorem lab_iff {A : Nat → Nat → Bool} (hA : gOk A) {n p q : Nat} (hp : p < n) (hq : q < n) : fw A n p q = true ↔ llap A n n q = llap A n n p := by
  obtain ⟨a1, a2, a3⟩ := lab_spec hA hp
  obtain ⟨b1, b2, b3⟩ := lab_spec hA hq
  constructor
  · intro h
    have h1 := a3 _ b1 (fw_tr hA n q _ _ hq h b2)
    have h2 := b3 _ a1 (fw_tr hA n p _ _ hp (by rw [fw_sy hA]; exact h) a2)
    omega
  · intro h
    rw [h, fw_sy hA] at b2
    exact fw_tr hA n _ _ _ a1 a2 b2
/-! sets as ints -/
def mask (f : Nat → Bool) : Nat → Nat
  | 0 => 0
  | n + 1 => mask f n + (if f n = true then 2 ^ n else 0)
theorem mask_lt (f : Nat → Bool) : ∀ n, mask f n < 2 ^ n := by
  intro n
  induction n with
  | zero => exact Nat.one_pos
  | succ n ih => unfold mask; rw [Nat.pow_succ]; split <;> omega
theorem mask_congr {f g : Nat → Bool} : ∀ n, (∀ x, x < n → f x = g x) → mask f n = mask g n := by
  intro n
  induction n with
  | zero => intro _; rfl
  | succ n ih => intro h; unfold mask; rw [ih (fun x hx => h x (by omega)), h n (by omega)]
theorem mask_tb (f : Nat → Bool) : ∀ n q, (mask f n).testBit q = (decide (q < n) && f q) := by
  intro n
  induction n with
  | zero => intro q; simp [mask]
  | succ n ih =>
    intro q
    unfold mask
    have hl := mask_lt f n
    by_cases hf : f n = true
    · rw [if_pos hf, Nat.add_comm]
      by_cases hq : q = n
      · subst hq
        rw [Nat.testBit_two_pow_add_eq, ih q]
        simp [hf]
      · by_cases hq2 : q < n
        · rw [Nat.testBit_two_pow_add_gt hq2, ih q]
          simp [hq2, show q < n + 1 by omega]
        · rw [Nat.testBit_lt_two_pow]
          · simp [show ¬ q < n + 1 by omega]
          · have : 2 ^ (n + 1) ≤ 2 ^ q := Nat.pow_le_pow_right (by decide) (by omega)
            rw [Nat.pow_succ] at this
            omega
    · rw [if_neg hf, Nat.add_zero, ih q]
      by_cases hq : q = n
      · subst hq
        simp [Bool.eq_false_iff.mpr hf]
      · by_cases hq2 : q < n
        · simp [hq2, show q < n + 1 by omega]
        · simp [hq2, show ¬ q < n + 1 by omega]
theorem mask_ext {a b : Nat} (h : ∀ q, a.testBit q = b.testBit q) : a = b := Nat.eq_of_testBit_eq h
theorem mask_or (f g : Nat → Bool) (n : Nat) : mask f n ||| mask g n = mask (fun x => f x || g x) n := by
  apply mask_ext
  intro q
  rw [Nat.testBit_or, mask_tb, mask_tb, mask_tb]
  cases decide (q < n) <;> rfl
theorem mask_and (f g : Nat → Bool) (n : Nat) : mask f n &&& mask g n = mask (fun x => f x && g x) n := by
  apply mask_ext
  intro q
  rw [Nat.testBit_and, mask_tb, mask_tb, mask_tb]
  cases decide (q < n) <;> rfl
theorem mask_0 (n : Nat) : mask (fun _ => false) n = 0 := by
  apply mask_ext
  intro q
  rw [mask_tb]
  simp
theorem mask_1 {p n : Nat} (hp : p < n) : mask (fun x => decide (x = p)) n = 2 ^ p := by
  apply mask_ext
  intro q
  rw [mask_tb, Nat.testBit_two_pow]
  by_cases h : q = p
  · subst h; simp [hp]
  · simp [h, Ne.symm h]
theorem mI_or : ∀ a, a < 64 → ∀ b, b < 64 → nI a ||| nI b = nI (a ||| b) := by decide +kernel
theorem mI_and : ∀ a, a < 64 → ∀ b, b < 64 → nI a &&& nI b = nI (a &&& b) := by decide +kernel
theorem mI_shl : ∀ a, a < 2 → ∀ q, q < 6 → nI a <<< (nI q &&& 31) = nI (a * 2 ^ q) := by decide +kernel
theorem mI_bit : ∀ a, a < 64 → ∀ q, q < 6 → (nI a >>> (nI q &&& 31)) &&& nI 1 = if a.testBit q = true then nI 1 else nI 0 := by decide +kernel
theorem mI_not : ∀ a, a < 64 → ∀ b, b < 64 → ((nI a &&& (nI b ^^^ -nI 1) = nI 0) ↔ (a &&& (63 - b) = 0)) := by decide +kernel
