/-! ===== THE ENGINE (my own): a mini machine over numbered objects, whose runs are answered by the machine's own ===== -/
abbrev eMem : Type := (Nat × Nat × Nat × Bool) × (Nat → Nat → Int32) × (Nat → Nat → Int64) × (Nat → Nat → Option Nat)
/-- how many objects of the world are made; cells and slots used; whether the next cell is the next object -/
def eN (μ : eMem) : Nat := μ.1.1
def eC (μ : eMem) : Nat := μ.1.2.1
def eZ (μ : eMem) : Nat := μ.1.2.2.1
def eO (μ : eMem) : Bool := μ.1.2.2.2
def eI (μ : eMem) : Nat → Nat → Int32 := μ.2.1
def eL (μ : eMem) : Nat → Nat → Int64 := μ.2.2.1
def eA (μ : eMem) : Nat → Nat → Option Nat := μ.2.2.2
def eSI (μ : eMem) (k i : Nat) (x : Int32) : eMem := (μ.1, va_up (eI μ) k (upd (eI μ k) i x), μ.2.2)
def eSL (μ : eMem) (k i : Nat) (x : Int64) : eMem := (μ.1, μ.2.1, va_up (eL μ) k (vp_updL (eL μ k) i x), μ.2.2.2)
def eSA (μ : eMem) (k i : Nat) (x : Option Nat) : eMem := (μ.1, μ.2.1, μ.2.2.1, va_up (eA μ) k (va_up (eA μ k) i x))
theorem eN_SI (μ : eMem) (k i : Nat) (x : Int32) : eN (eSI μ k i x) = eN μ := rfl
theorem eC_SI (μ : eMem) (k i : Nat) (x : Int32) : eC (eSI μ k i x) = eC μ := rfl
theorem eZ_SI (μ : eMem) (k i : Nat) (x : Int32) : eZ (eSI μ k i x) = eZ μ := rfl
theorem eO_SI (μ : eMem) (k i : Nat) (x : Int32) : eO (eSI μ k i x) = eO μ := rfl
theorem eI_SI (μ : eMem) (k i : Nat) (x : Int32) : eI (eSI μ k i x) = va_up (eI μ) k (upd (eI μ k) i x) := rfl
theorem eL_SI (μ : eMem) (k i : Nat) (x : Int32) : eL (eSI μ k i x) = eL μ := rfl
theorem eA_SI (μ : eMem) (k i : Nat) (x : Int32) : eA (eSI μ k i x) = eA μ := rfl
theorem eN_SL (μ : eMem) (k i : Nat) (x : Int64) : eN (eSL μ k i x) = eN μ := rfl
theorem eC_SL (μ : eMem) (k i : Nat) (x : Int64) : eC (eSL μ k i x) = eC μ := rfl
theorem eZ_SL (μ : eMem) (k i : Nat) (x : Int64) : eZ (eSL μ k i x) = eZ μ := rfl
theorem eO_SL (μ : eMem) (k i : Nat) (x : Int64) : eO (eSL μ k i x) = eO μ := rfl
theorem eI_SL (μ : eMem) (k i : Nat) (x : Int64) : eI (eSL μ k i x) = eI μ := rfl
theorem eL_SL (μ : eMem) (k i : Nat) (x : Int64) : eL (eSL μ k i x) = va_up (eL μ) k (vp_updL (eL μ k) i x) := rfl
theorem eA_SL (μ : eMem) (k i : Nat) (x : Int64) : eA (eSL μ k i x) = eA μ := rfl
theorem eN_SA (μ : eMem) (k i : Nat) (x : Option Nat) : eN (eSA μ k i x) = eN μ := rfl
theorem eC_SA (μ : eMem) (k i : Nat) (x : Option Nat) : eC (eSA μ k i x) = eC μ := rfl
theorem eZ_SA (μ : eMem) (k i : Nat) (x : Option Nat) : eZ (eSA μ k i x) = eZ μ := rfl
theorem eO_SA (μ : eMem) (k i : Nat) (x : Option Nat) : eO (eSA μ k i x) = eO μ := rfl
theorem eI_SA (μ : eMem) (k i : Nat) (x : Option Nat) : eI (eSA μ k i x) = eI μ := rfl
theorem eL_SA (μ : eMem) (k i : Nat) (x : Option Nat) : eL (eSA μ k i x) = eL μ := rfl
theorem eA_SA (μ : eMem) (k i : Nat) (x : Option Nat) : eA (eSA μ k i x) = va_up (eA μ) k (va_up (eA μ k) i x) := rfl
/-! values: a reference is an object's number, or a number of a constant from 1000 on -/
def eRf : Option Nat → Value
  | none => .null
  | some j => .ref j
def eV (ad : Nat → Nat) : Value → Value
  | .ref a => .ref (ad a)
  | v => v
theorem eV_rf (ad : Nat → Nat) (r : Option Nat) : eV ad (eRf r) = va_rf (r.map ad) := by cases r <;> rfl
theorem eV_cat (ad : Nat → Nat) (v : Value) : (eV ad v).category = v.category := by cases v <;> rfl
theorem eV_int (ad : Nat → Nat) (x : Int32) : eV ad (.int x) = .int x := rfl
theorem eV_long (ad : Nat → Nat) (x : Int64) : eV ad (.long x) = .long x := rfl
/-- a place of the locals of which nothing is known -/
def eJ : Value := .retAddr 0
def eNJ : Value → Bool
  | .retAddr _ => false
  | _ => true
def eLv (ad : Nat → Nat) : Nat → List Value → List (Nat × Value)
  | _, [] => []
  | i, v :: vs => match eNJ v with
    | true => (i, eV ad v) :: eLv ad (i + 1) vs
    | false => eLv ad (i + 1) vs
theorem eLv_mem (ad : Nat → Nat) : ∀ (vs : List Value) (i : Nat) (q : Nat × Value), q ∈ eLv ad i vs ↔ ∃ (k : Nat) (v : Value), vs[k]? = some v ∧ eNJ v = true ∧ q = (i + k, eV ad v) := by
  intro vs
  induction vs with
  | nil => intro i q; simp [eLv]
  | cons v vs ih =>
    intro i q
    unfold eLv
    have tail : (∃ (k : Nat) (w : Value), (v :: vs)[k]? = some w ∧ eNJ w = true ∧ q = (i + k, eV ad w)) ↔ ((eNJ v = true ∧ q = (i, eV ad v)) ∨ ∃ (k : Nat) (w : Value), vs[k]? = some w ∧ eNJ w = true ∧ q = (i + 1 + k, eV ad w)) := by
      constructor
      · rintro ⟨k, w, h1, h2, h3⟩
        cases k with
        | zero =>
          rw [List.getElem?_cons_zero] at h1
          cases h1
          exact Or.inl ⟨h2, h3⟩
        | succ k =>
          rw [List.getElem?_cons_succ] at h1
          exact Or.inr ⟨k, w, h1, h2, by rw [h3]; congr 1; omega⟩
      · rintro (⟨h2, h3⟩ | ⟨k, w, h1, h2, h3⟩)
        · exact ⟨0, v, rfl, h2, h3⟩
        · exact ⟨k + 1, w, by rw [List.getElem?_cons_succ]; exact h1, h2, by rw [h3]; congr 1; omega⟩
    rw [tail]
    cases hn : eNJ v with
    | true => simp only [List.mem_cons, ih]; simp
    | false => simp only [ih]; simp
theorem eLv_get {ad : Nat → Nat} {vs : List Value} {ls : Array Slot} {nL i : Nat} {v : Value} (h : lv_has ls nL (eLv ad 0 vs)) (hv : vs[i]? = some v) (hn : eNJ v = true) : ls[i]? = some (.val (eV ad v)) := by
  have := h.2.2 (i, eV ad v) ((eLv_mem ad vs 0 _).mpr ⟨i, v, hv, hn, by rw [Nat.zero_add]⟩)
  exact this
theorem eHas_sub {ls : Array Slot} {nL : Nat} {l l' : List (Nat × Value)} (h : lv_has ls nL l) (hl : ∀ q ∈ l', q ∈ l) : lv_has ls nL l' := ⟨h.1, h.2.1, fun q hq => h.2.2 q (hl q hq)⟩
def eC2 : Value → Bool
  | .long _ => true
  | .double _ => true
  | _ => false
theorem eC2_cat (v : Value) : eC2 v = true ↔ v.category = 2 := by cases v <;> simp [eC2, Value.category]
/-- a store of one place at i: there is such a place, and no long's second half -/
def eOk : List Value → Nat → Bool
  | [], _ => false
  | _ :: _, 0 => true
  | v :: vs, n + 1 => (!(n == 0) || !eC2 v) && eOk vs n
theorem eOk_spec : ∀ (vs : List Value) (i : Nat), eOk vs i = true → i < vs.length ∧ ∀ j v, j + 1 = i → vs[j]? = some v → eC2 v = false := by
  intro vs
  induction vs with
  | nil => intro i h; simp [eOk] at h
  | cons v vs ih =>
    intro i h
    cases i with
    | zero => exact ⟨by simp, fun j w hj => by omega⟩
    | succ n =>
      simp only [eOk, Bool.and_eq_true, Bool.or_eq_true, Bool.not_eq_true'] at h
      obtain ⟨h1, h2⟩ := ih n h.2
      refine ⟨by simp; omega, fun j w hj hw => ?_⟩
      cases j with
      | zero =>
        rw [List.getElem?_cons_zero] at hw
        cases hw
        rcases h.1 with q | q
        · have : n = 0 := by omega
          subst this
          simp at q
        · exact q
      | succ j =>
        rw [List.getElem?_cons_succ] at hw
        exact h2 j w (by omega) hw
theorem eLv_sto1 {ad : Nat → Nat} {vs : List Value} {i : Nat} {v : Value} (ho : eOk vs i = true) : ∀ q ∈ eLv ad 0 (vs.set i v), q ∈ (i, eV ad v) :: (eLv ad 0 vs).filter (fun q => !(q.1 == i) && !(q.1 + 1 == i && q.2.category == 2)) := by
  intro q hq
  obtain ⟨k, w, h1, h2, h3⟩ := (eLv_mem ad _ 0 q).mp hq
  rw [Nat.zero_add] at h3
  obtain ⟨hi, hp⟩ := eOk_spec vs i ho
  by_cases hk : k = i
  · subst hk
    rw [List.getElem?_set_self hi] at h1
    cases h1
    rw [h3]
    exact List.mem_cons_self
  · rw [List.getElem?_set_ne (fun z => hk z.symm)] at h1
    refine List.mem_cons_of_mem _ (List.mem_filter.mpr ⟨(eLv_mem ad _ 0 q).mpr ⟨k, w, h1, h2, by rw [h3, Nat.zero_add]⟩, ?_⟩)
    subst h3
    have hk' : (k == i) = false := by simpa using hk
    rw [hk']
    by_cases hc : k + 1 = i
    · have := hp k w hc h1
      have h9 : ¬ (eV ad w).category = 2 := by
        rw [eV_cat]
        intro z
        rw [(eC2_cat w).mpr z] at this
        cases this
      simp [h9]
    · have hc' : (k + 1 == i) = false := by simpa using hc
      rw [hc']
      rfl
theorem eLv_sto2 {ad : Nat → Nat} {vs : List Value} {i : Nat} {v : Value} (ho : eOk vs i = true) : ∀ q ∈ eLv ad 0 ((vs.set i v).set (i + 1) eJ), q ∈ (i, eV ad v) :: (eLv ad 0 vs).filter (fun q => !(q.1 == i) && (!(q.1 == i + 1) && !(q.1 + 1 == i && q.2.category == 2))) := by
  intro q hq
  obtain ⟨k, w, h1, h2, h3⟩ := (eLv_mem ad _ 0 q).mp hq
  rw [Nat.zero_add] at h3
  obtain ⟨hi, hp⟩ := eOk_spec vs i ho
  by_cases hk2 : k = i + 1
  · subst hk2
    by_cases hlt : i + 1 < (vs.set i v).length
    · rw [List.getElem?_set_self hlt] at h1
      cases h1
      cases h2
    · rw [List.getElem?_eq_none (by rw [List.length_set]; omega)] at h1
      cases h1
  · rw [List.getElem?_set_ne (fun z => hk2 z.symm)] at h1
    by_cases hk : k = i
    · subst hk
      rw [List.getElem?_set_self hi] at h1
      cases h1
      rw [h3]
      exact List.mem_cons_self
    · rw [List.getElem?_set_ne (fun z => hk z.symm)] at h1
      refine List.mem_cons_of_mem _ (List.mem_filter.mpr ⟨(eLv_mem ad _ 0 q).mpr ⟨k, w, h1, h2, by rw [h3, Nat.zero_add]⟩, ?_⟩)
      subst h3
      have hk' : (k == i) = false := by simpa using hk
      have hk2' : (k == i + 1) = false := by simpa using hk2
      rw [hk', hk2']
      by_cases hc : k + 1 = i
      · have := hp k w hc h1
        have h9 : ¬ (eV ad w).category = 2 := by
          rw [eV_cat]
          intro z
          rw [(eC2_cat w).mpr z] at this
          cases this
        simp [h9]
      · have hc' : (k + 1 == i) = false := by simpa using hc
        rw [hc']
        rfl
/-- some places are forgotten -/
def eFg : List Nat → List Value → List Value
  | [], vs => vs
  | i :: is, vs => eFg is (vs.set i eJ)
theorem eLv_fg1 {ad : Nat → Nat} (vs : List Value) (i : Nat) : ∀ q ∈ eLv ad 0 (vs.set i eJ), q ∈ eLv ad 0 vs := by
  intro q hq
  obtain ⟨k, w, h1, h2, h3⟩ := (eLv_mem ad _ 0 q).mp hq
  refine (eLv_mem ad _ 0 q).mpr ⟨k, w, ?_, h2, h3⟩
  by_cases hk : k = i
  · subst hk
    by_cases hlt : k < vs.length
    · rw [List.getElem?_set_self hlt] at h1
      cases h1
      cases h2
    · rw [List.getElem?_eq_none (by rw [List.length_set]; omega)] at h1
      cases h1
  · rw [List.getElem?_set_ne (fun z => hk z.symm)] at h1
    exact h1
theorem eLv_fg {ad : Nat → Nat} : ∀ (is : List Nat) (vs : List Value), ∀ q ∈ eLv ad 0 (eFg is vs), q ∈ eLv ad 0 vs := by
  intro is
  induction is with
  | nil => exact fun _ _ h => h
  | cons i is ih => exact fun vs q h => eLv_fg1 vs i q (ih _ q h)
/-- the locals at a method's entry -/
def eArgs : List Value → List Value
  | [] => []
  | v :: vs => match eC2 v with
    | true => v :: eJ :: eArgs vs
    | false => v :: eArgs vs
def eEnt (vs : List Value) (n : Nat) : List Value := eArgs vs ++ List.replicate (n - (eArgs vs).length) eJ
theorem eArgs_mem (ad : Nat → Nat) : ∀ (vs : List Value) (i : Nat), ∀ q ∈ eLv ad i (eArgs vs), q ∈ lv_args i (vs.map (eV ad)) := by
  intro vs
  induction vs with
  | nil => intro i q h; simp [eArgs, eLv] at h
  | cons v vs ih =>
    intro i q h
    unfold eArgs at h
    rw [List.map_cons]
    unfold lv_args
    rw [eV_cat]
    cases hc : eC2 v with
    | true =>
      rw [hc] at h
      rw [if_pos ((eC2_cat v).mp hc)]
      dsimp only at h
      unfold eLv at h
      cases hn : eNJ v with
      | true =>
        rw [hn] at h
        dsimp only at h
        unfold eLv at h
        rcases List.mem_cons.mp h with z | z
        · rw [z]; exact List.mem_cons_self
        · exact List.mem_cons_of_mem _ (ih (i + 1 + 1) q z)
      | false =>
        rw [hn] at h
        dsimp only at h
        unfold eLv at h
        exact List.mem_cons_of_mem _ (ih (i + 1 + 1) q h)
    | false =>
      rw [hc] at h
      rw [if_neg (fun z => by rw [(eC2_cat v).mpr z] at hc; cases hc)]
      dsimp only at h
      unfold eLv at h
      cases hn : eNJ v with
      | true =>
        rw [hn] at h
        dsimp only at h
        rcases List.mem_cons.mp h with z | z
        · rw [z]; exact List.mem_cons_self
        · exact List.mem_cons_of_mem _ (ih (i + 1) q z)
      | false =>
        rw [hn] at h
        dsimp only at h
        exact List.mem_cons_of_mem _ (ih (i + 1) q h)
theorem eEnt_mem (ad : Nat → Nat) (vs : List Value) (n : Nat) : ∀ q ∈ eLv ad 0 (eEnt vs n), q ∈ lv_args 0 (vs.map (eV ad)) := by
  intro q hq
  obtain ⟨k, w, h1, h2, h3⟩ := (eLv_mem ad _ 0 q).mp hq
  refine eArgs_mem ad vs 0 q ((eLv_mem ad _ 0 q).mpr ⟨k, w, ?_, h2, h3⟩)
  unfold eEnt at h1
  by_cases hl : k < (eArgs vs).length
  · rw [List.getElem?_append_left hl] at h1
    exact h1
  · rw [List.getElem?_append_right (by omega)] at h1
    obtain ⟨h9, e⟩ := List.getElem?_eq_some_iff.mp h1
    rw [List.getElem_replicate] at e
    rw [← e] at h2
    cases h2
theorem eArgs_len (ad : Nat → Nat) : ∀ vs : List Value, (lg_sl (vs.map (eV ad))).length = (eArgs vs).length := by
  intro vs
  induction vs with
  | nil => rfl
  | cons v vs ih =>
    unfold eArgs
    rw [List.map_cons]
    unfold lg_sl at ih ⊢
    rw [List.flatMap_cons, eV_cat]
    cases hc : eC2 v with
    | true =>
      rw [if_pos ((eC2_cat v).mp hc)]
      (try simp [ih]); (try omega)
    | false =>
      rw [if_neg (fun z => by rw [(eC2_cat v).mpr z] at hc; cases hc)]
      (try simp [ih]); (try omega)
