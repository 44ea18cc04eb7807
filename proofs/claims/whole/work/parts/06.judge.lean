/-! ===== the engine's judgements: pieces of code with what they do; sound by how they are made ===== -/
/-- locals, stack, memory -/
abbrev eSt : Type := List Value × List Value × eMem
/-- none: goes on behind the piece; a jump to a place; a return; a throw -/
abbrev eOut : Type := Option (Nat ⊕ (Option Value ⊕ String))
abbrev eRes : Type := Option (eOut × eSt)
abbrev eCtx := Program × Launch × Env × Room × State × MethodId × Array Value × List Frame × Method × Code × (State → Prop) × Nat × Nat × Nat × eWd
def xCode (x : eCtx) : ByteArray := x.2.2.2.2.2.2.2.2.2.1.code
def xR (x : eCtx) : Room := x.2.2.2.1
def xC0 (x : eCtx) : Nat := x.2.2.2.2.2.2.2.2.2.2.2.2.1
def xS0 (x : eCtx) : Nat := x.2.2.2.2.2.2.2.2.2.2.2.2.2.1
/-- own class, is it a constructor, has it handlers, how many locals -/
abbrev eSx : Type := String × Bool × Bool × Nat
def eCx (sx : eSx) : eCtx → Prop
  | (p, l, _, _, s, m, args, _, meth, c, _, nL, _, _, w) => p.tables.exec = Jvm.exec ∧ c.maxLocals = nL ∧ nL = sx.2.2.2 ∧ s.vm.findClass sx.1 = some m.cls ∧ (∀ x ∈ eTB, x.before args s = true) ∧ eK w s s.heap ∧ meth.locks = false ∧ (sx.2.1 = true → meth.name = "<init>") ∧ (sx.2.2.1 = false → ∀ x ∈ c.exceptionTable.toList, False) ∧ l.stackTraces = false
/-- the machine, at pc with locals, stack and memory as told, comes to a state with Q -/
def eE : eCtx → Nat → eSt → Prop
  | (p, l, e, R, s, m, args, below, meth, c, Q, nL, c0, s0, w), pc, σ => ∀ (H : Heap) (locs : List Loc) (cells slots : Nat) (ls : Array Slot), lv_has ls nL (eLv (eAd w) 0 σ.1) → eH w σ.2.2 H → va_S (eAr w) s.heap H locs → c0 + cells = eC σ.2.2 → s0 + slots = eZ σ.2.2 → W p l e R s m args below meth c H locs cells slots Q (F0 m pc ls (σ.2.1.map (eV (eAd w))))
def eRetD (cc : ByteArray) (pc : Nat) : Option Value → Prop
  | none => decode cc pc = .ok (.return_, 1)
  | some (.int _) => decode cc pc = .ok (.ireturn, 1)
  | some (.long _) => decode cc pc = .ok (.lreturn, 1)
  | some (.float _) => decode cc pc = .ok (.freturn, 1)
  | some (.double _) => decode cc pc = .ok (.dreturn, 1)
  | some (.ref _) => decode cc pc = .ok (.areturn, 1)
  | some .null => decode cc pc = .ok (.areturn, 1)
  | some (.retAddr _) => False
def eKR (x : eCtx) (v : Option Value) (μ : eMem) : Prop := ∀ (pc : Nat) (lv : List Value), eRetD (xCode x) pc v → eE x pc (lv, v.toList, μ)
def eKX : eCtx → String → eMem → Prop
  | (_, _, _, R, s, _, args, below, _, _, Q, _, _, _, w), X, μ => ∃ (Qc : Array Value → State → Outcome → State → Prop) (XC : String → State → State → Prop), Q = vx_MQ below Qc XC args s R.cells R.slots (eAr w) ∧ ∀ t : State, s.vm.Alike t.vm → va_F (eAr w) s t → eH w μ t.heap → XC X s t
def eKont (x : eCtx) (stop : Nat) : eOut → eSt → Prop
  | none, σ => eE x stop σ
  | some (.inl T), σ => eE x T σ
  | some (.inr (.inl v)), σ => eKR x v σ.2.2
  | some (.inr (.inr X)), σ => eKX x X σ.2.2
/-- a piece: start, stop, frames and locals that its calls need, a check of the code, what it does -/
abbrev eFr : Type := Nat × Nat × (Nat × Nat) × (ByteArray → Bool) × (eSt → eRes)
def eSound (sx : eSx) (f : eFr) : Prop := ∀ x : eCtx, eCx sx x → f.2.2.2.1 (xCode x) = true → f.2.2.1.1 ≤ (xR x).frames → f.2.2.1.2 ≤ (xR x).locals → ∀ (σ : eSt) (o : eOut) (σ' : eSt), f.2.2.2.2 σ = some (o, σ') →
  (eC σ.2.2 ≤ eC σ'.2.2 ∧ eZ σ.2.2 ≤ eZ σ'.2.2) ∧ (eC σ'.2.2 ≤ xC0 x + (xR x).cells → eZ σ'.2.2 ≤ xS0 x + (xR x).slots → eKont x f.2.1 o σ' → eE x f.1 σ)
/-- cells and slots only grow -/
def eMono (d : eSt → eRes) : Prop := ∀ (σ : eSt) (o : eOut) (σ' : eSt), d σ = some (o, σ') → eC σ.2.2 ≤ eC σ'.2.2 ∧ eZ σ.2.2 ≤ eZ σ'.2.2
theorem eMono_same {d : eSt → eRes} (h : ∀ (σ : eSt) (o : eOut) (σ' : eSt), d σ = some (o, σ') → σ'.2.2.1 = σ.2.2.1) : eMono d := by
  intro σ o σ' hd
  have e := h σ o σ' hd
  unfold eC eZ
  rw [e]
  exact ⟨Nat.le_refl _, Nat.le_refl _⟩
theorem eMono_map {α : Type} {f : eSt → Option α} {g : eSt → α → eOut × eSt} (h : ∀ (σ : eSt) (a : α), f σ = some a → eC σ.2.2 ≤ eC (g σ a).2.2.2 ∧ eZ σ.2.2 ≤ eZ (g σ a).2.2.2) : eMono (fun σ => (f σ).map (g σ)) := by
  intro σ o σ' hd
  dsimp only at hd
  cases hf : f σ with
  | none => rw [hf] at hd; cases hd
  | some a =>
    rw [hf] at hd
    have := Option.some.inj hd
    have h9 := h σ a hf
    rw [this] at h9
    exact h9
theorem eMono_bind {d1 d2 : eSt → eRes} {B : eRes → (eSt → eRes) → eRes} (hB : ∀ r k, B r k = match r with | some (none, σ) => k σ | some (some o, σ) => some (some o, σ) | none => none) (h1 : eMono d1) (h2 : eMono d2) : eMono (fun σ => B (d1 σ) d2) := by
  intro σ o σ' hd
  dsimp only at hd
  rw [hB] at hd
  cases hf : d1 σ with
  | none => rw [hf] at hd; cases hd
  | some q =>
    obtain ⟨o1, σ1⟩ := q
    rw [hf] at hd
    have m1 := h1 σ o1 σ1 hf
    cases o1 with
    | none =>
      have m2 := h2 σ1 o σ' hd
      exact ⟨Nat.le_trans m1.1 m2.1, Nat.le_trans m1.2 m2.2⟩
    | some o1 =>
      cases hd
      exact m1
abbrev eP (sx : eSx) : Type := { f : eFr // eMono f.2.2.2.2 ∧ eSound sx f }
def eDen {sx : eSx} (a : eP sx) : eSt → eRes := a.1.2.2.2.2
/-! sequence -/
def eBind (r : eRes) (k : eSt → eRes) : eRes := match r with
  | some (none, σ) => k σ
  | some (some o, σ) => some (some o, σ)
  | none => none
def eSeq {sx : eSx} (a b : eP sx) : eP sx := ⟨(a.1.1, b.1.2.1, (max a.1.2.2.1.1 b.1.2.2.1.1, max a.1.2.2.1.2 b.1.2.2.1.2), (fun cc => a.1.2.2.2.1 cc && (b.1.2.2.2.1 cc && Nat.beq a.1.2.1 b.1.1)), fun σ => eBind (a.1.2.2.2.2 σ) b.1.2.2.2.2), eMono_bind (fun _ _ => rfl) a.2.1 b.2.1, by
  obtain ⟨⟨a1, a2, a3, a4, a5⟩, ham, ha⟩ := a
  obtain ⟨⟨b1, b2, b3, b4, b5⟩, hbm, hb⟩ := b
  intro x hx hc hf hl σ o σ' hd
  dsimp only at hc hf hl hd ⊢
  simp only [Bool.and_eq_true] at hc
  obtain ⟨hc1, hc2, hc3⟩ := hc
  have e : a2 = b1 := Nat.eq_of_beq_eq_true hc3
  subst e
  have A := ha x hx hc1 (Nat.le_trans (Nat.le_max_left _ _) hf) (Nat.le_trans (Nat.le_max_left _ _) hl)
  have B := hb x hx hc2 (Nat.le_trans (Nat.le_max_right _ _) hf) (Nat.le_trans (Nat.le_max_right _ _) hl)
  dsimp only at A B
  cases h1 : a5 σ with
  | none => rw [h1] at hd; simp [eBind] at hd
  | some q =>
    obtain ⟨o1, σ1⟩ := q
    rw [h1] at hd
    obtain ⟨m1, k1⟩ := A σ o1 σ1 h1
    cases o1 with
    | none =>
      dsimp only [eBind] at hd
      obtain ⟨m2, k2⟩ := B σ1 o σ' hd
      exact ⟨⟨Nat.le_trans m1.1 m2.1, Nat.le_trans m1.2 m2.2⟩, fun r1 r2 k => k1 (Nat.le_trans m2.1 r1) (Nat.le_trans m2.2 r2) (k2 r1 r2 k)⟩
    | some o1 =>
      dsimp only [eBind] at hd
      cases hd
      refine ⟨m1, fun r1 r2 k => k1 r1 r2 ?_⟩
      cases o1 with
      | inl T => exact k
      | inr z => cases z with
        | inl v => exact k
        | inr X => exact k⟩
/-! a block: jumps to its end go on behind it -/
def eCatch (T : Nat) (r : eRes) : eRes := match r with
  | some (some (.inl T'), σ) => if T' = T then some (none, σ) else some (some (.inl T'), σ)
  | r => r
theorem eMono_catch {T : Nat} {d : eSt → eRes} (h : eMono d) : eMono (fun σ => eCatch T (d σ)) := by
  intro σ o σ' hd
  dsimp only at hd
  cases hf : d σ with
  | none => rw [hf] at hd; cases hd
  | some q =>
    obtain ⟨o1, σ1⟩ := q
    have m1 := h σ o1 σ1 hf
    rw [hf] at hd
    unfold eCatch at hd
    split at hd
    · split at hd
      · rename_i h8 _
        cases h8
        cases hd
        exact m1
      · rename_i h8 _
        cases h8
        cases hd
        exact m1
    · cases hd
      exact m1
def eBlk {sx : eSx} (T : Nat) (a : eP sx) : eP sx := ⟨(a.1.1, T, a.1.2.2.1, (fun cc => a.1.2.2.2.1 cc && Nat.beq a.1.2.1 T), fun σ => eCatch T (a.1.2.2.2.2 σ)), eMono_catch a.2.1, by
  obtain ⟨⟨a1, a2, a3, a4, a5⟩, ham, ha⟩ := a
  intro x hx hc hf hl σ o σ' hd
  dsimp only at hc hf hl hd ⊢
  simp only [Bool.and_eq_true] at hc
  obtain ⟨hc1, hc3⟩ := hc
  have e : a2 = T := Nat.eq_of_beq_eq_true hc3
  subst e
  have A := ha x hx hc1 hf hl
  dsimp only at A
  cases h1 : a5 σ with
  | none => rw [h1] at hd; simp [eCatch] at hd
  | some q =>
    obtain ⟨o1, σ1⟩ := q
    rw [h1] at hd
    obtain ⟨m1, k1⟩ := A σ o1 σ1 h1
    cases o1 with
    | none =>
      dsimp only [eCatch] at hd
      cases hd
      exact ⟨m1, k1⟩
    | some o1 =>
      cases o1 with
      | inl T =>
        dsimp only [eCatch] at hd
        by_cases ht : T = a2
        · rw [if_pos ht] at hd
          cases hd
          subst ht
          exact ⟨m1, k1⟩
        · rw [if_neg ht] at hd
          cases hd
          exact ⟨m1, k1⟩
      | inr z =>
        dsimp only [eCatch] at hd
        cases hd
        refine ⟨m1, fun r1 r2 k => k1 r1 r2 ?_⟩
        cases z with
        | inl v => exact k
        | inr X => exact k⟩
/-! a loop: jumps to its head begin it again -/
def eLoop : Nat → Nat → (eSt → eRes) → eSt → eRes
  | 0, _, _, _ => none
  | n + 1, h, d, σ => match d σ with
    | some (some (.inl T), σ1) => if T = h then eLoop n h d σ1 else some (some (.inl T), σ1)
    | r => r
def eFuel : Nat := 4294967296
theorem eMono_loop {h : Nat} {d : eSt → eRes} (hd : eMono d) : ∀ n, eMono (fun σ => eLoop n h d σ) := by
  intro n
  induction n with
  | zero => intro σ o σ' hd; cases hd
  | succ n ih =>
    intro σ o σ' hl
    dsimp only at hl
    unfold eLoop at hl
    split at hl
    · rename_i T σ1 h1
      have m1 := hd σ _ σ1 h1
      split at hl
      · have m2 := ih σ1 o σ' hl
        exact ⟨Nat.le_trans m1.1 m2.1, Nat.le_trans m1.2 m2.2⟩
      · cases hl
        exact m1
    · exact hd σ o σ' hl
def eLop {sx : eSx} (h : Nat) (a : eP sx) : eP sx := ⟨(h, a.1.2.1, a.1.2.2.1, (fun cc => a.1.2.2.2.1 cc && Nat.beq a.1.1 h), fun σ => eLoop eFuel h a.1.2.2.2.2 σ), eMono_loop a.2.1 eFuel, by
  obtain ⟨⟨a1, a2, a3, a4, a5⟩, ham, ha⟩ := a
  intro x hx hc hf hl
  dsimp only at hc hf hl ⊢
  simp only [Bool.and_eq_true] at hc
  obtain ⟨hc1, hc3⟩ := hc
  have e : a1 = h := Nat.eq_of_beq_eq_true hc3
  subst e
  have A := ha x hx hc1 hf hl
  dsimp only at A
  generalize eFuel = n
  induction n with
  | zero => intro σ o σ' hd; simp [eLoop] at hd
  | succ n ih =>
    intro σ o σ' hd
    unfold eLoop at hd
    cases h1 : a5 σ with
    | none => rw [h1] at hd; simp at hd
    | some q =>
      obtain ⟨o1, σ1⟩ := q
      rw [h1] at hd
      obtain ⟨m1, k1⟩ := A σ o1 σ1 h1
      cases o1 with
      | none =>
        dsimp only at hd
        cases hd
        exact ⟨m1, k1⟩
      | some o1 =>
        cases o1 with
        | inl T =>
          dsimp only at hd
          by_cases ht : T = a1
          · rw [if_pos ht] at hd
            subst ht
            obtain ⟨m2, k2⟩ := ih σ1 o σ' hd
            exact ⟨⟨Nat.le_trans m1.1 m2.1, Nat.le_trans m1.2 m2.2⟩, fun r1 r2 k => k1 (Nat.le_trans m2.1 r1) (Nat.le_trans m2.2 r2) (k2 r1 r2 k)⟩
          · rw [if_neg ht] at hd
            cases hd
            exact ⟨m1, k1⟩
        | inr z =>
          dsimp only at hd
          cases hd
          refine ⟨m1, fun r1 r2 k => k1 r1 r2 ?_⟩
          cases z with
          | inl v => exact k
          | inr X => exact k⟩
/-! some locals are forgotten -/
def eFgt {sx : eSx} (pc : Nat) (is : List Nat) : eP sx := ⟨(pc, pc, (0, 0), (fun _ => true), fun σ => some (none, (eFg is σ.1, σ.2.1, σ.2.2))), eMono_same (fun σ o σ' h => by cases h; rfl), by
  rintro ⟨p, l, e, R, s, m, args, below, meth, c, Q, nL, c0, s0, w⟩ hx hc hf hl ⟨lv, st, μ⟩ o σ' hd
  cases hd
  exact ⟨⟨Nat.le_refl _, Nat.le_refl _⟩, fun _ _ k H locs cells slots ls hls => k H locs cells slots ls (eHas_sub hls (eLv_fg is lv))⟩⟩
/-! one instruction that reads: the new stack out of locals, stack and memory -/
def eRow (sx : eSx) (pc n : Nat) (i : Instr) (f : eSt → Option (List Value)) : Prop :=
  ∀ (p : Program) (l : Launch) (e : Env) (R : Room) (s : State) (m : MethodId) (args : Array Value) (below : List Frame) (meth : Method) (c : Code) (H : Heap) (locs : List Loc) (cells slots : Nat) (Q : State → Prop) (ls : Array Slot) (w : eWd) (lv st : List Value) (μ : eMem) (st' : List Value),
    f (lv, st, μ) = some st' → (∀ (j : Nat) (v : Value), lv[j]? = some v → eNJ v = true → ls[j]? = some (.val (eV (eAd w) v))) → p.tables.exec = Jvm.exec → s.vm.findClass sx.1 = some m.cls → (∀ x ∈ eTB, x.before args s = true) → eK w s s.heap → eH w μ H → va_S (eAr w) s.heap H locs → decode c.code pc = .ok (i, n) →
    W p l e R s m args below meth c H locs cells slots Q (F0 m (pc + n) ls (st'.map (eV (eAd w)))) → W p l e R s m args below meth c H locs cells slots Q (F0 m pc ls (st.map (eV (eAd w))))
def eRd {sx : eSx} (pc n : Nat) (i : Instr) (f : eSt → Option (List Value)) (h : eRow sx pc n i f) : eP sx := ⟨(pc, pc + n, (0, 0), (fun cc => decide (decode cc pc = .ok (i, n))), fun σ => (f σ).map fun st => (none, (σ.1, st, σ.2.2))), eMono_map (fun _ _ _ => ⟨Nat.le_refl _, Nat.le_refl _⟩), by
  rintro ⟨p, l, e, R, s, m, args, below, meth, c, Q, nL, c0, s0, w⟩ hx hc hf hl ⟨lv, st, μ⟩ o σ' hd
  obtain ⟨h1, h2, h2', h3, h4, h5, h6, h7, h8, h9⟩ := hx
  have hdg : decode c.code pc = .ok (i, n) := of_decide_eq_true hc
  dsimp only at hd
  cases hs : f (lv, st, μ) with
  | none => rw [hs] at hd; cases hd
  | some st' =>
    rw [hs] at hd
    cases hd
    refine ⟨⟨Nat.le_refl _, Nat.le_refl _⟩, fun _ _ k H locs cells slots ls hls hH hS e1 e2 => ?_⟩
    exact h p l e R s m args below meth c H locs cells slots Q ls w lv st μ st' hs (fun j v hj hn => eLv_get hls hj hn) h1 h3 h4 h5 hH hS hdg (k H locs cells slots ls hls hH hS e1 e2)⟩
/-! one instruction that stores in a local -/
def eSto {sx : eSx} (pc n : Nat) (i : Instr) (j : Nat) (f : eSt → Option (Value × List Value))
    (h : ∀ (p : Program) (l : Launch) (e : Env) (R : Room) (s : State) (m : MethodId) (args : Array Value) (below : List Frame) (meth : Method) (c : Code) (H : Heap) (locs : List Loc) (cells slots : Nat) (Q : State → Prop) (ls : Array Slot) (w : eWd) (lv st : List Value) (μ : eMem) (v : Value) (st' : List Value) (nL : Nat),
      f (lv, st, μ) = some (v, st') → lv_has ls nL (eLv (eAd w) 0 lv) → p.tables.exec = Jvm.exec → decode c.code pc = .ok (i, n) → eOk lv j = true → (eC2 v = true → j + 1 < nL) → j < nL →
      (∀ ls', lv_has ls' nL (eLv (eAd w) 0 (if eC2 v = true then (lv.set j v).set (j + 1) eJ else lv.set j v)) → W p l e R s m args below meth c H locs cells slots Q (F0 m (pc + n) ls' (st'.map (eV (eAd w))))) → W p l e R s m args below meth c H locs cells slots Q (F0 m pc ls (st.map (eV (eAd w))))) : eP sx :=
  ⟨(pc, pc + n, (0, 0), (fun cc => decide (decode cc pc = .ok (i, n)) && Nat.blt j sx.2.2.2), fun σ => (f σ).bind fun q => if eOk σ.1 j && (!eC2 q.1 || Nat.blt (j + 1) sx.2.2.2) then some (none, (if eC2 q.1 = true then (σ.1.set j q.1).set (j + 1) eJ else σ.1.set j q.1, q.2, σ.2.2)) else none), eMono_same (fun σ o σ' h => by
    dsimp only at h
    cases hf : f σ with
    | none => rw [hf] at h; cases h
    | some q =>
      rw [hf] at h
      dsimp only [Option.bind] at h
      split at h
      · cases h; rfl
      · cases h), by
  rintro ⟨p, l, e, R, s, m, args, below, meth, c, Q, nL, c0, s0, w⟩ hx hc hf hl ⟨lv, st, μ⟩ o σ' hd
  obtain ⟨h1, h2, h2', h3, h4, h5, h6, h7, h8, h9⟩ := hx
  subst h2'
  dsimp only at hc
  simp only [Bool.and_eq_true] at hc
  have hdg : decode c.code pc = .ok (i, n) := of_decide_eq_true hc.1
  have hj : j < sx.2.2.2 := Nat.blt_eq.mp hc.2
  dsimp only at hd
  cases hs : f (lv, st, μ) with
  | none => rw [hs] at hd; cases hd
  | some q =>
    obtain ⟨v, st'⟩ := q
    rw [hs] at hd
    dsimp only [Option.bind] at hd
    by_cases ho : (eOk lv j && (!eC2 v || Nat.blt (j + 1) sx.2.2.2)) = true
    · rw [if_pos ho] at hd
      simp only [Bool.and_eq_true, Bool.or_eq_true, Bool.not_eq_true'] at ho
      cases hd
      refine ⟨⟨Nat.le_refl _, Nat.le_refl _⟩, fun _ _ k H locs cells slots ls hls hH hS e1 e2 => ?_⟩
      refine h p l e R s m args below meth c H locs cells slots Q ls w lv st μ v st' _ hs hls h1 hdg ho.1 (fun z => ?_) hj (fun ls' hls' => k H locs cells slots ls' hls' hH hS e1 e2)
      rcases ho.2 with q | q
      · rw [z] at q; cases q
      · exact Nat.blt_eq.mp q
    · rw [if_neg ho] at hd
      cases hd⟩
/-! one instruction that branches -/
def eBrn {sx : eSx} (pc n T : Nat) (i : Instr) (f : eSt → Option (Bool × List Value))
    (h : ∀ (p : Program) (l : Launch) (e : Env) (R : Room) (s : State) (m : MethodId) (args : Array Value) (below : List Frame) (meth : Method) (c : Code) (H : Heap) (locs : List Loc) (cells slots : Nat) (Q : State → Prop) (ls : Array Slot) (w : eWd) (lv st : List Value) (μ : eMem) (b : Bool) (st' : List Value),
      f (lv, st, μ) = some (b, st') → p.tables.exec = Jvm.exec → eK w s s.heap → decode c.code pc = .ok (i, n) → W p l e R s m args below meth c H locs cells slots Q (F0 m (if b = true then T else pc + n) ls (st'.map (eV (eAd w)))) → W p l e R s m args below meth c H locs cells slots Q (F0 m pc ls (st.map (eV (eAd w))))) : eP sx :=
  ⟨(pc, pc + n, (0, 0), (fun cc => decide (decode cc pc = .ok (i, n))), fun σ => (f σ).map fun q => (if q.1 = true then some (.inl T) else none, (σ.1, q.2, σ.2.2))), eMono_map (fun _ _ _ => ⟨Nat.le_refl _, Nat.le_refl _⟩), by
  rintro ⟨p, l, e, R, s, m, args, below, meth, c, Q, nL, c0, s0, w⟩ hx hc hf hl ⟨lv, st, μ⟩ o σ' hd
  obtain ⟨h1, h2, h2', h3, h4, h5, h6, h7, h8, h9⟩ := hx
  have hdg : decode c.code pc = .ok (i, n) := of_decide_eq_true hc
  dsimp only at hd
  cases hs : f (lv, st, μ) with
  | none => rw [hs] at hd; cases hd
  | some q =>
    obtain ⟨b, st'⟩ := q
    rw [hs] at hd
    cases hd
    refine ⟨⟨Nat.le_refl _, Nat.le_refl _⟩, fun _ _ k H locs cells slots ls hls hH hS e1 e2 => ?_⟩
    refine h p l e R s m args below meth c H locs cells slots Q ls w lv st μ b st' hs h1 h5 hdg ?_
    cases b with
    | true => exact k H locs cells slots ls hls hH hS e1 e2
    | false => exact k H locs cells slots ls hls hH hS e1 e2⟩
/-! returns -/
def eRet {sx : eSx} (pc stop : Nat) (i : Instr) (f : eSt → Option (Option Value)) (h : ∀ (cc : ByteArray) (σ : eSt) (v : Option Value), f σ = some v → decode cc pc = .ok (i, 1) → eRetD cc pc v ∧ σ.2.1 = v.toList) : eP sx :=
  ⟨(pc, stop, (0, 0), (fun cc => decide (decode cc pc = .ok (i, 1))), fun σ => (f σ).map fun v => (some (.inr (.inl v)), σ)), eMono_map (fun _ _ _ => ⟨Nat.le_refl _, Nat.le_refl _⟩), by
  intro x hx hc hf hl σ o σ' hd
  dsimp only at hd
  cases hs : f σ with
  | none => rw [hs] at hd; cases hd
  | some v =>
    rw [hs] at hd
    cases hd
    obtain ⟨q1, q2⟩ := h (xCode x) σ v hs (of_decide_eq_true hc)
    refine ⟨⟨Nat.le_refl _, Nat.le_refl _⟩, fun _ _ k => ?_⟩
    obtain ⟨lv, st, μ⟩ := σ
    dsimp only at q2
    subst q2
    exact k pc lv q1⟩
