/-! ===== pieces of the law: they may look at the script ===== -/
/-- the script: below the world, known to the end; its number is 3000 -/
def sCx (b L : Nat) (xs : Nat → Int32) : eCtx → Prop
  | (_, _, _, _, s, _, _, _, _, _, _, _, _, _, w) => va_X b L xs s s.heap ∧ b < s.heap.size ∧ b < eB w ∧ eAd w 3000 = b
def sSound (S : eCtx → Prop) (sx : eSx) (f : eFr) : Prop := ∀ x : eCtx, eCx sx x → S x → f.2.2.2.1 (xCode x) = true → f.2.2.1.1 ≤ (xR x).frames → f.2.2.1.2 ≤ (xR x).locals → ∀ (σ : eSt) (o : eOut) (σ' : eSt), f.2.2.2.2 σ = some (o, σ') →
  (eC σ.2.2 ≤ eC σ'.2.2 ∧ eZ σ.2.2 ≤ eZ σ'.2.2) ∧ (eC σ'.2.2 ≤ xC0 x + (xR x).cells → eZ σ'.2.2 ≤ xS0 x + (xR x).slots → eKont x f.2.1 o σ' → eE x f.1 σ)
abbrev sP (S : eCtx → Prop) (sx : eSx) : Type := { f : eFr // eMono f.2.2.2.2 ∧ sSound S sx f }
def sDen {S : eCtx → Prop} {sx : eSx} (a : sP S sx) : eSt → eRes := a.1.2.2.2.2
def sE {S : eCtx → Prop} {sx : eSx} (a : eP sx) : sP S sx := ⟨a.1, a.2.1, fun x hx _ hc hf hl => a.2.2 x hx hc hf hl⟩
def sSeq {S : eCtx → Prop} {sx : eSx} (a b : sP S sx) : sP S sx := ⟨(a.1.1, b.1.2.1, (max a.1.2.2.1.1 b.1.2.2.1.1, max a.1.2.2.1.2 b.1.2.2.1.2), (fun cc => a.1.2.2.2.1 cc && (b.1.2.2.2.1 cc && Nat.beq a.1.2.1 b.1.1)), fun σ => eBind (a.1.2.2.2.2 σ) b.1.2.2.2.2), eMono_bind (fun _ _ => rfl) a.2.1 b.2.1, by
  obtain ⟨⟨a1, a2, a3, a4, a5⟩, ham, ha⟩ := a
  obtain ⟨⟨b1, b2, b3, b4, b5⟩, hbm, hb⟩ := b
  intro x hx hs hc hf hl σ o σ' hd
  dsimp only at hc hf hl hd ⊢
  simp only [Bool.and_eq_true] at hc
  obtain ⟨hc1, hc2, hc3⟩ := hc
  have e : a2 = b1 := Nat.eq_of_beq_eq_true hc3
  subst e
  have A := ha x hx hs hc1 (Nat.le_trans (Nat.le_max_left _ _) hf) (Nat.le_trans (Nat.le_max_left _ _) hl)
  have B := hb x hx hs hc2 (Nat.le_trans (Nat.le_max_right _ _) hf) (Nat.le_trans (Nat.le_max_right _ _) hl)
  dsimp only at A B
  cases h1 : a5 σ with
  | none => rw [h1] at hd; simp [eBind] at hd
  | some q =>
    obtain ⟨o1, σ1⟩ := q
    rw [h1] at hd
    obtain ⟨m1, k1⟩ := A σ o1 σ1 h1
    cases o1 with
    | none =>
      dsimp only [eBind] at hd
      obtain ⟨m2, k2⟩ := B σ1 o σ' hd
      exact ⟨⟨Nat.le_trans m1.1 m2.1, Nat.le_trans m1.2 m2.2⟩, fun r1 r2 k => k1 (Nat.le_trans m2.1 r1) (Nat.le_trans m2.2 r2) (k2 r1 r2 k)⟩
    | some o1 =>
      dsimp only [eBind] at hd
      cases hd
      refine ⟨m1, fun r1 r2 k => k1 r1 r2 ?_⟩
      cases o1 with
      | inl T => exact k
      | inr z => cases z with
        | inl v => exact k
        | inr X => exact k⟩
def sBlk {S : eCtx → Prop} {sx : eSx} (T : Nat) (a : sP S sx) : sP S sx := ⟨(a.1.1, T, a.1.2.2.1, (fun cc => a.1.2.2.2.1 cc && Nat.beq a.1.2.1 T), fun σ => eCatch T (a.1.2.2.2.2 σ)), eMono_catch a.2.1, by
  obtain ⟨⟨a1, a2, a3, a4, a5⟩, ham, ha⟩ := a
  intro x hx hs hc hf hl σ o σ' hd
  dsimp only at hc hf hl hd ⊢
  simp only [Bool.and_eq_true] at hc
  obtain ⟨hc1, hc3⟩ := hc
  have e : a2 = T := Nat.eq_of_beq_eq_true hc3
  subst e
  have A := ha x hx hs hc1 hf hl
  dsimp only at A
  cases h1 : a5 σ with
  | none => rw [h1] at hd; simp [eCatch] at hd
  | some q =>
    obtain ⟨o1, σ1⟩ := q
    rw [h1] at hd
    obtain ⟨m1, k1⟩ := A σ o1 σ1 h1
    cases o1 with
    | none =>
      dsimp only [eCatch] at hd
      cases hd
      exact ⟨m1, k1⟩
    | some o1 =>
      cases o1 with
      | inl T =>
        dsimp only [eCatch] at hd
        by_cases ht : T = a2
        · rw [if_pos ht] at hd
          cases hd
          subst ht
          exact ⟨m1, k1⟩
        · rw [if_neg ht] at hd
          cases hd
          exact ⟨m1, k1⟩
      | inr z =>
        dsimp only [eCatch] at hd
        cases hd
        refine ⟨m1, fun r1 r2 k => k1 r1 r2 ?_⟩
        cases z with
        | inl v => exact k
        | inr X => exact k⟩
def sLop {S : eCtx → Prop} {sx : eSx} (h : Nat) (a : sP S sx) : sP S sx := ⟨(h, a.1.2.1, a.1.2.2.1, (fun cc => a.1.2.2.2.1 cc && Nat.beq a.1.1 h), fun σ => eLoop eFuel h a.1.2.2.2.2 σ), eMono_loop a.2.1 eFuel, by
  obtain ⟨⟨a1, a2, a3, a4, a5⟩, ham, ha⟩ := a
  intro x hx hs hc hf hl
  dsimp only at hc hf hl ⊢
  simp only [Bool.and_eq_true] at hc
  obtain ⟨hc1, hc3⟩ := hc
  have e : a1 = h := Nat.eq_of_beq_eq_true hc3
  subst e
  have A := ha x hx hs hc1 hf hl
  dsimp only at A
  generalize eFuel = n
  induction n with
  | zero => intro σ o σ' hd; simp [eLoop] at hd
  | succ n ih =>
    intro σ o σ' hd
    unfold eLoop at hd
    cases h1 : a5 σ with
    | none => rw [h1] at hd; simp at hd
    | some q =>
      obtain ⟨o1, σ1⟩ := q
      rw [h1] at hd
      obtain ⟨m1, k1⟩ := A σ o1 σ1 h1
      cases o1 with
      | none =>
        dsimp only at hd
        cases hd
        exact ⟨m1, k1⟩
      | some o1 =>
        cases o1 with
        | inl T =>
          dsimp only at hd
          by_cases ht : T = a1
          · rw [if_pos ht] at hd
            subst ht
            obtain ⟨m2, k2⟩ := ih σ1 o σ' hd
            exact ⟨⟨Nat.le_trans m1.1 m2.1, Nat.le_trans m1.2 m2.2⟩, fun r1 r2 k => k1 (Nat.le_trans m2.1 r1) (Nat.le_trans m2.2 r2) (k2 r1 r2 k)⟩
          · rw [if_neg ht] at hd
            cases hd
            exact ⟨m1, k1⟩
        | inr z =>
          dsimp only at hd
          cases hd
          refine ⟨m1, fun r1 r2 k => k1 r1 r2 ?_⟩
          cases z with
          | inl v => exact k
          | inr X => exact k⟩
def f_sld (L : Nat) (xs : Nat → Int32) : eSt → Option (List Value) := fun σ => match σ.2.1 with
  | .int i :: .ref o :: r => if o = 3000 ∧ ¬ (i < 0 ∨ L ≤ i.toNatClampNeg) then some (.int (xs i.toNatClampNeg) :: r) else none
  | _ => none
/-- an int of the script -/
def p_sld {b L : Nat} {xs : Nat → Int32} {sx : eSx} (pc : Nat) : sP (sCx b L xs) sx := ⟨(pc, pc + 1, (0, 0), (fun cc => decide (decode cc pc = .ok (.iaload, 1))), fun σ => (f_sld L xs σ).map fun st => (none, (σ.1, st, σ.2.2))), eMono_map (fun _ _ _ => ⟨Nat.le_refl _, Nat.le_refl _⟩), by
  rintro ⟨p, l, e, R, s, m, args, below, meth, c, Q, nL, c0, s0, w⟩ hx ⟨g1, g2, g3, g4⟩ hc hf hl ⟨lv, st, μ⟩ o σ' hd
  obtain ⟨h1, h2, h2', h3, h4, h5, h6, h7, h8, h9⟩ := hx
  have hdg : decode c.code pc = .ok (.iaload, 1) := of_decide_eq_true hc
  dsimp only at hd
  cases hs : f_sld L xs (lv, st, μ) with
  | none => rw [hs] at hd; cases hd
  | some st' =>
    rw [hs] at hd
    cases hd
    refine ⟨⟨Nat.le_refl _, Nat.le_refl _⟩, fun _ _ k H locs cells slots ls hls hH hS e1 e2 => ?_⟩
    have kk := k H locs cells slots ls hls hH hS e1 e2
    simp only [f_sld] at hs
    split at hs
    · rename_i i o r
      split at hs
      · rename_i hc9
        cases hs
        have hq : eV (eAd w) (.ref o) = .ref b := by
          rw [hc9.1]
          exact congrArg Value.ref g4
        have := va_sld (rest := r.map (eV (eAd w))) h1 rfl g1 g2 (show ¬ eAr w b from fun z => absurd (show eB w ≤ b from z) (by omega)) hS hc9.2 hdg kk
        show W p l e R s m args below meth c H locs cells slots Q (F0 m pc ls (.int i :: eV (eAd w) (.ref o) :: r.map (eV (eAd w))))
        rw [hq]
        exact this
      · cases hs
    · cases hs⟩
def f_slen (L : Nat) : eSt → Option (List Value) := fun σ => match σ.2.1 with
  | .ref o :: r => if o = 3000 then some (.int (Int32.ofNat L) :: r) else none
  | _ => none
/-- the script's length -/
def p_slen {b L : Nat} {xs : Nat → Int32} {sx : eSx} (pc : Nat) : sP (sCx b L xs) sx := ⟨(pc, pc + 1, (0, 0), (fun cc => decide (decode cc pc = .ok (.arraylength, 1))), fun σ => (f_slen L σ).map fun st => (none, (σ.1, st, σ.2.2))), eMono_map (fun _ _ _ => ⟨Nat.le_refl _, Nat.le_refl _⟩), by
  rintro ⟨p, l, e, R, s, m, args, below, meth, c, Q, nL, c0, s0, w⟩ hx ⟨g1, g2, g3, g4⟩ hc hf hl ⟨lv, st, μ⟩ o σ' hd
  obtain ⟨h1, h2, h2', h3, h4, h5, h6, h7, h8, h9⟩ := hx
  have hdg : decode c.code pc = .ok (.arraylength, 1) := of_decide_eq_true hc
  dsimp only at hd
  cases hs : f_slen L (lv, st, μ) with
  | none => rw [hs] at hd; cases hd
  | some st' =>
    rw [hs] at hd
    cases hd
    refine ⟨⟨Nat.le_refl _, Nat.le_refl _⟩, fun _ _ k H locs cells slots ls hls hH hS e1 e2 => ?_⟩
    have kk := k H locs cells slots ls hls hH hS e1 e2
    simp only [f_slen] at hs
    split at hs
    · rename_i o r
      split at hs
      · rename_i hc9
        cases hs
        have hq : eV (eAd w) (.ref o) = .ref b := by
          rw [hc9]
          exact congrArg Value.ref g4
        have := va_slen (rest := r.map (eV (eAd w))) h1 rfl g1 g2 (show ¬ eAr w b from fun z => absurd (show eB w ≤ b from z) (by omega)) hS hdg kk
        show W p l e R s m args below meth c H locs cells slots Q (F0 m pc ls (eV (eAd w) (.ref o) :: r.map (eV (eAd w))))
        rw [hq]
        exact this
      · cases hs
    · cases hs⟩
