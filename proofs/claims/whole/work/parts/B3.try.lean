/-! ===== a call whose throw is caught: for the law's helpers ===== -/
def eNcs : List (String × String) := [("java/lang/IllegalStateException", "java/lang/IndexOutOfBoundsException"), ("java/lang/IllegalStateException", "java/lang/IllegalArgumentException"), ("java/lang/IllegalArgumentException", "java/lang/IllegalStateException"), ("java/lang/IllegalArgumentException", "java/lang/IndexOutOfBoundsException"), ("java/lang/IndexOutOfBoundsException", "java/lang/IllegalStateException"), ("java/lang/IndexOutOfBoundsException", "java/lang/IllegalArgumentException")]
/-- the class, the handler's place, the place behind its first store, the local of that -/
abbrev eHn : Type := String × Nat × Nat × Nat
def hFind : List eHn → String → Option (Nat × Nat × Nat)
  | [], _ => none
  | q :: t, X => if q.1 = X then some q.2 else hFind t X
theorem hFind_mem : ∀ (hd : List eHn) (X : String) (r : Nat × Nat × Nat), hFind hd X = some r → (X, r) ∈ hd := by
  intro hd
  induction hd with
  | nil => intro X r h; cases h
  | cons q t ih =>
    intro X r h
    unfold hFind at h
    split at h
    · rename_i hq
      cases h
      rw [← hq]
      exact List.mem_cons_self
    · exact List.mem_cons_of_mem _ (ih X r h)
def hOK (own : String) (hh : List (Nat × Nat × Nat × Nat)) (pc : Nat) (q : eHn) : Prop := (∃ (pre : List ExceptionTableEntry) (x : ExceptionTableEntry) (suf : List ExceptionTableEntry), tableOf hh = pre ++ x :: suf ∧ (∀ z ∈ pre, z.catchType ≠ 0 ∧ ∃ nm, Cond.classLink own z.catchType nm ∈ eTB ∧ (q.1, nm) ∈ eNcs) ∧ covers x pc = true ∧ x.catchType ≠ 0 ∧ x.handlerPc = q.2.1 ∧ Cond.classLink own x.catchType q.1 ∈ eTB) ∧ Cond.castable q.1 q.1 ∈ eXn
def sTb (hh : List (Nat × Nat × Nat × Nat)) : eCtx → Prop
  | (_, _, _, _, s, _, _, _, _, c, _, _, _, _, _) => c.exceptionTable.toList = tableOf hh ∧ ∀ q ∈ eNcs, va_Nc q.1 q.2 s
def hChk (cc : ByteArray) (nL : Nat) (q : eHn) : Bool := Nat.blt q.2.2.2 nL && ((decide (decode cc q.2.1 = .ok (.astore q.2.2.2, 2)) && Nat.beq q.2.2.1 (q.2.1 + 2)) || ([0, 1, 2, 3] : List (Fin 4)).any (fun k => Nat.beq k q.2.2.2 && (decide (decode cc q.2.1 = .ok (.astore_n k, 1)) && Nat.beq q.2.2.1 (q.2.1 + 1))))
theorem eLv_drop (ad : Nat → Nat) {lv : List Value} {j : Nat} (hj : eOk lv j = true) (x : Value) : ∀ q ∈ eLv ad 0 (lv.set j eJ), q ∈ (j, x) :: (eLv ad 0 lv).filter (fun q => !(q.1 == j) && !(q.1 + 1 == j && q.2.category == 2)) := by
  intro q hq
  obtain ⟨k, v, h1, h2, rfl⟩ := (eLv_mem ad _ 0 q).mp hq
  rw [Nat.zero_add]
  have hk : k ≠ j := fun z => by
    subst z
    rw [List.getElem?_set_self (eOk_spec lv k hj).1] at h1
    cases h1
    cases h2
  rw [List.getElem?_set_ne (Ne.symm hk)] at h1
  refine List.mem_cons_of_mem _ (List.mem_filter.mpr ⟨(eLv_mem ad _ 0 _).mpr ⟨k, v, h1, h2, by rw [Nat.zero_add]⟩, ?_⟩)
  dsimp only
  have hc : k + 1 = j → eC2 v = false := fun z => (eOk_spec lv j hj).2 k v z h1
  by_cases g : k + 1 = j
  · have e := hc g
    have e2 : (eV ad v).category ≠ 2 := by
      rw [eV_cat]
      intro z
      rw [(eC2_cat v).mpr z] at e
      cases e
    simp [hk, e2]
  · simp [hk, g]
def eTryR (hd : List eHn) (lv : List Value) (r : Option ((Option Value ⊕ String) × List Value × eMem)) : eRes := match r with
  | some (.inl v, st, μ) => some (none, (lv, v.toList ++ st, μ))
  | some (.inr X, _, μ) => match hFind hd X with
    | some r => if eOk lv r.2.2 = true then some (some (.inl r.2.1), (lv.set r.2.2 eJ, [], μ)) else none
    | none => none
  | none => none
def p_try {hh : List (Nat × Nat × Nat × Nat)} {sx : eSx} (pc n : Nat) (i : Instr) (ok : List Value → eMem → Bool) (M : eMt) (hL : eLnk sx M.1 pc n i ok) (hd : List eHn) (hhd : ∀ q ∈ hd, hOK sx.1 hh pc q) : sP (sTb hh) sx :=
  ⟨(pc, pc + 3, (M.1.2.2.2.2.1.1 + 1, 8 + (M.1.2.2.1 + 11) + M.1.2.2.2.2.1.2), (fun cc => decide (decode cc pc = .ok (i, 3)) && hd.all (hChk cc sx.2.2.2)), fun σ => eTryR hd σ.1 (eCa M.1 n ok σ)), (by
  intro σ o σ' hdd
  dsimp only at hdd
  unfold eCa at hdd
  split at hdd
  · cases hm : M.1.2.2.2.2.2 (σ.2.1.take n).reverse σ.2.2 with
    | none => rw [hm] at hdd; cases hdd
    | some q =>
      obtain ⟨r, μ'⟩ := q
      have mono := M.2.2.2.2.1 _ _ _ _ hm
      rw [hm] at hdd
      cases r with
      | inr X =>
        dsimp only [Option.map, eTryR] at hdd
        split at hdd
        · split at hdd
          · cases hdd; exact mono
          · cases hdd
        · cases hdd
      | inl v => cases hdd; exact mono
  · cases hdd), by
  rintro ⟨p, l, e, R, s, m, args, below, meth, c, Q, nL, c0, s0, w⟩ hx ⟨hT1, hT2⟩ hc hf hl ⟨lv, st, μ⟩ o σ' hdd
  obtain ⟨h1, h2, h2', h3, h4, h5, h6, h7, h8, h9⟩ := hx
  obtain ⟨M, g1, g2, g3, g4⟩ := M
  simp only [Bool.and_eq_true] at hc
  have hdg : decode c.code pc = .ok (i, 3) := of_decide_eq_true hc.1
  dsimp only at hdd hf hl
  unfold eCa at hdd
  dsimp only at hdd
  split at hdd
  · rename_i hc9
    cases hm : M.2.2.2.2.2 (st.take n).reverse μ with
    | none => rw [hm] at hdd; cases hdd
    | some q =>
      obtain ⟨r, μ'⟩ := q
      rw [hm] at hdd
      have mono := g4.1 _ μ _ μ' hm
      have hM := g4.2 l h9 w _ μ _ μ' hm
      cases r with
      | inr X =>
        dsimp only [Option.map, eTryR] at hdd
        split at hdd
        · rename_i r hr
          split at hdd
          · rename_i hok
            cases hdd
            have hin := hFind_mem hd X r hr
            obtain ⟨⟨pre, x, suf, q1, q2, q3, q4, q5, q6⟩, q7⟩ := hhd _ hin
            have hk := List.all_eq_true.mp hc.2 _ hin
            refine ⟨mono, fun r1 r2 k H locs cells slots ls hls hH hS e1 e2 => ?_⟩
            dsimp only [xC0, xS0, xR] at r1 r2 e1 e2 hf hl
            obtain ⟨a, hrun⟩ := hL p l e R s m args below meth c H locs cells slots ls w (st.take n).reverse (st.drop n) μ _ μ' _ h1 (hls.1.trans h2.symm) h3 h4 h5 hH hS hc9.2.1 (by rw [List.length_reverse, List.length_take]; omega) hdg hf hl hc9.2.2 (by omega) (by omega) rfl g1 g2 g3 hM
            rw [List.reverse_reverse, List.take_append_drop] at hrun
            intro T hT X9
            rcases hrun T hT X9 with ⟨v', st₀, t, T', L, y0, X', hL', y1, y2, ⟨⟨v2, z1, z2, z3⟩, hF⟩, stp⟩ | ⟨q, st₀, t, T', L, E, ce, y0, X', hL', y1, y2, ⟨⟨z1, z2⟩, hF⟩, y3, y4, y5, stp⟩
            · cases z1
            · cases z1
              obtain ⟨k1, k2, k3⟩ := vx_keep (A0 := eAr w) (A1 := eAr w) (free := eAr w) y0 y1 hS (fun q _ z => z) (fun q z => z) hL' hF
              have hcast : (Cond.castable X X).before args s = true := vx_ot_at (State.WarmedH.refl s) rfl (by rfl) (h5.2.2.2.2.2.2.2.2.2.2 _ q7)
              simp only [hChk, Bool.and_eq_true, Bool.or_eq_true, Nat.blt_eq] at hk
              have kk : W p l e R s m args below meth c T'.heap (locs ++ L) (cells + (eC μ' - eC μ)) (slots + (eZ μ' - eZ μ)) Q (F0 m x.handlerPc ls [.ref q]) := by
                have go : ∀ ls', lv_has ls' nL (eLv (eAd w) 0 (lv.set r.2.2 eJ)) → W p l e R s m args below meth c T'.heap (locs ++ L) (cells + (eC μ' - eC μ)) (slots + (eZ μ' - eZ μ)) Q (F0 m r.2.1 ls' []) := fun ls' hls' => k T'.heap (locs ++ L) (cells + (eC μ' - eC μ)) (slots + (eZ μ' - eZ μ)) ls' hls' (by dsimp only; rw [y1]; exact z2) k3 (by dsimp only; omega) (by dsimp only; omega)
                rw [q5]
                rcases hk.2 with ⟨d1, d2⟩ | d1
                · refine lv_astore h1 rfl (of_decide_eq_true d1) hls (by rw [h2']; exact hk.1) rfl (fun ls' hl' => ?_)
                  rw [← Nat.eq_of_beq_eq_true d2]
                  exact go ls' (eHas_sub hl' (eLv_drop (eAd w) hok _))
                · obtain ⟨kf, -, d3⟩ := List.any_eq_true.mp d1
                  simp only [Bool.and_eq_true] at d3
                  obtain ⟨d3, d4, d5⟩ := d3
                  refine lv_astore_n h1 rfl (of_decide_eq_true d4) (Nat.eq_of_beq_eq_true d3) hls (by rw [h2']; exact hk.1) rfl (fun ls' hl' => ?_)
                  rw [← Nat.eq_of_beq_eq_true d5]
                  exact go ls' (eHas_sub hl' (eLv_drop (eAd w) hok _))
              have hW := vx_catch (rest := (st.drop n).map (eV (eAd w))) (E := X) (name := X) (pc := pc) (ls := ls) h3 pre x suf (by rw [hT1]; exact q1) (fun z hz => by
                obtain ⟨b1, nm, b2, b3⟩ := q2 z hz
                exact Or.inr ⟨b1, nm, h4 _ b2, hT2 _ b3⟩) q3 q4 (h4 _ q6) hcast (by rw [y1]; exact y3) y4 y5 kk
              obtain ⟨t2, a1, b1⟩ := hW T' rfl X'
              exact ⟨t2, stp.trans a1, b1⟩
          · cases hdd
        · cases hdd
      | inl v =>
        cases hdd
        refine ⟨mono, fun r1 r2 k H locs cells slots ls hls hH hS e1 e2 => ?_⟩
        dsimp only [xC0, xS0, xR] at r1 r2 e1 e2 hf hl
        obtain ⟨a, hr⟩ := hL p l e R s m args below meth c H locs cells slots ls w (st.take n).reverse (st.drop n) μ _ μ' _ h1 (hls.1.trans h2.symm) h3 h4 h5 hH hS hc9.2.1 (by rw [List.length_reverse, List.length_take]; omega) hdg hf hl hc9.2.2 (by omega) (by omega) rfl g1 g2 g3 hM
        rw [List.reverse_reverse, List.take_append_drop] at hr
        intro T hT X
        rcases hr T hT X with ⟨v', st₀, t, T', L, y0, X', hL', y1, y2, ⟨⟨v2, z1, z2, z3⟩, hF⟩, stp⟩ | ⟨q, st₀, t, T', L, E, ce, y0, X', hL', y1, y2, ⟨⟨z1, -⟩, -⟩, -⟩
        · cases z1
          cases z2
          obtain ⟨k1, k2, k3⟩ := vx_keep (A0 := eAr w) (A1 := eAr w) (free := eAr w) y0 y1 hS (fun q _ z => z) (fun q z => z) hL' hF
          have kk := k T'.heap (locs ++ L) (cells + (eC μ' - eC μ)) (slots + (eZ μ' - eZ μ)) ls hls (by dsimp only; rw [y1]; exact z3) k3 (by dsimp only; omega) (by dsimp only; omega)
          have e9 : (v.toList ++ st.drop n).map (eV (eAd w)) = (v.map (eV (eAd w))).toList ++ (st.drop n).map (eV (eAd w)) := by
            rw [List.map_append]
            cases v <;> rfl
          rw [e9] at kk
          obtain ⟨t2, a1, b1⟩ := kk T' rfl X'
          exact ⟨t2, stp t2 a1, b1⟩
        · cases z1
  · cases hdd⟩
