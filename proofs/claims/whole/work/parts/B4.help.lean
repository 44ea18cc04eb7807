/-! ===== the law's helpers: methods with a table of handlers ===== -/
def sNc : eCtx → Prop
  | (_, _, _, _, s, _, _, _, _, _, _, _, _, _, _) => ∀ q ∈ eNcs, va_Nc q.1 q.2 s
def sLift {S S' : eCtx → Prop} {sx : eSx} (h : ∀ x, S' x → S x) (a : sP S sx) : sP S' sx := ⟨a.1, a.2.1, fun x hx hs hc hf hl => a.2.2 x hx (h x hs) hc hf hl⟩
def sGo {S : eCtx → Prop} {sx : eSx} (ret : Option FieldType) (a : sP S sx) : List Value → eMem → Option ((Option Value ⊕ String) × eMem) := fun av μ =>
  if (eArgs av).length ≤ sx.2.2.2 then eFin ret (a.1.2.2.2.2 (eEnt av sx.2.2.2, [], μ)) else none
theorem sGo_mono {S : eCtx → Prop} {sx : eSx} {ret : Option FieldType} (a : sP S sx) (av : List Value) (μ : eMem) (r : Option Value ⊕ String) (μ' : eMem) (h : sGo ret a av μ = some (r, μ')) : eC μ ≤ eC μ' ∧ eZ μ ≤ eZ μ' := by
  unfold sGo at h
  split at h
  · obtain ⟨σ, h1, h2, -⟩ := eFin_spec h
    have := a.2.1 _ _ _ h1
    rw [h2] at this
    exact this
  · cases h
def ePreN (w : eWd) (μ : eMem) : State → Prop := fun U => ePre w μ U ∧ ∀ q ∈ eNcs, va_Nc q.1 q.2 U
def eHwd (M : eMd) (hh : List (Nat × Nat × Nat × Nat)) : Cond := .codeWith M.1 M.2.1 M.2.2.1 M.2.2.2.1 hh
def eHW (M : eMd) (hh : List (Nat × Nat × Nat × Nat)) : Prop := (∀ (av : List Value) (μ : eMem) (r : Option Value ⊕ String) (μ' : eMem), M.2.2.2.2.2 av μ = some (r, μ') → eC μ ≤ eC μ' ∧ eZ μ ≤ eZ μ') ∧ ∀ (l : Launch), l.stackTraces = false → ∀ (w : eWd) (av : List Value) (μ : eMem) (r : Option Value ⊕ String) (μ' : eMem), M.2.2.2.2.2 av μ = some (r, μ') →
  vx_Met l M.1 (eHwd M hh :: eTB) (eRm M μ μ') (va_Pc (av.map (eV (eAd w))) (ePreN w μ)) (eQc w r μ') (eXc w r μ') (eC μ' - eC μ) (eZ μ' - eZ μ) (eAr w)
def eHOK (M : eMd) (hh : List (Nat × Nat × Nat × Nat)) : Prop := eHwd M hh ∈ eTB ∧ Cond.initialized M.1.cls ∈ eTB ∧ (M.1.cls ≠ "java/lang/invoke/MethodHandle" ∧ M.1.cls ≠ "java/lang/invoke/VarHandle") ∧ eHW M hh
abbrev eHt (hh : List (Nat × Nat × Nat × Nat)) : Type := { M : eMd // eHOK M hh }
def hCall {hh : List (Nat × Nat × Nat × Nat)} (M : eHt hh) : List Value → eMem → Option ((Option Value ⊕ String) × eMem) := M.1.2.2.2.2.2
theorem ePcN_blind (w : eWd) (av : List Value) (μ : eMem) : FrameBlind (va_Pc av (ePreN w μ)) := fun a U g mk q => ⟨q.1, ⟨q.2.1.1, eK_blind q.2.1.2⟩, fun z hz => va_Nc.moved (Vm.Alike.refl U.vm) (q.2.2 z hz)⟩
theorem sGo_W {hh : List (Nat × Nat × Nat × Nat)} {y : MethodName} {bytes : ByteArray} {maxL : Nat} {ret : Option FieldType} (a : sP (sTb hh) (y.cls, false, true, maxL)) (hc : a.1.2.2.2.1 bytes = true) (h0 : a.1.1 = 0)
    {p : Program} {l : Launch} {e : Env} {s : State} {m : MethodId} {below : List Frame} {meth : Method} {c : Code} {w : eWd} {av : List Value} {μ : eMem} {r : Option Value ⊕ String} {μ' : eMem} {R : Room}
    (hl : l.stackTraces = false) (hd : sGo ret a av μ = some (r, μ')) (hx : p.tables.exec = Jvm.exec) (hb : c.code = bytes) (hr : meth.sig.returnType = ret) (hlocks : meth.locks = false) (hml : c.maxLocals = maxL) (hown : s.vm.findClass y.cls = some m.cls) (hT : c.exceptionTable.toList = tableOf hh)
    (hts : ∀ x ∈ eTB, x.before (av.map (eV (eAd w))).toArray s = true) (hP : ePreN w μ s) (hR : R = { frames := a.1.2.2.1.1, cells := eC μ' - eC μ, slots := eZ μ' - eZ μ, locals := a.1.2.2.1.2 }) :
    W p l e R s m (av.map (eV (eAd w))).toArray below meth c s.heap [] 0 0 (vx_MQ below (eQc w r μ') (eXc w r μ') (av.map (eV (eAd w))).toArray s (eC μ' - eC μ) (eZ μ' - eZ μ) (eAr w)) (entryFrame m (av.map (eV (eAd w))).toArray maxL) := by
  have mono := sGo_mono a av μ r μ' hd
  unfold sGo at hd
  split at hd
  · rename_i hlen
    obtain ⟨σ, h1, h2, h3⟩ := eFin_spec hd
    obtain ⟨⟨a1, a2, a3, a4, a5⟩, ham, ha⟩ := a
    dsimp only at h0 hc h1 hR
    subst h0
    have hS := (ha (p, l, e, R, s, m, (av.map (eV (eAd w))).toArray, below, meth, c, vx_MQ below (eQc w r μ') (eXc w r μ') (av.map (eV (eAd w))).toArray s (eC μ' - eC μ) (eZ μ' - eZ μ) (eAr w), maxL, eC μ, eZ μ, w)
      ⟨hx, hml, rfl, hown, hts, hP.1.2, hlocks, (fun z => by cases z), (fun z => by cases z), hl⟩ ⟨hT, hP.2⟩ (by show a4 c.code = true; rw [hb]; exact hc) (by rw [hR]; exact Nat.le_refl _) (by rw [hR]; exact Nat.le_refl _) _ _ _ h1).2
      (by rw [h2, hR]; show eC μ' ≤ eC μ + (eC μ' - eC μ); omega) (by rw [h2, hR]; show eZ μ' ≤ eZ μ + (eZ μ' - eZ μ); omega)
    rw [lg_entry_eq]
    have hent := lv_entry (av.map (eV (eAd w))) (n := maxL) (by rw [eArgs_len]; exact hlen)
    refine hS ?_ s.heap [] 0 0 _ (eHas_sub hent (eEnt_mem (eAd w) av maxL)) hP.1.1 va_S.rf (Nat.add_zero _) (Nat.add_zero _)
    cases r with
    | inl v =>
      intro pc lv hdg H locs cells slots ls hls hH hSS e1 e2
      rw [h2] at hH e1 e2
      have e1 : eC μ + cells = eC μ' := e1
      have e2 : eZ μ + slots = eZ μ' := e2
      have z1 : cells = eC μ' - eC μ := by omega
      have z2 : slots = eZ μ' - eZ μ := by omega
      subst z1
      subst z2
      exact eRet_go hx hr hlocks (h3 v rfl) hH hSS hdg
    | inr X =>
      refine ⟨_, _, by rw [hR], fun t ht hF hH => ?_⟩
      rw [h2] at hH
      exact ⟨⟨rfl, hH⟩, hF⟩
  · cases hd
def eMakeH {hh : List (Nat × Nat × Nat × Nat)} (y : MethodName) (bytes : ByteArray) (maxL : Nat) (ret : Option FieldType) (a : sP (sTb hh) (y.cls, false, true, maxL)) (hw : Cond.codeWith y bytes maxL ret hh ∈ eTB) (hi : Cond.initialized y.cls ∈ eTB) (hy : (plainName y.cls && (decide (y.cls ≠ "java/lang/invoke/MethodHandle") && decide (y.cls ≠ "java/lang/invoke/VarHandle"))) = true)
    (hc : (a.1.2.2.2.1 bytes && Nat.beq a.1.1 0) = true) : eHt hh :=
  ⟨(y, bytes, maxL, ret, a.1.2.2.1, sGo ret a), hw, hi, by
    simp only [Bool.and_eq_true, decide_eq_true_eq] at hy
    exact hy.2, sGo_mono a, by
  simp only [Bool.and_eq_true, decide_eq_true_eq] at hy
  simp only [Bool.and_eq_true] at hc
  intro l hl w av μ r μ' hd
  refine vx_ofWH (cc := bytes) (maxL := maxL) (ret := ret) (hh := hh) hy.1 rfl ?_
  intro p e s m args below meth c s₁ B hml hv
  obtain ⟨rfl, hP⟩ := hv
  have hts := atoms_spec (ws := Cond.codeWith y bytes maxL ret hh :: eTB) B.pre
  exact sGo_W a hc.1 (Nat.eq_of_beq_eq_true hc.2) hl hd B.exec B.bytes B.returns B.notSynchronized hml (findClass_of_methodNamed B.named) (vx_table (x := y) B (hts _ List.mem_cons_self)) (fun x hx => hts x (List.mem_cons_of_mem _ hx)) hP rfl⟩
theorem eMakeH_call {hh : List (Nat × Nat × Nat × Nat)} (y : MethodName) (bytes : ByteArray) (maxL : Nat) (ret : Option FieldType) (a : sP (sTb hh) (y.cls, false, true, maxL)) (hw hi hy hc) : hCall (eMakeH (hh := hh) y bytes maxL ret a hw hi hy hc) = sGo ret a := rfl
def hCa {hh : List (Nat × Nat × Nat × Nat)} (M : eHt hh) (n : Nat) : eSt → Option ((Option Value ⊕ String) × List Value × eMem) := fun σ =>
  if n ≤ σ.2.1.length ∧ eCs (σ.2.1.drop n) ≤ 8 then
    (hCall M (σ.2.1.take n).reverse σ.2.2).map fun q => (q.1, σ.2.1.drop n, q.2) else none
/-- a static call of a helper -/
def p_callH {S : eCtx → Prop} (hS : ∀ x, S x → sNc x) {hh : List (Nat × Nat × Nat × Nat)} {sx : eSx} (pc n idx : Nat) (M : eHt hh) (hl0 : Cond.methodLink sx.1 idx M.1.1 ∈ eTB) (hst : Cond.static M.1.1 ∈ eTB) (hn : (parseMethodDescriptor M.1.1.desc).map (fun d => d.parameters.length) = some n) : sP S sx :=
  ⟨(pc, pc + 3, (M.1.2.2.2.2.1.1 + 1, 8 + (M.1.2.2.1 + 11) + M.1.2.2.2.2.1.2), (fun cc => decide (decode cc pc = .ok (.invokestatic idx, 3))), fun σ => eCaR (hCa M n σ) σ.1), (by
  intro σ o σ' hd
  dsimp only at hd
  unfold hCa at hd
  split at hd
  · cases hm : hCall M (σ.2.1.take n).reverse σ.2.2 with
    | none => rw [hm] at hd; cases hd
    | some q =>
      obtain ⟨r, μ'⟩ := q
      have mono := M.2.2.2.2.1 _ _ _ _ hm
      rw [hm] at hd
      cases r with
      | inr X => cases hd
      | inl v => cases hd; exact mono
  · cases hd), by
  intro x hx hs
  have hNc := hS x hs
  revert hx hNc
  obtain ⟨p, l, e, R, s, m, args, below, meth, c, Q, nL, c0, s0, w⟩ := x
  intro hx hNc hc hf hl ⟨lv, st, μ⟩ o σ' hd
  obtain ⟨h1, h2, h2', h3, h4, h5, h6, h7, h8, h9⟩ := hx
  obtain ⟨M, g1, g2, g3, g4⟩ := M
  have hdg : decode c.code pc = .ok (.invokestatic idx, 3) := of_decide_eq_true hc
  dsimp only at hd hf hl
  unfold hCa hCall at hd
  dsimp only at hd
  split at hd
  · rename_i hc9
    cases hm : M.2.2.2.2.2 (st.take n).reverse μ with
    | none => rw [hm] at hd; cases hd
    | some q =>
      obtain ⟨r, μ'⟩ := q
      rw [hm] at hd
      cases r with
      | inr X => cases hd
      | inl v =>
        cases hd
        have mono := g4.1 _ μ _ μ' hm
        have hM := g4.2 l h9 w _ μ _ μ' hm
        refine ⟨mono, fun r1 r2 k H locs cells slots ls hls hH hSS e1 e2 => ?_⟩
        dsimp only [xC0, xS0, xR] at r1 r2 e1 e2 hf hl
        have hGood : GoodIn eTB (va_wsS sx.1 idx M.1 (eHwd M hh :: eTB)) := fun z hz => by
          unfold va_wsS at hz
          rcases List.mem_append.mp hz with hz | hz
          · simp only [List.mem_cons, List.not_mem_nil, or_false] at hz
            rcases hz with rfl | rfl | rfl
            · exact eTB_good _ hl0
            · exact eTB_good _ hst
            · exact eTB_good _ g2
          · rcases List.mem_cons.mp hz with rfl | hz
            · exact eTB_good _ g1
            · exact eTB_good _ hz
        have hlen : ((st.take n).reverse.map (eV (eAd w))).length = n := by rw [List.length_map, List.length_reverse, List.length_take]; omega
        have hpre : ∀ U : State, U.heap = H → s.WarmedH U.vm → va_Pc ((st.take n).reverse.map (eV (eAd w))) (ePreN w μ) ((st.take n).reverse.map (eV (eAd w))).toArray U := fun U hU hW => ⟨rfl, (ePreS_of (av := (st.take n).reverse) h5 hH hSS U hU hW).2, fun q hq => va_Nc.moved hW.alike (hNc q hq)⟩
        have hr := vx_runSX (Ts := eTB) (own := sx.1) (index := idx) (bytes := M.2.1) (maxL := M.2.2.1) (ret := M.2.2.2.1) (n := n) (hh := hh) (g := F0 m pc ls (st.map (eV (eAd w)))) (rest := (st.drop n).map (eV (eAd w))) (cells := cells) (slots := slots) (locs := locs) (e := e) (below := below) (meth := meth) (R := R) (nL := c.maxLocals) (As := (st.take n).reverse.map (eV (eAd w))) ⟨h1, rfl, rfl, h3, h4⟩ hM (vx_cwSW (ws' := eTB) n h4 hGood rfl rfl rfl ⟨g3.1, g3.2, hn⟩ ⟨hf, hl⟩) ⟨ePcN_blind _ _ _, hpre⟩ rfl hlen (hls.1.trans h2.symm) (by
          show st.map (eV (eAd w)) = _
          rw [← List.map_reverse, List.reverse_reverse, ← List.map_append, List.take_append_drop]) (lv_room (by rw [eCs_map]; exact hc9.2)) hdg ⟨by omega, by omega⟩
        intro T hT X
        rcases hr T hT X with ⟨v', st₀, t, T', L, y0, X', hL', y1, y2, ⟨⟨v2, z1, z2, z3⟩, hF⟩, stp⟩ | ⟨q, st₀, t, T', L, E, ce, y0, X', hL', y1, y2, ⟨⟨z1, -⟩, -⟩, -⟩
        · cases z1
          cases z2
          obtain ⟨k1, k2, k3⟩ := vx_keep (A0 := eAr w) (A1 := eAr w) (free := eAr w) y0 y1 hSS (fun q _ z => z) (fun q z => z) hL' hF
          have kk := k T'.heap (locs ++ L) (cells + (eC μ' - eC μ)) (slots + (eZ μ' - eZ μ)) ls hls (by dsimp only; rw [y1]; exact z3) k3 (by dsimp only; omega) (by dsimp only; omega)
          have e9 : (v.toList ++ st.drop n).map (eV (eAd w)) = (v.map (eV (eAd w))).toList ++ (st.drop n).map (eV (eAd w)) := by
            rw [List.map_append]
            cases v <;> rfl
          rw [e9] at kk
          obtain ⟨t2, a1, b1⟩ := kk T' rfl X'
          exact ⟨t2, stp t2 a1, b1⟩
        · cases z1
  · cases hd⟩
