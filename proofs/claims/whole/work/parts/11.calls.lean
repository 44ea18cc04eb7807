/-! ===== methods and their calls ===== -/
/-- a method: name, code, locals, return type, frames and locals that it needs, what it does -/
abbrev eMd : Type := MethodName × ByteArray × Nat × Option FieldType × (Nat × Nat) × (List Value → eMem → Option ((Option Value ⊕ String) × eMem))
def ePre (w : eWd) (μ : eMem) : State → Prop := fun U => eH w μ U.heap ∧ eK w U U.heap
def eQc (w : eWd) (r : Option Value ⊕ String) (μ' : eMem) : Array Value → State → Outcome → State → Prop := fun _ st oc t => (∃ v, r = .inl v ∧ oc = .returned (v.map (eV (eAd w))) ∧ eH w μ' t.heap) ∧ va_F (eAr w) st t
def eXc (w : eWd) (r : Option Value ⊕ String) (μ' : eMem) : String → State → State → Prop := fun X st t => (r = .inr X ∧ eH w μ' t.heap) ∧ va_F (eAr w) st t
def eRm (M : eMd) (μ μ' : eMem) : Room := { frames := M.2.2.2.2.1.1, cells := eC μ' - eC μ, slots := eZ μ' - eZ μ, locals := M.2.2.2.2.1.2 }
/-- its contract, under the words ws (its own code's word first) -/
def eMW (M : eMd) (ws : List Cond) : Prop := (∀ (av : List Value) (μ : eMem) (r : Option Value ⊕ String) (μ' : eMem), M.2.2.2.2.2 av μ = some (r, μ') → eC μ ≤ eC μ' ∧ eZ μ ≤ eZ μ') ∧ ∀ (l : Launch), l.stackTraces = false → ∀ (w : eWd) (av : List Value) (μ : eMem) (r : Option Value ⊕ String) (μ' : eMem), M.2.2.2.2.2 av μ = some (r, μ') →
  vx_Met l M.1 ws (eRm M μ μ') (va_Pc (av.map (eV (eAd w))) (ePre w μ)) (eQc w r μ') (eXc w r μ') (eC μ' - eC μ) (eZ μ' - eZ μ) (eAr w)
def eMwd (M : eMd) : Cond := .code M.1 M.2.1 M.2.2.1 M.2.2.2.1
def eMOK (M : eMd) : Prop := eMwd M ∈ eTB ∧ Cond.initialized M.1.cls ∈ eTB ∧ (M.1.cls ≠ "java/lang/invoke/MethodHandle" ∧ M.1.cls ≠ "java/lang/invoke/VarHandle") ∧ eMW M (eMwd M :: eTB)
abbrev eMt : Type := { M : eMd // eMOK M }
def eCall (M : eMt) : List Value → eMem → Option ((Option Value ⊕ String) × eMem) := M.1.2.2.2.2.2
theorem eMw_good {M : eMd} (h : eMwd M ∈ eTB) : GoodIn eTB (eMwd M :: eTB) := fun x hx => by
  rcases List.mem_cons.mp hx with rfl | hx
  · exact eTB_good _ h
  · exact eTB_good _ hx
theorem ePc_blind (w : eWd) (av : List Value) (μ : eMem) : FrameBlind (va_Pc av (ePre w μ)) := fun a U g mk q => ⟨q.1, q.2.1, eK_blind q.2.2⟩
def eCs (l : List Value) : Nat := (l.map fun v => v.category).sum
theorem eCs_map (ad : Nat → Nat) (l : List Value) : ((l.map (eV ad)).map fun v => v.category).sum = eCs l := by
  unfold eCs
  rw [List.map_map]
  congr 1
  apply List.map_congr_left
  intro v _
  exact eV_cat ad v
/-- how a call's run comes: by its kind -/
def eLnk (sx : eSx) (M : eMd) (pc n : Nat) (i : Instr) (ok : List Value → eMem → Bool) : Prop :=
  ∀ (p : Program) (l : Launch) (e : Env) (R : Room) (s : State) (m : MethodId) (args : Array Value) (below : List Frame) (meth : Method) (c : Code) (H : Heap) (locs : List Loc) (cells slots : Nat) (ls : Array Slot) (w : eWd) (av rest : List Value) (μ : eMem) (r : Option Value ⊕ String) (μ' : eMem) (ws : List Cond),
    p.tables.exec = Jvm.exec → ls.size = c.maxLocals → s.vm.findClass sx.1 = some m.cls → (∀ x ∈ eTB, x.before args s = true) → eK w s s.heap → eH w μ H → va_S (eAr w) s.heap H locs → ok av μ = true → av.length = n → decode c.code pc = .ok (i, 3) →
    M.2.2.2.2.1.1 + 1 ≤ R.frames → 8 + (M.2.2.1 + 11) + M.2.2.2.2.1.2 ≤ R.locals → eCs rest ≤ 8 → cells + (eC μ' - eC μ) ≤ R.cells → slots + (eZ μ' - eZ μ) ≤ R.slots → ws = eMwd M :: eTB → eMwd M ∈ eTB → Cond.initialized M.1.cls ∈ eTB → (M.1.cls ≠ "java/lang/invoke/MethodHandle" ∧ M.1.cls ≠ "java/lang/invoke/VarHandle") →
    vx_Met l M.1 ws (eRm M μ μ') (va_Pc (av.map (eV (eAd w))) (ePre w μ)) (eQc w r μ') (eXc w r μ') (eC μ' - eC μ) (eZ μ' - eZ μ) (eAr w) →
    ∃ a : Array Value, vx_Run p l e R s m args below meth c H locs cells slots (eC μ' - eC μ) (eZ μ' - eZ μ) (F0 m pc ls ((av.reverse ++ rest).map (eV (eAd w)))) (rest.map (eV (eAd w))) (eQc w r μ' a) (eXc w r μ') (eAr w)
theorem ePreS_of {w : eWd} {s : State} {H : Heap} {locs : List Loc} {μ : eMem} {av : List Value} (hK : eK w s s.heap) (hH : eH w μ H) (hS : va_S (eAr w) s.heap H locs) : ∀ U : State, U.heap = H → s.WarmedH U.vm → va_Pc (av.map (eV (eAd w))) (ePre w μ) (av.map (eV (eAd w))).toArray U := by
  intro U hU hW
  refine ⟨rfl, by rw [hU]; exact hH, ?_⟩
  rw [hU]
  exact eK_go hW (fun a h1 h2 => hS.2.1 a h1 h2) hK
theorem eStk_eq (ad : Nat → Nat) (av rest : List Value) : (av.reverse ++ rest).map (eV ad) = (av.map (eV ad)).reverse ++ rest.map (eV ad) := by rw [List.map_append, List.map_reverse]
/-- a static method of the same or another class -/
theorem eLnkS {sx : eSx} {M : eMd} {pc n idx : Nat} (hl : Cond.methodLink sx.1 idx M.1 ∈ eTB) (hst : Cond.static M.1 ∈ eTB) (hn : (parseMethodDescriptor M.1.desc).map (fun d => d.parameters.length) = some n) : eLnk sx M pc n (.invokestatic idx) (fun _ _ => true) := by
  intro p l e R s m args below meth c H locs cells slots ls w av rest μ r μ' ws hx hsz hown hts hK hH hS hok hlen hd hf hlo hrs hc hs hws hm hi hnm hM
  refine ⟨(av.map (eV (eAd w))).toArray, ?_⟩
  rw [eStk_eq]
  exact vx_runS (Ts := eTB) (own := sx.1) (index := idx) (bytes := M.2.1) (maxL := M.2.2.1) (ret := M.2.2.2.1) (n := n) ⟨hx, rfl, rfl, hown, hts⟩ hM ⟨callB_of n hts (by rw [hws]; exact eMw_good hm) hws rfl rfl (hts _ hi) (hts _ hl) ⟨hnm.1, hnm.2, hn⟩ ⟨hf, hlo⟩, hts _ hst⟩ ⟨ePc_blind _ _ _, ePreS_of hK hH hS⟩ rfl (by rw [List.length_map]; exact hlen) hsz rfl (lv_room (by rw [eCs_map]; exact hrs)) hd ⟨hc, hs⟩
/-- a nest mate's static method -/
theorem eLnkSN {sx : eSx} {M : eMd} {pc n idx : Nat} {host : String} (hl : Cond.methodLinkNest sx.1 idx M.1 host ∈ eXn) (hst : Cond.static M.1 ∈ eTB) (hn : (parseMethodDescriptor M.1.desc).map (fun d => d.parameters.length) = some n) : eLnk sx M pc n (.invokestatic idx) (fun _ _ => true) := by
  intro p l e R s m args below meth c H locs cells slots ls w av rest μ r μ' ws hx hsz hown hts hK hH hS hok hlen hd hf hlo hrs hc hs hws hm hi hnm hM
  refine ⟨(av.map (eV (eAd w))).toArray, ?_⟩
  rw [eStk_eq]
  exact vx_runSN (Ts := eTB) (own := sx.1) (host := host) (index := idx) (bytes := M.2.1) (maxL := M.2.2.1) (ret := M.2.2.2.1) (n := n) ⟨hx, rfl, rfl, hown, hts⟩ hM ⟨va_cnB n hts (by rw [hws]; exact eMw_good hm) hws rfl rfl (hK.2.2.2.2.2.2.2.2.2.2 _ hl) (hts _ hi) ⟨hnm.1, hnm.2, hn⟩ ⟨hf, hlo⟩, hts _ hst, trivial⟩ ⟨ePc_blind _ _ _, ePreS_of hK hH hS⟩ rfl (by rw [List.length_map]; exact hlen) hsz rfl (lv_room (by rw [eCs_map]; exact hrs)) hd ⟨hc, hs⟩
/-- the receiver: an object of the world of the class ci, or a constant object -/
def eRcv (ci : Nat) : List Value → eMem → Bool := fun av μ => match av with
  | .ref o :: _ => decide (o < eN μ ∧ (eShp o).1 = ci)
  | _ => false
def eRcvX (C : String) : List Value → eMem → Bool := fun av _ => match av with
  | .ref o :: _ => decide ((o, C) ∈ eXo)
  | _ => false
theorem eRcv_cell {w : eWd} {s : State} {μ : eMem} {H : Heap} {ci : Nat} (hc : ci < 12) (hK : eK w s s.heap) (hH : eH w μ H) {av : List Value} (h : eRcv ci av μ = true) : ∃ (o : Nat) (av' : List Value), av = .ref o :: av' ∧ ∃ cell : Cell, H[eAd w o]? = some cell ∧ cell.vm.isStatics = false ∧ s.vm.findClass (eClC ci) = some cell.cls := by
  unfold eRcv at h
  split at h
  · rename_i o av' 
    have h9 := of_decide_eq_true h
    refine ⟨o, av', rfl, ?_⟩
    rw [hK.2.1 o (Nat.lt_of_lt_of_le h9.1 hH.2.1)]
    have hat := eWl_at (w := w) h9.1
    rw [eEn_obj h9.2 hc] at hat
    exact va_recv hK.1 hH.1 (eClOKs ci hc).1 hat
  · cases h
theorem eRcvX_cell {w : eWd} {s : State} {H : Heap} {locs : List Loc} {C : String} {μ : eMem} (hK : eK w s s.heap) (hS : va_S (eAr w) s.heap H locs) {av : List Value} (h : eRcvX C av μ = true) : ∃ (o : Nat) (av' : List Value), av = .ref o :: av' ∧ ∃ cell : Cell, H[eAd w o]? = some cell ∧ cell.vm.isStatics = false ∧ s.vm.findClass C = some cell.cls := by
  unfold eRcvX at h
  split at h
  · rename_i o av'
    exact ⟨o, av', rfl, va_Orecv (hK.2.2.2.2.2.2.1 _ (of_decide_eq_true h)) hS⟩
  · cases h
theorem eStk_eqr (ad : Nat → Nat) (o : Nat) (av rest : List Value) : ((Value.ref o :: av).reverse ++ rest).map (eV ad) = (av.map (eV ad)).reverse ++ .ref (ad o) :: rest.map (eV ad) := by
  rw [List.map_append, List.map_reverse, List.map_cons, List.reverse_cons, List.append_assoc]
  rfl
theorem eLnkV_gen {sx : eSx} {M : eMd} {pc n idx : Nat} (ok : List Value → eMem → Bool)
    (hok : ∀ (w : eWd) (s : State) (H : Heap) (locs : List Loc) (av : List Value) (μ : eMem), eK w s s.heap → eH w μ H → va_S (eAr w) s.heap H locs → ok av μ = true → ∃ (o : Nat) (av' : List Value), av = .ref o :: av' ∧ ∃ cell : Cell, H[eAd w o]? = some cell ∧ cell.vm.isStatics = false ∧ s.vm.findClass M.1.cls = some cell.cls)
    (hl : Cond.methodLink sx.1 idx M.1 ∈ eTB) (hin : Cond.instanceMethod M.1 ∈ eTB) (hse : Cond.selects M.1.cls M.1 M.1 ∈ eTB) (hn : (parseMethodDescriptor M.1.desc).map (fun d => d.parameters.length + 1) = some n) : eLnk sx M pc n (.invokevirtual idx) ok := by
  intro p l e R s m args below meth c H locs cells slots ls w av rest μ r μ' ws hx hsz hown hts hK hH hS hok1 hlen hd hf hlo hrs hc hs hws hm hi hnm hM
  obtain ⟨o, av', rfl, cell, q1, q2, q3⟩ := hok w s H locs av μ hK hH hS hok1
  refine ⟨((Value.ref o :: av').map (eV (eAd w))).toArray, ?_⟩
  rw [eStk_eqr]
  have hn' : (parseMethodDescriptor M.1.desc).map (fun d => d.parameters.length) = some av'.length := by
    rw [List.length_cons] at hlen
    cases hp : parseMethodDescriptor M.1.desc with
    | none => rw [hp] at hn; cases hn
    | some d =>
      rw [hp] at hn
      have := Option.some.inj hn
      dsimp only at this
      show some d.parameters.length = some av'.length
      rw [show d.parameters.length = av'.length by omega]
  exact vx_runV (Ts := eTB) (own := sx.1) (C := M.1.cls) (index := idx) (bytes := M.2.1) (maxL := M.2.2.1) (ret := M.2.2.2.1) (n := av'.length) ⟨hx, rfl, rfl, hown, hts⟩ hM ⟨callB_of _ hts (by rw [hws]; exact eMw_good hm) hws rfl rfl (hts _ hi) (hts _ hl) ⟨hnm.1, hnm.2, hn'⟩ ⟨hf, hlo⟩, hts _ hin, hts _ hse⟩ ⟨ePc_blind _ _ _, ⟨cell, q1, q2, q3⟩, ePreS_of (av := .ref o :: av') hK hH hS⟩ rfl (by rw [List.length_map]) hsz rfl (lv_room (by rw [eCs_map]; exact hrs)) hd ⟨hc, hs⟩
theorem eLnkV {sx : eSx} {M : eMd} {pc n idx ci : Nat} (hc : ci < 12) (hC : eClC ci = M.1.cls) (hl : Cond.methodLink sx.1 idx M.1 ∈ eTB) (hin : Cond.instanceMethod M.1 ∈ eTB) (hse : Cond.selects M.1.cls M.1 M.1 ∈ eTB) (hn : (parseMethodDescriptor M.1.desc).map (fun d => d.parameters.length + 1) = some n) : eLnk sx M pc n (.invokevirtual idx) (eRcv ci) :=
  eLnkV_gen (eRcv ci) (fun w s H locs av μ hK hH hS h => by rw [← hC]; exact eRcv_cell hc hK hH h) hl hin hse hn
theorem eLnkVX {sx : eSx} {M : eMd} {pc n idx : Nat} (hl : Cond.methodLink sx.1 idx M.1 ∈ eTB) (hin : Cond.instanceMethod M.1 ∈ eTB) (hse : Cond.selects M.1.cls M.1 M.1 ∈ eTB) (hn : (parseMethodDescriptor M.1.desc).map (fun d => d.parameters.length + 1) = some n) : eLnk sx M pc n (.invokevirtual idx) (eRcvX M.1.cls) :=
  eLnkV_gen (eRcvX M.1.cls) (fun w s H locs av μ hK hH hS h => eRcvX_cell hK hS h) hl hin hse hn
/-- a constructor -/
def eRcvI : List Value → eMem → Bool := fun av _ => match av with
  | .ref _ :: _ => true
  | _ => false
theorem eLen1 {M : eMd} {n : Nat} {av' : List Value} {o : Nat} (hn : (parseMethodDescriptor M.1.desc).map (fun d => d.parameters.length + 1) = some n) (hlen : (Value.ref o :: av').length = n) : (parseMethodDescriptor M.1.desc).map (fun d => d.parameters.length) = some av'.length := by
  rw [List.length_cons] at hlen
  cases hp : parseMethodDescriptor M.1.desc with
  | none => rw [hp] at hn; cases hn
  | some d =>
    rw [hp] at hn
    have := Option.some.inj hn
    dsimp only at this
    show some d.parameters.length = some av'.length
    rw [show d.parameters.length = av'.length by omega]
theorem eLnkI {sx : eSx} {M : eMd} {pc n idx : Nat} (hret : M.2.2.2.1 = none) (hnm1 : M.1.name = "<init>") (hl : Cond.methodLink sx.1 idx M.1 ∈ eTB) (hin : Cond.instanceMethod M.1 ∈ eTB) (hn : (parseMethodDescriptor M.1.desc).map (fun d => d.parameters.length + 1) = some n) : eLnk sx M pc n (.invokespecial idx) eRcvI := by
  intro p l e R s m args below meth c H locs cells slots ls w av rest μ r μ' ws hx hsz hown hts hK hH hS hok1 hlen hd hf hlo hrs hc hs hws hm hi hnm hM
  unfold eRcvI at hok1
  split at hok1
  · rename_i o av'
    refine ⟨((Value.ref o :: av').map (eV (eAd w))).toArray, ?_⟩
    rw [eStk_eqr]
    have hw2 : ws = Cond.code M.1 M.2.1 M.2.2.1 none :: eTB := by rw [hws]; unfold eMwd; rw [hret]
    exact vx_runI (Ts := eTB) (own := sx.1) (index := idx) (bytes := M.2.1) (maxL := M.2.2.1) (n := av'.length) ⟨hx, rfl, rfl, hown, hts⟩ hM ⟨callB_of _ hts (by rw [hws]; exact eMw_good hm) hw2 rfl rfl (hts _ hi) (hts _ hl) ⟨hnm.1, hnm.2, eLen1 hn hlen⟩ ⟨hf, hlo⟩, hnm1, hts _ hin⟩ ⟨ePc_blind _ _ _, ePreS_of (av := .ref o :: av') hK hH hS⟩ rfl (by rw [List.length_map]) hsz rfl (lv_room (by rw [eCs_map]; exact hrs)) hd ⟨hc, hs⟩
  · cases hok1
theorem eLnkIN {sx : eSx} {M : eMd} {pc n idx : Nat} {host : String} (hret : M.2.2.2.1 = none) (hnm1 : M.1.name = "<init>") (hl : Cond.methodLinkNest sx.1 idx M.1 host ∈ eXn) (hin : Cond.instanceMethod M.1 ∈ eTB) (hn : (parseMethodDescriptor M.1.desc).map (fun d => d.parameters.length + 1) = some n) : eLnk sx M pc n (.invokespecial idx) eRcvI := by
  intro p l e R s m args below meth c H locs cells slots ls w av rest μ r μ' ws hx hsz hown hts hK hH hS hok1 hlen hd hf hlo hrs hc hs hws hm hi hnm hM
  unfold eRcvI at hok1
  split at hok1
  · rename_i o av'
    refine ⟨((Value.ref o :: av').map (eV (eAd w))).toArray, ?_⟩
    rw [eStk_eqr]
    have hw2 : ws = Cond.code M.1 M.2.1 M.2.2.1 none :: eTB := by rw [hws]; unfold eMwd; rw [hret]
    exact vx_runIN (Ts := eTB) (own := sx.1) (host := host) (index := idx) (bytes := M.2.1) (maxL := M.2.2.1) (n := av'.length) ⟨hx, rfl, rfl, hown, hts⟩ hM ⟨va_cnB _ hts (by rw [hws]; exact eMw_good hm) hw2 rfl rfl (hK.2.2.2.2.2.2.2.2.2.2 _ hl) (hts _ hi) ⟨hnm.1, hnm.2, eLen1 hn hlen⟩ ⟨hf, hlo⟩, hnm1, hts _ hin⟩ ⟨ePc_blind _ _ _, ePreS_of (av := .ref o :: av') hK hH hS⟩ rfl (by rw [List.length_map]) hsz rfl (lv_room (by rw [eCs_map]; exact hrs)) hd ⟨hc, hs⟩
  · cases hok1
/-- the call itself: arguments off the stack, the answer on it -/
def eCa (M : eMd) (n : Nat) (ok : List Value → eMem → Bool) : eSt → Option ((Option Value ⊕ String) × List Value × eMem) := fun σ =>
  if n ≤ σ.2.1.length ∧ ok (σ.2.1.take n).reverse σ.2.2 = true ∧ eCs (σ.2.1.drop n) ≤ 8 then
    (M.2.2.2.2.2 (σ.2.1.take n).reverse σ.2.2).map fun q => (q.1, σ.2.1.drop n, q.2) else none
def eCaR (r : Option ((Option Value ⊕ String) × List Value × eMem)) (lv : List Value) : eRes := match r with
  | some (.inl v, st, μ) => some (none, (lv, v.toList ++ st, μ))
  | _ => none
def p_call {sx : eSx} (pc n : Nat) (i : Instr) (ok : List Value → eMem → Bool) (M : eMt) (hL : eLnk sx M.1 pc n i ok) : eP sx :=
  ⟨(pc, pc + 3, (M.1.2.2.2.2.1.1 + 1, 8 + (M.1.2.2.1 + 11) + M.1.2.2.2.2.1.2), (fun cc => decide (decode cc pc = .ok (i, 3))), fun σ => eCaR (eCa M.1 n ok σ) σ.1), (by
  intro σ o σ' hd
  dsimp only at hd
  unfold eCa at hd
  split at hd
  · cases hm : M.1.2.2.2.2.2 (σ.2.1.take n).reverse σ.2.2 with
    | none => rw [hm] at hd; cases hd
    | some q =>
      obtain ⟨r, μ'⟩ := q
      have mono := M.2.2.2.2.1 _ _ _ _ hm
      rw [hm] at hd
      cases r with
      | inr X => cases hd
      | inl v => cases hd; exact mono
  · cases hd), by
  rintro ⟨p, l, e, R, s, m, args, below, meth, c, Q, nL, c0, s0, w⟩ hx hc hf hl ⟨lv, st, μ⟩ o σ' hd
  obtain ⟨h1, h2, h2', h3, h4, h5, h6, h7, h8, h9⟩ := hx
  obtain ⟨M, g1, g2, g3, g4⟩ := M
  have hdg : decode c.code pc = .ok (i, 3) := of_decide_eq_true hc
  dsimp only at hd hf hl
  unfold eCa at hd
  dsimp only at hd
  split at hd
  · rename_i hc9
    cases hm : M.2.2.2.2.2 (st.take n).reverse μ with
    | none => rw [hm] at hd; cases hd
    | some q =>
      obtain ⟨r, μ'⟩ := q
      rw [hm] at hd
      cases r with
      | inr X => cases hd
      | inl v =>
        cases hd
        have mono := g4.1 _ μ _ μ' hm
        have hM := g4.2 l h9 w _ μ _ μ' hm
        refine ⟨mono, fun r1 r2 k H locs cells slots ls hls hH hS e1 e2 => ?_⟩
        dsimp only [xC0, xS0, xR] at r1 r2 e1 e2 hf hl
        obtain ⟨a, hr⟩ := hL p l e R s m args below meth c H locs cells slots ls w (st.take n).reverse (st.drop n) μ _ μ' _ h1 (hls.1.trans h2.symm) h3 h4 h5 hH hS hc9.2.1 (by rw [List.length_reverse, List.length_take]; omega) hdg hf hl hc9.2.2 (by omega) (by omega) rfl g1 g2 g3 hM
        rw [List.reverse_reverse, List.take_append_drop] at hr
        intro T hT X
        rcases hr T hT X with ⟨v', st₀, t, T', L, y0, X', hL', y1, y2, ⟨⟨v2, z1, z2, z3⟩, hF⟩, stp⟩ | ⟨q, st₀, t, T', L, E, ce, y0, X', hL', y1, y2, ⟨⟨z1, -⟩, -⟩, -⟩
        · cases z1
          cases z2
          obtain ⟨k1, k2, k3⟩ := vx_keep (A0 := eAr w) (A1 := eAr w) (free := eAr w) y0 y1 hS (fun q _ z => z) (fun q z => z) hL' hF
          have kk := k T'.heap (locs ++ L) (cells + (eC μ' - eC μ)) (slots + (eZ μ' - eZ μ)) ls hls (by dsimp only; rw [y1]; exact z3) k3 (by dsimp only; omega) (by dsimp only; omega)
          have e9 : (v.toList ++ st.drop n).map (eV (eAd w)) = (v.map (eV (eAd w))).toList ++ (st.drop n).map (eV (eAd w)) := by
            rw [List.map_append]
            cases v <;> rfl
          rw [e9] at kk
          obtain ⟨t2, a1, b1⟩ := kk T' rfl X'
          exact ⟨t2, stp t2 a1, b1⟩
        · cases z1
  · cases hd⟩
/-! throw new X("..") -/
def eTM (μ : eMem) : eMem := ((eN μ, eC μ + 1, eZ μ + 6, false), μ.2)
theorem eTM_I (μ : eMem) : eI (eTM μ) = eI μ := rfl
theorem eTM_L (μ : eMem) : eL (eTM μ) = eL μ := rfl
theorem eTM_A (μ : eMem) : eA (eTM μ) = eA μ := rfl
theorem eTM_N (μ : eMem) : eN (eTM μ) = eN μ := rfl
theorem eH_grow {w : eWd} {μ : eMem} {H H1 : Heap} (hH : eH w μ H) (hz : H.size ≤ H1.size) (hk : ∀ q, q < H.size → H1[q]? = H[q]?) : eH w (eTM μ) H1 :=
  ⟨fun k q hq => (hH.1 k q hq).kept (hk _ (hH.1 k q hq).lt), hH.2.1, Nat.le_trans hH.2.2.1 hz, fun h => by cases h⟩
/-- words that a throw asks -/
def eTh (own : String) (ik ic : Nat) (X : String) (names : List String) : Prop := Cond.classLink own ik X ∈ eTB ∧ Cond.initialized X ∈ eTB ∧ (vx_atS own ic X names).all (fun x => decide (x ∈ lw_tbl) && (goodWord x || eNk x)) = true ∧ (Cond.classLink own ik X :: Cond.initialized X :: vx_atS own ic X names).all vx_ot = true ∧ Bundle.fit X = true ∧ names.all Bundle.fit = true
def p_throw {sx : eSx} (pc stop ik is ic sa : Nat) (X tx : String) (names : List String) (hx0 : sx.2.2.1 = false) (hw : eTh sx.1 ik ic X names) (hs0 : (sx.1, is, tx, sa) ∈ eXs) : eP sx :=
  ⟨(pc, stop, (names.length + 4, 8 + 13 * (names.length + 1) + 43), (fun cc => decide (decode cc pc = .ok (.new ik, 3)) && (decide (decode cc (pc + 3) = .ok (.dup, 1)) && (decide (decode cc (pc + 4) = .ok (.ldc is, 2)) && (decide (decode cc (pc + 6) = .ok (.invokespecial ic, 3)) && decide (decode cc (pc + 9) = .ok (.athrow, 1)))))), fun σ => if eCs σ.2.1 ≤ 8 then some (some (.inr (.inr X)), (σ.1, σ.2.1, eTM σ.2.2)) else none), (by
  intro σ o σ' hd
  dsimp only at hd
  split at hd
  · cases hd; exact ⟨Nat.le_add_right _ _, Nat.le_add_right _ _⟩
  · cases hd), by
  rintro ⟨p, l, e, R, s, m, args, below, meth, c, Q, nL, c0, s0, w⟩ hx hc hf hl ⟨lv, st, μ⟩ o σ' hd
  obtain ⟨h1, h2, h2', h3, h4, h5, h6, h7, h8, h9⟩ := hx
  dsimp only at hc hd hf hl
  simp only [Bool.and_eq_true] at hc
  obtain ⟨d0, d3, d4, d6, d9⟩ := hc
  split at hd
  · rename_i h10
    have h10 : eCs st ≤ 8 := h10
    cases hd
    refine ⟨⟨Nat.le_add_right _ _, Nat.le_add_right _ _⟩, ?_⟩
    rintro r1 r2 ⟨Qc, XC, hQ, hXC⟩ H locs cells slots ls hls hH hS e1 e2
    dsimp only [xC0, xS0, xR] at r1 r2 e1 e2 hf hl
    rw [show eC (eTM μ) = eC μ + 1 from rfl] at r1
    rw [show eZ (eTM μ) = eZ μ + 6 from rfl] at r2
    obtain ⟨w1, w2, w3, w4, w5, w6⟩ := hw
    have hat : ∀ x ∈ vx_atS sx.1 ic X names, x.before args s = true := by
      intro x hx
      have := List.all_eq_true.mp w3 x hx
      simp only [Bool.and_eq_true, Bool.or_eq_true, decide_eq_true_eq] at this
      rcases this.2 with g | g
      · exact h4 _ (eTB_of this.1 g)
      · have hm : x ∈ eXn := List.mem_filter.mpr ⟨this.1, g⟩
        have hot := List.all_eq_true.mp w4 x (List.mem_cons_of_mem _ (List.mem_cons_of_mem _ hx))
        have hb := h5.2.2.2.2.2.2.2.2.2.2 x hm
        exact vx_ot_at (State.WarmedH.refl s) rfl hot hb
    subst hQ
    exact vx_throwS h1 rfl h9 h3 w5 (fun n hn => List.all_eq_true.mp w6 n hn) (h4 _ w1) (h4 _ w2) (h5.2.2.2.2.2.2.2.1 _ hs0) hat (fun x hx => List.all_eq_true.mp w4 x hx) h5.2.2.2.2.2.2.2.2.1 h5.2.2.2.2.2.2.2.2.2.1.1 hS (hls.1.trans h2.symm)
      (of_decide_eq_true d0) (of_decide_eq_true d3) (of_decide_eq_true d4) (of_decide_eq_true d6) (of_decide_eq_true d9) (fun x hx => (h8 hx0 x hx).elim) (by omega) (by rw [eCs_map]; show eCs st + _ ≤ _; omega) (by omega) (by omega) h6
      (fun t ha hz hk => hXC t ha ⟨Nat.le_trans hS.1 hz, fun q q1 q2 => (hk q (Nat.lt_of_lt_of_le q1 hS.1)).trans (hS.2.1 q q1 q2)⟩ (eH_grow hH hz hk)) hS.2.2 (by omega) (by omega)
  · cases hd⟩
/-! a method made out of a piece -/
def eRetOK : Option FieldType → Option Value → Bool
  | none, none => true
  | some .int, some (.int _) => true
  | some .boolean, some (.int x) => decide (x = 0 ∨ x = 1)
  | some .char, some (.int x) => decide (narrow .char (.int x) = .int x)
  | some .byte, some (.int x) => decide (narrow .byte (.int x) = .int x)
  | some .long, some (.long _) => true
  | some .float, some (.float _) => true
  | some .double, some (.double _) => true
  | some (.object _), some (.ref _) => true
  | some (.object _), some .null => true
  | _, _ => false
def eFin (ret : Option FieldType) (r : eRes) : Option ((Option Value ⊕ String) × eMem) := match r with
  | some (some (.inr (.inl v)), σ) => if eRetOK ret v = true then some (.inl v, σ.2.2) else none
  | some (some (.inr (.inr X)), σ) => some (.inr X, σ.2.2)
  | _ => none
def eGo {sx : eSx} (ret : Option FieldType) (a : eP sx) : List Value → eMem → Option ((Option Value ⊕ String) × eMem) := fun av μ =>
  if (eArgs av).length ≤ sx.2.2.2 then eFin ret (a.1.2.2.2.2 (eEnt av sx.2.2.2, [], μ)) else none
theorem eFin_spec {ret : Option FieldType} {q : eRes} {r : Option Value ⊕ String} {μ' : eMem} (h : eFin ret q = some (r, μ')) : ∃ σ : eSt, q = some (some (.inr r), σ) ∧ σ.2.2 = μ' ∧ ∀ v, r = .inl v → eRetOK ret v = true := by
  unfold eFin at h
  split at h
  · split at h
    · rename_i v σ h9
      cases h
      exact ⟨σ, rfl, rfl, fun v hv => by cases hv; exact h9⟩
    · cases h
  · rename_i X σ
    cases h
    exact ⟨σ, rfl, rfl, fun v hv => by cases hv⟩
  · cases h
theorem eRet_go {p : Program} {l : Launch} {e : Env} {s : State} {m : MethodId} {args : Array Value} {below : List Frame} {meth : Method} {c : Code} {R : Room} {H : Heap} {locs : List Loc} {cells slots : Nat} {w : eWd} {ret : Option FieldType} {v : Option Value} {μ' : eMem} {pc : Nat} {ls : Array Slot}
    (hx : p.tables.exec = Jvm.exec) (hr : meth.sig.returnType = ret) (hlocks : meth.locks = false) (hok : eRetOK ret v = true) (hH : eH w μ' H) (hS : va_S (eAr w) s.heap H locs) (hdg : eRetD c.code pc v) :
    W p l e R s m args below meth c H locs cells slots (vx_MQ below (eQc w (.inl v) μ') (eXc w (.inl v) μ') args s cells slots (eAr w)) (F0 m pc ls (v.toList.map (eV (eAd w)))) := by
  have hq : ∀ t : State, t.heap = H → s.WarmedH t.vm → eQc w (.inl v) μ' args s (.returned (v.map (eV (eAd w)))) t := fun t ht hW => ⟨⟨v, rfl, rfl, by rw [ht]; exact hH⟩, hS.F ht⟩
  refine vx_ret ?_
  unfold eRetOK at hok
  split at hok
  · exact W.vret hx rfl hr hq hS.2.2 hdg hlocks
  · exact W.iret hx rfl hr hq hS.2.2 hdg hlocks
  · rename_i x
    refine W.zret hx rfl hr ?_ hq hS.2.2 hdg hlocks
    rcases of_decide_eq_true hok with rfl | rfl <;> rfl
  · exact W.zret hx rfl hr (of_decide_eq_true hok) hq hS.2.2 hdg hlocks
  · exact W.zret hx rfl hr (of_decide_eq_true hok) hq hS.2.2 hdg hlocks
  · exact W.lret hx rfl hr hq hS.2.2 hdg hlocks
  · exact W.fret hx rfl hr hq hS.2.2 hdg hlocks
  · exact W.dret hx rfl hr hq hS.2.2 hdg hlocks
  · rename_i n a
    exact W.aret (v := .ref (eAd w a)) hx rfl hr (Or.inl ⟨n, rfl⟩) (Or.inr ⟨_, rfl⟩) hq hS.2.2 hdg hlocks
  · rename_i n
    exact W.aret (v := .null) hx rfl hr (Or.inl ⟨n, rfl⟩) (Or.inl rfl) hq hS.2.2 hdg hlocks
  · cases hok
theorem eGo_mono {sx : eSx} {ret : Option FieldType} (a : eP sx) (av : List Value) (μ : eMem) (r : Option Value ⊕ String) (μ' : eMem) (h : eGo ret a av μ = some (r, μ')) : eC μ ≤ eC μ' ∧ eZ μ ≤ eZ μ' := by
  unfold eGo at h
  split at h
  · obtain ⟨σ, h1, h2, -⟩ := eFin_spec h
    have := a.2.1 _ _ _ h1
    rw [h2] at this
    exact this
  · cases h
theorem eGo_W {ini : Bool} {y : MethodName} {bytes : ByteArray} {maxL : Nat} {ret : Option FieldType} (a : eP (y.cls, ini, false, maxL)) (hini : ini = true → y.name = "<init>") (hc : a.1.2.2.2.1 bytes = true) (h0 : a.1.1 = 0)
    {p : Program} {l : Launch} {e : Env} {s : State} {m : MethodId} {below : List Frame} {meth : Method} {c : Code} {w : eWd} {av : List Value} {μ : eMem} {r : Option Value ⊕ String} {μ' : eMem} {R : Room}
    (hl : l.stackTraces = false) (hd : eGo ret a av μ = some (r, μ')) (hx : p.tables.exec = Jvm.exec) (hb : c.code = bytes) (hr : meth.sig.returnType = ret) (hlocks : meth.locks = false) (hml : c.maxLocals = maxL) (hown : s.vm.findClass y.cls = some m.cls) (hnm : meth.name = y.name) (hno : ∀ x ∈ c.exceptionTable.toList, False)
    (hts : ∀ x ∈ eTB, x.before (av.map (eV (eAd w))).toArray s = true) (hP : ePre w μ s) (hR : R = { frames := a.1.2.2.1.1, cells := eC μ' - eC μ, slots := eZ μ' - eZ μ, locals := a.1.2.2.1.2 }) :
    W p l e R s m (av.map (eV (eAd w))).toArray below meth c s.heap [] 0 0 (vx_MQ below (eQc w r μ') (eXc w r μ') (av.map (eV (eAd w))).toArray s (eC μ' - eC μ) (eZ μ' - eZ μ) (eAr w)) (entryFrame m (av.map (eV (eAd w))).toArray maxL) := by
  have mono := eGo_mono a av μ r μ' hd
  unfold eGo at hd
  split at hd
  · rename_i hlen
    obtain ⟨σ, h1, h2, h3⟩ := eFin_spec hd
    obtain ⟨⟨a1, a2, a3, a4, a5⟩, ham, ha⟩ := a
    dsimp only at h0 hc h1 hR
    subst h0
    have hS := (ha (p, l, e, R, s, m, (av.map (eV (eAd w))).toArray, below, meth, c, vx_MQ below (eQc w r μ') (eXc w r μ') (av.map (eV (eAd w))).toArray s (eC μ' - eC μ) (eZ μ' - eZ μ) (eAr w), maxL, eC μ, eZ μ, w)
      ⟨hx, hml, rfl, hown, hts, hP.2, hlocks, fun z => hnm.trans (hini z), fun _ => hno, hl⟩ (by show a4 c.code = true; rw [hb]; exact hc) (by rw [hR]; exact Nat.le_refl _) (by rw [hR]; exact Nat.le_refl _) _ _ _ h1).2
      (by rw [h2, hR]; show eC μ' ≤ eC μ + (eC μ' - eC μ); omega) (by rw [h2, hR]; show eZ μ' ≤ eZ μ + (eZ μ' - eZ μ); omega)
    rw [lg_entry_eq]
    have hent := lv_entry (av.map (eV (eAd w))) (n := maxL) (by rw [eArgs_len]; exact hlen)
    refine hS ?_ s.heap [] 0 0 _ (eHas_sub hent (eEnt_mem (eAd w) av maxL)) hP.1 va_S.rf (Nat.add_zero _) (Nat.add_zero _)
    cases r with
    | inl v =>
      intro pc lv hdg H locs cells slots ls hls hH hSS e1 e2
      rw [h2] at hH e1 e2
      have e1 : eC μ + cells = eC μ' := e1
      have e2 : eZ μ + slots = eZ μ' := e2
      have z1 : cells = eC μ' - eC μ := by omega
      have z2 : slots = eZ μ' - eZ μ := by omega
      subst z1
      subst z2
      exact eRet_go hx hr hlocks (h3 v rfl) hH hSS hdg
    | inr X =>
      refine ⟨_, _, by rw [hR], fun t ht hF hH => ?_⟩
      rw [h2] at hH
      exact ⟨⟨rfl, hH⟩, hF⟩
  · cases hd
theorem eOfW {l : Launch} {y : MethodName} {ws ws' : List Cond} {rm : Room} {Pc : Array Value → State → Prop} {Qc : Array Value → State → Outcome → State → Prop} {XC : String → State → State → Prop} {mc ms : Nat} {free : Addr → Prop} {cc : ByteArray} {maxL : Nat} {ret : Option FieldType}
    (hy : plainFor y = true) (hw : ws = Cond.code y cc maxL ret :: ws')
    (body : ∀ p e s m args below meth c s₁, BodyLoose p l y (headSpec ws rm) cc maxL ret e s m args below meth c s₁ → c.maxLocals = maxL → (∀ x ∈ c.exceptionTable.toList, False) → Pc args s →
      W p l e (headSpec ws rm).room s m args below meth c s.heap [] 0 0 (vx_MQ below Qc XC args s mc ms free) (entryFrame m args maxL)) : vx_Met l y ws rm Pc Qc XC mc ms free := by
  refine MetFree.of_bodySF (code := cc) (maxLocals := maxL) (ret := ret) hy ?_ ?_
  · intro args s m h hn
    obtain ⟨meth, c, h1, h2, h3, h4, h5, h6, -, -⟩ := Cond.code_spec hn (atoms_spec (ws := ws) h _ (by rw [hw]; exact List.mem_cons_self))
    exact ⟨meth, c, h1, h2, h3, h4, h5, h6⟩
  · intro p e s m args below meth c s₁ B hml hP _
    have hh0 : s₁.heap = s.heap := by rw [B.state]; rfl
    have ht : ∀ x ∈ c.exceptionTable.toList, False := by
      obtain ⟨meth9, c9, h1, h2, -, -, -, -, h7, -⟩ := Cond.code_spec B.named (atoms_spec (ws := ws) B.pre _ (by rw [hw]; exact List.mem_cons_self))
      cases Option.some.inj (h1.symm.trans B.method)
      cases Option.some.inj (h2.symm.trans (Stand.of_body B).code)
      intro x hx
      rw [Array.isEmpty_iff.mp h7] at hx
      cases hx
    obtain ⟨t, a1, o, b1, b2, b3⟩ := body p e s m args below meth c s₁ B hml ht hP s₁ hh0 (Stand.of_body B)
    exact ⟨t, o, a1, b1, b2, b3⟩
def eMake {ini : Bool} (y : MethodName) (bytes : ByteArray) (maxL : Nat) (ret : Option FieldType) (a : eP (y.cls, ini, false, maxL)) (hw : Cond.code y bytes maxL ret ∈ eTB) (hi : Cond.initialized y.cls ∈ eTB) (hy : (plainFor y && (decide (y.cls ≠ "java/lang/invoke/MethodHandle") && decide (y.cls ≠ "java/lang/invoke/VarHandle"))) = true)
    (hini : ini = true → y.name = "<init>") (hc : (a.1.2.2.2.1 bytes && Nat.beq a.1.1 0) = true) : eMt :=
  ⟨(y, bytes, maxL, ret, a.1.2.2.1, eGo ret a), hw, hi, by
    simp only [Bool.and_eq_true, decide_eq_true_eq] at hy
    exact hy.2, eGo_mono a, by
  simp only [Bool.and_eq_true, decide_eq_true_eq] at hy
  simp only [Bool.and_eq_true] at hc
  intro l hl w av μ r μ' hd
  refine eOfW (cc := bytes) (maxL := maxL) (ret := ret) hy.1 rfl ?_
  intro p e s m args below meth c s₁ B hml hno hv
  obtain ⟨rfl, hP⟩ := hv
  have hts := atoms_spec (ws := Cond.code y bytes maxL ret :: eTB) B.pre
  exact eGo_W a hini hc.1 (Nat.eq_of_beq_eq_true hc.2) hl hd B.exec B.bytes B.returns B.notSynchronized hml (findClass_of_methodNamed B.named) (name_of_methodNamed B.named B.method).1 hno (fun x hx => hts x (List.mem_cons_of_mem _ hx)) hP rfl⟩
theorem eMake_call {ini : Bool} (y : MethodName) (bytes : ByteArray) (maxL : Nat) (ret : Option FieldType) (a : eP (y.cls, ini, false, maxL)) (hw hi hy hini hc) : eCall (eMake (ini := ini) y bytes maxL ret a hw hi hy hini hc) = eGo ret a := rfl
