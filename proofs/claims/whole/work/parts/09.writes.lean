/-! ===== the engine's instructions that write, and those that make objects ===== -/
/-- one instruction that writes: a new stack, a new memory; nothing is made -/
def eWr {sx : eSx} (pc n : Nat) (i : Instr) (f : eSt → Option (List Value × eMem))
    (h0 : ∀ (σ : eSt) (q : List Value × eMem), f σ = some q → eC q.2 = eC σ.2.2 ∧ eZ q.2 = eZ σ.2.2)
    (h : ∀ (p : Program) (l : Launch) (e : Env) (R : Room) (s : State) (m : MethodId) (args : Array Value) (below : List Frame) (meth : Method) (c : Code) (H : Heap) (locs : List Loc) (cells slots : Nat) (Q : State → Prop) (ls : Array Slot) (w : eWd) (lv st : List Value) (μ : eMem) (st' : List Value) (μ' : eMem),
      f (lv, st, μ) = some (st', μ') → p.tables.exec = Jvm.exec → s.vm.findClass sx.1 = some m.cls → (∀ x ∈ eTB, x.before args s = true) → eK w s s.heap → (sx.2.1 = true → meth.name = "<init>") → eH w μ H → va_S (eAr w) s.heap H locs → decode c.code pc = .ok (i, n) →
      (∀ (H1 : Heap) (locs1 : List Loc), eH w μ' H1 → va_S (eAr w) s.heap H1 locs1 → W p l e R s m args below meth c H1 locs1 cells slots Q (F0 m (pc + n) ls (st'.map (eV (eAd w))))) → W p l e R s m args below meth c H locs cells slots Q (F0 m pc ls (st.map (eV (eAd w))))) : eP sx :=
  ⟨(pc, pc + n, (0, 0), (fun cc => decide (decode cc pc = .ok (i, n))), fun σ => (f σ).map fun q => (none, (σ.1, q.1, q.2))), eMono_map (fun σ q hq => ⟨Nat.le_of_eq (h0 σ q hq).1.symm, Nat.le_of_eq (h0 σ q hq).2.symm⟩), by
  rintro ⟨p, l, e, R, s, m, args, below, meth, c, Q, nL, c0, s0, w⟩ hx hc hf hl ⟨lv, st, μ⟩ o σ' hd
  obtain ⟨h1, h2, h2', h3, h4, h5, h6, h7, h8, h9⟩ := hx
  have hdg : decode c.code pc = .ok (i, n) := of_decide_eq_true hc
  dsimp only at hd
  cases hs : f (lv, st, μ) with
  | none => rw [hs] at hd; cases hd
  | some q =>
    obtain ⟨st', μ'⟩ := q
    rw [hs] at hd
    cases hd
    obtain ⟨g1, g2⟩ := h0 _ _ hs
    dsimp only at g1 g2
    refine ⟨⟨Nat.le_of_eq g1.symm, Nat.le_of_eq g2.symm⟩, fun _ _ k H locs cells slots ls hls hH hS e1 e2 => ?_⟩
    exact h p l e R s m args below meth c H locs cells slots Q ls w lv st μ st' μ' hs h1 h3 h4 h5 h7 hH hS hdg fun H1 locs1 hH1 hS1 => k H1 locs1 cells slots ls hls hH1 hS1 (e1.trans g1.symm) (e2.trans g2.symm)⟩
/-- one instruction that makes one cell of z slots -/
def eMak {sx : eSx} (pc n z : Nat) (i : Instr) (f : eSt → Option (List Value × eMem))
    (h0 : ∀ (σ : eSt) (q : List Value × eMem), f σ = some q → eC q.2 = eC σ.2.2 + 1 ∧ eZ q.2 = eZ σ.2.2 + z)
    (h : ∀ (p : Program) (l : Launch) (e : Env) (R : Room) (s : State) (m : MethodId) (args : Array Value) (below : List Frame) (meth : Method) (c : Code) (H : Heap) (locs : List Loc) (cells slots : Nat) (Q : State → Prop) (ls : Array Slot) (w : eWd) (lv st : List Value) (μ : eMem) (st' : List Value) (μ' : eMem),
      f (lv, st, μ) = some (st', μ') → p.tables.exec = Jvm.exec → s.vm.findClass sx.1 = some m.cls → (∀ x ∈ eTB, x.before args s = true) → eK w s s.heap → (sx.2.1 = true → meth.name = "<init>") → eH w μ H → va_S (eAr w) s.heap H locs → decode c.code pc = .ok (i, n) → cells + 1 ≤ R.cells → slots + z ≤ R.slots →
      (∀ (H1 : Heap) (locs1 : List Loc), eH w μ' H1 → va_S (eAr w) s.heap H1 locs1 → W p l e R s m args below meth c H1 locs1 (cells + 1) (slots + z) Q (F0 m (pc + n) ls (st'.map (eV (eAd w))))) → W p l e R s m args below meth c H locs cells slots Q (F0 m pc ls (st.map (eV (eAd w))))) : eP sx :=
  ⟨(pc, pc + n, (0, 0), (fun cc => decide (decode cc pc = .ok (i, n))), fun σ => (f σ).map fun q => (none, (σ.1, q.1, q.2))), eMono_map (fun σ q hq => ⟨by show eC σ.2.2 ≤ eC q.2; rw [(h0 σ q hq).1]; exact Nat.le_add_right _ _, by show eZ σ.2.2 ≤ eZ q.2; rw [(h0 σ q hq).2]; exact Nat.le_add_right _ _⟩), by
  rintro ⟨p, l, e, R, s, m, args, below, meth, c, Q, nL, c0, s0, w⟩ hx hc hf hl ⟨lv, st, μ⟩ o σ' hd
  obtain ⟨h1, h2, h2', h3, h4, h5, h6, h7, h8, h9⟩ := hx
  have hdg : decode c.code pc = .ok (i, n) := of_decide_eq_true hc
  dsimp only at hd
  cases hs : f (lv, st, μ) with
  | none => rw [hs] at hd; cases hd
  | some q =>
    obtain ⟨st', μ'⟩ := q
    rw [hs] at hd
    cases hd
    obtain ⟨g1, g2⟩ := h0 _ _ hs
    dsimp only at g1 g2
    refine ⟨⟨by rw [g1]; exact Nat.le_add_right _ _, by rw [g2]; exact Nat.le_add_right _ _⟩, fun r1 r2 k H locs cells slots ls hls hH hS e1 e2 => ?_⟩
    dsimp only [xC0, xS0, xR] at r1 r2 e1 e2
    refine h p l e R s m args below meth c H locs cells slots Q ls w lv st μ st' μ' hs h1 h3 h4 h5 h7 hH hS hdg (by omega) (by omega) fun H1 locs1 hH1 hS1 => k H1 locs1 (cells + 1) (slots + z) ls hls hH1 hS1 (by dsimp only; omega) (by dsimp only; omega)⟩
/-! putfield -/
def ePut (ci k : Nat) (μ : eMem) (o : Nat) (v : Value) : Option eMem := match eFk (eTy ci k), v with
  | 0, .int x => some (eSI μ o k x)
  | 1, .int x => if x = 0 ∨ x = 1 then some (eSI μ o k x) else none
  | 2, .long x => some (eSL μ o k x)
  | 3, .ref a => some (eSA μ o k (some a))
  | 3, .null => some (eSA μ o k none)
  | _, _ => none
theorem eFk_0 {ty : FieldType} (h : eFk ty = 0) : ty = .int := by cases ty <;> first | rfl | (simp [eFk] at h)
theorem eFk_1 {ty : FieldType} (h : eFk ty = 1) : ty = .boolean := by cases ty <;> first | rfl | (simp [eFk] at h)
theorem eFk_2 {ty : FieldType} (h : eFk ty = 2) : ty = .long := by cases ty <;> first | rfl | (simp [eFk] at h)
theorem eFk_3 {ty : FieldType} (h : eFk ty = 3) : (∃ n, ty = .object n) ∨ ∃ t, ty = .array t := by
  cases ty with
  | object n => exact Or.inl ⟨n, rfl⟩
  | array t => exact Or.inr ⟨t, rfl⟩
  | _ => simp [eFk] at h
theorem eFv_SI {ci k j o : Nat} {μ : eMem} {x : Int32} (hj : j ≠ k) : eFv ci (eSI μ o k x) o j = eFv ci μ o j := by
  unfold eFv
  rw [eI_SI, eL_SI, eA_SI, va_up_self, pk_un hj]
theorem eFv_SL {ci k j o : Nat} {μ : eMem} {x : Int64} (hj : j ≠ k) : eFv ci (eSL μ o k x) o j = eFv ci μ o j := by
  unfold eFv
  rw [eI_SL, eL_SL, eA_SL, va_up_self, pk_uLn hj]
theorem eFv_SA {ci k j o : Nat} {μ : eMem} {x : Option Nat} (hj : j ≠ k) : eFv ci (eSA μ o k x) o j = eFv ci μ o j := by
  unfold eFv
  rw [eI_SA, eL_SA, eA_SA, va_up_self, va_up_ne _ _ hj]
theorem ePut_spec {ad : Nat → Nat} {ci k o : Nat} {μ μ' : eMem} {v : Value} (hk : k < eClN ci) (h : ePut ci k μ o v = some μ') :
    narrow (eTy ci k) (eV ad v) = eV ad v ∧ fits (eTy ci k) (eV ad v) = true ∧ (eFs ad ci μ o).set k (eV ad v) = eFs ad ci μ' o ∧ (∀ (w : eWd) (j : Nat), j ≠ o → eEn w μ' j = eEn w μ j) ∧ μ'.1 = μ.1 := by
  unfold ePut at h
  split at h
  · rename_i x hq
    cases h
    refine ⟨by rw [eFk_0 hq]; rfl, by rw [eFk_0 hq]; rfl, eFs_set hk ?_ (fun j hj => eFv_SI hj), fun w j hj => eEn_SI j hj, rfl⟩
    unfold eFv
    rw [hq, eI_SI, va_up_self, pk_us]
    rfl
  · rename_i x hq
    split at h
    · rename_i h9
      cases h
      have hb := eFk_1 hq
      refine ⟨?_, ?_, eFs_set hk ?_ (fun j hj => eFv_SI hj), fun w j hj => eEn_SI j hj, rfl⟩
      · rw [hb]
        rcases h9 with rfl | rfl <;> rfl
      · rw [hb]
        rcases h9 with rfl | rfl <;> rfl
      · unfold eFv
        rw [hq, eI_SI, va_up_self, pk_us]
        rfl
    · cases h
  · rename_i x hq
    cases h
    refine ⟨by rw [eFk_2 hq]; rfl, by rw [eFk_2 hq]; rfl, eFs_set hk ?_ (fun j hj => eFv_SL hj), fun w j hj => eEn_SL j hj, rfl⟩
    unfold eFv
    rw [hq, eL_SL, va_up_self, pk_uLs]
    rfl
  · rename_i a hq
    cases h
    refine ⟨?_, ?_, eFs_set hk ?_ (fun j hj => eFv_SA hj), fun w j hj => eEn_SA j hj, rfl⟩
    · rcases eFk_3 hq with ⟨n, e⟩ | ⟨t, e⟩ <;> rw [e] <;> rfl
    · rcases eFk_3 hq with ⟨n, e⟩ | ⟨t, e⟩ <;> rw [e] <;> rfl
    · unfold eFv
      rw [hq, eA_SA, va_up_self, va_up_self]
      rfl
  · rename_i hq
    cases h
    refine ⟨?_, ?_, eFs_set hk ?_ (fun j hj => eFv_SA hj), fun w j hj => eEn_SA j hj, rfl⟩
    · rcases eFk_3 hq with ⟨n, e⟩ | ⟨t, e⟩ <;> rw [e] <;> rfl
    · rcases eFk_3 hq with ⟨n, e⟩ | ⟨t, e⟩ <;> rw [e] <;> rfl
    · unfold eFv
      rw [hq, eA_SA, va_up_self, va_up_self]
      rfl
  · cases h
theorem eCnt {μ μ' : eMem} (h : μ'.1 = μ.1) : eN μ' = eN μ ∧ eC μ' = eC μ ∧ eZ μ' = eZ μ ∧ eO μ' = eO μ := by
  unfold eN eC eZ eO
  rw [h]
  exact ⟨rfl, rfl, rfl, rfl⟩
/-- the heap behind a write of the object o -/
theorem eH_put {w : eWd} {μ μ' : eMem} {o : Nat} {H H1 : Heap} {e0 : va_E} (hH : eH w μ H) (h1 : μ'.1 = μ.1) (ho : o < eN μ) (he : ∀ k, k ≠ o → eEn w μ' k = eEn w μ k) (e : e0 = eEn w μ' o) (hP : va_P (eD w) vwCl ((eWl w μ).set o (eB w + o, e0)) H1) (hz : H1.size = H.size) : eH w μ' H1 := by
  obtain ⟨g1, g2, g3, g4⟩ := eCnt h1
  subst e
  rw [eWl_set g1 ho he] at hP
  exact ⟨hP, by rw [g1]; exact hH.2.1, by rw [g1, hz]; exact hH.2.2.1, by rw [g1, g4, hz]; exact hH.2.2.2⟩
def f_put (ci k : Nat) : eSt → Option (List Value × eMem) := fun σ => match σ.2.1 with
  | v :: .ref o :: r => if o < eN σ.2.2 ∧ (eShp o).1 = ci then (ePut ci k σ.2.2 o v).map (fun μ' => (r, μ')) else none
  | _ => none
theorem f_put_c {ci k : Nat} (hk : k < eClN ci) (σ : eSt) (q : List Value × eMem) (h : f_put ci k σ = some q) : eC q.2 = eC σ.2.2 ∧ eZ q.2 = eZ σ.2.2 := by
  unfold f_put at h
  split at h
  · split at h
    · rename_i v o r _ _
      cases hp : ePut ci k σ.2.2 o v with
      | none => rw [hp] at h; cases h
      | some μ' =>
        rw [hp] at h
        cases h
        obtain ⟨-, -, -, -, h1⟩ := ePut_spec (ad := id) hk hp
        exact ⟨(eCnt h1).2.1, (eCnt h1).2.2.1⟩
    · cases h
  · cases h
def p_put {sx : eSx} (pc idx ci k : Nat) (hfd : eFld sx.1 idx ci k) (hfin : (eClT ci k).2.2.2 = false ∨ ((eClT ci k).2.2.2 = true ∧ sx.2.1 = true ∧ (eClT ci k).1 = sx.1)) : eP sx := eWr pc 3 (.putfield idx) (f_put ci k) (f_put_c hfd.2.1) (by
  intro p l e R s m args below meth c H locs cells slots Q ls w lv st μ st' μ' hf hx hown hts hK hini hH hS hd k0
  simp only [f_put] at hf
  split at hf
  · rename_i v o r
    split at hf
    · rename_i h9
      cases hp : ePut ci k μ o v with
      | none => rw [hp] at hf; cases hf
      | some μ1 =>
        rw [hp] at hf
        cases hf
        obtain ⟨hc, hk, hl⟩ := hfd
        obtain ⟨g1, g2, g3, g4⟩ := eClOKs ci hc
        obtain ⟨q1, q2, q3, q4, q5⟩ := ePut_spec (ad := eAd w) hk hp
        have hn := hH.2.1
        have hat : (eWl w μ)[o]? = some (eB w + o, .inr (ci, eFs (eAd w) ci μ o)) := by rw [eWl_at h9.1, eEn_obj h9.2 hc]
        rw [List.map_cons, eMap_ref hK (Nat.lt_of_lt_of_le h9.1 hn)]
        have hap := va_apart (own := sx.1) hts g2 (eTy ci) g3 g4 hK.1 g1
        obtain ⟨r0, z1, cell, y1, y2, y3, y4⟩ := hH.1 o _ hat
        have hr : r0 = (eClC ci, eClT ci, eClN ci) := Option.some.inj (z1.symm.trans g1)
        subst hr
        obtain ⟨hSl, hfc, kC, hkC, hkind⟩ := hK.1.1 ci _ g1
        obtain ⟨cf, kf, fi, fd, hi, hsl⟩ := hSl k hk
        have hlay := hts _ (g2 _ (u_in_lay hk))
        have hst := (u_facts hfc hkC (u_lays hts g2 hk) hi).1
        have fin : ∀ (H1 : Heap), H1[eB w + o]? = some (cell.setSlot fd.slot (eV (eAd w) v)) → H1.size = H.size → (∀ q : Nat, q ≠ eB w + o → H1[q]? = H[q]?) → eH w μ' H1 ∧ va_S (eAr w) s.heap H1 (locs ++ [⟨eB w + o, fd.slot⟩]) := by
          intro H1 e1 e2 e3
          refine ⟨eH_put (e0 := .inr (ci, (eFs (eAd w) ci μ o).set k (eV (eAd w) v))) hH q5 h9.1 (q4 w) (by rw [q3, eEn_obj h9.2 hc]) ?_ e2, hS.put e2 e3 (Nat.le_add_right _ _)⟩
          rw [hsl] at e1
          exact hH.1.set (eWl_D w μ) hat ⟨_, g1, t_OB.to (V := updV (vp_V (eFs (eAd w) ci μ o)) k (eV (eAd w) v)) ⟨_, e1, y2, y3, t_set y4 hap hk (eV (eAd w) v)⟩ (fun j _ => vp_updV_set (by rw [eFs_len]; exact hk) (eV (eAd w) v) j)⟩ e3
        rcases hfin with hfin | ⟨hfin, hin2, hdecl⟩
        · unfold u_lay at hlay
          rw [if_neg (by rw [hfin]; decide)] at hlay
          have h6 := u_store hfc hkC hkind hlay hi (g3 k hk) q1 q2
          refine W.putK hx rfl (f := fd) ⟨hown, hts _ hl, ⟨_, _, _, hi⟩, hst⟩ (by rw [y2]; exact h6) y1 y3 (by rw [hsl]; exact k2_hasslot (y4 k hk)) rfl rfl hd fun H' e1 e2 e3 => ?_
          obtain ⟨a1, a2⟩ := fin H' e1 e2 e3
          exact k0 H' _ a1 a2
        · unfold u_lay at hlay
          rw [if_pos hfin] at hlay
          have hcf : m.cls = cf := by
            obtain ⟨_, _, c', _, _, _, -, -, hf', -, -, -, hown2, -⟩ := Cond.laysFinal_spec hlay
            have e1 : c' = cf := by have := hi.symm.trans hf'; simp at this; exact this.1.symm
            rw [hdecl] at hown2
            rw [← e1]; exact Option.some.inj (hown.symm.trans hown2)
          have h6 := u_fits hfc hkC hkind (Or.inr hlay) hi (g3 k hk) q1 q2
          refine W.putFinK hx rfl hown (hts _ hl) hi hst hcf (hini hin2) (by rw [y2]; exact h6) y1 y3 (by rw [hsl]; exact k2_hasslot (y4 k hk)) rfl rfl hd fun H' e1 e2 e3 => ?_
          obtain ⟨a1, a2⟩ := fin H' e1 e2 e3
          exact k0 H' _ a1 a2
    · cases hf
  · cases hf)

