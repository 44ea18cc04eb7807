/-! ===== stores into arrays; new objects and arrays; switches ===== -/
def f_iast : eSt → Option (List Value × eMem) := fun σ => match σ.2.1 with
  | .int x :: .int i :: .ref o :: r => if o < eN σ.2.2 ∧ (eShp o).1 = 50 then (eIx i (eShp o).2).map (fun j => (r, eSI σ.2.2 o j x)) else none
  | _ => none
theorem f_iast_c (σ : eSt) (q : List Value × eMem) (h : f_iast σ = some q) : eC q.2 = eC σ.2.2 ∧ eZ q.2 = eZ σ.2.2 := by
  unfold f_iast at h
  split at h
  · split at h
    · rename_i i o r _ _
      cases hp : eIx i (eShp o).2 with
      | none => rw [hp] at h; cases h
      | some j => rw [hp] at h; cases h; exact ⟨rfl, rfl⟩
    · cases h
  · cases h
def p_iast {sx : eSx} (pc : Nat) : eP sx := eWr pc 1 .iastore f_iast f_iast_c (by
  intro p l e R s m args below meth c H locs cells slots Q ls w lv st μ st' μ' hf hx hown hts hK hini hH hS hd k0
  simp only [f_iast] at hf
  split at hf
  · rename_i x i o r
    split at hf
    · rename_i h9
      cases hj : eIx i (eShp o).2 with
      | none => rw [hj] at hf; cases hf
      | some j =>
        rw [hj] at hf
        cases hf
        obtain ⟨hin, hj⟩ := eIx_spec hj
        subst hj
        have hn := hH.2.1
        have hat := eWl_at (w := w) h9.1
        rw [eEn_int h9.2] at hat
        rw [List.map_cons, List.map_cons, eMap_ref hK (Nat.lt_of_lt_of_le h9.1 hn)]
        refine W.iast hx rfl (hH.1 o _ hat) ((hK.1.2 0 _ rfl).1 (eShp o).2 (fun j => .int (eI μ o j))) (fun q => by cases q) (by show ¬ (i < 0 ∨ (arrV _ _ _).slots.size ≤ _); rw [arrV_size]; exact hin) rfl rfl hd fun H1 e z oq => ?_
        refine k0 H1 _ (eH_put hH rfl h9.1 eEn_SI (eEn_int h9.2).symm (hH.1.set (eWl_D w μ) hat ?_ oq) z) (hS.put z oq (Nat.le_add_right _ _))
        show H1[_]? = some (vp_cell _ _)
        rw [e]
        rw [vp_cell_i, vp_cell_i, arrV_store, eI_SI, va_up_self]
        congr 2
        funext q
        by_cases hq : q = i.toNatClampNeg
        · subst hq
          simp [updV, upd]
        · simp [updV, upd, hq]
    · cases hf
  · cases hf)
def f_bast : eSt → Option (List Value × eMem) := fun σ => match σ.2.1 with
  | .int x :: .int i :: .ref o :: r => if o < eN σ.2.2 ∧ (eShp o).1 = 51 then (eIx i (eShp o).2).map (fun j => (r, eSI σ.2.2 o j x.toInt8.toInt32)) else none
  | _ => none
theorem f_bast_c (σ : eSt) (q : List Value × eMem) (h : f_bast σ = some q) : eC q.2 = eC σ.2.2 ∧ eZ q.2 = eZ σ.2.2 := by
  unfold f_bast at h
  split at h
  · split at h
    · rename_i i o r _ _
      cases hp : eIx i (eShp o).2 with
      | none => rw [hp] at h; cases h
      | some j => rw [hp] at h; cases h; exact ⟨rfl, rfl⟩
    · cases h
  · cases h
def p_bast {sx : eSx} (pc : Nat) : eP sx := eWr pc 1 .bastore f_bast f_bast_c (by
  intro p l e R s m args below meth c H locs cells slots Q ls w lv st μ st' μ' hf hx hown hts hK hini hH hS hd k0
  simp only [f_bast] at hf
  split at hf
  · rename_i x i o r
    split at hf
    · rename_i h9
      cases hj : eIx i (eShp o).2 with
      | none => rw [hj] at hf; cases hf
      | some j =>
        rw [hj] at hf
        cases hf
        obtain ⟨hin, hj⟩ := eIx_spec hj
        subst hj
        have hn := hH.2.1
        have hat := eWl_at (w := w) h9.1
        rw [eEn_byte h9.2] at hat
        rw [List.map_cons, List.map_cons, eMap_ref hK (Nat.lt_of_lt_of_le h9.1 hn)]
        refine W.bast hx rfl (hH.1 o _ hat) ((hK.1.2 1 _ rfl).1 (eShp o).2 (fun j => .int (eI μ o j))) (fun q => by cases q) (by show ¬ (i < 0 ∨ (arrV _ _ _).slots.size ≤ _); rw [arrV_size]; exact hin) rfl rfl hd fun H1 e z oq => ?_
        refine k0 H1 _ (eH_put hH rfl h9.1 eEn_SI (eEn_byte h9.2).symm (hH.1.set (eWl_D w μ) hat ?_ oq) z) (hS.put z oq (Nat.le_add_right _ _))
        show H1[_]? = some (vp_cell _ _)
        rw [e]
        rw [vp_cell_i, vp_cell_i, arrV_store, eI_SI, va_up_self]
        congr 2
        funext q
        by_cases hq : q = i.toNatClampNeg
        · subst hq
          simp [updV, upd]
          try rfl
        · simp [updV, upd, hq]
    · cases hf
  · cases hf)
def f_last : eSt → Option (List Value × eMem) := fun σ => match σ.2.1 with
  | .long x :: .int i :: .ref o :: r => if o < eN σ.2.2 ∧ (eShp o).1 = 52 then (eIx i (eShp o).2).map (fun j => (r, eSL σ.2.2 o j x)) else none
  | _ => none
theorem f_last_c (σ : eSt) (q : List Value × eMem) (h : f_last σ = some q) : eC q.2 = eC σ.2.2 ∧ eZ q.2 = eZ σ.2.2 := by
  unfold f_last at h
  split at h
  · split at h
    · rename_i i o r _ _
      cases hp : eIx i (eShp o).2 with
      | none => rw [hp] at h; cases h
      | some j => rw [hp] at h; cases h; exact ⟨rfl, rfl⟩
    · cases h
  · cases h
def p_last {sx : eSx} (pc : Nat) : eP sx := eWr pc 1 .lastore f_last f_last_c (by
  intro p l e R s m args below meth c H locs cells slots Q ls w lv st μ st' μ' hf hx hown hts hK hini hH hS hd k0
  simp only [f_last] at hf
  split at hf
  · rename_i x i o r
    split at hf
    · rename_i h9
      cases hj : eIx i (eShp o).2 with
      | none => rw [hj] at hf; cases hf
      | some j =>
        rw [hj] at hf
        cases hf
        obtain ⟨hin, hj⟩ := eIx_spec hj
        subst hj
        have hn := hH.2.1
        have hat := eWl_at (w := w) h9.1
        rw [eEn_long h9.2] at hat
        rw [List.map_cons, List.map_cons, eMap_ref hK (Nat.lt_of_lt_of_le h9.1 hn)]
        refine W.last hx rfl (hH.1 o _ hat) ((hK.1.2 2 _ rfl).1 (eShp o).2 (fun j => .long (eL μ o j))) (fun q => by cases q) (by show ¬ (i < 0 ∨ (arrV _ _ _).slots.size ≤ _); rw [arrV_size]; exact hin) rfl rfl hd fun H1 e z oq => ?_
        refine k0 H1 _ (eH_put hH rfl h9.1 eEn_SL (eEn_long h9.2).symm (hH.1.set (eWl_D w μ) hat ?_ oq) z) (hS.put z oq (Nat.le_add_right _ _))
        show H1[_]? = some (vp_cell _ _)
        rw [e]
        rw [vp_cell_l, vp_cell_l, arrV_store, eL_SL, va_up_self]
        congr 2
        funext q
        by_cases hq : q = i.toNatClampNeg
        · subst hq
          simp [updV, vp_updL]
        · simp [updV, vp_updL, hq]
    · cases hf
  · cases hf)
/-- the row of an array of references behind a store -/
theorem eUpMap (ad : Nat → Nat) (f : Nat → Option Nat) (i a : Nat) : va_up (fun j => (f j).map ad) i (some (ad a)) = fun j => (va_up f i (some a) j).map ad := by
  funext j
  by_cases h : j = i
  · subst h; rw [va_up_self, va_up_self]; rfl
  · rw [va_up_ne _ _ h, va_up_ne _ _ h]
/-- a reference goes into an array: 53 a State of the world into State[], 54 a Verb into Verb[] -/
def f_aast (q : Nat) : eSt → Option (List Value × eMem) := fun σ => match σ.2.1 with
  | .ref v :: .int i :: .ref o :: r => if (o < eN σ.2.2 ∧ (eShp o).1 = q) ∧ ((q = 53 ∧ v < eN σ.2.2 ∧ (eShp v).1 = 6) ∨ (q = 54 ∧ 1000 ≤ v ∧ v < 1009)) then (eIx i (eShp o).2).map (fun j => (r, eSA σ.2.2 o j (some v))) else none
  | _ => none
theorem f_aast_c (q0 : Nat) (σ : eSt) (q : List Value × eMem) (h : f_aast q0 σ = some q) : eC q.2 = eC σ.2.2 ∧ eZ q.2 = eZ σ.2.2 := by
  unfold f_aast at h
  split at h
  · split at h
    · rename_i i o r _ _
      cases hp : eIx i (eShp o).2 with
      | none => rw [hp] at h; cases h
      | some j => rw [hp] at h; cases h; exact ⟨rfl, rfl⟩
    · cases h
  · cases h
theorem eXo_verb : ∀ v, 1000 ≤ v → v < 1009 → (v, "RootDiscs$Verb") ∈ eXo := by
  intro v h1 h2
  have : v = 1000 ∨ v = 1001 ∨ v = 1002 ∨ v = 1003 ∨ v = 1004 ∨ v = 1005 ∨ v = 1006 ∨ v = 1007 ∨ v = 1008 := by omega
  rcases this with rfl | rfl | rfl | rfl | rfl | rfl | rfl | rfl | rfl <;> decide +kernel
theorem eAny_st {w : eWd} {s : State} {μ : eMem} {H : Heap} (hK : eK w s s.heap) (hH : eH w μ H) {v : Nat} (h1 : v < eN μ) (h2 : (eShp v).1 = 6) : va_Any "RootDiscs$State" s H (eB w + v) := by
  have hat := eWl_at (w := w) h1
  rw [eEn_obj h2 (by omega)] at hat
  exact va_rAny hK.1 hH.1 hat (eClOKs 6 (by omega)).1 (fun comp c0 e1 e2 => by
    have e3 : s.vm.findClass "RootDiscs$State" = some c0 := e2
    have : comp = c0 := Option.some.inj (e1.symm.trans e3)
    rw [this]
    exact va_asg _ _)
theorem eAny_vb {w : eWd} {s : State} {H : Heap} {locs : List Loc} (hK : eK w s s.heap) (hS : va_S (eAr w) s.heap H locs) {v : Nat} (h1 : 1000 ≤ v) (h2 : v < 1009) : va_Any "RootDiscs$Verb" s H (eAd w v) := by
  obtain ⟨cell, g1, g2, g3⟩ := va_Orecv (hK.2.2.2.2.2.2.1 _ (eXo_verb v h1 h2)) hS
  obtain ⟨k, hk, -⟩ := Vm.findClass_spec g3
  refine ⟨cell, g1, g2, ⟨k, hk⟩, fun comp hc => ?_⟩
  have : comp = cell.cls := Option.some.inj (hc.symm.trans g3)
  rw [this]
  exact va_asg _ _
def p_aast {sx : eSx} (pc q : Nat) (hq0 : q = 53 ∨ q = 54) : eP sx := eWr pc 1 .aastore (f_aast q) (f_aast_c q) (by
  intro p l e R s m args below meth c H locs cells slots Q ls w lv st μ st' μ' hf hx hown hts hK hini hH hS hd k0
  simp only [f_aast] at hf
  split at hf
  · rename_i v i o r
    split at hf
    · rename_i h9
      cases hj : eIx i (eShp o).2 with
      | none => rw [hj] at hf; cases hf
      | some j =>
        rw [hj] at hf
        cases hf
        obtain ⟨hin, hj⟩ := eIx_spec hj
        subst hj
        have hn := hH.2.1
        have hat := eWl_at (w := w) h9.1.1
        have hlt : i.toNatClampNeg < (eShp o).2 := Nat.not_le.mp fun q => hin (Or.inr q)
        have h0 : ¬ i < 0 := fun q => hin (Or.inl q)
        have go : ∀ (t0 : Nat) (E : String) (cA : ClassId) (va : Nat), (eTys w)[t0]? = some (cA, .object E) → eEn w μ o = .inl (cA, (eShp o).2, .inr (.inr (.inr (.inr fun j => (eA μ o j).map (eAd w))))) → eEn w (eSA μ o i.toNatClampNeg (some v)) o = .inl (cA, (eShp o).2, .inr (.inr (.inr (.inr fun j => (eA (eSA μ o i.toNatClampNeg (some v)) o j).map (eAd w))))) → eAd w v = va → va_Any E s H va → W p l e R s m args below meth c H locs cells slots Q (F0 m pc ls (.ref va :: .int i :: .ref (eB w + o) :: st'.map (eV (eAd w)))) := by
          intro t0 E cA va ht he1 he2 hva hr
          rw [he1] at hat
          obtain ⟨cellV, g1, g3, ⟨kC, hkC⟩, hasg⟩ := hr
          obtain ⟨kA, comp, k1, k2, k3, -⟩ := (hK.1.2 t0 _ ht).2
          obtain ⟨kE, hkE, -⟩ := Vm.findClass_spec k3
          refine W.aast hx rfl (hH.1 o _ hat) (fun q h => by cases h) (fun h => by cases h) k1 k2 rfl hkE ⟨h0, by show _ < (arrV _ _ _).slots.size; rw [arrV_size]; exact hlt⟩ g1 (fun q h => by rw [h] at g3; cases g3) hkC (hasg _ k3) rfl rfl hd fun H1 e1 z oq => ?_
          refine k0 H1 _ (eH_put hH rfl h9.1.1 eEn_SA he2.symm (hH.1.set (eWl_D w μ) hat ?_ oq) z) (hS.put z oq (Nat.le_add_right _ _))
          show H1[_]? = some (vp_cell _ _)
          rw [e1]
          rw [vp_cell_q, vp_cell_q, arrV_store, eA_SA, va_up_self]
          congr 2
          funext q
          by_cases hq : q = i.toNatClampNeg
          · subst hq
            simp [updV, va_up, va_rf, hva]
          · simp [updV, va_up, hq]
        rw [List.map_cons, List.map_cons, eMap_ref hK (Nat.lt_of_lt_of_le h9.1.1 hn)]
        rcases h9.2 with ⟨e1, e2, e3⟩ | ⟨e1, e2, e3⟩
        · have hs : (eShp o).1 = 53 := h9.1.2.trans e1
          have := go 3 "RootDiscs$State" _ (eB w + v) rfl (eEn_st hs) (eEn_st hs) (hK.2.1 v (Nat.lt_of_lt_of_le e2 hn)) (eAny_st hK hH e2 e3)
          have hv : eV (eAd w) (.ref v) = .ref (eB w + v) := by
            show Value.ref (eAd w v) = _
            rw [hK.2.1 v (Nat.lt_of_lt_of_le e2 hn)]
          rw [hv]
          exact this
        · have hs : (eShp o).1 = 54 := h9.1.2.trans e1
          exact go 4 "RootDiscs$Verb" _ (eAd w v) rfl (eEn_vb hs) (eEn_vb hs) rfl (eAny_vb hK hS e2 e3)
    · cases hf
  · cases hf)
/-! new objects -/
def eMk (μ : eMem) (z : Nat) : eMem := ((eN μ + 1, eC μ + 1, eZ μ + z, eO μ), va_up (eI μ) (eN μ) (fun _ => 0), va_up (eL μ) (eN μ) (fun _ => 0), va_up (eA μ) (eN μ) (fun _ => none))
theorem eMk_N (μ : eMem) (z : Nat) : eN (eMk μ z) = eN μ + 1 := rfl
theorem eMk_C (μ : eMem) (z : Nat) : eC (eMk μ z) = eC μ + 1 := rfl
theorem eMk_Z (μ : eMem) (z : Nat) : eZ (eMk μ z) = eZ μ + z := rfl
theorem eMk_O (μ : eMem) (z : Nat) : eO (eMk μ z) = eO μ := rfl
theorem eMk_I (μ : eMem) (z : Nat) : eI (eMk μ z) = va_up (eI μ) (eN μ) (fun _ => 0) := rfl
theorem eMk_L (μ : eMem) (z : Nat) : eL (eMk μ z) = va_up (eL μ) (eN μ) (fun _ => 0) := rfl
theorem eMk_A (μ : eMem) (z : Nat) : eA (eMk μ z) = va_up (eA μ) (eN μ) (fun _ => none) := rfl
theorem eEn_mk {w : eWd} {μ : eMem} {z : Nat} {k : Nat} (hk : k ≠ eN μ) : eEn w (eMk μ z) k = eEn w μ k := eEn_same (by rw [eMk_I, va_up_ne _ _ hk]) (by rw [eMk_L, va_up_ne _ _ hk]) (by rw [eMk_A, va_up_ne _ _ hk])
theorem eH_mk {w : eWd} {μ : eMem} {z : Nat} {H H1 : Heap} (hH : eH w μ H) (ho : eO μ = true) (hn : eN μ < 1000) (hz : H1.size = H.size + 1) (hk : ∀ q, q < H.size → H1[q]? = H[q]?) (he : va_at (eD w) vwCl (eB w + eN μ, eEn w (eMk μ z) (eN μ)) H1) : eH w (eMk μ z) H1 := by
  have hs := hH.2.2.2 ho
  refine ⟨fun k q hq => ?_, by rw [eMk_N]; omega, by rw [eMk_N, hz]; omega, fun _ => by rw [eMk_N, hz]; omega⟩
  have hlt : k < eN μ + 1 := by
    have := (List.getElem?_eq_some_iff.mp hq).1
    rw [eWl_len, eMk_N] at this
    exact this
  rw [eWl_at (by rw [eMk_N]; exact hlt)] at hq
  cases hq
  by_cases hkn : k = eN μ
  · subst hkn
    exact he
  · rw [eEn_mk hkn]
    have := hH.1 k _ (eWl_at (w := w) (show k < eN μ by omega))
    exact this.kept (hk _ this.lt)
theorem eS_mk {w : eWd} {s : State} {H H1 : Heap} {locs : List Loc} (hS : va_S (eAr w) s.heap H locs) (hz : H1.size = H.size + 1) (hk : ∀ q, q < H.size → H1[q]? = H[q]?) : va_S (eAr w) s.heap H1 locs :=
  ⟨Nat.le_trans hS.1 (by omega), fun x h1 h2 => (hk x (Nat.lt_of_lt_of_le h1 hS.1)).trans (hS.2.1 x h1 h2), hS.2.2⟩
theorem eFkOK : ∀ ci, ci < 12 → ∀ j, j < eClN ci → eFk (eTy ci j) ≤ 3 := by decide +kernel
def f_new (ci : Nat) : eSt → Option (List Value × eMem) := fun σ => if eO σ.2.2 = true ∧ eN σ.2.2 < 1000 ∧ (eShp (eN σ.2.2)).1 = ci then some (.ref (eN σ.2.2) :: σ.2.1, eMk σ.2.2 (eClN ci)) else none
theorem f_new_c (ci : Nat) (σ : eSt) (q : List Value × eMem) (h : f_new ci σ = some q) : eC q.2 = eC σ.2.2 + 1 ∧ eZ q.2 = eZ σ.2.2 + eClN ci := by
  unfold f_new at h
  split at h
  · cases h; exact ⟨rfl, rfl⟩
  · cases h
def eCls (own : String) (idx ci : Nat) : Prop := ci < 12 ∧ Cond.classLink own idx (eClC ci) ∈ eTB ∧ Cond.instantiable (eClC ci) (eClN ci) ∈ eTB ∧ Cond.initialized (eClC ci) ∈ eTB
def p_new {sx : eSx} (pc idx ci : Nat) (hcd : eCls sx.1 idx ci) : eP sx := eMak pc 3 (eClN ci) (.new idx) (f_new ci) (f_new_c ci) (by
  intro p l e R s m args below meth c H locs cells slots Q ls w lv st μ st' μ' hf hx hown hts hK hini hH hS hd hcl hsl k0
  simp only [f_new] at hf
  split at hf
  · rename_i h9
    cases hf
    obtain ⟨hc, l1, l2, l3⟩ := hcd
    obtain ⟨g1, g2, g3, g4⟩ := eClOKs ci hc
    have hKn := hK.1.1 ci _ g1
    have hs := hH.2.2.2 h9.1
    refine W.newcK hx rfl hown (hts _ l1) (hts _ l2) (hts _ l3) rfl hd hcl hsl hKn.2.1 rfl fun H1 kC hkC e1 z1 o1 => ?_
    have hH1 : eH w (eMk μ (eClN ci)) H1 := by
      refine eH_mk hH h9.1 h9.2.1 z1 o1 ?_
      rw [eEn_obj h9.2.2 hc]
      refine ⟨_, g1, t_OB.to (by rw [← hs]; exact u_born (eTy ci) hts g2 hKn hkC e1 g3) (fun j hj => ?_)⟩
      have hj' : j < eClN ci := hj
      have h3 := eFkOK ci hc j hj'
      have hv : vp_V (eFs (eAd w) ci (eMk μ (eClN ci)) (eN μ)) j = eV (eAd w) (eFv ci (eMk μ (eClN ci)) (eN μ) j) := by
        unfold vp_V
        rw [List.getD_eq_getElem?_getD, eFs_at hj']
        rfl
      rw [hv]
      unfold eFv
      rw [eMk_I, eMk_L, eMk_A, va_up_self, va_up_self, va_up_self]
      rcases (show eFk (eTy ci j) = 0 ∨ eFk (eTy ci j) = 1 ∨ eFk (eTy ci j) = 2 ∨ eFk (eTy ci j) = 3 by omega) with z | z | z | z
      · rw [z, eFk_0 z]; rfl
      · rw [z, eFk_1 z]; rfl
      · rw [z, eFk_2 z]; rfl
      · rw [z]
        rcases eFk_3 z with ⟨n, e9⟩ | ⟨t, e9⟩ <;> rw [e9] <;> rfl
    have := k0 H1 locs hH1 (eS_mk hS z1 o1)
    rw [List.map_cons, show eV (eAd w) (.ref (eN μ)) = .ref H.size by rw [show eV (eAd w) (.ref (eN μ)) = .ref (eAd w (eN μ)) from rfl, hK.2.1 _ h9.2.1, hs]] at this
    exact this
  · cases hf)
/-- what an array's kind is: 50 int, 51 byte, 52 long -/
def eAty : Nat → ArrayType
  | 50 => .int
  | 51 => .byte
  | _ => .long
def f_newa (q N : Nat) : eSt → Option (List Value × eMem) := fun σ => match σ.2.1 with
  | .int n :: r => if eO σ.2.2 = true ∧ eN σ.2.2 < 1000 ∧ eShp (eN σ.2.2) = (q, N) ∧ n = nI N ∧ N < 65536 then some (.ref (eN σ.2.2) :: r, eMk σ.2.2 N) else none
  | _ => none
theorem f_newa_c (q0 N : Nat) (σ : eSt) (q : List Value × eMem) (h : f_newa q0 N σ = some q) : eC q.2 = eC σ.2.2 + 1 ∧ eZ q.2 = eZ σ.2.2 + N := by
  unfold f_newa at h
  split at h
  · split at h
    · cases h; exact ⟨rfl, rfl⟩
    · cases h
  · cases h
def p_newa {sx : eSx} (pc q N : Nat) (hq : q = 50 ∨ q = 51 ∨ q = 52) (hw : Cond.arrayClass (newarray.typeOf (eAty q)) ∈ eTB) : eP sx := eMak pc 2 N (.newarray (eAty q)) (f_newa q N) (f_newa_c q N) (by
  intro p l e R s m args below meth c H locs cells slots Q ls w lv st μ st' μ' hf hx hown hts hK hini hH hS hd hcl hsl k0
  simp only [f_newa] at hf
  split at hf
  · rename_i n r
    split at hf
    · rename_i h9
      cases hf
      obtain ⟨b1, b2, b3, b4, b5⟩ := h9
      subst b4
      have hs := hH.2.2.2 b1
      have hN : N < 2 ^ 31 := by omega
      have hb : N * componentBytes (newarray.typeOf (eAty q)) ≤ 536870912 := by
        rcases hq with rfl | rfl | rfl <;> simp [eAty, newarray.typeOf, componentBytes] <;> omega
      refine va_newaK hx rfl (hts _ hw) rfl hd rfl (nI_pos hN) (nI_clamp hN) hb hcl hsl rfl fun H1 cA e1 z1 o1 hAr hNm => ?_
      have hH1 : eH w (eMk μ N) H1 := by
        refine eH_mk hH b1 b2 z1 o1 ?_
        have ent : eEn w (eMk μ N) (eN μ) = .inl (cA, N, if q = 52 then .inr (.inl fun _ => 0) else .inl fun _ => 0) := by
          rcases hq with rfl | rfl | rfl
          · have hc : w.2.2.1 0 = cA := Option.some.inj (((hK.1.2 0 _ rfl).2 : s.vm.findClass _ = _).symm.trans hNm)
            rw [eEn_int (by rw [b3]), b3, eMk_I, va_up_self, hc]
            rfl
          · have hc : w.2.2.1 1 = cA := Option.some.inj (((hK.1.2 1 _ rfl).2 : s.vm.findClass _ = _).symm.trans hNm)
            rw [eEn_byte (by rw [b3]), b3, eMk_I, va_up_self, hc]
            rfl
          · have hc : w.2.2.1 2 = cA := Option.some.inj (((hK.1.2 2 _ rfl).2 : s.vm.findClass _ = _).symm.trans hNm)
            rw [eEn_long (by rw [b3]), b3, eMk_L, va_up_self, hc]
            rfl
        rw [ent]
        show H1[_]? = some (vp_cell _ _)
        rw [← hs, e1]
        rcases hq with rfl | rfl | rfl <;> rfl
      have := k0 H1 locs hH1 (eS_mk hS z1 o1)
      rw [List.map_cons, show eV (eAd w) (.ref (eN μ)) = .ref H.size by rw [show eV (eAd w) (.ref (eN μ)) = .ref (eAd w (eN μ)) from rfl, hK.2.1 _ b2, hs]] at this
      exact this
    · cases hf
  · cases hf)
def f_anew (q N : Nat) : eSt → Option (List Value × eMem) := f_newa q N
def p_anew {sx : eSx} (pc idx q N : Nat) (C : String) (hq : (q = 53 ∧ C = "RootDiscs$State") ∨ (q = 54 ∧ C = "RootDiscs$Verb")) (hl : Cond.classLink sx.1 idx C ∈ eTB) (ho : Cond.arrayOver (.object C) ∈ eXn) : eP sx := eMak pc 3 N (.anewarray idx) (f_newa q N) (f_newa_c q N) (by
  intro p l e R s m args below meth c H locs cells slots Q ls w lv st μ st' μ' hf hx hown hts hK hini hH hS hd hcl hsl k0
  simp only [f_newa] at hf
  split at hf
  · rename_i n r
    split at hf
    · rename_i h9
      cases hf
      obtain ⟨b1, b2, b3, b4, b5⟩ := h9
      subst b4
      have hs := hH.2.2.2 b1
      have hN : N < 2 ^ 31 := by omega
      refine W.anew hx rfl hown (hts _ hl) (hK.2.2.2.2.2.2.2.2.2.2 _ ho) rfl hd rfl (nI_pos hN) (by rw [nI_clamp hN]; omega) hcl (by rw [nI_clamp hN]; exact hsl) fun cA kA comp q1 q2 q3 q4 => ?_
      rw [nI_clamp hN]
      generalize hG : H.push { cls := cA, slots := Array.replicate N Value.null, vm := .none } = H1
      have z1 : H1.size = H.size + 1 := by rw [← hG]; simp
      have o1 : ∀ q, q < H.size → H1[q]? = H[q]? := fun q hq => by rw [← hG, Array.getElem?_push, if_neg (Nat.ne_of_lt hq)]
      have e1 : H1[H.size]? = some (arrV cA N (fun _ => Value.null)) := by rw [← arrV_new, ← hG]; simp
      have hH1 : eH w (eMk μ N) H1 := by
        refine eH_mk hH b1 b2 z1 o1 ?_
        have ent : eEn w (eMk μ N) (eN μ) = .inl (cA, N, .inr (.inr (.inr (.inr fun _ => none)))) := by
          rcases hq with ⟨rfl, rfl⟩ | ⟨rfl, rfl⟩
          · obtain ⟨kA', comp', t1, t2, t3, t4⟩ := ((hK.1.2 3 _ rfl).2 : va_RA s _ (.object "RootDiscs$State"))
            have hc : w.2.2.1 3 = cA := Option.some.inj (t4.symm.trans q1)
            rw [eEn_st (by rw [b3]), b3, eMk_A, va_up_self, hc]
            rfl
          · obtain ⟨kA', comp', t1, t2, t3, t4⟩ := ((hK.1.2 4 _ rfl).2 : va_RA s _ (.object "RootDiscs$Verb"))
            have hc : w.2.2.1 4 = cA := Option.some.inj (t4.symm.trans q1)
            rw [eEn_vb (by rw [b3]), b3, eMk_A, va_up_self, hc]
            rfl
        rw [ent]
        show H1[_]? = some (vp_cell _ _)
        rw [← hs, e1]
        rfl
      have := k0 H1 locs hH1 (eS_mk hS z1 o1)
      rw [List.map_cons, show eV (eAd w) (.ref (eN μ)) = .ref H.size by rw [show eV (eAd w) (.ref (eN μ)) = .ref (eAd w (eN μ)) from rfl, hK.2.1 _ b2, hs]] at this
      exact this
    · cases hf
  · cases hf)
/-! a switch -/
def eTgt (pc : Nat) (x lo : Int) (dflt : Int) (offs : List Int) : Nat := (((pc : Int) + (if x < lo then dflt else offs.getD (x - lo).toNat dflt))).toNat
def p_table {sx : eSx} (pc len stop : Nat) (lo dflt : Int) (offs : List Int) (hp : (0 ≤ (pc : Int) + dflt ∧ ∀ o ∈ offs, 0 ≤ (pc : Int) + o)) : eP sx :=
  ⟨(pc, stop, (0, 0), (fun cc => decide (decode cc pc = .ok (.tableswitch dflt lo (lo + offs.length - 1) offs.toArray, len))), fun σ => match σ.2.1 with
    | .int x :: r => some (some (.inl (eTgt pc x.toInt lo dflt offs)), (σ.1, r, σ.2.2))
    | _ => none), eMono_same (fun σ o σ' h => by
    dsimp only at h
    split at h
    · cases h; rfl
    · cases h), by
  rintro ⟨p, l, e, R, s, m, args, below, meth, c, Q, nL, c0, s0, w⟩ hx hc hf hl ⟨lv, st, μ⟩ o σ' hd
  obtain ⟨h1, h2, h2', h3, h4, h5, h6, h7, h8, h9⟩ := hx
  have hdg : decode c.code pc = .ok (.tableswitch dflt lo (lo + offs.length - 1) offs.toArray, len) := of_decide_eq_true hc
  dsimp only at hd
  split at hd
  · rename_i x r
    cases hd
    refine ⟨⟨Nat.le_refl _, Nat.le_refl _⟩, fun _ _ k H locs cells slots ls hls hH hS e1 e2 => ?_⟩
    have kk := k H locs cells slots ls hls hH hS e1 e2
    rw [List.map_cons]
    show W p l e R s m args below meth c H locs cells slots Q (F0 m pc ls (.int x :: _))
    by_cases hlo : x.toInt < lo
    · refine lv_tableOut h1 rfl hdg (Or.inl hlo) (tgt := eTgt pc x.toInt lo dflt offs) ?_ kk
      unfold eTgt
      rw [if_pos hlo]
      omega
    · by_cases hhi : lo + offs.length - 1 < x.toInt
      · refine lv_tableOut h1 rfl hdg (Or.inr hhi) (tgt := eTgt pc x.toInt lo dflt offs) ?_ kk
        unfold eTgt
        rw [if_neg hlo, List.getD_eq_getElem?_getD, List.getElem?_eq_none (by omega)]
        dsimp only [Option.getD]
        omega
      · have hlt : (x.toInt - lo).toNat < offs.length := by omega
        refine lv_tableIn h1 rfl hdg hlo hhi (off := offs[(x.toInt - lo).toNat]) (by rw [List.getElem?_toArray, List.getElem?_eq_getElem hlt]) (tgt := eTgt pc x.toInt lo dflt offs) ?_ kk
        unfold eTgt
        rw [if_neg hlo, List.getD_eq_getElem?_getD, List.getElem?_eq_getElem hlt]
        have := hp.2 _ (List.getElem_mem hlt)
        dsimp only [Option.getD]
        omega
  · cases hd⟩
