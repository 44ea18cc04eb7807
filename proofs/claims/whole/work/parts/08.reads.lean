/-! ===== the engine's instructions on objects and arrays ===== -/
def eIx (i : Int32) (n : Nat) : Option Nat := if i < 0 ∨ n ≤ i.toNatClampNeg then none else some i.toNatClampNeg
theorem eIx_spec {i : Int32} {n j : Nat} (h : eIx i n = some j) : vp_in i n ∧ i.toNatClampNeg = j := by
  unfold eIx at h
  split at h
  · cases h
  · rename_i h9
    cases h
    exact ⟨h9, rfl⟩
theorem eEn_obj {w : eWd} {μ : eMem} {o ci : Nat} (hs : (eShp o).1 = ci) (hc : ci < 12) : eEn w μ o = .inr (ci, eFs (eAd w) ci μ o) := by
  unfold eEn
  rw [hs]
  match ci, hc with
  | 0, _ => rfl
  | 1, _ => rfl
  | 2, _ => rfl
  | 3, _ => rfl
  | 4, _ => rfl
  | 5, _ => rfl
  | 6, _ => rfl
  | 7, _ => rfl
  | 8, _ => rfl
  | 9, _ => rfl
  | 10, _ => rfl
  | 11, _ => rfl
  | n + 12, h => omega
theorem eEn_int {w : eWd} {μ : eMem} {o : Nat} (hs : (eShp o).1 = 50) : eEn w μ o = .inl (w.2.2.1 0, (eShp o).2, .inl (eI μ o)) := by unfold eEn; rw [hs]; rfl
theorem eEn_byte {w : eWd} {μ : eMem} {o : Nat} (hs : (eShp o).1 = 51) : eEn w μ o = .inl (w.2.2.1 1, (eShp o).2, .inl (eI μ o)) := by unfold eEn; rw [hs]; rfl
theorem eEn_long {w : eWd} {μ : eMem} {o : Nat} (hs : (eShp o).1 = 52) : eEn w μ o = .inl (w.2.2.1 2, (eShp o).2, .inr (.inl (eL μ o))) := by unfold eEn; rw [hs]; rfl
theorem eEn_st {w : eWd} {μ : eMem} {o : Nat} (hs : (eShp o).1 = 53) : eEn w μ o = .inl (w.2.2.1 3, (eShp o).2, .inr (.inr (.inr (.inr fun i => (eA μ o i).map (eAd w))))) := by unfold eEn; rw [hs]; rfl
theorem eEn_vb {w : eWd} {μ : eMem} {o : Nat} (hs : (eShp o).1 = 54) : eEn w μ o = .inl (w.2.2.1 4, (eShp o).2, .inr (.inr (.inr (.inr fun i => (eA μ o i).map (eAd w))))) := by unfold eEn; rw [hs]; rfl
theorem eEn_same {w : eWd} {μ μ' : eMem} {k : Nat} (h1 : eI μ' k = eI μ k) (h2 : eL μ' k = eL μ k) (h3 : eA μ' k = eA μ k) : eEn w μ' k = eEn w μ k := by
  unfold eEn eFs eFv
  rw [h1, h2, h3]
theorem eEn_SI {w : eWd} {μ : eMem} {o i : Nat} {x : Int32} : ∀ k, k ≠ o → eEn w (eSI μ o i x) k = eEn w μ k := fun k hk => eEn_same (by rw [eI_SI, va_up_ne _ _ hk]) rfl rfl
theorem eEn_SL {w : eWd} {μ : eMem} {o i : Nat} {x : Int64} : ∀ k, k ≠ o → eEn w (eSL μ o i x) k = eEn w μ k := fun k hk => eEn_same rfl (by rw [eL_SL, va_up_ne _ _ hk]) rfl
theorem eEn_SA {w : eWd} {μ : eMem} {o i : Nat} {x : Option Nat} : ∀ k, k ≠ o → eEn w (eSA μ o i x) k = eEn w μ k := fun k hk => eEn_same rfl rfl (by rw [eA_SA, va_up_ne _ _ hk])
theorem eFs_at {ad : Nat → Nat} {ci : Nat} {μ : eMem} {o k : Nat} (hk : k < eClN ci) : (eFs ad ci μ o)[k]? = some (eV ad (eFv ci μ o k)) := by
  unfold eFs
  rw [List.getElem?_map, List.getElem?_range hk]
  rfl
theorem eFs_len {ad : Nat → Nat} {ci : Nat} {μ : eMem} {o : Nat} : (eFs ad ci μ o).length = eClN ci := by simp [eFs]
theorem eFs_set {ad : Nat → Nat} {ci : Nat} {μ μ' : eMem} {o k : Nat} {v : Value} (hk : k < eClN ci) (h1 : eFv ci μ' o k = v) (h2 : ∀ j, j ≠ k → eFv ci μ' o j = eFv ci μ o j) : (eFs ad ci μ o).set k (eV ad v) = eFs ad ci μ' o := by
  apply List.ext_getElem?
  intro j
  by_cases hj : j < eClN ci
  · rw [eFs_at (μ := μ') hj]
    by_cases hjk : j = k
    · subst hjk
      rw [List.getElem?_set_self (by rw [eFs_len]; exact hj), h1]
    · rw [List.getElem?_set_ne (fun z => hjk z.symm), eFs_at hj, h2 j hjk]
  · rw [List.getElem?_eq_none (by rw [List.length_set, eFs_len]; omega), List.getElem?_eq_none (by rw [eFs_len]; omega)]
theorem eMap_ref {w : eWd} {s : State} {H : Heap} (hK : eK w s H) {o : Nat} (ho : o < 1000) (r : List Value) : (Value.ref o :: r).map (eV (eAd w)) = .ref (eB w + o) :: r.map (eV (eAd w)) := by
  rw [List.map_cons, show eV (eAd w) (.ref o) = .ref (eAd w o) from rfl, hK.2.1 o ho]
/-- a field of a class of the world, as a class's constant pool links it -/
def eFld (own : String) (idx ci k : Nat) : Prop := ci < 12 ∧ k < eClN ci ∧ Cond.fieldLink own idx (eClT ci k).1 (eClT ci k).2.1 (eClT ci k).2.2.1 ∈ eTB
def f_get (ci k : Nat) : eSt → Option (List Value) := fun σ => match σ.2.1 with
  | .ref o :: r => if o < eN σ.2.2 ∧ (eShp o).1 = ci then some (eFv ci σ.2.2 o k :: r) else none
  | _ => none
theorem w_get {sx : eSx} (pc idx ci k : Nat) (hfd : eFld sx.1 idx ci k) : eRow sx pc 3 (.getfield idx) (f_get ci k) := by
  intro p l e R s m args below meth c H locs cells slots Q ls w lv st μ st' hf hlv hx hown hts hK hH hS hd k0
  simp only [f_get] at hf
  split at hf
  · rename_i o r
    split at hf
    · rename_i h9
      cases hf
      obtain ⟨hP, hn, -, -⟩ := hH
      obtain ⟨hc, hk, hl⟩ := hfd
      obtain ⟨g1, g2, g3, g4⟩ := eClOKs ci hc
      rw [eMap_ref hK (Nat.lt_of_lt_of_le h9.1 hn) r]
      exact va_get hx rfl hts g2 hown hK.1 hP o (by rw [eWl_at h9.1, eEn_obj h9.2 hc]) g1 k hk (hts _ hl) (fun x h => h) (eFs_at hk) hd k0
    · cases hf
  · cases hf
def p_get {sx : eSx} (pc idx ci k : Nat) (hfd : eFld sx.1 idx ci k) : eP sx := eRd pc 3 (.getfield idx) (f_get ci k) (w_get pc idx ci k hfd)
/-! arrays of the world -/
def f_iald : eSt → Option (List Value) := fun σ => match σ.2.1 with
  | .int i :: .ref o :: r => if o < eN σ.2.2 ∧ (eShp o).1 = 50 then (eIx i (eShp o).2).map (fun j => .int (eI σ.2.2 o j) :: r) else none
  | _ => none
theorem w_iald {sx : eSx} (pc : Nat) : eRow sx pc 1 .iaload f_iald := by
  intro p l e R s m args below meth c H locs cells slots Q ls w lv st μ st' hf hlv hx hown hts hK hH hS hd k0
  simp only [f_iald] at hf
  split at hf
  · rename_i i o r
    split at hf
    · rename_i h9
      cases hj : eIx i (eShp o).2 with
      | none => rw [hj] at hf; cases hf
      | some j =>
        rw [hj] at hf
        cases hf
        obtain ⟨hin, hj⟩ := eIx_spec hj
        subst hj
        obtain ⟨hP, hn, -, -⟩ := hH
        rw [List.map_cons, eMap_ref hK (Nat.lt_of_lt_of_le h9.1 hn) r]
        exact va_iald hx rfl hK.1 hP o 0 (by rw [eWl_at h9.1, eEn_int h9.2]) rfl hin hd k0
    · cases hf
  · cases hf
def p_iald {sx : eSx} (pc : Nat) : eP sx := eRd pc 1 .iaload f_iald (w_iald pc)
def f_bald : eSt → Option (List Value) := fun σ => match σ.2.1 with
  | .int i :: .ref o :: r => if o < eN σ.2.2 ∧ (eShp o).1 = 51 then (eIx i (eShp o).2).map (fun j => .int (eI σ.2.2 o j) :: r) else none
  | _ => none
theorem w_bald {sx : eSx} (pc : Nat) : eRow sx pc 1 .baload f_bald := by
  intro p l e R s m args below meth c H locs cells slots Q ls w lv st μ st' hf hlv hx hown hts hK hH hS hd k0
  simp only [f_bald] at hf
  split at hf
  · rename_i i o r
    split at hf
    · rename_i h9
      cases hj : eIx i (eShp o).2 with
      | none => rw [hj] at hf; cases hf
      | some j =>
        rw [hj] at hf
        cases hf
        obtain ⟨hin, hj⟩ := eIx_spec hj
        subst hj
        obtain ⟨hP, hn, -, -⟩ := hH
        rw [List.map_cons, eMap_ref hK (Nat.lt_of_lt_of_le h9.1 hn) r]
        exact va_bald hx rfl hK.1 hP o 1 (by rw [eWl_at h9.1, eEn_byte h9.2]) rfl hin hd k0
    · cases hf
  · cases hf
def p_bald {sx : eSx} (pc : Nat) : eP sx := eRd pc 1 .baload f_bald (w_bald pc)
def f_lald : eSt → Option (List Value) := fun σ => match σ.2.1 with
  | .int i :: .ref o :: r => if o < eN σ.2.2 ∧ (eShp o).1 = 52 then (eIx i (eShp o).2).map (fun j => .long (eL σ.2.2 o j) :: r) else none
  | _ => none
theorem w_lald {sx : eSx} (pc : Nat) : eRow sx pc 1 .laload f_lald := by
  intro p l e R s m args below meth c H locs cells slots Q ls w lv st μ st' hf hlv hx hown hts hK hH hS hd k0
  simp only [f_lald] at hf
  split at hf
  · rename_i i o r
    split at hf
    · rename_i h9
      cases hj : eIx i (eShp o).2 with
      | none => rw [hj] at hf; cases hf
      | some j =>
        rw [hj] at hf
        cases hf
        obtain ⟨hin, hj⟩ := eIx_spec hj
        subst hj
        obtain ⟨hP, hn, -, -⟩ := hH
        rw [List.map_cons, eMap_ref hK (Nat.lt_of_lt_of_le h9.1 hn) r]
        exact va_lald hx rfl hK.1 hP o 2 (by rw [eWl_at h9.1, eEn_long h9.2]) rfl hin hd k0
    · cases hf
  · cases hf
def p_lald {sx : eSx} (pc : Nat) : eP sx := eRd pc 1 .laload f_lald (w_lald pc)
/-- an element of an array of references: 53 State[], 54 Verb[] -/
def f_aald (q : Nat) : eSt → Option (List Value) := fun σ => match σ.2.1 with
  | .int i :: .ref o :: r => if o < eN σ.2.2 ∧ (eShp o).1 = q then (eIx i (eShp o).2).map (fun j => eRf (eA σ.2.2 o j) :: r) else none
  | _ => none
theorem w_aald {sx : eSx} (pc q : Nat) (hq : q = 53 ∨ q = 54) : eRow sx pc 1 .aaload (f_aald q) := by
  intro p l e R s m args below meth c H locs cells slots Q ls w lv st μ st' hf hlv hx hown hts hK hH hS hd k0
  simp only [f_aald] at hf
  split at hf
  · rename_i i o r
    split at hf
    · rename_i h9
      cases hj : eIx i (eShp o).2 with
      | none => rw [hj] at hf; cases hf
      | some j =>
        rw [hj] at hf
        cases hf
        obtain ⟨hin, hj⟩ := eIx_spec hj
        subst hj
        obtain ⟨hP, hn, -, -⟩ := hH
        rw [List.map_cons, eMap_ref hK (Nat.lt_of_lt_of_le h9.1 hn) r]
        rw [List.map_cons, eV_rf] at k0
        rcases hq with rfl | rfl
        · exact va_aldq hx rfl hK.1 hP o 3 (by rw [eWl_at h9.1, eEn_st h9.2]) rfl hin hd k0
        · exact va_aldq hx rfl hK.1 hP o 4 (by rw [eWl_at h9.1, eEn_vb h9.2]) rfl hin hd k0
    · cases hf
  · cases hf
def p_aald {sx : eSx} (pc q : Nat) (hq : q = 53 ∨ q = 54) : eP sx := eRd pc 1 .aaload (f_aald q) (w_aald pc q hq)
def f_alen : eSt → Option (List Value) := fun σ => match σ.2.1 with
  | .ref o :: r => if o < eN σ.2.2 ∧ 50 ≤ (eShp o).1 ∧ (eShp o).1 < 55 then some (.int (nI (eShp o).2) :: r) else none
  | _ => none
theorem w_alen {sx : eSx} (pc : Nat) : eRow sx pc 1 .arraylength f_alen := by
  intro p l e R s m args below meth c H locs cells slots Q ls w lv st μ st' hf hlv hx hown hts hK hH hS hd k0
  simp only [f_alen] at hf
  split at hf
  · rename_i o r
    split at hf
    · rename_i h9
      cases hf
      obtain ⟨hP, hn, -, -⟩ := hH
      rw [eMap_ref hK (Nat.lt_of_lt_of_le h9.1 hn) r]
      have hw := eWl_at (w := w) h9.1
      rcases (show (eShp o).1 = 50 ∨ (eShp o).1 = 51 ∨ (eShp o).1 = 52 ∨ (eShp o).1 = 53 ∨ (eShp o).1 = 54 by omega) with z | z | z | z | z
      · rw [eEn_int z] at hw; exact va_alen (v := nI (eShp o).2) hx rfl hK.1 hP o 0 hw rfl rfl hd k0
      · rw [eEn_byte z] at hw; exact va_alen (v := nI (eShp o).2) hx rfl hK.1 hP o 1 hw rfl rfl hd k0
      · rw [eEn_long z] at hw; exact va_alen (v := nI (eShp o).2) hx rfl hK.1 hP o 2 hw rfl rfl hd k0
      · rw [eEn_st z] at hw; exact va_alen (v := nI (eShp o).2) hx rfl hK.1 hP o 3 hw rfl rfl hd k0
      · rw [eEn_vb z] at hw; exact va_alen (v := nI (eShp o).2) hx rfl hK.1 hP o 4 hw rfl rfl hd k0
    · cases hf
  · cases hf
def p_alen {sx : eSx} (pc : Nat) : eP sx := eRd pc 1 .arraylength f_alen (w_alen pc)
/-! constants: statics, their fields, their arrays -/
def f_gets (v : Value) : eSt → Option (List Value) := fun σ => some (v :: σ.2.1)
theorem w_gets {sx : eSx} (pc idx : Nat) (C n d : String) (v : Value) (hm : (C, n, d, v) ∈ eXst) (hl : Cond.fieldLink sx.1 idx C n d ∈ eTB) : eRow sx pc 3 (.getstatic idx) (f_gets v) := by
  intro p l e R s m args below meth c H locs cells slots Q ls w lv st μ st' hf hlv hx hown hts hK hH hS hd k0
  cases hf
  exact va_gets hx rfl (hK.2.2.2.1 _ hm) hS hown (hts _ hl) (fun x h => h) hd k0
def p_gets {sx : eSx} (pc idx : Nat) (C n d : String) (v : Value) (hm : (C, n, d, v) ∈ eXst) (hl : Cond.fieldLink sx.1 idx C n d ∈ eTB) : eP sx := eRd pc 3 (.getstatic idx) (f_gets v) (w_gets pc idx C n d v hm hl)
theorem w_getsN {sx : eSx} (pc idx : Nat) (C n d host : String) (v : Value) (hm : (C, n, d, v) ∈ eXst) (hl : Cond.fieldLinkNest sx.1 idx C n d host ∈ eXn) : eRow sx pc 3 (.getstatic idx) (f_gets v) := by
  intro p l e R s m args below meth c H locs cells slots Q ls w lv st μ st' hf hlv hx hown hts hK hH hS hd k0
  cases hf
  exact va_getsN hx rfl (hK.2.2.2.1 _ hm) hS hown (va_Nw.use rfl (hK.2.2.2.2.2.2.2.2.2.2 _ hl)) (fun x h => h) hd k0
def p_getsN {sx : eSx} (pc idx : Nat) (C n d host : String) (v : Value) (hm : (C, n, d, v) ∈ eXst) (hl : Cond.fieldLinkNest sx.1 idx C n d host ∈ eXn) : eP sx := eRd pc 3 (.getstatic idx) (f_gets v) (w_getsN pc idx C n d host v hm hl)
/-- a field of a constant object, by a table of it -/
def eXt (o n d : String) : List (Nat × Value) := eXf.filterMap fun q => if q.2.1 = o ∧ q.2.2.1 = n ∧ q.2.2.2.1 = d then some (q.1, q.2.2.2.2) else none
def eLk (t : List (Nat × Value)) (a : Nat) : Option Value := match t with
  | [] => none
  | q :: t => if q.1 = a then some q.2 else eLk t a
theorem eLk_mem : ∀ (t : List (Nat × Value)) (a : Nat) (v : Value), eLk t a = some v → (a, v) ∈ t := by
  intro t
  induction t with
  | nil => intro a v h; cases h
  | cons q t ih =>
    intro a v h
    unfold eLk at h
    split at h
    · rename_i h9
      cases h
      subst h9
      exact List.mem_cons_self
    · exact List.mem_cons_of_mem _ (ih a v h)
def f_getX (t : List (Nat × Value)) : eSt → Option (List Value) := fun σ => match σ.2.1 with
  | .ref a :: r => (eLk t a).map (fun v => v :: r)
  | _ => none
theorem w_getX {sx : eSx} (pc idx : Nat) (o n d : String) (t : List (Nat × Value)) (ht : t = eXt o n d) (hl : Cond.fieldLink sx.1 idx o n d ∈ eTB) : eRow sx pc 3 (.getfield idx) (f_getX t) := by
  intro p l e R s m args below meth c H locs cells slots Q ls w lv st μ st' hf hlv hx hown hts hK hH hS hd k0
  simp only [f_getX] at hf
  split at hf
  · rename_i a r
    cases hv : eLk t a with
    | none => rw [hv] at hf; cases hf
    | some v =>
      rw [hv] at hf
      cases hf
      have hm := eLk_mem t a v hv
      rw [ht] at hm
      obtain ⟨q, hq, he⟩ := List.mem_filterMap.mp hm
      split at he
      · rename_i h9
        obtain ⟨q1, q2, q3, q4, q5⟩ := q
        obtain ⟨rfl, rfl, rfl⟩ := h9
        cases he
        exact vk_getf hx rfl (hK.2.2.2.2.1 _ hq) hS hown (hts _ hl) (fun x h => h) hd k0
      · cases he
  · cases hf
def p_getX {sx : eSx} (pc idx : Nat) (o n d : String) (t : List (Nat × Value)) (ht : t = eXt o n d) (hl : Cond.fieldLink sx.1 idx o n d ∈ eTB) : eP sx := eRd pc 3 (.getfield idx) (f_getX t) (w_getX pc idx o n d t ht hl)
def eLa (t : List (Nat × FieldType × List Value)) (a : Nat) : Option (FieldType × List Value) := match t with
  | [] => none
  | q :: t => if q.1 = a then some q.2 else eLa t a
theorem eLa_mem : ∀ (t : List (Nat × FieldType × List Value)) (a : Nat) (v : FieldType × List Value), eLa t a = some v → (a, v) ∈ t := by
  intro t
  induction t with
  | nil => intro a v h; cases h
  | cons q t ih =>
    intro a v h
    unfold eLa at h
    split at h
    · rename_i h9
      cases h
      subst h9
      exact List.mem_cons_self
    · exact List.mem_cons_of_mem _ (ih a v h)
def f_xlen : eSt → Option (List Value) := fun σ => match σ.2.1 with
  | .ref a :: r => (eLa eXa a).map (fun q => .int (nI q.2.length) :: r)
  | _ => none
theorem w_xlen {sx : eSx} (pc : Nat) : eRow sx pc 1 .arraylength f_xlen := by
  intro p l e R s m args below meth c H locs cells slots Q ls w lv st μ st' hf hlv hx hown hts hK hH hS hd k0
  simp only [f_xlen] at hf
  split at hf
  · rename_i a r
    cases hv : eLa eXa a with
    | none => rw [hv] at hf; cases hf
    | some q =>
      rw [hv] at hf
      cases hf
      exact va_tlen (v := nI q.2.length) hx rfl (hK.2.2.2.2.2.1 _ (eLa_mem eXa a q hv)) hS rfl hd k0
  · cases hf
def p_xlen {sx : eSx} (pc : Nat) : eP sx := eRd pc 1 .arraylength f_xlen (w_xlen pc)
def f_xld (ty : FieldType) : eSt → Option (List Value) := fun σ => match σ.2.1 with
  | .int i :: .ref a :: r => match eLa eXa a with
    | some q => if q.1 = ty then (eIx i q.2.length).map (fun j => q.2.getD j .null :: r) else none
    | none => none
  | _ => none
theorem w_xiald {sx : eSx} (pc : Nat) : eRow sx pc 1 .iaload (f_xld .int) := by
  intro p l e R s m args below meth c H locs cells slots Q ls w lv st μ st' hf hlv hx hown hts hK hH hS hd k0
  simp only [f_xld] at hf
  split at hf
  · rename_i i a r
    split at hf
    · rename_i q hv
      split at hf
      · rename_i h9
        cases hj : eIx i q.2.length with
        | none => rw [hj] at hf; cases hf
        | some j =>
          rw [hj] at hf
          cases hf
          obtain ⟨hin, hj⟩ := eIx_spec hj
          subst hj
          have hT := hK.2.2.2.2.2.1 _ (eLa_mem eXa a q hv)
          rw [h9] at hT
          exact va_ti hx rfl hT hS hin rfl hd k0
      · cases hf
    · cases hf
  · cases hf
def p_xiald {sx : eSx} (pc : Nat) : eP sx := eRd pc 1 .iaload (f_xld .int) (w_xiald pc)
theorem w_xbald {sx : eSx} (pc : Nat) : eRow sx pc 1 .baload (f_xld .byte) := by
  intro p l e R s m args below meth c H locs cells slots Q ls w lv st μ st' hf hlv hx hown hts hK hH hS hd k0
  simp only [f_xld] at hf
  split at hf
  · rename_i i a r
    split at hf
    · rename_i q hv
      split at hf
      · rename_i h9
        cases hj : eIx i q.2.length with
        | none => rw [hj] at hf; cases hf
        | some j =>
          rw [hj] at hf
          cases hf
          obtain ⟨hin, hj⟩ := eIx_spec hj
          subst hj
          have hT := hK.2.2.2.2.2.1 _ (eLa_mem eXa a q hv)
          rw [h9] at hT
          exact va_tb hx rfl hT hS hin rfl hd k0
      · cases hf
    · cases hf
  · cases hf
def p_xbald {sx : eSx} (pc : Nat) : eP sx := eRd pc 1 .baload (f_xld .byte) (w_xbald pc)
theorem w_xaald {sx : eSx} (pc : Nat) : eRow sx pc 1 .aaload (f_xld (.object "RootDiscs$Verb")) := by
  intro p l e R s m args below meth c H locs cells slots Q ls w lv st μ st' hf hlv hx hown hts hK hH hS hd k0
  simp only [f_xld] at hf
  split at hf
  · rename_i i a r
    split at hf
    · rename_i q hv
      split at hf
      · rename_i h9
        cases hj : eIx i q.2.length with
        | none => rw [hj] at hf; cases hf
        | some j =>
          rw [hj] at hf
          cases hf
          obtain ⟨hin, hj⟩ := eIx_spec hj
          subst hj
          have hT := hK.2.2.2.2.2.1 _ (eLa_mem eXa a q hv)
          rw [h9] at hT
          obtain ⟨cell, t1, t2, t3, t4, t5, t6, t7⟩ := hT
          have hlt : i.toNatClampNeg < q.2.length := Nat.not_le.mp fun z => hin (Or.inr z)
          have h0 : ¬ i < 0 := fun z => hin (Or.inl z)
          exact W.aald (ty := .object "RootDiscs$Verb") hx rfl (by rw [hS.2.1 _ (Array.getElem?_eq_some_iff.mp t1).1 t7]; exact t1) t2 rfl t3 (by
            rintro (z | z)
            · exact h0 z
            · exact absurd (Nat.lt_of_lt_of_le hlt t4) (Nat.not_lt.mpr z)) (t6 _ hlt) rfl rfl hd k0
      · cases hf
    · cases hf
  · cases hf
def p_xaald {sx : eSx} (pc : Nat) : eP sx := eRd pc 1 .aaload (f_xld (.object "RootDiscs$Verb")) (w_xaald pc)

