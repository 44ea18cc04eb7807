/-! ===== pieces and object 212: whatever its long is, they do the same ===== -/
def nv (v : Value) : Prop := v ≠ .ref 212
def nl (l : List Value) : Prop := ∀ v ∈ l, nv v
def nm (μ : eMem) : Prop := ∀ k i, (eShp k).1 < 12 → eA μ k i ≠ some 212
def px (x : Int64) (μ : eMem) : eMem := eSL μ 212 0 x
theorem nl_c {v : Value} {l : List Value} (h : nv v) (hl : nl l) : nl (v :: l) := fun w hw => by
  rcases List.mem_cons.mp hw with z | z
  · rw [z]; exact h
  · exact hl w z
theorem nl_t {v : Value} {l : List Value} (h : nl (v :: l)) : nl l := fun w hw => h w (List.mem_cons_of_mem _ hw)
theorem nl_h {v : Value} {l : List Value} (h : nl (v :: l)) : nv v := h v List.mem_cons_self
theorem nl_0 : nl [] := fun v h => absurd h List.not_mem_nil
theorem nv_j : nv eJ := fun z => by cases z
theorem nl_at {l : List Value} (h : nl l) (j : Nat) : nv (eAt l j) := by
  induction l generalizing j with
  | nil => exact nv_j
  | cons v l ih =>
    cases j with
    | zero => exact nl_h h
    | succ j => exact ih (nl_t h) j
theorem nl_set {l : List Value} (h : nl l) (j : Nat) {v : Value} (hv : nv v) : nl (l.set j v) := fun w hw => by
  rcases List.mem_or_eq_of_mem_set hw with z | z
  · exact h w z
  · rw [z]; exact hv
theorem nl_ap {a b : List Value} (h1 : nl a) (h2 : nl b) : nl (a ++ b) := fun w hw => by
  rcases List.mem_append.mp hw with z | z
  · exact h1 w z
  · exact h2 w z
theorem nl_fg : ∀ (is : List Nat) {l : List Value}, nl l → nl (eFg is l) := by
  intro is
  induction is with
  | nil => intro l h; exact h
  | cons i is ih => intro l h; exact ih (nl_set h i nv_j)
theorem nl_args : ∀ {l : List Value}, nl l → nl (eArgs l) := by
  intro l
  induction l with
  | nil => intro _; exact nl_0
  | cons v l ih =>
    intro h
    unfold eArgs
    cases eC2 v
    · exact nl_c (nl_h h) (ih (nl_t h))
    · exact nl_c (nl_h h) (nl_c nv_j (ih (nl_t h)))
theorem nl_ent {l : List Value} (h : nl l) (n : Nat) : nl (eEnt l n) := nl_ap (nl_args h) (fun w hw => by rw [List.eq_of_mem_replicate hw]; exact nv_j)
theorem nl_take {l : List Value} (h : nl l) (n : Nat) : nl (l.take n).reverse := fun w hw => h w (List.mem_of_mem_take (List.mem_reverse.mp hw))
theorem nl_drop {l : List Value} (h : nl l) (n : Nat) : nl (l.drop n) := fun w hw => h w (List.mem_of_mem_drop hw)
theorem px_A (x : Int64) (μ : eMem) : eA (px x μ) = eA μ := rfl
theorem px_I (x : Int64) (μ : eMem) : eI (px x μ) = eI μ := rfl
theorem px_N (x : Int64) (μ : eMem) : eN (px x μ) = eN μ := rfl
theorem px_L (x : Int64) (μ : eMem) {o : Nat} (h : o ≠ 212) : eL (px x μ) o = eL μ o := va_up_ne _ _ h
theorem px_SI (x : Int64) (μ : eMem) (o i : Nat) (y : Int32) : eSI (px x μ) o i y = px x (eSI μ o i y) := rfl
theorem px_SA (x : Int64) (μ : eMem) (o i : Nat) (y : Option Nat) : eSA (px x μ) o i y = px x (eSA μ o i y) := rfl
theorem px_SL (x : Int64) (μ : eMem) {o : Nat} (h : o ≠ 212) (i : Nat) (y : Int64) : eSL (px x μ) o i y = px x (eSL μ o i y) := by
  show (_, _, va_up (va_up (eL μ) 212 _) o (vp_updL (va_up (eL μ) 212 _ o) i y), _) = (_, _, va_up (va_up (eL μ) o (vp_updL (eL μ o) i y)) 212 (vp_updL (va_up (eL μ) o (vp_updL (eL μ o) i y) 212) 0 x), _)
  have e : va_up (va_up (eL μ) 212 (vp_updL (eL μ 212) 0 x)) o (vp_updL (va_up (eL μ) 212 (vp_updL (eL μ 212) 0 x) o) i y) = va_up (va_up (eL μ) o (vp_updL (eL μ o) i y)) 212 (vp_updL (va_up (eL μ) o (vp_updL (eL μ o) i y) 212) 0 x) := by
    rw [va_up_ne _ _ h, va_up_ne _ _ (Ne.symm h)]
    funext k
    by_cases h1 : k = o
    · subst h1; rw [va_up_self, va_up_ne _ _ h, va_up_self]
    · rw [va_up_ne _ _ h1]
      by_cases h2 : k = 212
      · subst h2; rw [va_up_self, va_up_self]
      · rw [va_up_ne _ _ h2, va_up_ne _ _ h2, va_up_ne _ _ h1]
  exact congrArg (fun q => (μ.1, eI μ, q, eA μ)) e
def NatD (d : eSt → eRes) : Prop := ∀ lv st μ o lv' st' μ', nl lv → nl st → nm μ → d (lv, st, μ) = some (o, lv', st', μ') → (nl lv' ∧ nl st' ∧ nm μ' ∧ ∀ v, o = some (.inr (.inl (some v))) → nv v) ∧ ∀ x, d (lv, st, px x μ) = some (o, lv', st', px x μ')
def NatM (M : eMt) : Prop := ∀ av μ r μ', nl av → nm μ → eCall M av μ = some (r, μ') → (nm μ' ∧ ∀ v, r = .inl (some v) → nv v) ∧ ∀ x, eCall M av (px x μ) = some (r, px x μ')
theorem nat_seq {sx : eSx} {a b : eP sx} (ha : NatD (eDen a)) (hb : NatD (eDen b)) : NatD (eDen (eSeq a b)) := by
  intro lv st μ o lv' st' μ' h1 h2 h3 h
  change eBind (eDen a (lv, st, μ)) (eDen b) = _ at h
  cases hq : eDen a (lv, st, μ) with
  | none => rw [hq] at h; cases h
  | some q =>
    obtain ⟨o1, lv1, st1, μ1⟩ := q
    rw [hq] at h
    obtain ⟨⟨g1, g2, g3, g4⟩, g5⟩ := ha lv st μ o1 lv1 st1 μ1 h1 h2 h3 hq
    cases o1 with
    | none =>
      obtain ⟨k1, k2⟩ := hb lv1 st1 μ1 o lv' st' μ' g1 g2 g3 h
      refine ⟨k1, fun x => ?_⟩
      show eBind (eDen a (lv, st, px x μ)) (eDen b) = _
      rw [g5 x]
      exact k2 x
    | some o1 =>
      cases h
      refine ⟨⟨g1, g2, g3, g4⟩, fun x => ?_⟩
      show eBind (eDen a (lv, st, px x μ)) (eDen b) = _
      rw [g5 x]
      rfl
theorem nat_blk {sx : eSx} {T : Nat} {a : eP sx} (ha : NatD (eDen a)) : NatD (eDen (eBlk T a)) := by
  intro lv st μ o lv' st' μ' h1 h2 h3 h
  change eCatch T (eDen a (lv, st, μ)) = _ at h
  cases hq : eDen a (lv, st, μ) with
  | none => rw [hq] at h; cases h
  | some q =>
    obtain ⟨o1, lv1, st1, μ1⟩ := q
    rw [hq] at h
    obtain ⟨⟨g1, g2, g3, g4⟩, g5⟩ := ha lv st μ o1 lv1 st1 μ1 h1 h2 h3 hq
    have key : lv' = lv1 ∧ st' = st1 ∧ μ' = μ1 ∧ (o = o1 ∨ o = none) := by
      unfold eCatch at h
      split at h
      · rename_i T' σ hr
        cases hr
        split at h
        · cases h; exact ⟨rfl, rfl, rfl, Or.inr rfl⟩
        · cases h; exact ⟨rfl, rfl, rfl, Or.inl rfl⟩
      · cases h; exact ⟨rfl, rfl, rfl, Or.inl rfl⟩
    obtain ⟨rfl, rfl, rfl, ho⟩ := key
    refine ⟨⟨g1, g2, g3, fun v hv => ?_⟩, fun x => ?_⟩
    · rcases ho with z | z
      · subst z; exact g4 v hv
      · rw [z] at hv; cases hv
    · show eCatch T (eDen a (lv, st, px x μ)) = _
      rw [g5 x]
      unfold eCatch at h ⊢
      cases o1 with
      | none => cases h; rfl
      | some o1 =>
        cases o1 with
        | inl T' =>
          dsimp only at h ⊢
          split at h
          · rename_i hT; rw [if_pos hT]; cases h; rfl
          · rename_i hT; rw [if_neg hT]; cases h; rfl
        | inr z => cases h; rfl
theorem nat_lop {sx : eSx} {hd : Nat} {a : eP sx} (ha : NatD (eDen a)) : NatD (eDen (eLop hd a)) := by
  intro lv st μ o lv' st' μ' h1 h2 h3 h
  change eLoop eFuel hd (eDen a) (lv, st, μ) = _ at h
  show _ ∧ ∀ x, eLoop eFuel hd (eDen a) (lv, st, px x μ) = _
  generalize eFuel = n at h ⊢
  induction n generalizing lv st μ with
  | zero => cases h
  | succ n ih =>
    unfold eLoop at h
    have stp : ∀ x, eLoop (n + 1) hd (eDen a) (lv, st, px x μ) = match eDen a (lv, st, px x μ) with
      | some (some (.inl T), σ1) => if T = hd then eLoop n hd (eDen a) σ1 else some (some (.inl T), σ1)
      | r => r := fun x => rfl
    cases hq : eDen a (lv, st, μ) with
    | none => rw [hq] at h; cases h
    | some q =>
      obtain ⟨o1, lv1, st1, μ1⟩ := q
      rw [hq] at h
      obtain ⟨⟨g1, g2, g3, g4⟩, g5⟩ := ha lv st μ o1 lv1 st1 μ1 h1 h2 h3 hq
      cases o1 with
      | none =>
        cases h
        exact ⟨⟨g1, g2, g3, g4⟩, fun x => by rw [stp x, g5 x]⟩
      | some o1 =>
        cases o1 with
        | inl T =>
          dsimp only at h
          by_cases hT : T = hd
          · rw [if_pos hT] at h
            obtain ⟨k1, k2⟩ := ih lv1 st1 μ1 g1 g2 g3 h
            exact ⟨k1, fun x => by rw [stp x, g5 x]; dsimp only; rw [if_pos hT]; exact k2 x⟩
          · rw [if_neg hT] at h
            cases h
            exact ⟨⟨g1, g2, g3, g4⟩, fun x => by rw [stp x, g5 x]; dsimp only; rw [if_neg hT]⟩
        | inr z =>
          cases h
          exact ⟨⟨g1, g2, g3, g4⟩, fun x => by rw [stp x, g5 x]⟩
theorem nat_fgt {sx : eSx} {pc : Nat} {is : List Nat} : NatD (eDen (sx := sx) (eFgt pc is)) := by
  intro lv st μ o lv' st' μ' h1 h2 h3 h
  cases h
  exact ⟨⟨nl_fg is h1, h2, h3, fun v z => by cases z⟩, fun x => rfl⟩
theorem nat_rd {sx : eSx} {pc n : Nat} {i : Instr} {f : eSt → Option (List Value)} {hw : eRow sx pc n i f} (H : ∀ lv st μ st', nl lv → nl st → nm μ → f (lv, st, μ) = some st' → nl st' ∧ ∀ x, f (lv, st, px x μ) = some st') : NatD (eDen (eRd pc n i f hw)) := by
  intro lv st μ o lv' st' μ' h1 h2 h3 h
  change (f (lv, st, μ)).map (fun s => ((none : eOut), (lv, s, μ))) = _ at h
  cases hq : f (lv, st, μ) with
  | none => rw [hq] at h; cases h
  | some s =>
    rw [hq] at h
    obtain ⟨g1, g2⟩ := H lv st μ s h1 h2 h3 hq
    cases h
    refine ⟨⟨h1, g1, h3, fun v z => by cases z⟩, fun x => ?_⟩
    show (f (lv, st, px x μ)).map (fun s => ((none : eOut), (lv, s, px x μ))) = _
    rw [g2 x]
    rfl
theorem nat_stoG {d : eSt → eRes} {f : eSt → Option (Value × List Value)} {j L : Nat} (hd : ∀ σ, d σ = (f σ).bind fun q => if eOk σ.1 j && (!eC2 q.1 || Nat.blt (j + 1) L) then some (none, (if eC2 q.1 = true then (σ.1.set j q.1).set (j + 1) eJ else σ.1.set j q.1, q.2, σ.2.2)) else none) (H : ∀ lv st μ v st', nl lv → nl st → f (lv, st, μ) = some (v, st') → nv v ∧ nl st' ∧ ∀ x, f (lv, st, px x μ) = some (v, st')) : NatD d := by
  intro lv st μ o lv' st' μ' h1 h2 h3 h
  rw [hd] at h
  cases hq : f (lv, st, μ) with
  | none => rw [hq] at h; cases h
  | some q =>
    obtain ⟨v, s⟩ := q
    rw [hq] at h
    obtain ⟨g1, g2, g3⟩ := H lv st μ v s h1 h2 hq
    have e : ∀ x, d (lv, st, px x μ) = (if eOk lv j && (!eC2 v || Nat.blt (j + 1) L) then some ((none : eOut), (if eC2 v = true then (lv.set j v).set (j + 1) eJ else lv.set j v, s, px x μ)) else none) := fun x => by rw [hd, g3 x]; rfl
    change (if eOk lv j && (!eC2 v || Nat.blt (j + 1) L) then some ((none : eOut), (if eC2 v = true then (lv.set j v).set (j + 1) eJ else lv.set j v, s, μ)) else none) = _ at h
    split at h
    · rename_i hc
      cases h
      refine ⟨⟨?_, g2, h3, fun v z => by cases z⟩, fun x => by rw [e x, if_pos hc]⟩
      split
      · exact nl_set (nl_set h1 _ g1) _ nv_j
      · exact nl_set h1 _ g1
    · cases h
theorem nat_mapG {α : Type} {d : eSt → eRes} {f : eSt → Option α} {g : eSt → α → eOut × eSt} (hd : ∀ σ, d σ = (f σ).map (g σ)) (H : ∀ lv st μ a, nl lv → nl st → nm μ → f (lv, st, μ) = some a → (nl (g (lv, st, μ) a).2.1 ∧ nl (g (lv, st, μ) a).2.2.1 ∧ nm (g (lv, st, μ) a).2.2.2 ∧ ∀ v, (g (lv, st, μ) a).1 = some (.inr (.inl (some v))) → nv v) ∧ ∀ x, f (lv, st, px x μ) = some a ∧ g (lv, st, px x μ) a = ((g (lv, st, μ) a).1, (g (lv, st, μ) a).2.1, (g (lv, st, μ) a).2.2.1, px x (g (lv, st, μ) a).2.2.2)) : NatD d := by
  intro lv st μ o lv' st' μ' h1 h2 h3 h
  rw [hd] at h
  cases hq : f (lv, st, μ) with
  | none => rw [hq] at h; cases h
  | some a =>
    rw [hq] at h
    obtain ⟨g1, g2⟩ := H lv st μ a h1 h2 h3 hq
    have h : g (lv, st, μ) a = (o, lv', st', μ') := Option.some.inj h
    rw [h] at g1 g2
    exact ⟨g1, fun x => by rw [hd, (g2 x).1]; exact congrArg some (g2 x).2⟩
theorem nat_wrG {d : eSt → eRes} {f : eSt → Option (List Value × eMem)} (hd : ∀ σ, d σ = (f σ).map fun q => (none, (σ.1, q.1, q.2))) (H : ∀ lv st μ s μ', nl lv → nl st → nm μ → f (lv, st, μ) = some (s, μ') → nl s ∧ nm μ' ∧ ∀ x, f (lv, st, px x μ) = some (s, px x μ')) : NatD d := by
  intro lv st μ o lv' st' μ' h1 h2 h3 h
  rw [hd] at h
  cases hq : f (lv, st, μ) with
  | none => rw [hq] at h; cases h
  | some q =>
    obtain ⟨s, μ1⟩ := q
    rw [hq] at h
    obtain ⟨g1, g2, g3⟩ := H lv st μ s μ1 h1 h2 h3 hq
    cases h
    exact ⟨⟨h1, g1, g2, fun v z => by cases z⟩, fun x => by rw [hd, g3 x]; rfl⟩
theorem nat_call {sx : eSx} {pc n : Nat} {i : Instr} {ok : List Value → eMem → Bool} {M : eMt} {hL : eLnk sx M.1 pc n i ok} (hM : NatM M) (hok : ∀ av μ x, ok av (px x μ) = ok av μ) : NatD (eDen (p_call pc n i ok M hL)) := by
  intro lv st μ o lv' st' μ' h1 h2 h3 h
  have hd : ∀ μ, eDen (p_call pc n i ok M hL) (lv, st, μ) = eCaR (if n ≤ st.length ∧ ok (st.take n).reverse μ = true ∧ eCs (st.drop n) ≤ 8 then (eCall M (st.take n).reverse μ).map fun q => (q.1, st.drop n, q.2) else none) lv := fun _ => rfl
  rw [hd] at h
  split at h
  · rename_i hc
    cases hq : eCall M (st.take n).reverse μ with
    | none => rw [hq] at h; cases h
    | some q =>
      obtain ⟨r, μ1⟩ := q
      rw [hq] at h
      obtain ⟨⟨g1, g2⟩, g3⟩ := hM _ μ r μ1 (nl_take h2 n) h3 hq
      cases r with
      | inr X => cases h
      | inl v =>
        cases h
        refine ⟨⟨h1, nl_ap ?_ (nl_drop h2 n), g1, fun v z => by cases z⟩, fun x => ?_⟩
        · cases v with
          | none => exact nl_0
          | some v => exact nl_c (g2 v rfl) nl_0
        · rw [hd, if_pos ⟨hc.1, by rw [hok]; exact hc.2.1, hc.2.2⟩, g3 x]
          rfl
  · cases h
theorem nat_table {sx : eSx} {pc len stop : Nat} {lo dflt : Int} {offs : List Int} {hp} : NatD (eDen (sx := sx) (p_table pc len stop lo dflt offs hp)) := by
  intro lv st μ o lv' st' μ' h1 h2 h3 h
  cases st with
  | nil => cases h
  | cons v r =>
    cases v with
    | int y => cases h; exact ⟨⟨h1, nl_t h2, h3, fun v z => by cases z⟩, fun x => rfl⟩
    | _ => cases h
theorem nat_make {ini : Bool} {y : MethodName} {bytes : ByteArray} {maxL : Nat} {ret : Option FieldType} {a : eP (y.cls, ini, false, maxL)} {hw hi hy hini hc} (ha : NatD (eDen a)) : NatM (eMake (ini := ini) y bytes maxL ret a hw hi hy hini hc) := by
  intro av μ r μ' h1 h2 h
  have hd : ∀ μ, eCall (eMake (ini := ini) y bytes maxL ret a hw hi hy hini hc) av μ = if (eArgs av).length ≤ maxL then eFin ret (eDen a (eEnt av maxL, [], μ)) else none := fun _ => rfl
  rw [hd] at h
  split at h
  · rename_i hlen
    obtain ⟨⟨lv1, st1, μ1⟩, g1, g2, g3⟩ := eFin_spec h
    obtain ⟨⟨k1, k2, k3, k4⟩, k5⟩ := ha _ _ _ _ _ _ _ (nl_ent h1 maxL) nl_0 h2 g1
    have g2 : μ1 = μ' := g2
    subst g2
    refine ⟨⟨k3, fun v hv => k4 v (by rw [hv])⟩, fun x => ?_⟩
    rw [hd, if_pos hlen, k5 x]
    rw [g1] at h
    cases r with
    | inl v =>
      change (if eRetOK ret v = true then some ((Sum.inl v : Option Value ⊕ String), μ1) else none) = _ at h
      show (if eRetOK ret v = true then some ((Sum.inl v : Option Value ⊕ String), px x μ1) else none) = _
      split at h
      · rename_i hr; rw [if_pos hr]
      · cases h
    | inr X => rfl
  · cases h
theorem nat_iadd {sx : eSx} {pc : Nat} : NatD (eDen (sx := sx) (p_iadd pc)) := nat_rd (fun lv st μ st' h1 h2 h3 h => ⟨by
  simp only [f_iadd] at h
  repeat' split at h
  all_goals first | (cases h; exact nl_c (fun z => by cases z) (nl_t (nl_t h2))) | (cases h), fun x => h⟩)
theorem nat_isub {sx : eSx} {pc : Nat} : NatD (eDen (sx := sx) (p_isub pc)) := nat_rd (fun lv st μ st' h1 h2 h3 h => ⟨by
  simp only [f_isub] at h
  repeat' split at h
  all_goals first | (cases h; exact nl_c (fun z => by cases z) (nl_t (nl_t h2))) | (cases h), fun x => h⟩)
theorem nat_imul {sx : eSx} {pc : Nat} : NatD (eDen (sx := sx) (p_imul pc)) := nat_rd (fun lv st μ st' h1 h2 h3 h => ⟨by
  simp only [f_imul] at h
  repeat' split at h
  all_goals first | (cases h; exact nl_c (fun z => by cases z) (nl_t (nl_t h2))) | (cases h), fun x => h⟩)
theorem nat_iand {sx : eSx} {pc : Nat} : NatD (eDen (sx := sx) (p_iand pc)) := nat_rd (fun lv st μ st' h1 h2 h3 h => ⟨by
  simp only [f_iand] at h
  repeat' split at h
  all_goals first | (cases h; exact nl_c (fun z => by cases z) (nl_t (nl_t h2))) | (cases h), fun x => h⟩)
theorem nat_ior {sx : eSx} {pc : Nat} : NatD (eDen (sx := sx) (p_ior pc)) := nat_rd (fun lv st μ st' h1 h2 h3 h => ⟨by
  simp only [f_ior] at h
  repeat' split at h
  all_goals first | (cases h; exact nl_c (fun z => by cases z) (nl_t (nl_t h2))) | (cases h), fun x => h⟩)
theorem nat_ishl {sx : eSx} {pc : Nat} : NatD (eDen (sx := sx) (p_ishl pc)) := nat_rd (fun lv st μ st' h1 h2 h3 h => ⟨by
  simp only [f_ishl] at h
  repeat' split at h
  all_goals first | (cases h; exact nl_c (fun z => by cases z) (nl_t (nl_t h2))) | (cases h), fun x => h⟩)
theorem nat_ishr {sx : eSx} {pc : Nat} : NatD (eDen (sx := sx) (p_ishr pc)) := nat_rd (fun lv st μ st' h1 h2 h3 h => ⟨by
  simp only [f_ishr] at h
  repeat' split at h
  all_goals first | (cases h; exact nl_c (fun z => by cases z) (nl_t (nl_t h2))) | (cases h), fun x => h⟩)
theorem nat_ladd {sx : eSx} {pc : Nat} : NatD (eDen (sx := sx) (p_ladd pc)) := nat_rd (fun lv st μ st' h1 h2 h3 h => ⟨by
  simp only [f_ladd] at h
  repeat' split at h
  all_goals first | (cases h; exact nl_c (fun z => by cases z) (nl_t (nl_t h2))) | (cases h), fun x => h⟩)
theorem nat_lsub {sx : eSx} {pc : Nat} : NatD (eDen (sx := sx) (p_lsub pc)) := nat_rd (fun lv st μ st' h1 h2 h3 h => ⟨by
  simp only [f_lsub] at h
  repeat' split at h
  all_goals first | (cases h; exact nl_c (fun z => by cases z) (nl_t (nl_t h2))) | (cases h), fun x => h⟩)
theorem nat_lmul {sx : eSx} {pc : Nat} : NatD (eDen (sx := sx) (p_lmul pc)) := nat_rd (fun lv st μ st' h1 h2 h3 h => ⟨by
  simp only [f_lmul] at h
  repeat' split at h
  all_goals first | (cases h; exact nl_c (fun z => by cases z) (nl_t (nl_t h2))) | (cases h), fun x => h⟩)
theorem nat_lor {sx : eSx} {pc : Nat} : NatD (eDen (sx := sx) (p_lor pc)) := nat_rd (fun lv st μ st' h1 h2 h3 h => ⟨by
  simp only [f_lor] at h
  repeat' split at h
  all_goals first | (cases h; exact nl_c (fun z => by cases z) (nl_t (nl_t h2))) | (cases h), fun x => h⟩)
theorem nat_lcmp {sx : eSx} {pc : Nat} : NatD (eDen (sx := sx) (p_lcmp pc)) := nat_rd (fun lv st μ st' h1 h2 h3 h => ⟨by
  simp only [f_lcmp] at h
  repeat' split at h
  all_goals first | (cases h; exact nl_c (fun z => by cases z) (nl_t (nl_t h2))) | (cases h), fun x => h⟩)
theorem nat_lshl {sx : eSx} {pc : Nat} : NatD (eDen (sx := sx) (p_lshl pc)) := nat_rd (fun lv st μ st' h1 h2 h3 h => ⟨by
  simp only [f_lshl] at h
  repeat' split at h
  all_goals first | (cases h; exact nl_c (fun z => by cases z) (nl_t (nl_t h2))) | (cases h), fun x => h⟩)
theorem nat_idiv {sx : eSx} {pc : Nat} : NatD (eDen (sx := sx) (p_idiv pc)) := nat_rd (fun lv st μ st' h1 h2 h3 h => ⟨by
  simp only [f_idiv] at h
  repeat' split at h
  all_goals first | (cases h; exact nl_c (fun z => by cases z) (nl_t (nl_t h2))) | (cases h), fun x => h⟩)
theorem nat_irem {sx : eSx} {pc : Nat} : NatD (eDen (sx := sx) (p_irem pc)) := nat_rd (fun lv st μ st' h1 h2 h3 h => ⟨by
  simp only [f_irem] at h
  repeat' split at h
  all_goals first | (cases h; exact nl_c (fun z => by cases z) (nl_t (nl_t h2))) | (cases h), fun x => h⟩)
theorem nat_ldiv {sx : eSx} {pc : Nat} : NatD (eDen (sx := sx) (p_ldiv pc)) := nat_rd (fun lv st μ st' h1 h2 h3 h => ⟨by
  simp only [f_ldiv] at h
  repeat' split at h
  all_goals first | (cases h; exact nl_c (fun z => by cases z) (nl_t (nl_t h2))) | (cases h), fun x => h⟩)
theorem nat_lrem {sx : eSx} {pc : Nat} : NatD (eDen (sx := sx) (p_lrem pc)) := nat_rd (fun lv st μ st' h1 h2 h3 h => ⟨by
  simp only [f_lrem] at h
  repeat' split at h
  all_goals first | (cases h; exact nl_c (fun z => by cases z) (nl_t (nl_t h2))) | (cases h), fun x => h⟩)
theorem nat_fdiv {sx : eSx} {pc : Nat} : NatD (eDen (sx := sx) (p_fdiv pc)) := nat_rd (fun lv st μ st' h1 h2 h3 h => ⟨by
  simp only [f_fdiv] at h
  repeat' split at h
  all_goals first | (cases h; exact nl_c (fun z => by cases z) (nl_t (nl_t h2))) | (cases h), fun x => h⟩)
theorem nat_ddiv {sx : eSx} {pc : Nat} : NatD (eDen (sx := sx) (p_ddiv pc)) := nat_rd (fun lv st μ st' h1 h2 h3 h => ⟨by
  simp only [f_ddiv] at h
  repeat' split at h
  all_goals first | (cases h; exact nl_c (fun z => by cases z) (nl_t (nl_t h2))) | (cases h), fun x => h⟩)
theorem nat_ineg {sx : eSx} {pc : Nat} : NatD (eDen (sx := sx) (p_ineg pc)) := nat_rd (fun lv st μ st' h1 h2 h3 h => ⟨by
  simp only [f_ineg] at h
  repeat' split at h
  all_goals first | (cases h; exact nl_c (fun z => by cases z) (nl_t h2)) | (cases h), fun x => h⟩)
theorem nat_lneg {sx : eSx} {pc : Nat} : NatD (eDen (sx := sx) (p_lneg pc)) := nat_rd (fun lv st μ st' h1 h2 h3 h => ⟨by
  simp only [f_lneg] at h
  repeat' split at h
  all_goals first | (cases h; exact nl_c (fun z => by cases z) (nl_t h2)) | (cases h), fun x => h⟩)
theorem nat_i2l {sx : eSx} {pc : Nat} : NatD (eDen (sx := sx) (p_i2l pc)) := nat_rd (fun lv st μ st' h1 h2 h3 h => ⟨by
  simp only [f_i2l] at h
  repeat' split at h
  all_goals first | (cases h; exact nl_c (fun z => by cases z) (nl_t h2)) | (cases h), fun x => h⟩)
theorem nat_l2i {sx : eSx} {pc : Nat} : NatD (eDen (sx := sx) (p_l2i pc)) := nat_rd (fun lv st μ st' h1 h2 h3 h => ⟨by
  simp only [f_l2i] at h
  repeat' split at h
  all_goals first | (cases h; exact nl_c (fun z => by cases z) (nl_t h2)) | (cases h), fun x => h⟩)
theorem nat_i2f {sx : eSx} {pc : Nat} : NatD (eDen (sx := sx) (p_i2f pc)) := nat_rd (fun lv st μ st' h1 h2 h3 h => ⟨by
  simp only [f_i2f] at h
  repeat' split at h
  all_goals first | (cases h; exact nl_c (fun z => by cases z) (nl_t h2)) | (cases h), fun x => h⟩)
theorem nat_i2d {sx : eSx} {pc : Nat} : NatD (eDen (sx := sx) (p_i2d pc)) := nat_rd (fun lv st μ st' h1 h2 h3 h => ⟨by
  simp only [f_i2d] at h
  repeat' split at h
  all_goals first | (cases h; exact nl_c (fun z => by cases z) (nl_t h2)) | (cases h), fun x => h⟩)
theorem nat_iconst {sx : eSx} {pc : Nat} {n : Int} : NatD (eDen (sx := sx) (p_iconst pc n)) := nat_rd (fun lv st μ st' h1 h2 h3 h => ⟨by
  simp only [f_iconst] at h
  repeat' split at h
  all_goals first | (cases h; exact nl_c (fun z => by cases z) h2) | (cases h), fun x => h⟩)
theorem nat_bipush {sx : eSx} {pc : Nat} {n : Int} : NatD (eDen (sx := sx) (p_bipush pc n)) := nat_rd (fun lv st μ st' h1 h2 h3 h => ⟨by
  simp only [f_bipush] at h
  repeat' split at h
  all_goals first | (cases h; exact nl_c (fun z => by cases z) h2) | (cases h), fun x => h⟩)
theorem nat_sipush {sx : eSx} {pc : Nat} {n : Int} : NatD (eDen (sx := sx) (p_sipush pc n)) := nat_rd (fun lv st μ st' h1 h2 h3 h => ⟨by
  simp only [f_sipush] at h
  repeat' split at h
  all_goals first | (cases h; exact nl_c (fun z => by cases z) h2) | (cases h), fun x => h⟩)
theorem nat_lconst {sx : eSx} {pc : Nat} {n : Fin 2} : NatD (eDen (sx := sx) (p_lconst pc n)) := nat_rd (fun lv st μ st' h1 h2 h3 h => ⟨by
  simp only [f_lconst] at h
  repeat' split at h
  all_goals first | (cases h; exact nl_c (fun z => by cases z) h2) | (cases h), fun x => h⟩)
theorem nat_ldc2 {sx : eSx} {pc idx : Nat} {v : Int64} {hw} : NatD (eDen (sx := sx) (p_ldc2 pc idx v hw)) := nat_rd (fun lv st μ st' h1 h2 h3 h => ⟨by cases h; exact nl_c (fun z => by cases z) h2, fun x => h⟩)
theorem nat_dup {sx : eSx} {pc : Nat} : NatD (eDen (sx := sx) (p_dup pc)) := nat_rd (fun lv st μ st' h1 h2 h3 h => ⟨by
  simp only [f_dup] at h
  repeat' split at h
  all_goals first | (cases h; exact nl_c (nl_h h2) h2) | (cases h), fun x => h⟩)
theorem nat_dup2 {sx : eSx} {pc : Nat} : NatD (eDen (sx := sx) (p_dup2 pc)) := nat_rd (fun lv st μ st' h1 h2 h3 h => ⟨by
  simp only [f_dup2] at h
  repeat' split at h
  all_goals first | (cases h; exact nl_c (nl_h h2) (nl_c (nl_h (nl_t h2)) h2)) | (cases h), fun x => h⟩)
theorem nat_iload_n {sx : eSx} {pc : Nat} {j : Fin 4} : NatD (eDen (sx := sx) (p_iload_n pc j)) := nat_rd (fun lv st μ st' h1 h2 h3 h => ⟨by
  simp only [f_iload] at h
  repeat' split at h
  all_goals first | (cases h; exact nl_c (fun z => by cases z) h2) | (cases h), fun x => h⟩)
theorem nat_iload {sx : eSx} {pc : Nat} {j : Nat} : NatD (eDen (sx := sx) (p_iload pc j)) := nat_rd (fun lv st μ st' h1 h2 h3 h => ⟨by
  simp only [f_iload] at h
  repeat' split at h
  all_goals first | (cases h; exact nl_c (fun z => by cases z) h2) | (cases h), fun x => h⟩)
theorem nat_lload_n {sx : eSx} {pc : Nat} {j : Fin 4} : NatD (eDen (sx := sx) (p_lload_n pc j)) := nat_rd (fun lv st μ st' h1 h2 h3 h => ⟨by
  simp only [f_lload] at h
  repeat' split at h
  all_goals first | (cases h; exact nl_c (fun z => by cases z) h2) | (cases h), fun x => h⟩)
theorem nat_lload {sx : eSx} {pc : Nat} {j : Nat} : NatD (eDen (sx := sx) (p_lload pc j)) := nat_rd (fun lv st μ st' h1 h2 h3 h => ⟨by
  simp only [f_lload] at h
  repeat' split at h
  all_goals first | (cases h; exact nl_c (fun z => by cases z) h2) | (cases h), fun x => h⟩)
theorem nat_aload_n {sx : eSx} {pc : Nat} {j : Fin 4} : NatD (eDen (sx := sx) (p_aload_n pc j)) := nat_rd (fun lv st μ st' h1 h2 h3 h => ⟨by
  have e := nl_at h1 (j : Nat)
  simp only [f_aload] at h
  split at h
  · rename_i hx; cases h; rw [hx] at e; exact nl_c e h2
  · cases h; exact nl_c (fun z => by cases z) h2
  · (cases h), fun x => h⟩)
theorem nat_aload {sx : eSx} {pc : Nat} {j : Nat} : NatD (eDen (sx := sx) (p_aload pc j)) := nat_rd (fun lv st μ st' h1 h2 h3 h => ⟨by
  have e := nl_at h1 j
  simp only [f_aload] at h
  split at h
  · rename_i hx; cases h; rw [hx] at e; exact nl_c e h2
  · cases h; exact nl_c (fun z => by cases z) h2
  · (cases h), fun x => h⟩)
theorem sh_212 : (eShp 212).1 = 52 := rfl
theorem sh_n {o ci : Nat} (hc : ci < 12) (h : (eShp o).1 = ci) : o ≠ 212 := fun z => by
  subst z
  rw [sh_212] at h
  omega
theorem nat_get {sx : eSx} {pc idx ci k : Nat} {hfd : eFld sx.1 idx ci k} : NatD (eDen (sx := sx) (p_get pc idx ci k hfd)) := nat_rd (fun lv st μ st' h1 h2 h3 h => by
  have hci := hfd.1
  simp only [f_get] at h
  split at h
  · rename_i o r
    split at h
    · rename_i hc
      cases h
      have ho := sh_n hci hc.2
      refine ⟨nl_c ?_ (nl_t h2), fun x => ?_⟩
      · unfold eFv
        split
        · exact fun z => by cases z
        · exact fun z => by cases z
        · exact fun z => by cases z
        · intro z
          cases hA : eA μ o k with
          | none => rw [hA] at z; cases z
          | some a =>
            rw [hA] at z
            cases z
            exact h3 o k (by rw [hc.2]; exact hci) hA
      · show (if o < eN μ ∧ (eShp o).1 = ci then some (eFv ci (px x μ) o k :: r) else none) = _
        rw [if_pos hc]
        congr 2
        unfold eFv
        rw [px_L x μ ho]
        rfl
    · cases h
  · cases h)
theorem nat_iald {sx : eSx} {pc : Nat} : NatD (eDen (sx := sx) (p_iald pc)) := nat_rd (fun lv st μ st' h1 h2 h3 h => ⟨by
  simp only [f_iald] at h
  split at h
  · rename_i i o r
    split at h
    · cases hj : eIx i (eShp o).2 with
      | none => rw [hj] at h; cases h
      | some j => rw [hj] at h; cases h; exact nl_c (fun z => by cases z) (nl_t (nl_t h2))
    · cases h
  · (cases h), fun x => h⟩)
theorem nat_lald {sx : eSx} {pc : Nat} : NatD (eDen (sx := sx) (p_lald pc)) := nat_rd (fun lv st μ st' h1 h2 h3 h => by
  simp only [f_lald] at h
  split at h
  · rename_i i o r
    have ho : o ≠ 212 := fun z => nl_h (nl_t h2) (by rw [z])
    split at h
    · rename_i hc
      cases hj : eIx i (eShp o).2 with
      | none => rw [hj] at h; cases h
      | some j =>
        rw [hj] at h
        cases h
        refine ⟨nl_c (fun z => by cases z) (nl_t (nl_t h2)), fun x => ?_⟩
        show (if o < eN μ ∧ (eShp o).1 = 52 then (eIx i (eShp o).2).map (fun j => .long (eL (px x μ) o j) :: r) else none) = _
        rw [if_pos hc, hj, px_L x μ ho]
        rfl
    · cases h
  · cases h)
theorem nat_istore_n {sx : eSx} {pc : Nat} {j : Fin 4} : NatD (eDen (sx := sx) (p_istore_n pc j)) := nat_stoG (f := g_istore) (fun _ => rfl) (fun lv st μ v st' h1 h2 h => by
  refine ⟨?_, ?_, fun x => h⟩
  · simp only [g_istore] at h
    split at h
    · cases h; exact fun z => by cases z
    · cases h
  · simp only [g_istore] at h
    split at h
    · cases h; exact nl_t h2
    · cases h)
theorem nat_istore {sx : eSx} {pc : Nat} {j : Nat} : NatD (eDen (sx := sx) (p_istore pc j)) := nat_stoG (f := g_istore) (fun _ => rfl) (fun lv st μ v st' h1 h2 h => by
  refine ⟨?_, ?_, fun x => h⟩
  · simp only [g_istore] at h
    split at h
    · cases h; exact fun z => by cases z
    · cases h
  · simp only [g_istore] at h
    split at h
    · cases h; exact nl_t h2
    · cases h)
theorem nat_lstore_n {sx : eSx} {pc : Nat} {j : Fin 4} : NatD (eDen (sx := sx) (p_lstore_n pc j)) := nat_stoG (f := g_lstore) (fun _ => rfl) (fun lv st μ v st' h1 h2 h => by
  refine ⟨?_, ?_, fun x => h⟩
  · simp only [g_lstore] at h
    split at h
    · cases h; exact fun z => by cases z
    · cases h
  · simp only [g_lstore] at h
    split at h
    · cases h; exact nl_t h2
    · cases h)
theorem nat_lstore {sx : eSx} {pc : Nat} {j : Nat} : NatD (eDen (sx := sx) (p_lstore pc j)) := nat_stoG (f := g_lstore) (fun _ => rfl) (fun lv st μ v st' h1 h2 h => by
  refine ⟨?_, ?_, fun x => h⟩
  · simp only [g_lstore] at h
    split at h
    · cases h; exact fun z => by cases z
    · cases h
  · simp only [g_lstore] at h
    split at h
    · cases h; exact nl_t h2
    · cases h)
theorem nat_iinc {sx : eSx} {pc j : Nat} {n : Int} : NatD (eDen (sx := sx) (p_iinc pc j n)) := nat_stoG (f := g_iinc j n) (fun _ => rfl) (fun lv st μ v st' h1 h2 h => by
  refine ⟨?_, ?_, fun x => h⟩
  · simp only [g_iinc] at h
    split at h
    · cases h; exact fun z => by cases z
    · cases h
  · simp only [g_iinc] at h
    split at h
    · cases h; exact h2
    · cases h)
theorem nat_if_eq {sx : eSx} {pc : Nat} {off : Int} {T : Nat} {ht} : NatD (eDen (sx := sx) (p_if_eq pc off T ht)) := nat_mapG (f := b_if_eq) (fun _ => rfl) (fun lv st μ a h1 h2 h3 h => ⟨⟨h1, by
  simp only [b_if_eq] at h
  repeat' split at h
  all_goals first | (cases h; exact (nl_t h2)) | (cases h), h3, fun v z => by
    dsimp only at z
    split at z <;> cases z⟩, fun x => ⟨h, rfl⟩⟩)
theorem nat_icmp_eq {sx : eSx} {pc : Nat} {off : Int} {T : Nat} {ht} : NatD (eDen (sx := sx) (p_icmp_eq pc off T ht)) := nat_mapG (f := b_icmp_eq) (fun _ => rfl) (fun lv st μ a h1 h2 h3 h => ⟨⟨h1, by
  simp only [b_icmp_eq] at h
  repeat' split at h
  all_goals first | (cases h; exact (nl_t (nl_t h2))) | (cases h), h3, fun v z => by
    dsimp only at z
    split at z <;> cases z⟩, fun x => ⟨h, rfl⟩⟩)
theorem nat_if_ne {sx : eSx} {pc : Nat} {off : Int} {T : Nat} {ht} : NatD (eDen (sx := sx) (p_if_ne pc off T ht)) := nat_mapG (f := b_if_ne) (fun _ => rfl) (fun lv st μ a h1 h2 h3 h => ⟨⟨h1, by
  simp only [b_if_ne] at h
  repeat' split at h
  all_goals first | (cases h; exact (nl_t h2)) | (cases h), h3, fun v z => by
    dsimp only at z
    split at z <;> cases z⟩, fun x => ⟨h, rfl⟩⟩)
theorem nat_icmp_ne {sx : eSx} {pc : Nat} {off : Int} {T : Nat} {ht} : NatD (eDen (sx := sx) (p_icmp_ne pc off T ht)) := nat_mapG (f := b_icmp_ne) (fun _ => rfl) (fun lv st μ a h1 h2 h3 h => ⟨⟨h1, by
  simp only [b_icmp_ne] at h
  repeat' split at h
  all_goals first | (cases h; exact (nl_t (nl_t h2))) | (cases h), h3, fun v z => by
    dsimp only at z
    split at z <;> cases z⟩, fun x => ⟨h, rfl⟩⟩)
theorem nat_if_lt {sx : eSx} {pc : Nat} {off : Int} {T : Nat} {ht} : NatD (eDen (sx := sx) (p_if_lt pc off T ht)) := nat_mapG (f := b_if_lt) (fun _ => rfl) (fun lv st μ a h1 h2 h3 h => ⟨⟨h1, by
  simp only [b_if_lt] at h
  repeat' split at h
  all_goals first | (cases h; exact (nl_t h2)) | (cases h), h3, fun v z => by
    dsimp only at z
    split at z <;> cases z⟩, fun x => ⟨h, rfl⟩⟩)
theorem nat_icmp_lt {sx : eSx} {pc : Nat} {off : Int} {T : Nat} {ht} : NatD (eDen (sx := sx) (p_icmp_lt pc off T ht)) := nat_mapG (f := b_icmp_lt) (fun _ => rfl) (fun lv st μ a h1 h2 h3 h => ⟨⟨h1, by
  simp only [b_icmp_lt] at h
  repeat' split at h
  all_goals first | (cases h; exact (nl_t (nl_t h2))) | (cases h), h3, fun v z => by
    dsimp only at z
    split at z <;> cases z⟩, fun x => ⟨h, rfl⟩⟩)
theorem nat_if_ge {sx : eSx} {pc : Nat} {off : Int} {T : Nat} {ht} : NatD (eDen (sx := sx) (p_if_ge pc off T ht)) := nat_mapG (f := b_if_ge) (fun _ => rfl) (fun lv st μ a h1 h2 h3 h => ⟨⟨h1, by
  simp only [b_if_ge] at h
  repeat' split at h
  all_goals first | (cases h; exact (nl_t h2)) | (cases h), h3, fun v z => by
    dsimp only at z
    split at z <;> cases z⟩, fun x => ⟨h, rfl⟩⟩)
theorem nat_icmp_ge {sx : eSx} {pc : Nat} {off : Int} {T : Nat} {ht} : NatD (eDen (sx := sx) (p_icmp_ge pc off T ht)) := nat_mapG (f := b_icmp_ge) (fun _ => rfl) (fun lv st μ a h1 h2 h3 h => ⟨⟨h1, by
  simp only [b_icmp_ge] at h
  repeat' split at h
  all_goals first | (cases h; exact (nl_t (nl_t h2))) | (cases h), h3, fun v z => by
    dsimp only at z
    split at z <;> cases z⟩, fun x => ⟨h, rfl⟩⟩)
theorem nat_if_gt {sx : eSx} {pc : Nat} {off : Int} {T : Nat} {ht} : NatD (eDen (sx := sx) (p_if_gt pc off T ht)) := nat_mapG (f := b_if_gt) (fun _ => rfl) (fun lv st μ a h1 h2 h3 h => ⟨⟨h1, by
  simp only [b_if_gt] at h
  repeat' split at h
  all_goals first | (cases h; exact (nl_t h2)) | (cases h), h3, fun v z => by
    dsimp only at z
    split at z <;> cases z⟩, fun x => ⟨h, rfl⟩⟩)
theorem nat_icmp_gt {sx : eSx} {pc : Nat} {off : Int} {T : Nat} {ht} : NatD (eDen (sx := sx) (p_icmp_gt pc off T ht)) := nat_mapG (f := b_icmp_gt) (fun _ => rfl) (fun lv st μ a h1 h2 h3 h => ⟨⟨h1, by
  simp only [b_icmp_gt] at h
  repeat' split at h
  all_goals first | (cases h; exact (nl_t (nl_t h2))) | (cases h), h3, fun v z => by
    dsimp only at z
    split at z <;> cases z⟩, fun x => ⟨h, rfl⟩⟩)
theorem nat_if_le {sx : eSx} {pc : Nat} {off : Int} {T : Nat} {ht} : NatD (eDen (sx := sx) (p_if_le pc off T ht)) := nat_mapG (f := b_if_le) (fun _ => rfl) (fun lv st μ a h1 h2 h3 h => ⟨⟨h1, by
  simp only [b_if_le] at h
  repeat' split at h
  all_goals first | (cases h; exact (nl_t h2)) | (cases h), h3, fun v z => by
    dsimp only at z
    split at z <;> cases z⟩, fun x => ⟨h, rfl⟩⟩)
theorem nat_icmp_le {sx : eSx} {pc : Nat} {off : Int} {T : Nat} {ht} : NatD (eDen (sx := sx) (p_icmp_le pc off T ht)) := nat_mapG (f := b_icmp_le) (fun _ => rfl) (fun lv st μ a h1 h2 h3 h => ⟨⟨h1, by
  simp only [b_icmp_le] at h
  repeat' split at h
  all_goals first | (cases h; exact (nl_t (nl_t h2))) | (cases h), h3, fun v z => by
    dsimp only at z
    split at z <;> cases z⟩, fun x => ⟨h, rfl⟩⟩)
theorem nat_goto {sx : eSx} {pc : Nat} {off : Int} {T : Nat} {ht} : NatD (eDen (sx := sx) (p_goto pc off T ht)) := by
  intro lv st μ o lv' st' μ' h1 h2 h3 h
  cases h
  exact ⟨⟨h1, h2, h3, fun v z => by cases z⟩, fun x => rfl⟩
theorem nat_ireturn {sx : eSx} {pc stop : Nat} : NatD (eDen (sx := sx) (p_ireturn pc stop)) := nat_mapG (f := r_ireturn) (fun _ => rfl) (fun lv st μ a h1 h2 h3 h => ⟨⟨h1, h2, h3, fun v z => by
  simp only [r_ireturn] at h
  split at h
  · cases h; cases z; exact fun z => by cases z
  · (cases h)⟩, fun x => ⟨h, rfl⟩⟩)
theorem nat_lreturn {sx : eSx} {pc stop : Nat} : NatD (eDen (sx := sx) (p_lreturn pc stop)) := nat_mapG (f := r_lreturn) (fun _ => rfl) (fun lv st μ a h1 h2 h3 h => ⟨⟨h1, h2, h3, fun v z => by
  simp only [r_lreturn] at h
  split at h
  · cases h; cases z; exact fun z => by cases z
  · (cases h)⟩, fun x => ⟨h, rfl⟩⟩)
theorem nat_freturn {sx : eSx} {pc stop : Nat} : NatD (eDen (sx := sx) (p_freturn pc stop)) := nat_mapG (f := r_freturn) (fun _ => rfl) (fun lv st μ a h1 h2 h3 h => ⟨⟨h1, h2, h3, fun v z => by
  simp only [r_freturn] at h
  split at h
  · cases h; cases z; exact fun z => by cases z
  · (cases h)⟩, fun x => ⟨h, rfl⟩⟩)
theorem nat_dreturn {sx : eSx} {pc stop : Nat} : NatD (eDen (sx := sx) (p_dreturn pc stop)) := nat_mapG (f := r_dreturn) (fun _ => rfl) (fun lv st μ a h1 h2 h3 h => ⟨⟨h1, h2, h3, fun v z => by
  simp only [r_dreturn] at h
  split at h
  · cases h; cases z; exact fun z => by cases z
  · (cases h)⟩, fun x => ⟨h, rfl⟩⟩)
theorem nat_return {sx : eSx} {pc stop : Nat} : NatD (eDen (sx := sx) (p_return pc stop)) := nat_mapG (f := r_return) (fun _ => rfl) (fun lv st μ a h1 h2 h3 h => ⟨⟨h1, h2, h3, fun v z => by
  simp only [r_return] at h
  split at h
  · cases h; cases z
  · (cases h)⟩, fun x => ⟨h, rfl⟩⟩)
theorem nat_iast {sx : eSx} {pc : Nat} : NatD (eDen (sx := sx) (p_iast pc)) := nat_wrG (f := f_iast) (fun _ => rfl) (fun lv st μ s μ' h1 h2 h3 h => by
  simp only [f_iast] at h
  split at h
  · rename_i y i o r
    split at h
    · rename_i hc
      cases hj : eIx i (eShp o).2 with
      | none => rw [hj] at h; cases h
      | some j =>
        rw [hj] at h
        cases h
        refine ⟨nl_t (nl_t (nl_t h2)), h3, fun x => ?_⟩
        show (if o < eN μ ∧ (eShp o).1 = 50 then (eIx i (eShp o).2).map (fun j => (s, eSI (px x μ) o j y)) else none) = _
        rw [if_pos hc, hj]
        rfl
    · cases h
  · cases h)
theorem nat_last {sx : eSx} {pc : Nat} : NatD (eDen (sx := sx) (p_last pc)) := nat_wrG (f := f_last) (fun _ => rfl) (fun lv st μ s μ' h1 h2 h3 h => by
  simp only [f_last] at h
  split at h
  · rename_i y i o r
    have ho : o ≠ 212 := fun z => nl_h (nl_t (nl_t h2)) (by rw [z])
    split at h
    · rename_i hc
      cases hj : eIx i (eShp o).2 with
      | none => rw [hj] at h; cases h
      | some j =>
        rw [hj] at h
        cases h
        refine ⟨nl_t (nl_t (nl_t h2)), h3, fun x => ?_⟩
        show (if o < eN μ ∧ (eShp o).1 = 52 then (eIx i (eShp o).2).map (fun j => (s, eSL (px x μ) o j y)) else none) = _
        rw [if_pos hc, hj]
        show some (s, eSL (px x μ) o j y) = _
        rw [px_SL x μ ho]
    · cases h
  · cases h)
theorem nat_put {sx : eSx} {pc idx ci k : Nat} {hfd : eFld sx.1 idx ci k} {hfin} : NatD (eDen (sx := sx) (p_put pc idx ci k hfd hfin)) := nat_wrG (f := f_put ci k) (fun _ => rfl) (fun lv st μ s μ' h1 h2 h3 h => by
  have hci := hfd.1
  simp only [f_put] at h
  split at h
  · rename_i v o r
    split at h
    · rename_i hc
      have ho := sh_n hci hc.2
      cases hj : ePut ci k μ o v with
      | none => rw [hj] at h; cases h
      | some μ1 =>
        rw [hj] at h
        cases h
        have key : nm μ' ∧ ∀ x, ePut ci k (px x μ) o v = some (px x μ') := by
          unfold ePut at hj ⊢
          generalize eFk (eTy ci k) = q at hj ⊢
          split at hj
          · cases hj; exact ⟨h3, fun x => rfl⟩
          · split at hj
            · rename_i hb; cases hj; exact ⟨h3, fun x => by rw [if_pos hb]; rfl⟩
            · cases hj
          · cases hj; exact ⟨h3, fun x => by rw [px_SL x μ ho]⟩
          · rename_i a
            cases hj
            refine ⟨fun k' i' hs z => ?_, fun x => rfl⟩
            rw [eA_SA] at z
            by_cases g : k' = o
            · subst g
              rw [va_up_self] at z
              by_cases g2 : i' = k
              · subst g2
                rw [va_up_self] at z
                cases z
                exact nl_h h2 rfl
              · rw [va_up_ne _ _ g2] at z; exact h3 _ _ hs z
            · rw [va_up_ne _ _ g] at z; exact h3 _ _ hs z
          · cases hj
            refine ⟨fun k' i' hs z => ?_, fun x => rfl⟩
            rw [eA_SA] at z
            by_cases g : k' = o
            · subst g
              rw [va_up_self] at z
              by_cases g2 : i' = k
              · subst g2; rw [va_up_self] at z; cases z
              · rw [va_up_ne _ _ g2] at z; exact h3 _ _ hs z
            · rw [va_up_ne _ _ g] at z; exact h3 _ _ hs z
          · cases hj
        refine ⟨nl_t (nl_t h2), key.1, fun x => ?_⟩
        show (if o < eN μ ∧ (eShp o).1 = ci then (ePut ci k (px x μ) o v).map (fun μ' => (s, μ')) else none) = _
        rw [if_pos hc, key.2 x]
        rfl
    · cases h
  · cases h)
theorem eA0S_b {j i q : Nat} (h : eA0S j i = some q) : q ≤ 18 := by
  unfold eA0S at h
  split at h
  all_goals first | (cases h; decide) | cases h
theorem eA0_n (k i : Nat) : eA0 k i ≠ some 212 := fun h => by
  unfold eA0 at h
  split at h
  · rename_i hk
    cases hq : eA0S ((k - 1) % 19) i with
    | none => rw [hq] at h; cases h
    | some q =>
      rw [hq] at h
      have hb := eA0S_b hq
      have h2 := Option.some.inj h
      dsimp only at h2
      omega
  · split at h
    · rename_i hk
      cases hq : eA0S ((k - 75) % 19) i with
      | none => rw [hq] at h; cases h
      | some q =>
        rw [hq] at h
        have hb := eA0S_b hq
        have h2 := Option.some.inj h
        dsimp only at h2
        omega
    · split at h
      all_goals exact absurd h (by decide)
theorem nm_mM (t : Nat × Nat × Bool) (I : Nat → Nat → Int32) (L : Nat → Nat → Int64) (V : Nat → Option Nat) : nm (mM t I L V) := fun k i hk => by
  show va_up eA0 69 V k i ≠ some 212
  rw [va_up_ne _ _ (show k ≠ 69 from fun z => by subst z; exact absurd hk (by decide))]
  exact eA0_n k i
theorem px_mM (x : Int64) (t : Nat × Nat × Bool) (I : Nat → Nat → Int32) (L : Nat → Nat → Int64) (V : Nat → Option Nat) : px x (mM t I L V) = mM t I (sl L 212 0 x) V := rfl
