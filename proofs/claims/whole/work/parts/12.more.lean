/-! ===== more of the engine: a long constant's throw, an inherited method, what can't be reached ===== -/
def p_throwW {sx : eSx} (pc stop ik is ic sa : Nat) (X tx : String) (names : List String) (hx0 : sx.2.2.1 = false) (hw : eTh sx.1 ik ic X names) (hs0 : (sx.1, is, tx, sa) ∈ eXs) : eP sx :=
  ⟨(pc, stop, (names.length + 4, 8 + 13 * (names.length + 1) + 43), (fun cc => decide (decode cc pc = .ok (.new ik, 3)) && (decide (decode cc (pc + 3) = .ok (.dup, 1)) && (decide (decode cc (pc + 4) = .ok (.ldc_w is, 3)) && (decide (decode cc (pc + 7) = .ok (.invokespecial ic, 3)) && decide (decode cc (pc + 10) = .ok (.athrow, 1)))))), fun σ => if eCs σ.2.1 ≤ 8 then some (some (.inr (.inr X)), (σ.1, σ.2.1, eTM σ.2.2)) else none), (by
  intro σ o σ' hd
  dsimp only at hd
  split at hd
  · cases hd; exact ⟨Nat.le_add_right _ _, Nat.le_add_right _ _⟩
  · cases hd), by
  rintro ⟨p, l, e, R, s, m, args, below, meth, c, Q, nL, c0, s0, w⟩ hx hc hf hl ⟨lv, st, μ⟩ o σ' hd
  obtain ⟨h1, h2, h2', h3, h4, h5, h6, h7, h8, h9⟩ := hx
  dsimp only at hc hd hf hl
  simp only [Bool.and_eq_true] at hc
  obtain ⟨d0, d3, d4, d6, d9⟩ := hc
  split at hd
  · rename_i h10
    have h10 : eCs st ≤ 8 := h10
    cases hd
    refine ⟨⟨Nat.le_add_right _ _, Nat.le_add_right _ _⟩, ?_⟩
    rintro r1 r2 ⟨Qc, XC, hQ, hXC⟩ H locs cells slots ls hls hH hS e1 e2
    dsimp only [xC0, xS0, xR] at r1 r2 e1 e2 hf hl
    rw [show eC (eTM μ) = eC μ + 1 from rfl] at r1
    rw [show eZ (eTM μ) = eZ μ + 6 from rfl] at r2
    obtain ⟨w1, w2, w3, w4, w5, w6⟩ := hw
    have hat : ∀ x ∈ vx_atS sx.1 ic X names, x.before args s = true := by
      intro x hx
      have := List.all_eq_true.mp w3 x hx
      simp only [Bool.and_eq_true, Bool.or_eq_true, decide_eq_true_eq] at this
      rcases this.2 with g | g
      · exact h4 _ (eTB_of this.1 g)
      · have hm : x ∈ eXn := List.mem_filter.mpr ⟨this.1, g⟩
        have hot := List.all_eq_true.mp w4 x (List.mem_cons_of_mem _ (List.mem_cons_of_mem _ hx))
        have hb := h5.2.2.2.2.2.2.2.2.2.2 x hm
        exact vx_ot_at (State.WarmedH.refl s) rfl hot hb
    subst hQ
    exact vx_throwSW h1 rfl h9 h3 w5 (fun n hn => List.all_eq_true.mp w6 n hn) (h4 _ w1) (h4 _ w2) (h5.2.2.2.2.2.2.2.1 _ hs0) hat (fun x hx => List.all_eq_true.mp w4 x hx) h5.2.2.2.2.2.2.2.2.1 h5.2.2.2.2.2.2.2.2.2.1.1 hS (hls.1.trans h2.symm)
      (of_decide_eq_true d0) (of_decide_eq_true d3) (of_decide_eq_true d4) (of_decide_eq_true d6) (of_decide_eq_true d9) (fun x hx => (h8 hx0 x hx).elim) (by omega) (by rw [eCs_map]; show eCs st + _ ≤ _; omega) (by omega) (by omega) h6
      (fun t ha hz hk => hXC t ha ⟨Nat.le_trans hS.1 hz, fun q q1 q2 => (hk q (Nat.lt_of_lt_of_le q1 hS.1)).trans (hS.2.1 q q1 q2)⟩ (eH_grow hH hz hk)) hS.2.2 (by omega) (by omega)
  · cases hd⟩
abbrev eExN : List String := ["java/lang/RuntimeException", "java/lang/Exception"]
theorem eLnkU {sx : eSx} {M : eMd} {x : MethodName} {pc n idx : Nat} (hl : Cond.methodLink sx.1 idx x ∈ eTB) (hsm : Cond.sameMethod x.cls M.1.cls x.name x.desc ∈ eTB) (hse : Cond.selects x.cls x M.1 ∈ eTB) (hin : Cond.instanceMethod M.1 ∈ eTB) (hde : Cond.declares ⟨M.1.cls, x.name, x.desc⟩ ∈ eXn) (hn : (parseMethodDescriptor x.desc).map (fun d => d.parameters.length + 1) = some n) : eLnk sx M pc n (.invokevirtual idx) (eRcvX x.cls) := by
  intro p l e R s m args below meth c H locs cells slots ls w av rest μ r μ' ws hx hsz hown hts hK hH hS hok1 hlen hd hf hlo hrs hc hs hws hm hi hnm hM
  obtain ⟨o, av', rfl, cell, q1, q2, q3⟩ := eRcvX_cell hK hS hok1
  refine ⟨((Value.ref o :: av').map (eV (eAd w))).toArray, ?_⟩
  rw [eStk_eqr]
  have hn' : (parseMethodDescriptor x.desc).map (fun d => d.parameters.length) = some av'.length := by
    rw [List.length_cons] at hlen
    cases hp : parseMethodDescriptor x.desc with
    | none => rw [hp] at hn; cases hn
    | some d =>
      rw [hp] at hn
      have := Option.some.inj hn
      dsimp only at this
      show some d.parameters.length = some av'.length
      rw [show d.parameters.length = av'.length by omega]
  have hT : GoodIn eTB (va_wsU sx.1 idx x.cls M.1.cls x M.1 ws) := by
    intro y hy
    unfold va_wsU at hy
    simp only [List.cons_append, List.nil_append, List.mem_cons] at hy
    rcases hy with rfl | rfl | rfl | rfl | rfl | hy
    · exact eTB_good _ hl
    · exact eTB_good _ hsm
    · exact eTB_good _ hse
    · exact eTB_good _ hin
    · exact eTB_good _ hi
    · rw [hws] at hy
      exact eMw_good hm y hy
  exact vx_runU (Ts := eTB) (own := sx.1) (C := x.cls) (owner := M.1.cls) (x := x) (index := idx) (bytes := M.2.1) (maxL := M.2.2.1) (ret := M.2.2.2.1) (n := av'.length) ⟨hx, rfl, rfl, hown, hts⟩ hM (va_cwA av'.length hts hT hws rfl rfl (hK.2.2.2.2.2.2.2.2.2.2 _ hde) ⟨hnm.1, hnm.2, hn'⟩ ⟨hf, hlo⟩) ⟨ePc_blind _ _ _, ⟨cell, q1, q2, q3⟩, ePreS_of (av := .ref o :: av') hK hH hS⟩ rfl (by rw [List.length_map]) hsz rfl (lv_room (by rw [eCs_map]; exact hrs)) hd ⟨hc, hs⟩
/-- a place that no run reaches -/
def p_stuck {sx : eSx} (pc stop : Nat) : eP sx := ⟨(pc, stop, (0, 0), (fun _ => true), fun _ => none), (fun σ o σ' h => by cases h), by
  intro x hx hc hf hl σ o σ' hd
  cases hd⟩
/-- a method of which nothing is said -/
def eBot (y : MethodName) (bytes : ByteArray) (maxL : Nat) (ret : Option FieldType) (hw : Cond.code y bytes maxL ret ∈ eTB) (hi : Cond.initialized y.cls ∈ eTB) (hy : (decide (y.cls ≠ "java/lang/invoke/MethodHandle") && decide (y.cls ≠ "java/lang/invoke/VarHandle")) = true) : eMt :=
  ⟨(y, bytes, maxL, ret, (0, 0), fun _ _ => none), hw, hi, by
    simp only [Bool.and_eq_true, decide_eq_true_eq] at hy
    exact hy, (fun av μ r μ' h => by cases h), fun l hl w av μ r μ' h => by cases h⟩
def xtVal : List (Nat × Value) := [(1104, .ref 1105), (1106, .ref 1107), (1108, .ref 1109), (1110, .ref 1111), (1114, .ref 1115), (1156, .ref 1157), (1158, .ref 1159), (1160, .ref 1161), (1162, .ref 1163), (1164, .ref 1165), (1166, .ref 1167), (1168, .ref 1169), (1170, .ref 1171), (1172, .ref 1173)]
theorem xtVal_ok : xtVal = eXt "java/lang/String" "value" "[B" := by decide +kernel
def xtCod : List (Nat × Value) := [(1104, .int 0), (1106, .int 0), (1108, .int 0), (1110, .int 0), (1114, .int 0), (1156, .int 0), (1158, .int 0), (1160, .int 0), (1162, .int 0), (1164, .int 0), (1166, .int 0), (1168, .int 0), (1170, .int 0), (1172, .int 0)]
theorem xtCod_ok : xtCod = eXt "java/lang/String" "coder" "B" := by decide +kernel
def xtWord : List (Nat × Value) := [(1000, .ref 1160), (1001, .ref 1162), (1002, .ref 1164), (1003, .ref 1166), (1004, .ref 1168), (1005, .ref 1170), (1006, .ref 1158), (1007, .ref 1172), (1008, .ref 1156)]
theorem xtWord_ok : xtWord = eXt "RootDiscs$Verb" "word" "Ljava/lang/String;" := by decide +kernel
def xtNum : List (Nat × Value) := [(1000, .int 1), (1001, .int 0), (1002, .int 1), (1003, .int 1), (1004, .int 0), (1005, .int 1), (1006, .int 0), (1007, .int 1), (1008, .int 1)]
theorem xtNum_ok : xtNum = eXt "RootDiscs$Verb" "numbers" "I" := by decide +kernel
def xtSig : List (Nat × Value) := [(1000, .int 0), (1001, .int 0), (1002, .int 0), (1003, .int 0), (1004, .int 0), (1005, .int 2), (1006, .int 1), (1007, .int 0), (1008, .int 0)]
theorem xtSig_ok : xtSig = eXt "RootDiscs$Verb" "signed" "I" := by decide +kernel
def xtOrd : List (Nat × Value) := [(1000, .int 0), (1001, .int 1), (1002, .int 2), (1003, .int 3), (1004, .int 4), (1005, .int 5), (1006, .int 6), (1007, .int 7), (1008, .int 8)]
theorem xtOrd_ok : xtOrd = eXt "java/lang/Enum" "ordinal" "I" := by decide +kernel
/-- Object's own constructor -/
def p_objInit {sx : eSx} (pc idx : Nat) (h1 : Cond.methodLink sx.1 idx ⟨"java/lang/Object", "<init>", "()V"⟩ ∈ eTB) (h2 : Cond.instanceMethod ⟨"java/lang/Object", "<init>", "()V"⟩ ∈ eTB) (h3 : Cond.code ⟨"java/lang/Object", "<init>", "()V"⟩ object_method_1_code 1 none ∈ eTB) : eP sx :=
  ⟨(pc, pc + 3, (1, 20), (fun cc => decide (decode cc pc = .ok (.invokespecial idx, 3))), fun σ => match σ.2.1 with
    | .ref _ :: r => if eCs r ≤ 8 then some (none, (σ.1, r, σ.2.2)) else none
    | _ => none), eMono_same (fun σ o σ' h => by
    dsimp only at h
    split at h
    · split at h
      · cases h; rfl
      · cases h
    · cases h), by
  rintro ⟨p, l, e, R, s, m, args, below, meth, c, Q, nL, c0, s0, w⟩ hx hc hf hl ⟨lv, st, μ⟩ o σ' hd
  obtain ⟨g1, g2, g2', g3, g4, g5, g6, g7, g8, g9⟩ := hx
  have hdg : decode c.code pc = .ok (.invokespecial idx, 3) := of_decide_eq_true hc
  dsimp only at hd
  have hf : 1 ≤ R.frames := hf
  have hl : 20 ≤ R.locals := hl
  split at hd
  · rename_i a r
    split at hd
    · rename_i h9
      cases hd
      refine ⟨⟨Nat.le_refl _, Nat.le_refl _⟩, fun _ _ k H locs cells slots ls hls hH hS e1 e2 => ?_⟩
      have kk := k H locs cells slots ls hls hH hS e1 e2
      have hrm := lv_room (m := m) (pc := pc) (ls := ls) (rest := .ref (eAd w a) :: r.map (eV (eAd w))) (st := r.map (eV (eAd w))) (by rw [eCs_map]; exact h9)
      show W p l e R s m args below meth c H locs cells slots Q (F0 m pc ls (.ref (eAd w a) :: r.map (eV (eAd w))))
      exact W.objInit g1 rfl g3 (g4 _ h1) (g4 _ h2) (g4 _ h3) rfl (hls.1.trans g2.symm) rfl hdg hf (by omega) kk
    · cases hd
  · cases hd⟩
