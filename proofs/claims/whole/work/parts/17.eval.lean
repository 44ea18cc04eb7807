/-! ===== how the engine's pieces are reckoned out ===== -/
def si (I : Nat → Nat → Int32) (k i : Nat) (x : Int32) : Nat → Nat → Int32 := va_up I k (upd (I k) i x)
def sl (L : Nat → Nat → Int64) (k i : Nat) (x : Int64) : Nat → Nat → Int64 := va_up L k (vp_updL (L k) i x)
theorem si_eq (I : Nat → Nat → Int32) (k i : Nat) (x : Int32) (k' i' : Nat) : si I k i x k' i' = if k' = k ∧ i' = i then x else I k' i' := by
  unfold si va_up upd
  by_cases h : k' = k
  · subst h
    by_cases h2 : i' = i
    · simp [h2]
    · simp [h2]
  · simp [h]
theorem sl_eq (I : Nat → Nat → Int64) (k i : Nat) (x : Int64) (k' i' : Nat) : sl I k i x k' i' = if k' = k ∧ i' = i then x else I k' i' := by
  unfold sl va_up vp_updL
  by_cases h : k' = k
  · subst h
    by_cases h2 : i' = i
    · simp [h2]
    · simp [h2]
  · simp [h]
theorem si_s (I : Nat → Nat → Int32) (k i : Nat) (x : Int32) : si I k i x k i = x := by simp [si_eq]
theorem sl_s (I : Nat → Nat → Int64) (k i : Nat) (x : Int64) : sl I k i x k i = x := by simp [sl_eq]
theorem si_n {I : Nat → Nat → Int32} {k i k' : Nat} {x : Int32} (h : k' ≠ k) : si I k i x k' = I k' := by unfold si; exact va_up_ne _ _ h
theorem sl_n {I : Nat → Nat → Int64} {k i k' : Nat} {x : Int64} (h : k' ≠ k) : sl I k i x k' = I k' := by unfold sl; exact va_up_ne _ _ h
theorem si_m {I : Nat → Nat → Int32} {k i i' : Nat} {x : Int32} (h : i' ≠ i) : si I k i x k i' = I k i' := by simp [si_eq, h]
theorem sl_m {I : Nat → Nat → Int64} {k i i' : Nat} {x : Int64} (h : i' ≠ i) : sl I k i x k i' = I k i' := by simp [sl_eq, h]

def eA0S : Nat → Nat → Option Nat := fun j i => match j, i with
  | 0, 0 => some 1
  | 0, 1 => some 3
  | 0, 2 => some 5
  | 0, 3 => some 9
  | 0, 4 => some 14
  | 0, 6 => some 16
  | 0, 7 => some 17
  | 0, 8 => some 18
  | 1, 1 => some 2
  | 3, 1 => some 4
  | 5, 1 => some 6
  | 5, 2 => some 7
  | 5, 3 => some 8
  | 9, 1 => some 10
  | 9, 2 => some 11
  | 9, 3 => some 12
  | 9, 4 => some 13
  | 14, 2 => some 15
  | _, _ => none
def eA0 : Nat → Nat → Option Nat := fun k i => if 1 ≤ k ∧ k < 58 then (eA0S ((k - 1) % 19) i).map (fun q => k - (k - 1) % 19 + q) else if 75 ≤ k ∧ k < 189 then (eA0S ((k - 75) % 19) i).map (fun q => k - (k - 75) % 19 + q) else match k, i with
  | 0, 0 => some 1
  | 0, 1 => some 20
  | 0, 2 => some 39
  | 0, 4 => some 58
  | 0, 7 => some 59
  | 0, 8 => some 63
  | 0, 9 => some 64
  | 0, 10 => some 65
  | 0, 11 => some 67
  | 0, 12 => some 68
  | 0, 13 => some 74
  | 58, 0 => some 75
  | 58, 1 => some 94
  | 58, 2 => some 113
  | 58, 3 => some 132
  | 58, 4 => some 151
  | 58, 5 => some 170
  | 59, 1 => some 60
  | 59, 2 => some 61
  | 59, 3 => some 62
  | 65, 1 => some 66
  | 68, 3 => some 69
  | 68, 4 => some 70
  | 68, 5 => some 71
  | 68, 6 => some 72
  | 68, 7 => some 73
  | 189, 1 => some 190
  | 189, 13 => some 191
  | 189, 14 => some 192
  | 189, 15 => some 193
  | 189, 16 => some 194
  | 189, 17 => some 195
  | 189, 20 => some 196
  | 189, 21 => some 197
  | 189, 27 => some 198
  | 189, 28 => some 199
  | 189, 29 => some 200
  | 189, 30 => some 201
  | 189, 31 => some 202
  | 189, 38 => some 203
  | 189, 41 => some 204
  | 189, 42 => some 205
  | 189, 43 => some 206
  | 189, 44 => some 207
  | 189, 45 => some 208
  | 189, 46 => some 209
  | 189, 47 => some 210
  | 189, 52 => some 211
  | _, _ => none
/-- the world when all of it is made: counters, ints, longs, the commands' words -/
def mM (t : Nat × Nat × Bool) (I : Nat → Nat → Int32) (L : Nat → Nat → Int64) (V : Nat → Option Nat) : eMem := ((213, t.1, t.2.1, t.2.2), I, L, va_up eA0 69 V)
def tT (t : Nat × Nat × Bool) : Nat × Nat × Bool := (t.1 + 1, t.2.1 + 6, false)

theorem v_TM (t : Nat × Nat × Bool) (I : Nat → Nat → Int32) (L : Nat → Nat → Int64) (V : Nat → Option Nat) : eTM (mM t I L V) = mM (tT t) I L V := id rfl
theorem v_seq {sx : eSx} (a b : eP sx) (σ : eSt) : eDen (eSeq a b) σ = eBind (eDen a σ) (eDen b) := id rfl
theorem v_blk {sx : eSx} (T : Nat) (a : eP sx) (σ : eSt) : eDen (eBlk T a) σ = eCatch T (eDen a σ) := id rfl
theorem v_lop {sx : eSx} (h : Nat) (a : eP sx) (σ : eSt) : eDen (eLop h a) σ = eLoop eFuel h (eDen a) σ := by simp only [eDen, eLop]
theorem v_fgt {sx : eSx} (pc : Nat) (is : List Nat) (lv st : List Value) (μ : eMem) : eDen (sx := sx) (eFgt pc is) (lv, st, μ) = some (none, (eFg is lv, st, μ)) := id rfl
theorem v_fg0 (vs : List Value) : eFg [] vs = vs := id rfl
theorem v_fg1 (i : Nat) (is : List Nat) (vs : List Value) : eFg (i :: is) vs = eFg is (vs.set i eJ) := id rfl
theorem v_b0 (σ : eSt) (k : eSt → eRes) : eBind (some (none, σ)) k = k σ := id rfl
theorem v_b1 (q : Nat ⊕ (Option Value ⊕ String)) (σ : eSt) (k : eSt → eRes) : eBind (some (some q, σ)) k = some (some q, σ) := id rfl
theorem v_bn (k : eSt → eRes) : eBind none k = none := id rfl
theorem v_bi (c : Prop) [Decidable c] (a b : eRes) (k : eSt → eRes) : eBind (if c then a else b) k = if c then eBind a k else eBind b k := by split <;> rfl
theorem v_c0 (T : Nat) (σ : eSt) : eCatch T (some (none, σ)) = some (none, σ) := id rfl
theorem v_c1 (T T2 : Nat) (σ : eSt) : eCatch T (some (some (.inl T2), σ)) = if T2 = T then some (none, σ) else some (some (.inl T2), σ) := id rfl
theorem v_c2 (T : Nat) (z : Option Value ⊕ String) (σ : eSt) : eCatch T (some (some (.inr z), σ)) = some (some (.inr z), σ) := id rfl
theorem v_cn (T : Nat) : eCatch T none = none := id rfl
theorem v_ci (T : Nat) (c : Prop) [Decidable c] (a b : eRes) : eCatch T (if c then a else b) = if c then eCatch T a else eCatch T b := by split <;> rfl
theorem v_st0 (a b : Value) (l : List Value) : (a :: l).set 0 b = b :: l := List.set_cons_zero
theorem v_st1 (a b : Value) (n : Nat) (l : List Value) : (a :: l).set (n + 1) b = a :: l.set n b := List.set_cons_succ
theorem v_stn (b : Value) (n : Nat) : ([] : List Value).set n b = [] := List.set_nil
theorem v_iadd {sx : eSx} (pc : Nat) (lv st : List Value) (μ : eMem) (y : Int32) (x : Int32) : eDen (sx := sx) (p_iadd pc) (lv, .int y :: .int x :: st, μ) = some (none, (lv, .int (x + y) :: st, μ)) := id rfl
theorem v_isub {sx : eSx} (pc : Nat) (lv st : List Value) (μ : eMem) (y : Int32) (x : Int32) : eDen (sx := sx) (p_isub pc) (lv, .int y :: .int x :: st, μ) = some (none, (lv, .int (x - y) :: st, μ)) := id rfl
theorem v_imul {sx : eSx} (pc : Nat) (lv st : List Value) (μ : eMem) (y : Int32) (x : Int32) : eDen (sx := sx) (p_imul pc) (lv, .int y :: .int x :: st, μ) = some (none, (lv, .int (x * y) :: st, μ)) := id rfl
theorem v_iand {sx : eSx} (pc : Nat) (lv st : List Value) (μ : eMem) (y : Int32) (x : Int32) : eDen (sx := sx) (p_iand pc) (lv, .int y :: .int x :: st, μ) = some (none, (lv, .int (x &&& y) :: st, μ)) := id rfl
theorem v_ior {sx : eSx} (pc : Nat) (lv st : List Value) (μ : eMem) (y : Int32) (x : Int32) : eDen (sx := sx) (p_ior pc) (lv, .int y :: .int x :: st, μ) = some (none, (lv, .int (x ||| y) :: st, μ)) := id rfl
theorem v_ixor {sx : eSx} (pc : Nat) (lv st : List Value) (μ : eMem) (y : Int32) (x : Int32) : eDen (sx := sx) (p_ixor pc) (lv, .int y :: .int x :: st, μ) = some (none, (lv, .int (x ^^^ y) :: st, μ)) := id rfl
theorem v_ishl {sx : eSx} (pc : Nat) (lv st : List Value) (μ : eMem) (y : Int32) (x : Int32) : eDen (sx := sx) (p_ishl pc) (lv, .int y :: .int x :: st, μ) = some (none, (lv, .int (x <<< (y &&& 31)) :: st, μ)) := id rfl
theorem v_ishr {sx : eSx} (pc : Nat) (lv st : List Value) (μ : eMem) (y : Int32) (x : Int32) : eDen (sx := sx) (p_ishr pc) (lv, .int y :: .int x :: st, μ) = some (none, (lv, .int (x >>> (y &&& 31)) :: st, μ)) := id rfl
theorem v_ladd {sx : eSx} (pc : Nat) (lv st : List Value) (μ : eMem) (y : Int64) (x : Int64) : eDen (sx := sx) (p_ladd pc) (lv, .long y :: .long x :: st, μ) = some (none, (lv, .long (x + y) :: st, μ)) := id rfl
theorem v_lsub {sx : eSx} (pc : Nat) (lv st : List Value) (μ : eMem) (y : Int64) (x : Int64) : eDen (sx := sx) (p_lsub pc) (lv, .long y :: .long x :: st, μ) = some (none, (lv, .long (x - y) :: st, μ)) := id rfl
theorem v_lmul {sx : eSx} (pc : Nat) (lv st : List Value) (μ : eMem) (y : Int64) (x : Int64) : eDen (sx := sx) (p_lmul pc) (lv, .long y :: .long x :: st, μ) = some (none, (lv, .long (x * y) :: st, μ)) := id rfl
theorem v_lor {sx : eSx} (pc : Nat) (lv st : List Value) (μ : eMem) (y : Int64) (x : Int64) : eDen (sx := sx) (p_lor pc) (lv, .long y :: .long x :: st, μ) = some (none, (lv, .long (x ||| y) :: st, μ)) := id rfl
theorem v_land {sx : eSx} (pc : Nat) (lv st : List Value) (μ : eMem) (y : Int64) (x : Int64) : eDen (sx := sx) (p_land pc) (lv, .long y :: .long x :: st, μ) = some (none, (lv, .long (x &&& y) :: st, μ)) := id rfl
theorem v_ineg {sx : eSx} (pc : Nat) (lv st : List Value) (μ : eMem) (x : Int32) : eDen (sx := sx) (p_ineg pc) (lv, .int x :: st, μ) = some (none, (lv, .int (-x) :: st, μ)) := id rfl
theorem v_lneg {sx : eSx} (pc : Nat) (lv st : List Value) (μ : eMem) (x : Int64) : eDen (sx := sx) (p_lneg pc) (lv, .long x :: st, μ) = some (none, (lv, .long (-x) :: st, μ)) := id rfl
theorem v_lcmp {sx : eSx} (pc : Nat) (lv st : List Value) (μ : eMem) (y : Int64) (x : Int64) : eDen (sx := sx) (p_lcmp pc) (lv, .long y :: .long x :: st, μ) = some (none, (lv, .int (lg_cmp x y) :: st, μ)) := id rfl
theorem v_lshl {sx : eSx} (pc : Nat) (lv st : List Value) (μ : eMem) (y : Int32) (x : Int64) : eDen (sx := sx) (p_lshl pc) (lv, .int y :: .long x :: st, μ) = some (none, (lv, .long (x <<< (y.toInt64 &&& 63)) :: st, μ)) := id rfl
theorem v_i2l {sx : eSx} (pc : Nat) (lv st : List Value) (μ : eMem) (x : Int32) : eDen (sx := sx) (p_i2l pc) (lv, .int x :: st, μ) = some (none, (lv, .long x.toInt64 :: st, μ)) := id rfl
theorem v_l2i {sx : eSx} (pc : Nat) (lv st : List Value) (μ : eMem) (x : Int64) : eDen (sx := sx) (p_l2i pc) (lv, .long x :: st, μ) = some (none, (lv, .int x.toInt32 :: st, μ)) := id rfl
theorem v_i2b {sx : eSx} (pc : Nat) (lv st : List Value) (μ : eMem) (x : Int32) : eDen (sx := sx) (p_i2b pc) (lv, .int x :: st, μ) = some (none, (lv, .int x.toInt8.toInt32 :: st, μ)) := id rfl
theorem v_i2c {sx : eSx} (pc : Nat) (lv st : List Value) (μ : eMem) (x : Int32) : eDen (sx := sx) (p_i2c pc) (lv, .int x :: st, μ) = some (none, (lv, .int (x.toUInt32 % 65536).toInt32 :: st, μ)) := id rfl
theorem v_i2f {sx : eSx} (pc : Nat) (lv st : List Value) (μ : eMem) (x : Int32) : eDen (sx := sx) (p_i2f pc) (lv, .int x :: st, μ) = some (none, (lv, .float (FP.i2f x) :: st, μ)) := id rfl
theorem v_i2d {sx : eSx} (pc : Nat) (lv st : List Value) (μ : eMem) (x : Int32) : eDen (sx := sx) (p_i2d pc) (lv, .int x :: st, μ) = some (none, (lv, .double (FP.i2d x) :: st, μ)) := id rfl
theorem v_idiv {sx : eSx} (pc : Nat) (lv st : List Value) (μ : eMem) (y : Int32) (x : Int32) : eDen (sx := sx) (p_idiv pc) (lv, .int y :: .int x :: st, μ) = if ¬ y = nI 0 then some (none, (lv, .int (x / y) :: st, μ)) else none := by
  show (Option.map _ (if ¬ y = nI 0 then _ else none)) = _
  split <;> rfl
theorem v_irem {sx : eSx} (pc : Nat) (lv st : List Value) (μ : eMem) (y : Int32) (x : Int32) : eDen (sx := sx) (p_irem pc) (lv, .int y :: .int x :: st, μ) = if ¬ y = nI 0 then some (none, (lv, .int (x - x / y * y) :: st, μ)) else none := by
  show (Option.map _ (if ¬ y = nI 0 then _ else none)) = _
  split <;> rfl
theorem v_ldiv {sx : eSx} (pc : Nat) (lv st : List Value) (μ : eMem) (y : Int64) (x : Int64) : eDen (sx := sx) (p_ldiv pc) (lv, .long y :: .long x :: st, μ) = if ¬ y = 0 then some (none, (lv, .long (x / y) :: st, μ)) else none := by
  show (Option.map _ (if ¬ y = 0 then _ else none)) = _
  split <;> rfl
theorem v_lrem {sx : eSx} (pc : Nat) (lv st : List Value) (μ : eMem) (y : Int64) (x : Int64) : eDen (sx := sx) (p_lrem pc) (lv, .long y :: .long x :: st, μ) = if ¬ y = 0 then some (none, (lv, .long (x - x / y * y) :: st, μ)) else none := by
  show (Option.map _ (if ¬ y = 0 then _ else none)) = _
  split <;> rfl
theorem v_iconst {sx : eSx} (pc : Nat) (lv st : List Value) (μ : eMem) (n : Int) : eDen (sx := sx) (p_iconst pc n) (lv, st, μ) = some (none, (lv, .int (Int32.ofInt n) :: st, μ)) := id rfl
theorem v_bipush {sx : eSx} (pc : Nat) (lv st : List Value) (μ : eMem) (n : Int) : eDen (sx := sx) (p_bipush pc n) (lv, st, μ) = some (none, (lv, .int ((Int8.ofInt n).toInt32) :: st, μ)) := id rfl
theorem v_sipush {sx : eSx} (pc : Nat) (lv st : List Value) (μ : eMem) (n : Int) : eDen (sx := sx) (p_sipush pc n) (lv, st, μ) = some (none, (lv, .int ((Int16.ofInt n).toInt32) :: st, μ)) := id rfl
theorem v_lconst0 {sx : eSx} (pc : Nat) (lv st : List Value) (μ : eMem) : eDen (sx := sx) (p_lconst pc 0) (lv, st, μ) = some (none, (lv, .long 0 :: st, μ)) := id rfl
theorem v_lconst1 {sx : eSx} (pc : Nat) (lv st : List Value) (μ : eMem) : eDen (sx := sx) (p_lconst pc 1) (lv, st, μ) = some (none, (lv, .long 1 :: st, μ)) := id rfl
theorem v_null {sx : eSx} (pc : Nat) (lv st : List Value) (μ : eMem) : eDen (sx := sx) (p_null pc) (lv, st, μ) = some (none, (lv, .null :: st, μ)) := id rfl
theorem v_fconst0 {sx : eSx} (pc : Nat) (lv st : List Value) (μ : eMem) : eDen (sx := sx) (p_fconst0 pc) (lv, st, μ) = some (none, (lv, .float FP.fconst0 :: st, μ)) := id rfl
theorem v_dconst0 {sx : eSx} (pc : Nat) (lv st : List Value) (μ : eMem) : eDen (sx := sx) (p_dconst0 pc) (lv, st, μ) = some (none, (lv, .double FP.dconst0 :: st, μ)) := id rfl
theorem v_ldc2 {sx : eSx} (pc : Nat) (lv st : List Value) (μ : eMem) (idx : Nat) (v : Int64) (h : Cond.constantLong sx.1 idx v ∈ eTB) : eDen (sx := sx) (p_ldc2 pc idx v h) (lv, st, μ) = some (none, (lv, .long v :: st, μ)) := id rfl
theorem v_ldcS {sx : eSx} (pc : Nat) (lv st : List Value) (μ : eMem) (idx : Nat) (tx : String) (a : Nat) (h : (sx.1, idx, tx, a) ∈ eXs) : eDen (sx := sx) (p_ldcS pc idx tx a h) (lv, st, μ) = some (none, (lv, .ref a :: st, μ)) := id rfl
theorem v_dupi {sx : eSx} (pc : Nat) (lv st : List Value) (μ : eMem) (x : Int32) : eDen (sx := sx) (p_dup pc) (lv, .int x :: st, μ) = some (none, (lv, .int x :: .int x :: st, μ)) := id rfl
theorem v_dupr {sx : eSx} (pc : Nat) (lv st : List Value) (μ : eMem) (x : Nat) : eDen (sx := sx) (p_dup pc) (lv, .ref x :: st, μ) = some (none, (lv, .ref x :: .ref x :: st, μ)) := id rfl
theorem v_pop {sx : eSx} (pc : Nat) (lv st : List Value) (μ : eMem) (x : Int32) : eDen (sx := sx) (p_pop pc) (lv, .int x :: st, μ) = some (none, (lv, st, μ)) := id rfl
theorem v_dup2 {sx : eSx} (pc : Nat) (lv st : List Value) (μ : eMem) (x : Int32) (a : Nat) : eDen (sx := sx) (p_dup2 pc) (lv, .int x :: .ref a :: st, μ) = some (none, (lv, .int x :: .ref a :: .int x :: .ref a :: st, μ)) := id rfl
def vI (v : Value) (lv st : List Value) (μ : eMem) : eRes := match v with
  | .int x => some (none, (lv, .int x :: st, μ))
  | _ => none
def vL (v : Value) (lv st : List Value) (μ : eMem) : eRes := match v with
  | .long x => some (none, (lv, .long x :: st, μ))
  | _ => none
def vD (v : Value) (lv st : List Value) (μ : eMem) : eRes := match v with
  | .double x => some (none, (lv, .double x :: st, μ))
  | _ => none
def vA (v : Value) (lv st : List Value) (μ : eMem) : eRes := match v with
  | .ref x => some (none, (lv, .ref x :: st, μ))
  | .null => some (none, (lv, .null :: st, μ))
  | _ => none
def vInc (v : Value) (j : Nat) (n : Int) (lv st : List Value) (μ : eMem) : eRes := match v with
  | .int x => if eOk lv j = true then some (none, (lv.set j (.int (x + Int32.ofInt n)), st, μ)) else none
  | _ => none
theorem vI_i (x : Int32) (lv st : List Value) (μ : eMem) : vI (.int x) lv st μ = some (none, (lv, .int x :: st, μ)) := id rfl
theorem vL_l (x : Int64) (lv st : List Value) (μ : eMem) : vL (.long x) lv st μ = some (none, (lv, .long x :: st, μ)) := id rfl
theorem vA_r (x : Nat) (lv st : List Value) (μ : eMem) : vA (.ref x) lv st μ = some (none, (lv, .ref x :: st, μ)) := id rfl
theorem vA_n (lv st : List Value) (μ : eMem) : vA .null lv st μ = some (none, (lv, .null :: st, μ)) := id rfl
theorem vInc_i (x : Int32) (j : Nat) (n : Int) (lv st : List Value) (μ : eMem) : vInc (.int x) j n lv st μ = if eOk lv j = true then some (none, (lv.set j (.int (x + Int32.ofInt n)), st, μ)) else none := id rfl
theorem v_iload_n0 {sx : eSx} (pc : Nat) (lv st : List Value) (μ : eMem) : eDen (sx := sx) (p_iload_n pc 0) (lv, st, μ) = vI (eAt lv 0) lv st μ := by
  show Option.map _ (f_iload 0 _) = _
  unfold f_iload vI
  dsimp only
  cases eAt lv 0 <;> rfl
theorem v_iload_n1 {sx : eSx} (pc : Nat) (lv st : List Value) (μ : eMem) : eDen (sx := sx) (p_iload_n pc 1) (lv, st, μ) = vI (eAt lv 1) lv st μ := by
  show Option.map _ (f_iload 1 _) = _
  unfold f_iload vI
  dsimp only
  cases eAt lv 1 <;> rfl
theorem v_iload_n2 {sx : eSx} (pc : Nat) (lv st : List Value) (μ : eMem) : eDen (sx := sx) (p_iload_n pc 2) (lv, st, μ) = vI (eAt lv 2) lv st μ := by
  show Option.map _ (f_iload 2 _) = _
  unfold f_iload vI
  dsimp only
  cases eAt lv 2 <;> rfl
theorem v_iload_n3 {sx : eSx} (pc : Nat) (lv st : List Value) (μ : eMem) : eDen (sx := sx) (p_iload_n pc 3) (lv, st, μ) = vI (eAt lv 3) lv st μ := by
  show Option.map _ (f_iload 3 _) = _
  unfold f_iload vI
  dsimp only
  cases eAt lv 3 <;> rfl
theorem v_iload {sx : eSx} (pc : Nat) (lv st : List Value) (μ : eMem) (j : Nat) : eDen (sx := sx) (p_iload pc j) (lv, st, μ) = vI (eAt lv j) lv st μ := by
  show Option.map _ (f_iload j _) = _
  unfold f_iload vI
  dsimp only
  cases eAt lv j <;> rfl
theorem v_lload_n0 {sx : eSx} (pc : Nat) (lv st : List Value) (μ : eMem) : eDen (sx := sx) (p_lload_n pc 0) (lv, st, μ) = vL (eAt lv 0) lv st μ := by
  show Option.map _ (f_lload 0 _) = _
  unfold f_lload vL
  dsimp only
  cases eAt lv 0 <;> rfl
theorem v_lload_n1 {sx : eSx} (pc : Nat) (lv st : List Value) (μ : eMem) : eDen (sx := sx) (p_lload_n pc 1) (lv, st, μ) = vL (eAt lv 1) lv st μ := by
  show Option.map _ (f_lload 1 _) = _
  unfold f_lload vL
  dsimp only
  cases eAt lv 1 <;> rfl
theorem v_lload_n2 {sx : eSx} (pc : Nat) (lv st : List Value) (μ : eMem) : eDen (sx := sx) (p_lload_n pc 2) (lv, st, μ) = vL (eAt lv 2) lv st μ := by
  show Option.map _ (f_lload 2 _) = _
  unfold f_lload vL
  dsimp only
  cases eAt lv 2 <;> rfl
theorem v_lload_n3 {sx : eSx} (pc : Nat) (lv st : List Value) (μ : eMem) : eDen (sx := sx) (p_lload_n pc 3) (lv, st, μ) = vL (eAt lv 3) lv st μ := by
  show Option.map _ (f_lload 3 _) = _
  unfold f_lload vL
  dsimp only
  cases eAt lv 3 <;> rfl
theorem v_lload {sx : eSx} (pc : Nat) (lv st : List Value) (μ : eMem) (j : Nat) : eDen (sx := sx) (p_lload pc j) (lv, st, μ) = vL (eAt lv j) lv st μ := by
  show Option.map _ (f_lload j _) = _
  unfold f_lload vL
  dsimp only
  cases eAt lv j <;> rfl
theorem v_dload_n0 {sx : eSx} (pc : Nat) (lv st : List Value) (μ : eMem) : eDen (sx := sx) (p_dload_n pc 0) (lv, st, μ) = vD (eAt lv 0) lv st μ := by
  show Option.map _ (f_dload 0 _) = _
  unfold f_dload vD
  dsimp only
  cases eAt lv 0 <;> rfl
theorem v_dload_n1 {sx : eSx} (pc : Nat) (lv st : List Value) (μ : eMem) : eDen (sx := sx) (p_dload_n pc 1) (lv, st, μ) = vD (eAt lv 1) lv st μ := by
  show Option.map _ (f_dload 1 _) = _
  unfold f_dload vD
  dsimp only
  cases eAt lv 1 <;> rfl
theorem v_dload_n2 {sx : eSx} (pc : Nat) (lv st : List Value) (μ : eMem) : eDen (sx := sx) (p_dload_n pc 2) (lv, st, μ) = vD (eAt lv 2) lv st μ := by
  show Option.map _ (f_dload 2 _) = _
  unfold f_dload vD
  dsimp only
  cases eAt lv 2 <;> rfl
theorem v_dload_n3 {sx : eSx} (pc : Nat) (lv st : List Value) (μ : eMem) : eDen (sx := sx) (p_dload_n pc 3) (lv, st, μ) = vD (eAt lv 3) lv st μ := by
  show Option.map _ (f_dload 3 _) = _
  unfold f_dload vD
  dsimp only
  cases eAt lv 3 <;> rfl
theorem v_dload {sx : eSx} (pc : Nat) (lv st : List Value) (μ : eMem) (j : Nat) : eDen (sx := sx) (p_dload pc j) (lv, st, μ) = vD (eAt lv j) lv st μ := by
  show Option.map _ (f_dload j _) = _
  unfold f_dload vD
  dsimp only
  cases eAt lv j <;> rfl
theorem v_aload_n0 {sx : eSx} (pc : Nat) (lv st : List Value) (μ : eMem) : eDen (sx := sx) (p_aload_n pc 0) (lv, st, μ) = vA (eAt lv 0) lv st μ := by
  show Option.map _ (f_aload 0 _) = _
  unfold f_aload vA
  dsimp only
  cases eAt lv 0 <;> rfl
theorem v_aload_n1 {sx : eSx} (pc : Nat) (lv st : List Value) (μ : eMem) : eDen (sx := sx) (p_aload_n pc 1) (lv, st, μ) = vA (eAt lv 1) lv st μ := by
  show Option.map _ (f_aload 1 _) = _
  unfold f_aload vA
  dsimp only
  cases eAt lv 1 <;> rfl
theorem v_aload_n2 {sx : eSx} (pc : Nat) (lv st : List Value) (μ : eMem) : eDen (sx := sx) (p_aload_n pc 2) (lv, st, μ) = vA (eAt lv 2) lv st μ := by
  show Option.map _ (f_aload 2 _) = _
  unfold f_aload vA
  dsimp only
  cases eAt lv 2 <;> rfl
theorem v_aload_n3 {sx : eSx} (pc : Nat) (lv st : List Value) (μ : eMem) : eDen (sx := sx) (p_aload_n pc 3) (lv, st, μ) = vA (eAt lv 3) lv st μ := by
  show Option.map _ (f_aload 3 _) = _
  unfold f_aload vA
  dsimp only
  cases eAt lv 3 <;> rfl
theorem v_aload {sx : eSx} (pc : Nat) (lv st : List Value) (μ : eMem) (j : Nat) : eDen (sx := sx) (p_aload pc j) (lv, st, μ) = vA (eAt lv j) lv st μ := by
  show Option.map _ (f_aload j _) = _
  unfold f_aload vA
  dsimp only
  cases eAt lv j <;> rfl
theorem v_at0 (a0 : Value) (l : List Value) : eAt (a0 :: l) 0 = a0 := id rfl
theorem v_ok0 (a0 : Value) (l : List Value) : eOk (a0 :: l) 0 = true := id rfl
theorem v_at1 (a0 a1 : Value) (l : List Value) : eAt (a0 :: a1 :: l) 1 = a1 := id rfl
theorem v_ok1 (a0 a1 : Value) (l : List Value) : eOk (a0 :: a1 :: l) 1 = !eC2 a0 := by simp [eOk]
theorem v_at2 (a0 a1 a2 : Value) (l : List Value) : eAt (a0 :: a1 :: a2 :: l) 2 = a2 := id rfl
theorem v_ok2 (a0 a1 a2 : Value) (l : List Value) : eOk (a0 :: a1 :: a2 :: l) 2 = !eC2 a1 := by simp [eOk]
theorem v_at3 (a0 a1 a2 a3 : Value) (l : List Value) : eAt (a0 :: a1 :: a2 :: a3 :: l) 3 = a3 := id rfl
theorem v_ok3 (a0 a1 a2 a3 : Value) (l : List Value) : eOk (a0 :: a1 :: a2 :: a3 :: l) 3 = !eC2 a2 := by simp [eOk]
theorem v_at4 (a0 a1 a2 a3 a4 : Value) (l : List Value) : eAt (a0 :: a1 :: a2 :: a3 :: a4 :: l) 4 = a4 := id rfl
theorem v_ok4 (a0 a1 a2 a3 a4 : Value) (l : List Value) : eOk (a0 :: a1 :: a2 :: a3 :: a4 :: l) 4 = !eC2 a3 := by simp [eOk]
theorem v_at5 (a0 a1 a2 a3 a4 a5 : Value) (l : List Value) : eAt (a0 :: a1 :: a2 :: a3 :: a4 :: a5 :: l) 5 = a5 := id rfl
theorem v_ok5 (a0 a1 a2 a3 a4 a5 : Value) (l : List Value) : eOk (a0 :: a1 :: a2 :: a3 :: a4 :: a5 :: l) 5 = !eC2 a4 := by simp [eOk]
theorem v_at6 (a0 a1 a2 a3 a4 a5 a6 : Value) (l : List Value) : eAt (a0 :: a1 :: a2 :: a3 :: a4 :: a5 :: a6 :: l) 6 = a6 := id rfl
theorem v_ok6 (a0 a1 a2 a3 a4 a5 a6 : Value) (l : List Value) : eOk (a0 :: a1 :: a2 :: a3 :: a4 :: a5 :: a6 :: l) 6 = !eC2 a5 := by simp [eOk]
theorem v_at7 (a0 a1 a2 a3 a4 a5 a6 a7 : Value) (l : List Value) : eAt (a0 :: a1 :: a2 :: a3 :: a4 :: a5 :: a6 :: a7 :: l) 7 = a7 := id rfl
theorem v_ok7 (a0 a1 a2 a3 a4 a5 a6 a7 : Value) (l : List Value) : eOk (a0 :: a1 :: a2 :: a3 :: a4 :: a5 :: a6 :: a7 :: l) 7 = !eC2 a6 := by simp [eOk]
theorem v_at8 (a0 a1 a2 a3 a4 a5 a6 a7 a8 : Value) (l : List Value) : eAt (a0 :: a1 :: a2 :: a3 :: a4 :: a5 :: a6 :: a7 :: a8 :: l) 8 = a8 := id rfl
theorem v_ok8 (a0 a1 a2 a3 a4 a5 a6 a7 a8 : Value) (l : List Value) : eOk (a0 :: a1 :: a2 :: a3 :: a4 :: a5 :: a6 :: a7 :: a8 :: l) 8 = !eC2 a7 := by simp [eOk]
theorem v_at9 (a0 a1 a2 a3 a4 a5 a6 a7 a8 a9 : Value) (l : List Value) : eAt (a0 :: a1 :: a2 :: a3 :: a4 :: a5 :: a6 :: a7 :: a8 :: a9 :: l) 9 = a9 := id rfl
theorem v_ok9 (a0 a1 a2 a3 a4 a5 a6 a7 a8 a9 : Value) (l : List Value) : eOk (a0 :: a1 :: a2 :: a3 :: a4 :: a5 :: a6 :: a7 :: a8 :: a9 :: l) 9 = !eC2 a8 := by simp [eOk]
theorem v_at10 (a0 a1 a2 a3 a4 a5 a6 a7 a8 a9 a10 : Value) (l : List Value) : eAt (a0 :: a1 :: a2 :: a3 :: a4 :: a5 :: a6 :: a7 :: a8 :: a9 :: a10 :: l) 10 = a10 := id rfl
theorem v_ok10 (a0 a1 a2 a3 a4 a5 a6 a7 a8 a9 a10 : Value) (l : List Value) : eOk (a0 :: a1 :: a2 :: a3 :: a4 :: a5 :: a6 :: a7 :: a8 :: a9 :: a10 :: l) 10 = !eC2 a9 := by simp [eOk]
theorem v_at11 (a0 a1 a2 a3 a4 a5 a6 a7 a8 a9 a10 a11 : Value) (l : List Value) : eAt (a0 :: a1 :: a2 :: a3 :: a4 :: a5 :: a6 :: a7 :: a8 :: a9 :: a10 :: a11 :: l) 11 = a11 := id rfl
theorem v_ok11 (a0 a1 a2 a3 a4 a5 a6 a7 a8 a9 a10 a11 : Value) (l : List Value) : eOk (a0 :: a1 :: a2 :: a3 :: a4 :: a5 :: a6 :: a7 :: a8 :: a9 :: a10 :: a11 :: l) 11 = !eC2 a10 := by simp [eOk]
theorem v_at12 (a0 a1 a2 a3 a4 a5 a6 a7 a8 a9 a10 a11 a12 : Value) (l : List Value) : eAt (a0 :: a1 :: a2 :: a3 :: a4 :: a5 :: a6 :: a7 :: a8 :: a9 :: a10 :: a11 :: a12 :: l) 12 = a12 := id rfl
theorem v_ok12 (a0 a1 a2 a3 a4 a5 a6 a7 a8 a9 a10 a11 a12 : Value) (l : List Value) : eOk (a0 :: a1 :: a2 :: a3 :: a4 :: a5 :: a6 :: a7 :: a8 :: a9 :: a10 :: a11 :: a12 :: l) 12 = !eC2 a11 := by simp [eOk]
theorem v_at13 (a0 a1 a2 a3 a4 a5 a6 a7 a8 a9 a10 a11 a12 a13 : Value) (l : List Value) : eAt (a0 :: a1 :: a2 :: a3 :: a4 :: a5 :: a6 :: a7 :: a8 :: a9 :: a10 :: a11 :: a12 :: a13 :: l) 13 = a13 := id rfl
theorem v_ok13 (a0 a1 a2 a3 a4 a5 a6 a7 a8 a9 a10 a11 a12 a13 : Value) (l : List Value) : eOk (a0 :: a1 :: a2 :: a3 :: a4 :: a5 :: a6 :: a7 :: a8 :: a9 :: a10 :: a11 :: a12 :: a13 :: l) 13 = !eC2 a12 := by simp [eOk]
theorem v_at14 (a0 a1 a2 a3 a4 a5 a6 a7 a8 a9 a10 a11 a12 a13 a14 : Value) (l : List Value) : eAt (a0 :: a1 :: a2 :: a3 :: a4 :: a5 :: a6 :: a7 :: a8 :: a9 :: a10 :: a11 :: a12 :: a13 :: a14 :: l) 14 = a14 := id rfl
theorem v_ok14 (a0 a1 a2 a3 a4 a5 a6 a7 a8 a9 a10 a11 a12 a13 a14 : Value) (l : List Value) : eOk (a0 :: a1 :: a2 :: a3 :: a4 :: a5 :: a6 :: a7 :: a8 :: a9 :: a10 :: a11 :: a12 :: a13 :: a14 :: l) 14 = !eC2 a13 := by simp [eOk]
theorem v_at15 (a0 a1 a2 a3 a4 a5 a6 a7 a8 a9 a10 a11 a12 a13 a14 a15 : Value) (l : List Value) : eAt (a0 :: a1 :: a2 :: a3 :: a4 :: a5 :: a6 :: a7 :: a8 :: a9 :: a10 :: a11 :: a12 :: a13 :: a14 :: a15 :: l) 15 = a15 := id rfl
theorem v_ok15 (a0 a1 a2 a3 a4 a5 a6 a7 a8 a9 a10 a11 a12 a13 a14 a15 : Value) (l : List Value) : eOk (a0 :: a1 :: a2 :: a3 :: a4 :: a5 :: a6 :: a7 :: a8 :: a9 :: a10 :: a11 :: a12 :: a13 :: a14 :: a15 :: l) 15 = !eC2 a14 := by simp [eOk]
theorem v_c2i (x : Int32) : eC2 (.int x) = false := id rfl
theorem v_c2l (x : Int64) : eC2 (.long x) = true := id rfl
theorem v_c2r (x : Nat) : eC2 (.ref x) = false := id rfl
theorem v_c2n : eC2 (.null) = false := id rfl
theorem v_c2j : eC2 eJ = false := id rfl
theorem v_istore_n0 {sx : eSx} (pc : Nat) (lv st : List Value) (μ : eMem) (x : Int32) : eDen (sx := sx) (p_istore_n pc 0) (lv, .int x :: st, μ) = if eOk lv 0 = true then some (none, (lv.set 0 (.int x), st, μ)) else none := by
  show (if (eOk lv 0 && true) = true then _ else _) = _
  rw [Bool.and_true]
  rfl
theorem v_astore_n0 {sx : eSx} (pc : Nat) (lv st : List Value) (μ : eMem) (x : Nat) : eDen (sx := sx) (p_astore_n pc 0) (lv, .ref x :: st, μ) = if eOk lv 0 = true then some (none, (lv.set 0 (.ref x), st, μ)) else none := by
  show (if (eOk lv 0 && true) = true then _ else _) = _
  rw [Bool.and_true]
  rfl
theorem v_istore_n1 {sx : eSx} (pc : Nat) (lv st : List Value) (μ : eMem) (x : Int32) : eDen (sx := sx) (p_istore_n pc 1) (lv, .int x :: st, μ) = if eOk lv 1 = true then some (none, (lv.set 1 (.int x), st, μ)) else none := by
  show (if (eOk lv 1 && true) = true then _ else _) = _
  rw [Bool.and_true]
  rfl
theorem v_astore_n1 {sx : eSx} (pc : Nat) (lv st : List Value) (μ : eMem) (x : Nat) : eDen (sx := sx) (p_astore_n pc 1) (lv, .ref x :: st, μ) = if eOk lv 1 = true then some (none, (lv.set 1 (.ref x), st, μ)) else none := by
  show (if (eOk lv 1 && true) = true then _ else _) = _
  rw [Bool.and_true]
  rfl
theorem v_istore_n2 {sx : eSx} (pc : Nat) (lv st : List Value) (μ : eMem) (x : Int32) : eDen (sx := sx) (p_istore_n pc 2) (lv, .int x :: st, μ) = if eOk lv 2 = true then some (none, (lv.set 2 (.int x), st, μ)) else none := by
  show (if (eOk lv 2 && true) = true then _ else _) = _
  rw [Bool.and_true]
  rfl
theorem v_astore_n2 {sx : eSx} (pc : Nat) (lv st : List Value) (μ : eMem) (x : Nat) : eDen (sx := sx) (p_astore_n pc 2) (lv, .ref x :: st, μ) = if eOk lv 2 = true then some (none, (lv.set 2 (.ref x), st, μ)) else none := by
  show (if (eOk lv 2 && true) = true then _ else _) = _
  rw [Bool.and_true]
  rfl
theorem v_istore_n3 {sx : eSx} (pc : Nat) (lv st : List Value) (μ : eMem) (x : Int32) : eDen (sx := sx) (p_istore_n pc 3) (lv, .int x :: st, μ) = if eOk lv 3 = true then some (none, (lv.set 3 (.int x), st, μ)) else none := by
  show (if (eOk lv 3 && true) = true then _ else _) = _
  rw [Bool.and_true]
  rfl
theorem v_astore_n3 {sx : eSx} (pc : Nat) (lv st : List Value) (μ : eMem) (x : Nat) : eDen (sx := sx) (p_astore_n pc 3) (lv, .ref x :: st, μ) = if eOk lv 3 = true then some (none, (lv.set 3 (.ref x), st, μ)) else none := by
  show (if (eOk lv 3 && true) = true then _ else _) = _
  rw [Bool.and_true]
  rfl
theorem v_istore {sx : eSx} (pc : Nat) (lv st : List Value) (μ : eMem) (x : Int32) (j : Nat) : eDen (sx := sx) (p_istore pc j) (lv, .int x :: st, μ) = if eOk lv j = true then some (none, (lv.set j (.int x), st, μ)) else none := by
  show (if (eOk lv j && true) = true then _ else _) = _
  rw [Bool.and_true]
  rfl
theorem v_astore {sx : eSx} (pc : Nat) (lv st : List Value) (μ : eMem) (x : Nat) (j : Nat) : eDen (sx := sx) (p_astore pc j) (lv, .ref x :: st, μ) = if eOk lv j = true then some (none, (lv.set j (.ref x), st, μ)) else none := by
  show (if (eOk lv j && true) = true then _ else _) = _
  rw [Bool.and_true]
  rfl
theorem v_lstore_n0 {own : String} {b1 b2 : Bool} {nL : Nat} (pc : Nat) (lv st : List Value) (μ : eMem) (x : Int64) : eDen (sx := (own, b1, b2, nL)) (p_lstore_n pc 0) (lv, .long x :: st, μ) = if eOk lv 0 = true ∧ 0 + 1 < nL then some (none, ((lv.set 0 (.long x)).set (0 + 1) eJ, st, μ)) else none := by
  show (if (eOk lv 0 && Nat.blt (0 + 1) nL) = true then _ else _) = _
  simp only [Bool.and_eq_true, Nat.blt_eq]
  rfl
theorem v_lstore_n1 {own : String} {b1 b2 : Bool} {nL : Nat} (pc : Nat) (lv st : List Value) (μ : eMem) (x : Int64) : eDen (sx := (own, b1, b2, nL)) (p_lstore_n pc 1) (lv, .long x :: st, μ) = if eOk lv 1 = true ∧ 1 + 1 < nL then some (none, ((lv.set 1 (.long x)).set (1 + 1) eJ, st, μ)) else none := by
  show (if (eOk lv 1 && Nat.blt (1 + 1) nL) = true then _ else _) = _
  simp only [Bool.and_eq_true, Nat.blt_eq]
  rfl
theorem v_lstore_n2 {own : String} {b1 b2 : Bool} {nL : Nat} (pc : Nat) (lv st : List Value) (μ : eMem) (x : Int64) : eDen (sx := (own, b1, b2, nL)) (p_lstore_n pc 2) (lv, .long x :: st, μ) = if eOk lv 2 = true ∧ 2 + 1 < nL then some (none, ((lv.set 2 (.long x)).set (2 + 1) eJ, st, μ)) else none := by
  show (if (eOk lv 2 && Nat.blt (2 + 1) nL) = true then _ else _) = _
  simp only [Bool.and_eq_true, Nat.blt_eq]
  rfl
theorem v_lstore_n3 {own : String} {b1 b2 : Bool} {nL : Nat} (pc : Nat) (lv st : List Value) (μ : eMem) (x : Int64) : eDen (sx := (own, b1, b2, nL)) (p_lstore_n pc 3) (lv, .long x :: st, μ) = if eOk lv 3 = true ∧ 3 + 1 < nL then some (none, ((lv.set 3 (.long x)).set (3 + 1) eJ, st, μ)) else none := by
  show (if (eOk lv 3 && Nat.blt (3 + 1) nL) = true then _ else _) = _
  simp only [Bool.and_eq_true, Nat.blt_eq]
  rfl
theorem v_lstore {own : String} {b1 b2 : Bool} {nL : Nat} (pc : Nat) (lv st : List Value) (μ : eMem) (x : Int64) (j : Nat) : eDen (sx := (own, b1, b2, nL)) (p_lstore pc j) (lv, .long x :: st, μ) = if eOk lv j = true ∧ j + 1 < nL then some (none, ((lv.set j (.long x)).set (j + 1) eJ, st, μ)) else none := by
  show (if (eOk lv j && Nat.blt (j + 1) nL) = true then _ else _) = _
  simp only [Bool.and_eq_true, Nat.blt_eq]
  rfl
theorem v_iinc {sx : eSx} (pc : Nat) (lv st : List Value) (μ : eMem) (j : Nat) (n : Int) : eDen (sx := sx) (p_iinc pc j n) (lv, st, μ) = vInc (eAt lv j) j n lv st μ := by
  show Option.bind (g_iinc j n _) _ = _
  unfold g_iinc vInc
  dsimp only
  cases eAt lv j with
  | int x =>
    show (if (eOk lv j && true) = true then _ else _) = _
    rw [Bool.and_true]
    rfl
  | _ => rfl
theorem v_if_eq {sx : eSx} (pc : Nat) (lv st : List Value) (μ : eMem) (off : Int) (T : Nat) (h : (pc : Int) + off = (T : Int)) (x : Int32) : eDen (sx := sx) (p_if_eq pc off T h) (lv, .int x :: st, μ) = if x = nI 0 then some (some (.inl T), (lv, st, μ)) else some (none, (lv, st, μ)) := by
  show some (if decide (x = nI 0) = true then _ else _, _) = _
  by_cases h9 : x = nI 0
  · rw [if_pos h9, if_pos (decide_eq_true h9)]
  · rw [if_neg h9, if_neg (by rw [decide_eq_true_eq]; exact h9)]
theorem v_if_ne {sx : eSx} (pc : Nat) (lv st : List Value) (μ : eMem) (off : Int) (T : Nat) (h : (pc : Int) + off = (T : Int)) (x : Int32) : eDen (sx := sx) (p_if_ne pc off T h) (lv, .int x :: st, μ) = if ¬ x = nI 0 then some (some (.inl T), (lv, st, μ)) else some (none, (lv, st, μ)) := by
  show some (if decide (¬ x = nI 0) = true then _ else _, _) = _
  by_cases h9 : ¬ x = nI 0
  · rw [if_pos h9, if_pos (decide_eq_true h9)]
  · rw [if_neg h9, if_neg (by rw [decide_eq_true_eq]; exact h9)]
theorem v_if_lt {sx : eSx} (pc : Nat) (lv st : List Value) (μ : eMem) (off : Int) (T : Nat) (h : (pc : Int) + off = (T : Int)) (x : Int32) : eDen (sx := sx) (p_if_lt pc off T h) (lv, .int x :: st, μ) = if x < nI 0 then some (some (.inl T), (lv, st, μ)) else some (none, (lv, st, μ)) := by
  show some (if decide (x < nI 0) = true then _ else _, _) = _
  by_cases h9 : x < nI 0
  · rw [if_pos h9, if_pos (decide_eq_true h9)]
  · rw [if_neg h9, if_neg (by rw [decide_eq_true_eq]; exact h9)]
theorem v_if_ge {sx : eSx} (pc : Nat) (lv st : List Value) (μ : eMem) (off : Int) (T : Nat) (h : (pc : Int) + off = (T : Int)) (x : Int32) : eDen (sx := sx) (p_if_ge pc off T h) (lv, .int x :: st, μ) = if nI 0 ≤ x then some (some (.inl T), (lv, st, μ)) else some (none, (lv, st, μ)) := by
  show some (if decide (nI 0 ≤ x) = true then _ else _, _) = _
  by_cases h9 : nI 0 ≤ x
  · rw [if_pos h9, if_pos (decide_eq_true h9)]
  · rw [if_neg h9, if_neg (by rw [decide_eq_true_eq]; exact h9)]
theorem v_if_gt {sx : eSx} (pc : Nat) (lv st : List Value) (μ : eMem) (off : Int) (T : Nat) (h : (pc : Int) + off = (T : Int)) (x : Int32) : eDen (sx := sx) (p_if_gt pc off T h) (lv, .int x :: st, μ) = if nI 0 < x then some (some (.inl T), (lv, st, μ)) else some (none, (lv, st, μ)) := by
  show some (if decide (nI 0 < x) = true then _ else _, _) = _
  by_cases h9 : nI 0 < x
  · rw [if_pos h9, if_pos (decide_eq_true h9)]
  · rw [if_neg h9, if_neg (by rw [decide_eq_true_eq]; exact h9)]
theorem v_if_le {sx : eSx} (pc : Nat) (lv st : List Value) (μ : eMem) (off : Int) (T : Nat) (h : (pc : Int) + off = (T : Int)) (x : Int32) : eDen (sx := sx) (p_if_le pc off T h) (lv, .int x :: st, μ) = if x ≤ nI 0 then some (some (.inl T), (lv, st, μ)) else some (none, (lv, st, μ)) := by
  show some (if decide (x ≤ nI 0) = true then _ else _, _) = _
  by_cases h9 : x ≤ nI 0
  · rw [if_pos h9, if_pos (decide_eq_true h9)]
  · rw [if_neg h9, if_neg (by rw [decide_eq_true_eq]; exact h9)]
theorem v_icmp_eq {sx : eSx} (pc : Nat) (lv st : List Value) (μ : eMem) (off : Int) (T : Nat) (h : (pc : Int) + off = (T : Int)) (y : Int32) (x : Int32) : eDen (sx := sx) (p_icmp_eq pc off T h) (lv, .int y :: .int x :: st, μ) = if x = y then some (some (.inl T), (lv, st, μ)) else some (none, (lv, st, μ)) := by
  show some (if decide (x = y) = true then _ else _, _) = _
  by_cases h9 : x = y
  · rw [if_pos h9, if_pos (decide_eq_true h9)]
  · rw [if_neg h9, if_neg (by rw [decide_eq_true_eq]; exact h9)]
theorem v_icmp_ne {sx : eSx} (pc : Nat) (lv st : List Value) (μ : eMem) (off : Int) (T : Nat) (h : (pc : Int) + off = (T : Int)) (y : Int32) (x : Int32) : eDen (sx := sx) (p_icmp_ne pc off T h) (lv, .int y :: .int x :: st, μ) = if ¬ x = y then some (some (.inl T), (lv, st, μ)) else some (none, (lv, st, μ)) := by
  show some (if decide (¬ x = y) = true then _ else _, _) = _
  by_cases h9 : ¬ x = y
  · rw [if_pos h9, if_pos (decide_eq_true h9)]
  · rw [if_neg h9, if_neg (by rw [decide_eq_true_eq]; exact h9)]
theorem v_icmp_lt {sx : eSx} (pc : Nat) (lv st : List Value) (μ : eMem) (off : Int) (T : Nat) (h : (pc : Int) + off = (T : Int)) (y : Int32) (x : Int32) : eDen (sx := sx) (p_icmp_lt pc off T h) (lv, .int y :: .int x :: st, μ) = if x < y then some (some (.inl T), (lv, st, μ)) else some (none, (lv, st, μ)) := by
  show some (if decide (x < y) = true then _ else _, _) = _
  by_cases h9 : x < y
  · rw [if_pos h9, if_pos (decide_eq_true h9)]
  · rw [if_neg h9, if_neg (by rw [decide_eq_true_eq]; exact h9)]
theorem v_icmp_ge {sx : eSx} (pc : Nat) (lv st : List Value) (μ : eMem) (off : Int) (T : Nat) (h : (pc : Int) + off = (T : Int)) (y : Int32) (x : Int32) : eDen (sx := sx) (p_icmp_ge pc off T h) (lv, .int y :: .int x :: st, μ) = if y ≤ x then some (some (.inl T), (lv, st, μ)) else some (none, (lv, st, μ)) := by
  show some (if decide (y ≤ x) = true then _ else _, _) = _
  by_cases h9 : y ≤ x
  · rw [if_pos h9, if_pos (decide_eq_true h9)]
  · rw [if_neg h9, if_neg (by rw [decide_eq_true_eq]; exact h9)]
theorem v_icmp_gt {sx : eSx} (pc : Nat) (lv st : List Value) (μ : eMem) (off : Int) (T : Nat) (h : (pc : Int) + off = (T : Int)) (y : Int32) (x : Int32) : eDen (sx := sx) (p_icmp_gt pc off T h) (lv, .int y :: .int x :: st, μ) = if y < x then some (some (.inl T), (lv, st, μ)) else some (none, (lv, st, μ)) := by
  show some (if decide (y < x) = true then _ else _, _) = _
  by_cases h9 : y < x
  · rw [if_pos h9, if_pos (decide_eq_true h9)]
  · rw [if_neg h9, if_neg (by rw [decide_eq_true_eq]; exact h9)]
theorem v_icmp_le {sx : eSx} (pc : Nat) (lv st : List Value) (μ : eMem) (off : Int) (T : Nat) (h : (pc : Int) + off = (T : Int)) (y : Int32) (x : Int32) : eDen (sx := sx) (p_icmp_le pc off T h) (lv, .int y :: .int x :: st, μ) = if x ≤ y then some (some (.inl T), (lv, st, μ)) else some (none, (lv, st, μ)) := by
  show some (if decide (x ≤ y) = true then _ else _, _) = _
  by_cases h9 : x ≤ y
  · rw [if_pos h9, if_pos (decide_eq_true h9)]
  · rw [if_neg h9, if_neg (by rw [decide_eq_true_eq]; exact h9)]
theorem v_ifnull0 {sx : eSx} (pc : Nat) (lv st : List Value) (μ : eMem) (off : Int) (T : Nat) (h : (pc : Int) + off = (T : Int)) : eDen (sx := sx) (p_ifnull pc off T h) (lv, .null :: st, μ) = some (some (.inl T), (lv, st, μ)) := id rfl
theorem v_ifnull1 {sx : eSx} (pc : Nat) (lv st : List Value) (μ : eMem) (off : Int) (T : Nat) (h : (pc : Int) + off = (T : Int)) (x : Nat) : eDen (sx := sx) (p_ifnull pc off T h) (lv, .ref x :: st, μ) = some (none, (lv, st, μ)) := id rfl
theorem v_ifnonnull0 {sx : eSx} (pc : Nat) (lv st : List Value) (μ : eMem) (off : Int) (T : Nat) (h : (pc : Int) + off = (T : Int)) : eDen (sx := sx) (p_ifnonnull pc off T h) (lv, .null :: st, μ) = some (none, (lv, st, μ)) := id rfl
theorem v_ifnonnull1 {sx : eSx} (pc : Nat) (lv st : List Value) (μ : eMem) (off : Int) (T : Nat) (h : (pc : Int) + off = (T : Int)) (x : Nat) : eDen (sx := sx) (p_ifnonnull pc off T h) (lv, .ref x :: st, μ) = some (some (.inl T), (lv, st, μ)) := id rfl
theorem v_goto {sx : eSx} (pc : Nat) (lv st : List Value) (μ : eMem) (off : Int) (T : Nat) (h : (pc : Int) + off = (T : Int)) : eDen (sx := sx) (p_goto pc off T h) (lv, st, μ) = some (some (.inl T), (lv, st, μ)) := id rfl
theorem v_acmp {sx : eSx} (pc : Nat) (lv st : List Value) (μ : eMem) (off : Int) (T : Nat) (h : (pc : Int) + off = (T : Int)) (x y : Value) : eDen (sx := sx) (p_acmpne pc off T h) (lv, y :: x :: st, μ) = match eEq x y with | some q => some (if q = true then none else some (.inl T), (lv, st, μ)) | none => none := by
  show Option.map _ (Option.map _ (eEq x y)) = _
  cases eEq x y with
  | none => rfl
  | some q => cases q <;> rfl
theorem v_ireturn {sx : eSx} (pc stop : Nat) (lv : List Value) (μ : eMem) (x : Int32) : eDen (sx := sx) (p_ireturn pc stop) (lv, [.int x], μ) = some (some (.inr (.inl (some (.int x)))), (lv, [.int x], μ)) := id rfl
theorem v_lreturn {sx : eSx} (pc stop : Nat) (lv : List Value) (μ : eMem) (x : Int64) : eDen (sx := sx) (p_lreturn pc stop) (lv, [.long x], μ) = some (some (.inr (.inl (some (.long x)))), (lv, [.long x], μ)) := id rfl
theorem v_areturn {sx : eSx} (pc stop : Nat) (lv : List Value) (μ : eMem) (x : Nat) : eDen (sx := sx) (p_areturn pc stop) (lv, [.ref x], μ) = some (some (.inr (.inl (some (.ref x)))), (lv, [.ref x], μ)) := id rfl
theorem v_areturn0 {sx : eSx} (pc stop : Nat) (lv : List Value) (μ : eMem) : eDen (sx := sx) (p_areturn pc stop) (lv, [.null], μ) = some (some (.inr (.inl (some .null))), (lv, [.null], μ)) := id rfl
theorem v_return {sx : eSx} (pc stop : Nat) (lv : List Value) (μ : eMem) : eDen (sx := sx) (p_return pc stop) (lv, [], μ) = some (some (.inr (.inl none)), (lv, [], μ)) := id rfl
theorem v_throw {sx : eSx} (pc stop ik is ic sa : Nat) (X tx : String) (names : List String) (h1 : sx.2.2.1 = false) (h2 : eTh sx.1 ik ic X names) (h3 : (sx.1, is, tx, sa) ∈ eXs) (lv st : List Value) (μ : eMem) : eDen (sx := sx) (p_throw pc stop ik is ic sa X tx names h1 h2 h3) (lv, st, μ) = if eCs st ≤ 8 then some (some (.inr (.inr X)), (lv, st, eTM μ)) else none := id rfl
theorem v_throwW {sx : eSx} (pc stop ik is ic sa : Nat) (X tx : String) (names : List String) (h1 : sx.2.2.1 = false) (h2 : eTh sx.1 ik ic X names) (h3 : (sx.1, is, tx, sa) ∈ eXs) (lv st : List Value) (μ : eMem) : eDen (sx := sx) (p_throwW pc stop ik is ic sa X tx names h1 h2 h3) (lv, st, μ) = if eCs st ≤ 8 then some (some (.inr (.inr X)), (lv, st, eTM μ)) else none := id rfl
theorem v_table {sx : eSx} (pc len stop : Nat) (lo dflt : Int) (offs : List Int) (h : 0 ≤ (pc : Int) + dflt ∧ ∀ o ∈ offs, 0 ≤ (pc : Int) + o) (lv st : List Value) (μ : eMem) (x : Int32) : eDen (sx := sx) (p_table pc len stop lo dflt offs h) (lv, .int x :: st, μ) = some (some (.inl (eTgt pc x.toInt lo dflt offs)), (lv, st, μ)) := id rfl
theorem v_cs0 : eCs [] = 0 := id rfl
theorem v_csi (x : Int32) (l : List Value) : eCs (.int x :: l) = 1 + eCs l := by
  unfold eCs
  rw [List.map_cons, List.sum_cons]
  rfl
theorem v_csl (x : Int64) (l : List Value) : eCs (.long x :: l) = 2 + eCs l := by
  unfold eCs
  rw [List.map_cons, List.sum_cons]
  rfl
theorem v_csr (x : Nat) (l : List Value) : eCs (.ref x :: l) = 1 + eCs l := by
  unfold eCs
  rw [List.map_cons, List.sum_cons]
  rfl
def eAns (r : Option ((Option Value ⊕ String) × eMem)) (lv st : List Value) : eRes := match r with
  | some (.inl v, μ) => some (none, (lv, v.toList ++ st, μ))
  | _ => none
theorem v_an0 (μ : eMem) (lv st : List Value) : eAns (some (.inl none, μ)) lv st = some (none, (lv, st, μ)) := id rfl
theorem v_an1 (v : Value) (μ : eMem) (lv st : List Value) : eAns (some (.inl (some v), μ)) lv st = some (none, (lv, v :: st, μ)) := id rfl
theorem v_ani (c : Prop) [Decidable c] (a b : Option ((Option Value ⊕ String) × eMem)) (lv st : List Value) : eAns (if c then a else b) lv st = if c then eAns a lv st else eAns b lv st := by split <;> rfl
theorem v_call0 {sx : eSx} (pc : Nat) (i : Instr) (ok : List Value → eMem → Bool) (M : eMt) (h : eLnk sx M.1 pc 0 i ok) (lv st : List Value) (μ : eMem) : eDen (sx := sx) (p_call pc 0 i ok M h) (lv, st, μ) = if ok [] μ = true ∧ eCs st ≤ 8 then eAns (eCall M [] μ) lv st else none := by
  show eCaR (eCa M.1 0 ok _) lv = _
  unfold eCa
  have e1 : (List.take 0 (st)).reverse = [] := rfl
  have e2 : List.drop 0 (st) = st := rfl
  rw [e1, e2]
  by_cases h9 : ok [] μ = true ∧ eCs st ≤ 8
  · rw [if_pos h9, if_pos ⟨by show _ ≤ List.length _; simp, h9⟩]
    unfold eCall eAns
    cases M.1.2.2.2.2.2 [] μ with
    | none => rfl
    | some q => obtain ⟨r, μ'⟩ := q; cases r <;> rfl
  · rw [if_neg h9, if_neg (fun z => h9 z.2)]
    rfl
theorem v_call1 {sx : eSx} (pc : Nat) (i : Instr) (ok : List Value → eMem → Bool) (M : eMt) (h : eLnk sx M.1 pc 1 i ok) (lv st : List Value) (μ : eMem) (a0 : Value) : eDen (sx := sx) (p_call pc 1 i ok M h) (lv, a0 :: st, μ) = if ok [a0] μ = true ∧ eCs st ≤ 8 then eAns (eCall M [a0] μ) lv st else none := by
  show eCaR (eCa M.1 1 ok _) lv = _
  unfold eCa
  have e1 : (List.take 1 (a0 :: st)).reverse = [a0] := rfl
  have e2 : List.drop 1 (a0 :: st) = st := rfl
  rw [e1, e2]
  by_cases h9 : ok [a0] μ = true ∧ eCs st ≤ 8
  · rw [if_pos h9, if_pos ⟨by show _ ≤ List.length _; simp, h9⟩]
    unfold eCall eAns
    cases M.1.2.2.2.2.2 [a0] μ with
    | none => rfl
    | some q => obtain ⟨r, μ'⟩ := q; cases r <;> rfl
  · rw [if_neg h9, if_neg (fun z => h9 z.2)]
    rfl
theorem v_call2 {sx : eSx} (pc : Nat) (i : Instr) (ok : List Value → eMem → Bool) (M : eMt) (h : eLnk sx M.1 pc 2 i ok) (lv st : List Value) (μ : eMem) (a0 a1 : Value) : eDen (sx := sx) (p_call pc 2 i ok M h) (lv, a1 :: a0 :: st, μ) = if ok [a0, a1] μ = true ∧ eCs st ≤ 8 then eAns (eCall M [a0, a1] μ) lv st else none := by
  show eCaR (eCa M.1 2 ok _) lv = _
  unfold eCa
  have e1 : (List.take 2 (a1 :: a0 :: st)).reverse = [a0, a1] := rfl
  have e2 : List.drop 2 (a1 :: a0 :: st) = st := rfl
  rw [e1, e2]
  by_cases h9 : ok [a0, a1] μ = true ∧ eCs st ≤ 8
  · rw [if_pos h9, if_pos ⟨by show _ ≤ List.length _; simp, h9⟩]
    unfold eCall eAns
    cases M.1.2.2.2.2.2 [a0, a1] μ with
    | none => rfl
    | some q => obtain ⟨r, μ'⟩ := q; cases r <;> rfl
  · rw [if_neg h9, if_neg (fun z => h9 z.2)]
    rfl
theorem v_call3 {sx : eSx} (pc : Nat) (i : Instr) (ok : List Value → eMem → Bool) (M : eMt) (h : eLnk sx M.1 pc 3 i ok) (lv st : List Value) (μ : eMem) (a0 a1 a2 : Value) : eDen (sx := sx) (p_call pc 3 i ok M h) (lv, a2 :: a1 :: a0 :: st, μ) = if ok [a0, a1, a2] μ = true ∧ eCs st ≤ 8 then eAns (eCall M [a0, a1, a2] μ) lv st else none := by
  show eCaR (eCa M.1 3 ok _) lv = _
  unfold eCa
  have e1 : (List.take 3 (a2 :: a1 :: a0 :: st)).reverse = [a0, a1, a2] := rfl
  have e2 : List.drop 3 (a2 :: a1 :: a0 :: st) = st := rfl
  rw [e1, e2]
  by_cases h9 : ok [a0, a1, a2] μ = true ∧ eCs st ≤ 8
  · rw [if_pos h9, if_pos ⟨by show _ ≤ List.length _; simp, h9⟩]
    unfold eCall eAns
    cases M.1.2.2.2.2.2 [a0, a1, a2] μ with
    | none => rfl
    | some q => obtain ⟨r, μ'⟩ := q; cases r <;> rfl
  · rw [if_neg h9, if_neg (fun z => h9 z.2)]
    rfl
theorem v_call4 {sx : eSx} (pc : Nat) (i : Instr) (ok : List Value → eMem → Bool) (M : eMt) (h : eLnk sx M.1 pc 4 i ok) (lv st : List Value) (μ : eMem) (a0 a1 a2 a3 : Value) : eDen (sx := sx) (p_call pc 4 i ok M h) (lv, a3 :: a2 :: a1 :: a0 :: st, μ) = if ok [a0, a1, a2, a3] μ = true ∧ eCs st ≤ 8 then eAns (eCall M [a0, a1, a2, a3] μ) lv st else none := by
  show eCaR (eCa M.1 4 ok _) lv = _
  unfold eCa
  have e1 : (List.take 4 (a3 :: a2 :: a1 :: a0 :: st)).reverse = [a0, a1, a2, a3] := rfl
  have e2 : List.drop 4 (a3 :: a2 :: a1 :: a0 :: st) = st := rfl
  rw [e1, e2]
  by_cases h9 : ok [a0, a1, a2, a3] μ = true ∧ eCs st ≤ 8
  · rw [if_pos h9, if_pos ⟨by show _ ≤ List.length _; simp, h9⟩]
    unfold eCall eAns
    cases M.1.2.2.2.2.2 [a0, a1, a2, a3] μ with
    | none => rfl
    | some q => obtain ⟨r, μ'⟩ := q; cases r <;> rfl
  · rw [if_neg h9, if_neg (fun z => h9 z.2)]
    rfl
theorem v_call5 {sx : eSx} (pc : Nat) (i : Instr) (ok : List Value → eMem → Bool) (M : eMt) (h : eLnk sx M.1 pc 5 i ok) (lv st : List Value) (μ : eMem) (a0 a1 a2 a3 a4 : Value) : eDen (sx := sx) (p_call pc 5 i ok M h) (lv, a4 :: a3 :: a2 :: a1 :: a0 :: st, μ) = if ok [a0, a1, a2, a3, a4] μ = true ∧ eCs st ≤ 8 then eAns (eCall M [a0, a1, a2, a3, a4] μ) lv st else none := by
  show eCaR (eCa M.1 5 ok _) lv = _
  unfold eCa
  have e1 : (List.take 5 (a4 :: a3 :: a2 :: a1 :: a0 :: st)).reverse = [a0, a1, a2, a3, a4] := rfl
  have e2 : List.drop 5 (a4 :: a3 :: a2 :: a1 :: a0 :: st) = st := rfl
  rw [e1, e2]
  by_cases h9 : ok [a0, a1, a2, a3, a4] μ = true ∧ eCs st ≤ 8
  · rw [if_pos h9, if_pos ⟨by show _ ≤ List.length _; simp, h9⟩]
    unfold eCall eAns
    cases M.1.2.2.2.2.2 [a0, a1, a2, a3, a4] μ with
    | none => rfl
    | some q => obtain ⟨r, μ'⟩ := q; cases r <;> rfl
  · rw [if_neg h9, if_neg (fun z => h9 z.2)]
    rfl
theorem v_call6 {sx : eSx} (pc : Nat) (i : Instr) (ok : List Value → eMem → Bool) (M : eMt) (h : eLnk sx M.1 pc 6 i ok) (lv st : List Value) (μ : eMem) (a0 a1 a2 a3 a4 a5 : Value) : eDen (sx := sx) (p_call pc 6 i ok M h) (lv, a5 :: a4 :: a3 :: a2 :: a1 :: a0 :: st, μ) = if ok [a0, a1, a2, a3, a4, a5] μ = true ∧ eCs st ≤ 8 then eAns (eCall M [a0, a1, a2, a3, a4, a5] μ) lv st else none := by
  show eCaR (eCa M.1 6 ok _) lv = _
  unfold eCa
  have e1 : (List.take 6 (a5 :: a4 :: a3 :: a2 :: a1 :: a0 :: st)).reverse = [a0, a1, a2, a3, a4, a5] := rfl
  have e2 : List.drop 6 (a5 :: a4 :: a3 :: a2 :: a1 :: a0 :: st) = st := rfl
  rw [e1, e2]
  by_cases h9 : ok [a0, a1, a2, a3, a4, a5] μ = true ∧ eCs st ≤ 8
  · rw [if_pos h9, if_pos ⟨by show _ ≤ List.length _; simp, h9⟩]
    unfold eCall eAns
    cases M.1.2.2.2.2.2 [a0, a1, a2, a3, a4, a5] μ with
    | none => rfl
    | some q => obtain ⟨r, μ'⟩ := q; cases r <;> rfl
  · rw [if_neg h9, if_neg (fun z => h9 z.2)]
    rfl
theorem v_call7 {sx : eSx} (pc : Nat) (i : Instr) (ok : List Value → eMem → Bool) (M : eMt) (h : eLnk sx M.1 pc 7 i ok) (lv st : List Value) (μ : eMem) (a0 a1 a2 a3 a4 a5 a6 : Value) : eDen (sx := sx) (p_call pc 7 i ok M h) (lv, a6 :: a5 :: a4 :: a3 :: a2 :: a1 :: a0 :: st, μ) = if ok [a0, a1, a2, a3, a4, a5, a6] μ = true ∧ eCs st ≤ 8 then eAns (eCall M [a0, a1, a2, a3, a4, a5, a6] μ) lv st else none := by
  show eCaR (eCa M.1 7 ok _) lv = _
  unfold eCa
  have e1 : (List.take 7 (a6 :: a5 :: a4 :: a3 :: a2 :: a1 :: a0 :: st)).reverse = [a0, a1, a2, a3, a4, a5, a6] := rfl
  have e2 : List.drop 7 (a6 :: a5 :: a4 :: a3 :: a2 :: a1 :: a0 :: st) = st := rfl
  rw [e1, e2]
  by_cases h9 : ok [a0, a1, a2, a3, a4, a5, a6] μ = true ∧ eCs st ≤ 8
  · rw [if_pos h9, if_pos ⟨by show _ ≤ List.length _; simp, h9⟩]
    unfold eCall eAns
    cases M.1.2.2.2.2.2 [a0, a1, a2, a3, a4, a5, a6] μ with
    | none => rfl
    | some q => obtain ⟨r, μ'⟩ := q; cases r <;> rfl
  · rw [if_neg h9, if_neg (fun z => h9 z.2)]
    rfl
theorem v_rS (a : List Value) (μ : eMem) : (fun (_ : List Value) (_ : eMem) => true) a μ = true := id rfl
theorem v_rI (a : Nat) (l : List Value) (μ : eMem) : eRcvI (.ref a :: l) μ = true := id rfl
theorem v_fin (ret : Option FieldType) (v : Option Value) (σ : eSt) : eFin ret (some (some (.inr (.inl v)), σ)) = if eRetOK ret v = true then some (.inl v, σ.2.2) else none := id rfl
theorem v_finX (ret : Option FieldType) (X : String) (σ : eSt) : eFin ret (some (some (.inr (.inr X)), σ)) = some (.inr X, σ.2.2) := id rfl
theorem v_fini (ret : Option FieldType) (c : Prop) [Decidable c] (a b : eRes) : eFin ret (if c then a else b) = if c then eFin ret a else eFin ret b := by split <;> rfl
theorem v_ro0 : eRetOK none none = true := id rfl
theorem v_roi (x : Int32) : eRetOK (some .int) (some (.int x)) = true := id rfl
theorem v_rol (x : Int64) : eRetOK (some .long) (some (.long x)) = true := id rfl
theorem v_rob0 : eRetOK (some .boolean) (some (.int (nI 0))) = true := id rfl
theorem v_rob1 : eRetOK (some .boolean) (some (.int (nI 1))) = true := id rfl
theorem v_roo (C : String) (x : Nat) : eRetOK (some (.object C)) (some (.ref x)) = true := id rfl
theorem v_roon (C : String) : eRetOK (some (.object C)) (some .null) = true := id rfl
theorem v_kbm99 : (Int8.ofInt (-99)).toInt32 = -nI 99 := by decide
theorem v_kbm64 : (Int8.ofInt (-64)).toInt32 = -nI 64 := by decide
theorem v_kbm8 : (Int8.ofInt (-8)).toInt32 = -nI 8 := by decide
theorem v_kbm5 : (Int8.ofInt (-5)).toInt32 = -nI 5 := by decide
theorem v_kb6 : (Int8.ofInt (6)).toInt32 = nI 6 := by decide
theorem v_kb7 : (Int8.ofInt (7)).toInt32 = nI 7 := by decide
theorem v_kb8 : (Int8.ofInt (8)).toInt32 = nI 8 := by decide
theorem v_kb9 : (Int8.ofInt (9)).toInt32 = nI 9 := by decide
theorem v_kb10 : (Int8.ofInt (10)).toInt32 = nI 10 := by decide
theorem v_kb12 : (Int8.ofInt (12)).toInt32 = nI 12 := by decide
theorem v_kb14 : (Int8.ofInt (14)).toInt32 = nI 14 := by decide
theorem v_kb19 : (Int8.ofInt (19)).toInt32 = nI 19 := by decide
theorem v_kb20 : (Int8.ofInt (20)).toInt32 = nI 20 := by decide
theorem v_kb24 : (Int8.ofInt (24)).toInt32 = nI 24 := by decide
theorem v_kb25 : (Int8.ofInt (25)).toInt32 = nI 25 := by decide
theorem v_kb30 : (Int8.ofInt (30)).toInt32 = nI 30 := by decide
theorem v_kb31 : (Int8.ofInt (31)).toInt32 = nI 31 := by decide
theorem v_kb32 : (Int8.ofInt (32)).toInt32 = nI 32 := by decide
theorem v_kb37 : (Int8.ofInt (37)).toInt32 = nI 37 := by decide
theorem v_kb40 : (Int8.ofInt (40)).toInt32 = nI 40 := by decide
theorem v_kb41 : (Int8.ofInt (41)).toInt32 = nI 41 := by decide
theorem v_kb45 : (Int8.ofInt (45)).toInt32 = nI 45 := by decide
theorem v_kb48 : (Int8.ofInt (48)).toInt32 = nI 48 := by decide
theorem v_kb50 : (Int8.ofInt (50)).toInt32 = nI 50 := by decide
theorem v_kb57 : (Int8.ofInt (57)).toInt32 = nI 57 := by decide
theorem v_kb59 : (Int8.ofInt (59)).toInt32 = nI 59 := by decide
theorem v_kb60 : (Int8.ofInt (60)).toInt32 = nI 60 := by decide
theorem v_kb63 : (Int8.ofInt (63)).toInt32 = nI 63 := by decide
theorem v_kb64 : (Int8.ofInt (64)).toInt32 = nI 64 := by decide
theorem v_kb97 : (Int8.ofInt (97)).toInt32 = nI 97 := by decide
theorem v_kb99 : (Int8.ofInt (99)).toInt32 = nI 99 := by decide
theorem v_kb112 : (Int8.ofInt (112)).toInt32 = nI 112 := by decide
theorem v_kb114 : (Int8.ofInt (114)).toInt32 = nI 114 := by decide
theorem v_kb122 : (Int8.ofInt (122)).toInt32 = nI 122 := by decide
theorem v_kim8 : Int32.ofInt (-8) = -nI 8 := by decide
theorem v_kim1 : Int32.ofInt (-1) = -nI 1 := by decide
theorem v_ki0 : Int32.ofInt (0) = nI 0 := by decide
theorem v_ki1 : Int32.ofInt (1) = nI 1 := by decide
theorem v_ki2 : Int32.ofInt (2) = nI 2 := by decide
theorem v_ki3 : Int32.ofInt (3) = nI 3 := by decide
theorem v_ki4 : Int32.ofInt (4) = nI 4 := by decide
theorem v_ki5 : Int32.ofInt (5) = nI 5 := by decide
theorem v_ksm9999 : (Int16.ofInt (-9999)).toInt32 = -nI 9999 := by decide
theorem v_ksm256 : (Int16.ofInt (-256)).toInt32 = -nI 256 := by decide
theorem v_ks128 : (Int16.ofInt (128)).toInt32 = nI 128 := by decide
theorem v_ks199 : (Int16.ofInt (199)).toInt32 = nI 199 := by decide
theorem v_ks200 : (Int16.ofInt (200)).toInt32 = nI 200 := by decide
theorem v_ks255 : (Int16.ofInt (255)).toInt32 = nI 255 := by decide
theorem v_ks256 : (Int16.ofInt (256)).toInt32 = nI 256 := by decide
theorem v_ks400 : (Int16.ofInt (400)).toInt32 = nI 400 := by decide
theorem v_ks457 : (Int16.ofInt (457)).toInt32 = nI 457 := by decide
theorem v_ks1000 : (Int16.ofInt (1000)).toInt32 = nI 1000 := by decide
theorem v_ks1024 : (Int16.ofInt (1024)).toInt32 = nI 1024 := by decide
theorem v_ks2742 : (Int16.ofInt (2742)).toInt32 = nI 2742 := by decide
theorem v_ks9999 : (Int16.ofInt (9999)).toInt32 = nI 9999 := by decide
theorem v_ks10000 : (Int16.ofInt (10000)).toInt32 = nI 10000 := by decide
def vLd (q : Option Nat) (f : Nat → Value) (lv st : List Value) (μ : eMem) : eRes := match q with
  | some j => some (none, (lv, f j :: st, μ))
  | none => none
def vSt (q : Option Nat) (f : Nat → eMem) (lv st : List Value) : eRes := match q with
  | some j => some (none, (lv, st, f j))
  | none => none
theorem v_ld (j : Nat) (f : Nat → Value) (lv st : List Value) (μ : eMem) : vLd (some j) f lv st μ = some (none, (lv, f j :: st, μ)) := id rfl
theorem v_st (j : Nat) (f : Nat → eMem) (lv st : List Value) : vSt (some j) f lv st = some (none, (lv, st, f j)) := id rfl
theorem ix {j N : Nat} (h : j < N) (hN : N < 2147483648) : eIx (nI j) N = some j := by
  unfold eIx
  rw [if_neg (nI_in h hN), nI_clamp (by omega)]
theorem eCut {I : Nat → Nat → Int32} {o j : Nat} {x : Int32} : va_up I o (upd (I o) j x) = si I o j x := rfl
theorem G_0_0 {sx : eSx} (pc idx : Nat) (h : eFld sx.1 idx 10 0) (lv st : List Value) (t : Nat × Nat × Bool) (I : Nat → Nat → Int32) (L : Nat → Nat → Int64) (V : Nat → Option Nat) : eDen (sx := sx) (p_get pc idx 10 0 h) (lv, .ref 0 :: st, mM t I L V) = some (none, (lv, .ref 1 :: st, mM t I L V)) := id rfl
theorem G_0_1 {sx : eSx} (pc idx : Nat) (h : eFld sx.1 idx 10 1) (lv st : List Value) (t : Nat × Nat × Bool) (I : Nat → Nat → Int32) (L : Nat → Nat → Int64) (V : Nat → Option Nat) : eDen (sx := sx) (p_get pc idx 10 1 h) (lv, .ref 0 :: st, mM t I L V) = some (none, (lv, .ref 20 :: st, mM t I L V)) := id rfl
theorem G_0_2 {sx : eSx} (pc idx : Nat) (h : eFld sx.1 idx 10 2) (lv st : List Value) (t : Nat × Nat × Bool) (I : Nat → Nat → Int32) (L : Nat → Nat → Int64) (V : Nat → Option Nat) : eDen (sx := sx) (p_get pc idx 10 2 h) (lv, .ref 0 :: st, mM t I L V) = some (none, (lv, .ref 39 :: st, mM t I L V)) := id rfl
theorem G_0_3 {sx : eSx} (pc idx : Nat) (h : eFld sx.1 idx 10 3) (lv st : List Value) (t : Nat × Nat × Bool) (I : Nat → Nat → Int32) (L : Nat → Nat → Int64) (V : Nat → Option Nat) : eDen (sx := sx) (p_get pc idx 10 3 h) (lv, .ref 0 :: st, mM t I L V) = some (none, (lv, .int (I 0 3) :: st, mM t I L V)) := id rfl
theorem P_0_3 {sx : eSx} (pc idx : Nat) (h : eFld sx.1 idx 10 3) (h2 : ((eClT 10 3).2.2.2 = false ∨ ((eClT 10 3).2.2.2 = true ∧ sx.2.1 = true ∧ (eClT 10 3).1 = sx.1))) (lv st : List Value) (t : Nat × Nat × Bool) (I : Nat → Nat → Int32) (L : Nat → Nat → Int64) (V : Nat → Option Nat) (x : Int32) : eDen (sx := sx) (p_put pc idx 10 3 h h2) (lv, .int x :: .ref 0 :: st, mM t I L V) = if x = 0 ∨ x = 1 then some (none, (lv, st, mM t (si I 0 3 x) L V)) else none := by
  show Option.map _ (Option.map _ (if x = 0 ∨ x = 1 then _ else none)) = _
  split <;> rfl
theorem G_0_4 {sx : eSx} (pc idx : Nat) (h : eFld sx.1 idx 10 4) (lv st : List Value) (t : Nat × Nat × Bool) (I : Nat → Nat → Int32) (L : Nat → Nat → Int64) (V : Nat → Option Nat) : eDen (sx := sx) (p_get pc idx 10 4 h) (lv, .ref 0 :: st, mM t I L V) = some (none, (lv, .ref 58 :: st, mM t I L V)) := id rfl
theorem G_0_5 {sx : eSx} (pc idx : Nat) (h : eFld sx.1 idx 10 5) (lv st : List Value) (t : Nat × Nat × Bool) (I : Nat → Nat → Int32) (L : Nat → Nat → Int64) (V : Nat → Option Nat) : eDen (sx := sx) (p_get pc idx 10 5 h) (lv, .ref 0 :: st, mM t I L V) = some (none, (lv, .int (I 0 5) :: st, mM t I L V)) := id rfl
theorem P_0_5 {sx : eSx} (pc idx : Nat) (h : eFld sx.1 idx 10 5) (h2 : ((eClT 10 5).2.2.2 = false ∨ ((eClT 10 5).2.2.2 = true ∧ sx.2.1 = true ∧ (eClT 10 5).1 = sx.1))) (lv st : List Value) (t : Nat × Nat × Bool) (I : Nat → Nat → Int32) (L : Nat → Nat → Int64) (V : Nat → Option Nat) (x : Int32) : eDen (sx := sx) (p_put pc idx 10 5 h h2) (lv, .int x :: .ref 0 :: st, mM t I L V) = some (none, (lv, st, mM t (si I 0 5 x) L V)) := id rfl
theorem G_0_6 {sx : eSx} (pc idx : Nat) (h : eFld sx.1 idx 10 6) (lv st : List Value) (t : Nat × Nat × Bool) (I : Nat → Nat → Int32) (L : Nat → Nat → Int64) (V : Nat → Option Nat) : eDen (sx := sx) (p_get pc idx 10 6 h) (lv, .ref 0 :: st, mM t I L V) = some (none, (lv, .int (I 0 6) :: st, mM t I L V)) := id rfl
theorem P_0_6 {sx : eSx} (pc idx : Nat) (h : eFld sx.1 idx 10 6) (h2 : ((eClT 10 6).2.2.2 = false ∨ ((eClT 10 6).2.2.2 = true ∧ sx.2.1 = true ∧ (eClT 10 6).1 = sx.1))) (lv st : List Value) (t : Nat × Nat × Bool) (I : Nat → Nat → Int32) (L : Nat → Nat → Int64) (V : Nat → Option Nat) (x : Int32) : eDen (sx := sx) (p_put pc idx 10 6 h h2) (lv, .int x :: .ref 0 :: st, mM t I L V) = some (none, (lv, st, mM t (si I 0 6 x) L V)) := id rfl
theorem G_0_7 {sx : eSx} (pc idx : Nat) (h : eFld sx.1 idx 10 7) (lv st : List Value) (t : Nat × Nat × Bool) (I : Nat → Nat → Int32) (L : Nat → Nat → Int64) (V : Nat → Option Nat) : eDen (sx := sx) (p_get pc idx 10 7 h) (lv, .ref 0 :: st, mM t I L V) = some (none, (lv, .ref 59 :: st, mM t I L V)) := id rfl
theorem G_0_8 {sx : eSx} (pc idx : Nat) (h : eFld sx.1 idx 10 8) (lv st : List Value) (t : Nat × Nat × Bool) (I : Nat → Nat → Int32) (L : Nat → Nat → Int64) (V : Nat → Option Nat) : eDen (sx := sx) (p_get pc idx 10 8 h) (lv, .ref 0 :: st, mM t I L V) = some (none, (lv, .ref 63 :: st, mM t I L V)) := id rfl
theorem G_0_9 {sx : eSx} (pc idx : Nat) (h : eFld sx.1 idx 10 9) (lv st : List Value) (t : Nat × Nat × Bool) (I : Nat → Nat → Int32) (L : Nat → Nat → Int64) (V : Nat → Option Nat) : eDen (sx := sx) (p_get pc idx 10 9 h) (lv, .ref 0 :: st, mM t I L V) = some (none, (lv, .ref 64 :: st, mM t I L V)) := id rfl
theorem G_0_10 {sx : eSx} (pc idx : Nat) (h : eFld sx.1 idx 10 10) (lv st : List Value) (t : Nat × Nat × Bool) (I : Nat → Nat → Int32) (L : Nat → Nat → Int64) (V : Nat → Option Nat) : eDen (sx := sx) (p_get pc idx 10 10 h) (lv, .ref 0 :: st, mM t I L V) = some (none, (lv, .ref 65 :: st, mM t I L V)) := id rfl
theorem G_0_11 {sx : eSx} (pc idx : Nat) (h : eFld sx.1 idx 10 11) (lv st : List Value) (t : Nat × Nat × Bool) (I : Nat → Nat → Int32) (L : Nat → Nat → Int64) (V : Nat → Option Nat) : eDen (sx := sx) (p_get pc idx 10 11 h) (lv, .ref 0 :: st, mM t I L V) = some (none, (lv, .ref 67 :: st, mM t I L V)) := id rfl
theorem G_0_12 {sx : eSx} (pc idx : Nat) (h : eFld sx.1 idx 10 12) (lv st : List Value) (t : Nat × Nat × Bool) (I : Nat → Nat → Int32) (L : Nat → Nat → Int64) (V : Nat → Option Nat) : eDen (sx := sx) (p_get pc idx 10 12 h) (lv, .ref 0 :: st, mM t I L V) = some (none, (lv, .ref 68 :: st, mM t I L V)) := id rfl
theorem G_0_13 {sx : eSx} (pc idx : Nat) (h : eFld sx.1 idx 10 13) (lv st : List Value) (t : Nat × Nat × Bool) (I : Nat → Nat → Int32) (L : Nat → Nat → Int64) (V : Nat → Option Nat) : eDen (sx := sx) (p_get pc idx 10 13 h) (lv, .ref 0 :: st, mM t I L V) = some (none, (lv, .ref 74 :: st, mM t I L V)) := id rfl
theorem G_0_14 {sx : eSx} (pc idx : Nat) (h : eFld sx.1 idx 10 14) (lv st : List Value) (t : Nat × Nat × Bool) (I : Nat → Nat → Int32) (L : Nat → Nat → Int64) (V : Nat → Option Nat) : eDen (sx := sx) (p_get pc idx 10 14 h) (lv, .ref 0 :: st, mM t I L V) = some (none, (lv, .int (I 0 14) :: st, mM t I L V)) := id rfl
theorem P_0_14 {sx : eSx} (pc idx : Nat) (h : eFld sx.1 idx 10 14) (h2 : ((eClT 10 14).2.2.2 = false ∨ ((eClT 10 14).2.2.2 = true ∧ sx.2.1 = true ∧ (eClT 10 14).1 = sx.1))) (lv st : List Value) (t : Nat × Nat × Bool) (I : Nat → Nat → Int32) (L : Nat → Nat → Int64) (V : Nat → Option Nat) (x : Int32) : eDen (sx := sx) (p_put pc idx 10 14 h h2) (lv, .int x :: .ref 0 :: st, mM t I L V) = some (none, (lv, st, mM t (si I 0 14 x) L V)) := id rfl
theorem R_0 (l : List Value) (t : Nat × Nat × Bool) (I : Nat → Nat → Int32) (L : Nat → Nat → Int64) (V : Nat → Option Nat) : eRcv 10 (.ref 0 :: l) (mM t I L V) = true := id rfl
theorem G_1_0 {sx : eSx} (pc idx : Nat) (h : eFld sx.1 idx 6 0) (lv st : List Value) (t : Nat × Nat × Bool) (I : Nat → Nat → Int32) (L : Nat → Nat → Int64) (V : Nat → Option Nat) : eDen (sx := sx) (p_get pc idx 6 0 h) (lv, .ref 1 :: st, mM t I L V) = some (none, (lv, .ref 2 :: st, mM t I L V)) := id rfl
theorem G_1_1 {sx : eSx} (pc idx : Nat) (h : eFld sx.1 idx 6 1) (lv st : List Value) (t : Nat × Nat × Bool) (I : Nat → Nat → Int32) (L : Nat → Nat → Int64) (V : Nat → Option Nat) : eDen (sx := sx) (p_get pc idx 6 1 h) (lv, .ref 1 :: st, mM t I L V) = some (none, (lv, .ref 4 :: st, mM t I L V)) := id rfl
theorem G_1_2 {sx : eSx} (pc idx : Nat) (h : eFld sx.1 idx 6 2) (lv st : List Value) (t : Nat × Nat × Bool) (I : Nat → Nat → Int32) (L : Nat → Nat → Int64) (V : Nat → Option Nat) : eDen (sx := sx) (p_get pc idx 6 2 h) (lv, .ref 1 :: st, mM t I L V) = some (none, (lv, .ref 6 :: st, mM t I L V)) := id rfl
theorem G_1_3 {sx : eSx} (pc idx : Nat) (h : eFld sx.1 idx 6 3) (lv st : List Value) (t : Nat × Nat × Bool) (I : Nat → Nat → Int32) (L : Nat → Nat → Int64) (V : Nat → Option Nat) : eDen (sx := sx) (p_get pc idx 6 3 h) (lv, .ref 1 :: st, mM t I L V) = some (none, (lv, .ref 10 :: st, mM t I L V)) := id rfl
theorem G_1_4 {sx : eSx} (pc idx : Nat) (h : eFld sx.1 idx 6 4) (lv st : List Value) (t : Nat × Nat × Bool) (I : Nat → Nat → Int32) (L : Nat → Nat → Int64) (V : Nat → Option Nat) : eDen (sx := sx) (p_get pc idx 6 4 h) (lv, .ref 1 :: st, mM t I L V) = some (none, (lv, .ref 15 :: st, mM t I L V)) := id rfl
theorem G_1_5 {sx : eSx} (pc idx : Nat) (h : eFld sx.1 idx 6 5) (lv st : List Value) (t : Nat × Nat × Bool) (I : Nat → Nat → Int32) (L : Nat → Nat → Int64) (V : Nat → Option Nat) : eDen (sx := sx) (p_get pc idx 6 5 h) (lv, .ref 1 :: st, mM t I L V) = some (none, (lv, .int (I 1 5) :: st, mM t I L V)) := id rfl
theorem P_1_5 {sx : eSx} (pc idx : Nat) (h : eFld sx.1 idx 6 5) (h2 : ((eClT 6 5).2.2.2 = false ∨ ((eClT 6 5).2.2.2 = true ∧ sx.2.1 = true ∧ (eClT 6 5).1 = sx.1))) (lv st : List Value) (t : Nat × Nat × Bool) (I : Nat → Nat → Int32) (L : Nat → Nat → Int64) (V : Nat → Option Nat) (x : Int32) : eDen (sx := sx) (p_put pc idx 6 5 h h2) (lv, .int x :: .ref 1 :: st, mM t I L V) = some (none, (lv, st, mM t (si I 1 5 x) L V)) := id rfl
theorem G_1_6 {sx : eSx} (pc idx : Nat) (h : eFld sx.1 idx 6 6) (lv st : List Value) (t : Nat × Nat × Bool) (I : Nat → Nat → Int32) (L : Nat → Nat → Int64) (V : Nat → Option Nat) : eDen (sx := sx) (p_get pc idx 6 6 h) (lv, .ref 1 :: st, mM t I L V) = some (none, (lv, .ref 17 :: st, mM t I L V)) := id rfl
theorem G_1_7 {sx : eSx} (pc idx : Nat) (h : eFld sx.1 idx 6 7) (lv st : List Value) (t : Nat × Nat × Bool) (I : Nat → Nat → Int32) (L : Nat → Nat → Int64) (V : Nat → Option Nat) : eDen (sx := sx) (p_get pc idx 6 7 h) (lv, .ref 1 :: st, mM t I L V) = some (none, (lv, .ref 18 :: st, mM t I L V)) := id rfl
theorem G_1_8 {sx : eSx} (pc idx : Nat) (h : eFld sx.1 idx 6 8) (lv st : List Value) (t : Nat × Nat × Bool) (I : Nat → Nat → Int32) (L : Nat → Nat → Int64) (V : Nat → Option Nat) : eDen (sx := sx) (p_get pc idx 6 8 h) (lv, .ref 1 :: st, mM t I L V) = some (none, (lv, .ref 19 :: st, mM t I L V)) := id rfl
theorem G_1_9 {sx : eSx} (pc idx : Nat) (h : eFld sx.1 idx 6 9) (lv st : List Value) (t : Nat × Nat × Bool) (I : Nat → Nat → Int32) (L : Nat → Nat → Int64) (V : Nat → Option Nat) : eDen (sx := sx) (p_get pc idx 6 9 h) (lv, .ref 1 :: st, mM t I L V) = some (none, (lv, .int (I 1 9) :: st, mM t I L V)) := id rfl
theorem P_1_9 {sx : eSx} (pc idx : Nat) (h : eFld sx.1 idx 6 9) (h2 : ((eClT 6 9).2.2.2 = false ∨ ((eClT 6 9).2.2.2 = true ∧ sx.2.1 = true ∧ (eClT 6 9).1 = sx.1))) (lv st : List Value) (t : Nat × Nat × Bool) (I : Nat → Nat → Int32) (L : Nat → Nat → Int64) (V : Nat → Option Nat) (x : Int32) : eDen (sx := sx) (p_put pc idx 6 9 h h2) (lv, .int x :: .ref 1 :: st, mM t I L V) = some (none, (lv, st, mM t (si I 1 9 x) L V)) := id rfl
theorem G_1_10 {sx : eSx} (pc idx : Nat) (h : eFld sx.1 idx 6 10) (lv st : List Value) (t : Nat × Nat × Bool) (I : Nat → Nat → Int32) (L : Nat → Nat → Int64) (V : Nat → Option Nat) : eDen (sx := sx) (p_get pc idx 6 10 h) (lv, .ref 1 :: st, mM t I L V) = some (none, (lv, .int (I 1 10) :: st, mM t I L V)) := id rfl
theorem P_1_10 {sx : eSx} (pc idx : Nat) (h : eFld sx.1 idx 6 10) (h2 : ((eClT 6 10).2.2.2 = false ∨ ((eClT 6 10).2.2.2 = true ∧ sx.2.1 = true ∧ (eClT 6 10).1 = sx.1))) (lv st : List Value) (t : Nat × Nat × Bool) (I : Nat → Nat → Int32) (L : Nat → Nat → Int64) (V : Nat → Option Nat) (x : Int32) : eDen (sx := sx) (p_put pc idx 6 10 h h2) (lv, .int x :: .ref 1 :: st, mM t I L V) = some (none, (lv, st, mM t (si I 1 10 x) L V)) := id rfl
theorem R_1 (l : List Value) (t : Nat × Nat × Bool) (I : Nat → Nat → Int32) (L : Nat → Nat → Int64) (V : Nat → Option Nat) : eRcv 6 (.ref 1 :: l) (mM t I L V) = true := id rfl
theorem G_2_0 {sx : eSx} (pc idx : Nat) (h : eFld sx.1 idx 4 0) (lv st : List Value) (t : Nat × Nat × Bool) (I : Nat → Nat → Int32) (L : Nat → Nat → Int64) (V : Nat → Option Nat) : eDen (sx := sx) (p_get pc idx 4 0 h) (lv, .ref 2 :: st, mM t I L V) = some (none, (lv, .int (I 2 0) :: st, mM t I L V)) := id rfl
theorem P_2_0 {sx : eSx} (pc idx : Nat) (h : eFld sx.1 idx 4 0) (h2 : ((eClT 4 0).2.2.2 = false ∨ ((eClT 4 0).2.2.2 = true ∧ sx.2.1 = true ∧ (eClT 4 0).1 = sx.1))) (lv st : List Value) (t : Nat × Nat × Bool) (I : Nat → Nat → Int32) (L : Nat → Nat → Int64) (V : Nat → Option Nat) (x : Int32) : eDen (sx := sx) (p_put pc idx 4 0 h h2) (lv, .int x :: .ref 2 :: st, mM t I L V) = some (none, (lv, st, mM t (si I 2 0 x) L V)) := id rfl
theorem G_2_1 {sx : eSx} (pc idx : Nat) (h : eFld sx.1 idx 4 1) (lv st : List Value) (t : Nat × Nat × Bool) (I : Nat → Nat → Int32) (L : Nat → Nat → Int64) (V : Nat → Option Nat) : eDen (sx := sx) (p_get pc idx 4 1 h) (lv, .ref 2 :: st, mM t I L V) = some (none, (lv, .ref 3 :: st, mM t I L V)) := id rfl
theorem R_2 (l : List Value) (t : Nat × Nat × Bool) (I : Nat → Nat → Int32) (L : Nat → Nat → Int64) (V : Nat → Option Nat) : eRcv 4 (.ref 2 :: l) (mM t I L V) = true := id rfl
theorem A_3 {sx : eSx} (pc : Nat) (lv st : List Value) (t : Nat × Nat × Bool) (I : Nat → Nat → Int32) (L : Nat → Nat → Int64) (V : Nat → Option Nat) (i : Int32) : eDen (sx := sx) (p_iald pc) (lv, .int i :: .ref 3 :: st, mM t I L V) = vLd (eIx i 7) (fun j => .int (I 3 j)) lv st (mM t I L V) := by
  show Option.map _ (Option.map _ (eIx i 7)) = _
  cases eIx i 7 <;> rfl
theorem S_3 {sx : eSx} (pc : Nat) (lv st : List Value) (t : Nat × Nat × Bool) (I : Nat → Nat → Int32) (L : Nat → Nat → Int64) (V : Nat → Option Nat) (i : Int32) (x : Int32) : eDen (sx := sx) (p_iast pc) (lv, .int x :: .int i :: .ref 3 :: st, mM t I L V) = vSt (eIx i 7) (fun j => mM t (si I 3 j x) L V) lv st := by
  show Option.map _ (Option.map _ (eIx i 7)) = _
  cases eIx i 7 <;> rfl
theorem N_3 {sx : eSx} (pc : Nat) (lv st : List Value) (t : Nat × Nat × Bool) (I : Nat → Nat → Int32) (L : Nat → Nat → Int64) (V : Nat → Option Nat) : eDen (sx := sx) (p_alen pc) (lv, .ref 3 :: st, mM t I L V) = some (none, (lv, .int (nI 7) :: st, mM t I L V)) := id rfl
theorem G_4_0 {sx : eSx} (pc idx : Nat) (h : eFld sx.1 idx 4 0) (lv st : List Value) (t : Nat × Nat × Bool) (I : Nat → Nat → Int32) (L : Nat → Nat → Int64) (V : Nat → Option Nat) : eDen (sx := sx) (p_get pc idx 4 0 h) (lv, .ref 4 :: st, mM t I L V) = some (none, (lv, .int (I 4 0) :: st, mM t I L V)) := id rfl
theorem P_4_0 {sx : eSx} (pc idx : Nat) (h : eFld sx.1 idx 4 0) (h2 : ((eClT 4 0).2.2.2 = false ∨ ((eClT 4 0).2.2.2 = true ∧ sx.2.1 = true ∧ (eClT 4 0).1 = sx.1))) (lv st : List Value) (t : Nat × Nat × Bool) (I : Nat → Nat → Int32) (L : Nat → Nat → Int64) (V : Nat → Option Nat) (x : Int32) : eDen (sx := sx) (p_put pc idx 4 0 h h2) (lv, .int x :: .ref 4 :: st, mM t I L V) = some (none, (lv, st, mM t (si I 4 0 x) L V)) := id rfl
theorem G_4_1 {sx : eSx} (pc idx : Nat) (h : eFld sx.1 idx 4 1) (lv st : List Value) (t : Nat × Nat × Bool) (I : Nat → Nat → Int32) (L : Nat → Nat → Int64) (V : Nat → Option Nat) : eDen (sx := sx) (p_get pc idx 4 1 h) (lv, .ref 4 :: st, mM t I L V) = some (none, (lv, .ref 5 :: st, mM t I L V)) := id rfl
theorem R_4 (l : List Value) (t : Nat × Nat × Bool) (I : Nat → Nat → Int32) (L : Nat → Nat → Int64) (V : Nat → Option Nat) : eRcv 4 (.ref 4 :: l) (mM t I L V) = true := id rfl
theorem A_5 {sx : eSx} (pc : Nat) (lv st : List Value) (t : Nat × Nat × Bool) (I : Nat → Nat → Int32) (L : Nat → Nat → Int64) (V : Nat → Option Nat) (i : Int32) : eDen (sx := sx) (p_iald pc) (lv, .int i :: .ref 5 :: st, mM t I L V) = vLd (eIx i 7) (fun j => .int (I 5 j)) lv st (mM t I L V) := by
  show Option.map _ (Option.map _ (eIx i 7)) = _
  cases eIx i 7 <;> rfl
theorem S_5 {sx : eSx} (pc : Nat) (lv st : List Value) (t : Nat × Nat × Bool) (I : Nat → Nat → Int32) (L : Nat → Nat → Int64) (V : Nat → Option Nat) (i : Int32) (x : Int32) : eDen (sx := sx) (p_iast pc) (lv, .int x :: .int i :: .ref 5 :: st, mM t I L V) = vSt (eIx i 7) (fun j => mM t (si I 5 j x) L V) lv st := by
  show Option.map _ (Option.map _ (eIx i 7)) = _
  cases eIx i 7 <;> rfl
theorem N_5 {sx : eSx} (pc : Nat) (lv st : List Value) (t : Nat × Nat × Bool) (I : Nat → Nat → Int32) (L : Nat → Nat → Int64) (V : Nat → Option Nat) : eDen (sx := sx) (p_alen pc) (lv, .ref 5 :: st, mM t I L V) = some (none, (lv, .int (nI 7) :: st, mM t I L V)) := id rfl
theorem G_6_0 {sx : eSx} (pc idx : Nat) (h : eFld sx.1 idx 3 0) (lv st : List Value) (t : Nat × Nat × Bool) (I : Nat → Nat → Int32) (L : Nat → Nat → Int64) (V : Nat → Option Nat) : eDen (sx := sx) (p_get pc idx 3 0 h) (lv, .ref 6 :: st, mM t I L V) = some (none, (lv, .int (I 6 0) :: st, mM t I L V)) := id rfl
theorem P_6_0 {sx : eSx} (pc idx : Nat) (h : eFld sx.1 idx 3 0) (h2 : ((eClT 3 0).2.2.2 = false ∨ ((eClT 3 0).2.2.2 = true ∧ sx.2.1 = true ∧ (eClT 3 0).1 = sx.1))) (lv st : List Value) (t : Nat × Nat × Bool) (I : Nat → Nat → Int32) (L : Nat → Nat → Int64) (V : Nat → Option Nat) (x : Int32) : eDen (sx := sx) (p_put pc idx 3 0 h h2) (lv, .int x :: .ref 6 :: st, mM t I L V) = some (none, (lv, st, mM t (si I 6 0 x) L V)) := id rfl
theorem G_6_1 {sx : eSx} (pc idx : Nat) (h : eFld sx.1 idx 3 1) (lv st : List Value) (t : Nat × Nat × Bool) (I : Nat → Nat → Int32) (L : Nat → Nat → Int64) (V : Nat → Option Nat) : eDen (sx := sx) (p_get pc idx 3 1 h) (lv, .ref 6 :: st, mM t I L V) = some (none, (lv, .ref 7 :: st, mM t I L V)) := id rfl
theorem G_6_2 {sx : eSx} (pc idx : Nat) (h : eFld sx.1 idx 3 2) (lv st : List Value) (t : Nat × Nat × Bool) (I : Nat → Nat → Int32) (L : Nat → Nat → Int64) (V : Nat → Option Nat) : eDen (sx := sx) (p_get pc idx 3 2 h) (lv, .ref 6 :: st, mM t I L V) = some (none, (lv, .ref 8 :: st, mM t I L V)) := id rfl
theorem G_6_3 {sx : eSx} (pc idx : Nat) (h : eFld sx.1 idx 3 3) (lv st : List Value) (t : Nat × Nat × Bool) (I : Nat → Nat → Int32) (L : Nat → Nat → Int64) (V : Nat → Option Nat) : eDen (sx := sx) (p_get pc idx 3 3 h) (lv, .ref 6 :: st, mM t I L V) = some (none, (lv, .ref 9 :: st, mM t I L V)) := id rfl
theorem R_6 (l : List Value) (t : Nat × Nat × Bool) (I : Nat → Nat → Int32) (L : Nat → Nat → Int64) (V : Nat → Option Nat) : eRcv 3 (.ref 6 :: l) (mM t I L V) = true := id rfl
theorem A_7 {sx : eSx} (pc : Nat) (lv st : List Value) (t : Nat × Nat × Bool) (I : Nat → Nat → Int32) (L : Nat → Nat → Int64) (V : Nat → Option Nat) (i : Int32) : eDen (sx := sx) (p_iald pc) (lv, .int i :: .ref 7 :: st, mM t I L V) = vLd (eIx i 6) (fun j => .int (I 7 j)) lv st (mM t I L V) := by
  show Option.map _ (Option.map _ (eIx i 6)) = _
  cases eIx i 6 <;> rfl
theorem S_7 {sx : eSx} (pc : Nat) (lv st : List Value) (t : Nat × Nat × Bool) (I : Nat → Nat → Int32) (L : Nat → Nat → Int64) (V : Nat → Option Nat) (i : Int32) (x : Int32) : eDen (sx := sx) (p_iast pc) (lv, .int x :: .int i :: .ref 7 :: st, mM t I L V) = vSt (eIx i 6) (fun j => mM t (si I 7 j x) L V) lv st := by
  show Option.map _ (Option.map _ (eIx i 6)) = _
  cases eIx i 6 <;> rfl
theorem N_7 {sx : eSx} (pc : Nat) (lv st : List Value) (t : Nat × Nat × Bool) (I : Nat → Nat → Int32) (L : Nat → Nat → Int64) (V : Nat → Option Nat) : eDen (sx := sx) (p_alen pc) (lv, .ref 7 :: st, mM t I L V) = some (none, (lv, .int (nI 6) :: st, mM t I L V)) := id rfl
theorem A_8 {sx : eSx} (pc : Nat) (lv st : List Value) (t : Nat × Nat × Bool) (I : Nat → Nat → Int32) (L : Nat → Nat → Int64) (V : Nat → Option Nat) (i : Int32) : eDen (sx := sx) (p_iald pc) (lv, .int i :: .ref 8 :: st, mM t I L V) = vLd (eIx i 6) (fun j => .int (I 8 j)) lv st (mM t I L V) := by
  show Option.map _ (Option.map _ (eIx i 6)) = _
  cases eIx i 6 <;> rfl
theorem S_8 {sx : eSx} (pc : Nat) (lv st : List Value) (t : Nat × Nat × Bool) (I : Nat → Nat → Int32) (L : Nat → Nat → Int64) (V : Nat → Option Nat) (i : Int32) (x : Int32) : eDen (sx := sx) (p_iast pc) (lv, .int x :: .int i :: .ref 8 :: st, mM t I L V) = vSt (eIx i 6) (fun j => mM t (si I 8 j x) L V) lv st := by
  show Option.map _ (Option.map _ (eIx i 6)) = _
  cases eIx i 6 <;> rfl
theorem N_8 {sx : eSx} (pc : Nat) (lv st : List Value) (t : Nat × Nat × Bool) (I : Nat → Nat → Int32) (L : Nat → Nat → Int64) (V : Nat → Option Nat) : eDen (sx := sx) (p_alen pc) (lv, .ref 8 :: st, mM t I L V) = some (none, (lv, .int (nI 6) :: st, mM t I L V)) := id rfl
theorem A_9 {sx : eSx} (pc : Nat) (lv st : List Value) (t : Nat × Nat × Bool) (I : Nat → Nat → Int32) (L : Nat → Nat → Int64) (V : Nat → Option Nat) (i : Int32) : eDen (sx := sx) (p_iald pc) (lv, .int i :: .ref 9 :: st, mM t I L V) = vLd (eIx i 6) (fun j => .int (I 9 j)) lv st (mM t I L V) := by
  show Option.map _ (Option.map _ (eIx i 6)) = _
  cases eIx i 6 <;> rfl
theorem S_9 {sx : eSx} (pc : Nat) (lv st : List Value) (t : Nat × Nat × Bool) (I : Nat → Nat → Int32) (L : Nat → Nat → Int64) (V : Nat → Option Nat) (i : Int32) (x : Int32) : eDen (sx := sx) (p_iast pc) (lv, .int x :: .int i :: .ref 9 :: st, mM t I L V) = vSt (eIx i 6) (fun j => mM t (si I 9 j x) L V) lv st := by
  show Option.map _ (Option.map _ (eIx i 6)) = _
  cases eIx i 6 <;> rfl
theorem N_9 {sx : eSx} (pc : Nat) (lv st : List Value) (t : Nat × Nat × Bool) (I : Nat → Nat → Int32) (L : Nat → Nat → Int64) (V : Nat → Option Nat) : eDen (sx := sx) (p_alen pc) (lv, .ref 9 :: st, mM t I L V) = some (none, (lv, .int (nI 6) :: st, mM t I L V)) := id rfl
theorem G_10_0 {sx : eSx} (pc idx : Nat) (h : eFld sx.1 idx 1 0) (lv st : List Value) (t : Nat × Nat × Bool) (I : Nat → Nat → Int32) (L : Nat → Nat → Int64) (V : Nat → Option Nat) : eDen (sx := sx) (p_get pc idx 1 0 h) (lv, .ref 10 :: st, mM t I L V) = some (none, (lv, .int (I 10 0) :: st, mM t I L V)) := id rfl
theorem P_10_0 {sx : eSx} (pc idx : Nat) (h : eFld sx.1 idx 1 0) (h2 : ((eClT 1 0).2.2.2 = false ∨ ((eClT 1 0).2.2.2 = true ∧ sx.2.1 = true ∧ (eClT 1 0).1 = sx.1))) (lv st : List Value) (t : Nat × Nat × Bool) (I : Nat → Nat → Int32) (L : Nat → Nat → Int64) (V : Nat → Option Nat) (x : Int32) : eDen (sx := sx) (p_put pc idx 1 0 h h2) (lv, .int x :: .ref 10 :: st, mM t I L V) = some (none, (lv, st, mM t (si I 10 0 x) L V)) := id rfl
theorem G_10_1 {sx : eSx} (pc idx : Nat) (h : eFld sx.1 idx 1 1) (lv st : List Value) (t : Nat × Nat × Bool) (I : Nat → Nat → Int32) (L : Nat → Nat → Int64) (V : Nat → Option Nat) : eDen (sx := sx) (p_get pc idx 1 1 h) (lv, .ref 10 :: st, mM t I L V) = some (none, (lv, .ref 11 :: st, mM t I L V)) := id rfl
theorem G_10_2 {sx : eSx} (pc idx : Nat) (h : eFld sx.1 idx 1 2) (lv st : List Value) (t : Nat × Nat × Bool) (I : Nat → Nat → Int32) (L : Nat → Nat → Int64) (V : Nat → Option Nat) : eDen (sx := sx) (p_get pc idx 1 2 h) (lv, .ref 10 :: st, mM t I L V) = some (none, (lv, .ref 12 :: st, mM t I L V)) := id rfl
theorem G_10_3 {sx : eSx} (pc idx : Nat) (h : eFld sx.1 idx 1 3) (lv st : List Value) (t : Nat × Nat × Bool) (I : Nat → Nat → Int32) (L : Nat → Nat → Int64) (V : Nat → Option Nat) : eDen (sx := sx) (p_get pc idx 1 3 h) (lv, .ref 10 :: st, mM t I L V) = some (none, (lv, .ref 13 :: st, mM t I L V)) := id rfl
theorem G_10_4 {sx : eSx} (pc idx : Nat) (h : eFld sx.1 idx 1 4) (lv st : List Value) (t : Nat × Nat × Bool) (I : Nat → Nat → Int32) (L : Nat → Nat → Int64) (V : Nat → Option Nat) : eDen (sx := sx) (p_get pc idx 1 4 h) (lv, .ref 10 :: st, mM t I L V) = some (none, (lv, .ref 14 :: st, mM t I L V)) := id rfl
theorem R_10 (l : List Value) (t : Nat × Nat × Bool) (I : Nat → Nat → Int32) (L : Nat → Nat → Int64) (V : Nat → Option Nat) : eRcv 1 (.ref 10 :: l) (mM t I L V) = true := id rfl
theorem A_11 {sx : eSx} (pc : Nat) (lv st : List Value) (t : Nat × Nat × Bool) (I : Nat → Nat → Int32) (L : Nat → Nat → Int64) (V : Nat → Option Nat) (i : Int32) : eDen (sx := sx) (p_iald pc) (lv, .int i :: .ref 11 :: st, mM t I L V) = vLd (eIx i 5) (fun j => .int (I 11 j)) lv st (mM t I L V) := by
  show Option.map _ (Option.map _ (eIx i 5)) = _
  cases eIx i 5 <;> rfl
theorem S_11 {sx : eSx} (pc : Nat) (lv st : List Value) (t : Nat × Nat × Bool) (I : Nat → Nat → Int32) (L : Nat → Nat → Int64) (V : Nat → Option Nat) (i : Int32) (x : Int32) : eDen (sx := sx) (p_iast pc) (lv, .int x :: .int i :: .ref 11 :: st, mM t I L V) = vSt (eIx i 5) (fun j => mM t (si I 11 j x) L V) lv st := by
  show Option.map _ (Option.map _ (eIx i 5)) = _
  cases eIx i 5 <;> rfl
theorem N_11 {sx : eSx} (pc : Nat) (lv st : List Value) (t : Nat × Nat × Bool) (I : Nat → Nat → Int32) (L : Nat → Nat → Int64) (V : Nat → Option Nat) : eDen (sx := sx) (p_alen pc) (lv, .ref 11 :: st, mM t I L V) = some (none, (lv, .int (nI 5) :: st, mM t I L V)) := id rfl
theorem A_12 {sx : eSx} (pc : Nat) (lv st : List Value) (t : Nat × Nat × Bool) (I : Nat → Nat → Int32) (L : Nat → Nat → Int64) (V : Nat → Option Nat) (i : Int32) : eDen (sx := sx) (p_iald pc) (lv, .int i :: .ref 12 :: st, mM t I L V) = vLd (eIx i 5) (fun j => .int (I 12 j)) lv st (mM t I L V) := by
  show Option.map _ (Option.map _ (eIx i 5)) = _
  cases eIx i 5 <;> rfl
theorem S_12 {sx : eSx} (pc : Nat) (lv st : List Value) (t : Nat × Nat × Bool) (I : Nat → Nat → Int32) (L : Nat → Nat → Int64) (V : Nat → Option Nat) (i : Int32) (x : Int32) : eDen (sx := sx) (p_iast pc) (lv, .int x :: .int i :: .ref 12 :: st, mM t I L V) = vSt (eIx i 5) (fun j => mM t (si I 12 j x) L V) lv st := by
  show Option.map _ (Option.map _ (eIx i 5)) = _
  cases eIx i 5 <;> rfl
theorem N_12 {sx : eSx} (pc : Nat) (lv st : List Value) (t : Nat × Nat × Bool) (I : Nat → Nat → Int32) (L : Nat → Nat → Int64) (V : Nat → Option Nat) : eDen (sx := sx) (p_alen pc) (lv, .ref 12 :: st, mM t I L V) = some (none, (lv, .int (nI 5) :: st, mM t I L V)) := id rfl
theorem A_13 {sx : eSx} (pc : Nat) (lv st : List Value) (t : Nat × Nat × Bool) (I : Nat → Nat → Int32) (L : Nat → Nat → Int64) (V : Nat → Option Nat) (i : Int32) : eDen (sx := sx) (p_iald pc) (lv, .int i :: .ref 13 :: st, mM t I L V) = vLd (eIx i 5) (fun j => .int (I 13 j)) lv st (mM t I L V) := by
  show Option.map _ (Option.map _ (eIx i 5)) = _
  cases eIx i 5 <;> rfl
theorem S_13 {sx : eSx} (pc : Nat) (lv st : List Value) (t : Nat × Nat × Bool) (I : Nat → Nat → Int32) (L : Nat → Nat → Int64) (V : Nat → Option Nat) (i : Int32) (x : Int32) : eDen (sx := sx) (p_iast pc) (lv, .int x :: .int i :: .ref 13 :: st, mM t I L V) = vSt (eIx i 5) (fun j => mM t (si I 13 j x) L V) lv st := by
  show Option.map _ (Option.map _ (eIx i 5)) = _
  cases eIx i 5 <;> rfl
theorem N_13 {sx : eSx} (pc : Nat) (lv st : List Value) (t : Nat × Nat × Bool) (I : Nat → Nat → Int32) (L : Nat → Nat → Int64) (V : Nat → Option Nat) : eDen (sx := sx) (p_alen pc) (lv, .ref 13 :: st, mM t I L V) = some (none, (lv, .int (nI 5) :: st, mM t I L V)) := id rfl
theorem A_14 {sx : eSx} (pc : Nat) (lv st : List Value) (t : Nat × Nat × Bool) (I : Nat → Nat → Int32) (L : Nat → Nat → Int64) (V : Nat → Option Nat) (i : Int32) : eDen (sx := sx) (p_iald pc) (lv, .int i :: .ref 14 :: st, mM t I L V) = vLd (eIx i 5) (fun j => .int (I 14 j)) lv st (mM t I L V) := by
  show Option.map _ (Option.map _ (eIx i 5)) = _
  cases eIx i 5 <;> rfl
theorem S_14 {sx : eSx} (pc : Nat) (lv st : List Value) (t : Nat × Nat × Bool) (I : Nat → Nat → Int32) (L : Nat → Nat → Int64) (V : Nat → Option Nat) (i : Int32) (x : Int32) : eDen (sx := sx) (p_iast pc) (lv, .int x :: .int i :: .ref 14 :: st, mM t I L V) = vSt (eIx i 5) (fun j => mM t (si I 14 j x) L V) lv st := by
  show Option.map _ (Option.map _ (eIx i 5)) = _
  cases eIx i 5 <;> rfl
theorem N_14 {sx : eSx} (pc : Nat) (lv st : List Value) (t : Nat × Nat × Bool) (I : Nat → Nat → Int32) (L : Nat → Nat → Int64) (V : Nat → Option Nat) : eDen (sx := sx) (p_alen pc) (lv, .ref 14 :: st, mM t I L V) = some (none, (lv, .int (nI 5) :: st, mM t I L V)) := id rfl
theorem G_15_0 {sx : eSx} (pc idx : Nat) (h : eFld sx.1 idx 9 0) (lv st : List Value) (t : Nat × Nat × Bool) (I : Nat → Nat → Int32) (L : Nat → Nat → Int64) (V : Nat → Option Nat) : eDen (sx := sx) (p_get pc idx 9 0 h) (lv, .ref 15 :: st, mM t I L V) = some (none, (lv, .int (I 15 0) :: st, mM t I L V)) := id rfl
theorem P_15_0 {sx : eSx} (pc idx : Nat) (h : eFld sx.1 idx 9 0) (h2 : ((eClT 9 0).2.2.2 = false ∨ ((eClT 9 0).2.2.2 = true ∧ sx.2.1 = true ∧ (eClT 9 0).1 = sx.1))) (lv st : List Value) (t : Nat × Nat × Bool) (I : Nat → Nat → Int32) (L : Nat → Nat → Int64) (V : Nat → Option Nat) (x : Int32) : eDen (sx := sx) (p_put pc idx 9 0 h h2) (lv, .int x :: .ref 15 :: st, mM t I L V) = some (none, (lv, st, mM t (si I 15 0 x) L V)) := id rfl
theorem G_15_1 {sx : eSx} (pc idx : Nat) (h : eFld sx.1 idx 9 1) (lv st : List Value) (t : Nat × Nat × Bool) (I : Nat → Nat → Int32) (L : Nat → Nat → Int64) (V : Nat → Option Nat) : eDen (sx := sx) (p_get pc idx 9 1 h) (lv, .ref 15 :: st, mM t I L V) = some (none, (lv, .int (I 15 1) :: st, mM t I L V)) := id rfl
theorem P_15_1 {sx : eSx} (pc idx : Nat) (h : eFld sx.1 idx 9 1) (h2 : ((eClT 9 1).2.2.2 = false ∨ ((eClT 9 1).2.2.2 = true ∧ sx.2.1 = true ∧ (eClT 9 1).1 = sx.1))) (lv st : List Value) (t : Nat × Nat × Bool) (I : Nat → Nat → Int32) (L : Nat → Nat → Int64) (V : Nat → Option Nat) (x : Int32) : eDen (sx := sx) (p_put pc idx 9 1 h h2) (lv, .int x :: .ref 15 :: st, mM t I L V) = some (none, (lv, st, mM t (si I 15 1 x) L V)) := id rfl
theorem G_15_2 {sx : eSx} (pc idx : Nat) (h : eFld sx.1 idx 9 2) (lv st : List Value) (t : Nat × Nat × Bool) (I : Nat → Nat → Int32) (L : Nat → Nat → Int64) (V : Nat → Option Nat) : eDen (sx := sx) (p_get pc idx 9 2 h) (lv, .ref 15 :: st, mM t I L V) = some (none, (lv, .ref 16 :: st, mM t I L V)) := id rfl
theorem R_15 (l : List Value) (t : Nat × Nat × Bool) (I : Nat → Nat → Int32) (L : Nat → Nat → Int64) (V : Nat → Option Nat) : eRcv 9 (.ref 15 :: l) (mM t I L V) = true := id rfl
theorem A_16 {sx : eSx} (pc : Nat) (lv st : List Value) (t : Nat × Nat × Bool) (I : Nat → Nat → Int32) (L : Nat → Nat → Int64) (V : Nat → Option Nat) (i : Int32) : eDen (sx := sx) (p_iald pc) (lv, .int i :: .ref 16 :: st, mM t I L V) = vLd (eIx i 200) (fun j => .int (I 16 j)) lv st (mM t I L V) := by
  show Option.map _ (Option.map _ (eIx i 200)) = _
  cases eIx i 200 <;> rfl
theorem S_16 {sx : eSx} (pc : Nat) (lv st : List Value) (t : Nat × Nat × Bool) (I : Nat → Nat → Int32) (L : Nat → Nat → Int64) (V : Nat → Option Nat) (i : Int32) (x : Int32) : eDen (sx := sx) (p_iast pc) (lv, .int x :: .int i :: .ref 16 :: st, mM t I L V) = vSt (eIx i 200) (fun j => mM t (si I 16 j x) L V) lv st := by
  show Option.map _ (Option.map _ (eIx i 200)) = _
  cases eIx i 200 <;> rfl
theorem N_16 {sx : eSx} (pc : Nat) (lv st : List Value) (t : Nat × Nat × Bool) (I : Nat → Nat → Int32) (L : Nat → Nat → Int64) (V : Nat → Option Nat) : eDen (sx := sx) (p_alen pc) (lv, .ref 16 :: st, mM t I L V) = some (none, (lv, .int (nI 200) :: st, mM t I L V)) := id rfl
theorem G_17_0 {sx : eSx} (pc idx : Nat) (h : eFld sx.1 idx 0 0) (lv st : List Value) (t : Nat × Nat × Bool) (I : Nat → Nat → Int32) (L : Nat → Nat → Int64) (V : Nat → Option Nat) : eDen (sx := sx) (p_get pc idx 0 0 h) (lv, .ref 17 :: st, mM t I L V) = some (none, (lv, .long (L 17 0) :: st, mM t I L V)) := id rfl
theorem P_17_0 {sx : eSx} (pc idx : Nat) (h : eFld sx.1 idx 0 0) (h2 : ((eClT 0 0).2.2.2 = false ∨ ((eClT 0 0).2.2.2 = true ∧ sx.2.1 = true ∧ (eClT 0 0).1 = sx.1))) (lv st : List Value) (t : Nat × Nat × Bool) (I : Nat → Nat → Int32) (L : Nat → Nat → Int64) (V : Nat → Option Nat) (x : Int64) : eDen (sx := sx) (p_put pc idx 0 0 h h2) (lv, .long x :: .ref 17 :: st, mM t I L V) = some (none, (lv, st, mM t I (sl L 17 0 x) V)) := id rfl
theorem G_17_1 {sx : eSx} (pc idx : Nat) (h : eFld sx.1 idx 0 1) (lv st : List Value) (t : Nat × Nat × Bool) (I : Nat → Nat → Int32) (L : Nat → Nat → Int64) (V : Nat → Option Nat) : eDen (sx := sx) (p_get pc idx 0 1 h) (lv, .ref 17 :: st, mM t I L V) = some (none, (lv, .long (L 17 1) :: st, mM t I L V)) := id rfl
theorem P_17_1 {sx : eSx} (pc idx : Nat) (h : eFld sx.1 idx 0 1) (h2 : ((eClT 0 1).2.2.2 = false ∨ ((eClT 0 1).2.2.2 = true ∧ sx.2.1 = true ∧ (eClT 0 1).1 = sx.1))) (lv st : List Value) (t : Nat × Nat × Bool) (I : Nat → Nat → Int32) (L : Nat → Nat → Int64) (V : Nat → Option Nat) (x : Int64) : eDen (sx := sx) (p_put pc idx 0 1 h h2) (lv, .long x :: .ref 17 :: st, mM t I L V) = some (none, (lv, st, mM t I (sl L 17 1 x) V)) := id rfl
theorem R_17 (l : List Value) (t : Nat × Nat × Bool) (I : Nat → Nat → Int32) (L : Nat → Nat → Int64) (V : Nat → Option Nat) : eRcv 0 (.ref 17 :: l) (mM t I L V) = true := id rfl
theorem G_18_0 {sx : eSx} (pc idx : Nat) (h : eFld sx.1 idx 0 0) (lv st : List Value) (t : Nat × Nat × Bool) (I : Nat → Nat → Int32) (L : Nat → Nat → Int64) (V : Nat → Option Nat) : eDen (sx := sx) (p_get pc idx 0 0 h) (lv, .ref 18 :: st, mM t I L V) = some (none, (lv, .long (L 18 0) :: st, mM t I L V)) := id rfl
theorem P_18_0 {sx : eSx} (pc idx : Nat) (h : eFld sx.1 idx 0 0) (h2 : ((eClT 0 0).2.2.2 = false ∨ ((eClT 0 0).2.2.2 = true ∧ sx.2.1 = true ∧ (eClT 0 0).1 = sx.1))) (lv st : List Value) (t : Nat × Nat × Bool) (I : Nat → Nat → Int32) (L : Nat → Nat → Int64) (V : Nat → Option Nat) (x : Int64) : eDen (sx := sx) (p_put pc idx 0 0 h h2) (lv, .long x :: .ref 18 :: st, mM t I L V) = some (none, (lv, st, mM t I (sl L 18 0 x) V)) := id rfl
theorem G_18_1 {sx : eSx} (pc idx : Nat) (h : eFld sx.1 idx 0 1) (lv st : List Value) (t : Nat × Nat × Bool) (I : Nat → Nat → Int32) (L : Nat → Nat → Int64) (V : Nat → Option Nat) : eDen (sx := sx) (p_get pc idx 0 1 h) (lv, .ref 18 :: st, mM t I L V) = some (none, (lv, .long (L 18 1) :: st, mM t I L V)) := id rfl
theorem P_18_1 {sx : eSx} (pc idx : Nat) (h : eFld sx.1 idx 0 1) (h2 : ((eClT 0 1).2.2.2 = false ∨ ((eClT 0 1).2.2.2 = true ∧ sx.2.1 = true ∧ (eClT 0 1).1 = sx.1))) (lv st : List Value) (t : Nat × Nat × Bool) (I : Nat → Nat → Int32) (L : Nat → Nat → Int64) (V : Nat → Option Nat) (x : Int64) : eDen (sx := sx) (p_put pc idx 0 1 h h2) (lv, .long x :: .ref 18 :: st, mM t I L V) = some (none, (lv, st, mM t I (sl L 18 1 x) V)) := id rfl
theorem R_18 (l : List Value) (t : Nat × Nat × Bool) (I : Nat → Nat → Int32) (L : Nat → Nat → Int64) (V : Nat → Option Nat) : eRcv 0 (.ref 18 :: l) (mM t I L V) = true := id rfl
theorem A_19 {sx : eSx} (pc : Nat) (lv st : List Value) (t : Nat × Nat × Bool) (I : Nat → Nat → Int32) (L : Nat → Nat → Int64) (V : Nat → Option Nat) (i : Int32) : eDen (sx := sx) (p_lald pc) (lv, .int i :: .ref 19 :: st, mM t I L V) = vLd (eIx i 7) (fun j => .long (L 19 j)) lv st (mM t I L V) := by
  show Option.map _ (Option.map _ (eIx i 7)) = _
  cases eIx i 7 <;> rfl
theorem S_19 {sx : eSx} (pc : Nat) (lv st : List Value) (t : Nat × Nat × Bool) (I : Nat → Nat → Int32) (L : Nat → Nat → Int64) (V : Nat → Option Nat) (i : Int32) (x : Int64) : eDen (sx := sx) (p_last pc) (lv, .long x :: .int i :: .ref 19 :: st, mM t I L V) = vSt (eIx i 7) (fun j => mM t I (sl L 19 j x) V) lv st := by
  show Option.map _ (Option.map _ (eIx i 7)) = _
  cases eIx i 7 <;> rfl
theorem N_19 {sx : eSx} (pc : Nat) (lv st : List Value) (t : Nat × Nat × Bool) (I : Nat → Nat → Int32) (L : Nat → Nat → Int64) (V : Nat → Option Nat) : eDen (sx := sx) (p_alen pc) (lv, .ref 19 :: st, mM t I L V) = some (none, (lv, .int (nI 7) :: st, mM t I L V)) := id rfl
theorem G_20_0 {sx : eSx} (pc idx : Nat) (h : eFld sx.1 idx 6 0) (lv st : List Value) (t : Nat × Nat × Bool) (I : Nat → Nat → Int32) (L : Nat → Nat → Int64) (V : Nat → Option Nat) : eDen (sx := sx) (p_get pc idx 6 0 h) (lv, .ref 20 :: st, mM t I L V) = some (none, (lv, .ref 21 :: st, mM t I L V)) := id rfl
theorem G_20_1 {sx : eSx} (pc idx : Nat) (h : eFld sx.1 idx 6 1) (lv st : List Value) (t : Nat × Nat × Bool) (I : Nat → Nat → Int32) (L : Nat → Nat → Int64) (V : Nat → Option Nat) : eDen (sx := sx) (p_get pc idx 6 1 h) (lv, .ref 20 :: st, mM t I L V) = some (none, (lv, .ref 23 :: st, mM t I L V)) := id rfl
theorem G_20_2 {sx : eSx} (pc idx : Nat) (h : eFld sx.1 idx 6 2) (lv st : List Value) (t : Nat × Nat × Bool) (I : Nat → Nat → Int32) (L : Nat → Nat → Int64) (V : Nat → Option Nat) : eDen (sx := sx) (p_get pc idx 6 2 h) (lv, .ref 20 :: st, mM t I L V) = some (none, (lv, .ref 25 :: st, mM t I L V)) := id rfl
theorem G_20_3 {sx : eSx} (pc idx : Nat) (h : eFld sx.1 idx 6 3) (lv st : List Value) (t : Nat × Nat × Bool) (I : Nat → Nat → Int32) (L : Nat → Nat → Int64) (V : Nat → Option Nat) : eDen (sx := sx) (p_get pc idx 6 3 h) (lv, .ref 20 :: st, mM t I L V) = some (none, (lv, .ref 29 :: st, mM t I L V)) := id rfl
theorem G_20_4 {sx : eSx} (pc idx : Nat) (h : eFld sx.1 idx 6 4) (lv st : List Value) (t : Nat × Nat × Bool) (I : Nat → Nat → Int32) (L : Nat → Nat → Int64) (V : Nat → Option Nat) : eDen (sx := sx) (p_get pc idx 6 4 h) (lv, .ref 20 :: st, mM t I L V) = some (none, (lv, .ref 34 :: st, mM t I L V)) := id rfl
theorem G_20_5 {sx : eSx} (pc idx : Nat) (h : eFld sx.1 idx 6 5) (lv st : List Value) (t : Nat × Nat × Bool) (I : Nat → Nat → Int32) (L : Nat → Nat → Int64) (V : Nat → Option Nat) : eDen (sx := sx) (p_get pc idx 6 5 h) (lv, .ref 20 :: st, mM t I L V) = some (none, (lv, .int (I 20 5) :: st, mM t I L V)) := id rfl
theorem P_20_5 {sx : eSx} (pc idx : Nat) (h : eFld sx.1 idx 6 5) (h2 : ((eClT 6 5).2.2.2 = false ∨ ((eClT 6 5).2.2.2 = true ∧ sx.2.1 = true ∧ (eClT 6 5).1 = sx.1))) (lv st : List Value) (t : Nat × Nat × Bool) (I : Nat → Nat → Int32) (L : Nat → Nat → Int64) (V : Nat → Option Nat) (x : Int32) : eDen (sx := sx) (p_put pc idx 6 5 h h2) (lv, .int x :: .ref 20 :: st, mM t I L V) = some (none, (lv, st, mM t (si I 20 5 x) L V)) := id rfl
theorem G_20_6 {sx : eSx} (pc idx : Nat) (h : eFld sx.1 idx 6 6) (lv st : List Value) (t : Nat × Nat × Bool) (I : Nat → Nat → Int32) (L : Nat → Nat → Int64) (V : Nat → Option Nat) : eDen (sx := sx) (p_get pc idx 6 6 h) (lv, .ref 20 :: st, mM t I L V) = some (none, (lv, .ref 36 :: st, mM t I L V)) := id rfl
theorem G_20_7 {sx : eSx} (pc idx : Nat) (h : eFld sx.1 idx 6 7) (lv st : List Value) (t : Nat × Nat × Bool) (I : Nat → Nat → Int32) (L : Nat → Nat → Int64) (V : Nat → Option Nat) : eDen (sx := sx) (p_get pc idx 6 7 h) (lv, .ref 20 :: st, mM t I L V) = some (none, (lv, .ref 37 :: st, mM t I L V)) := id rfl
theorem G_20_8 {sx : eSx} (pc idx : Nat) (h : eFld sx.1 idx 6 8) (lv st : List Value) (t : Nat × Nat × Bool) (I : Nat → Nat → Int32) (L : Nat → Nat → Int64) (V : Nat → Option Nat) : eDen (sx := sx) (p_get pc idx 6 8 h) (lv, .ref 20 :: st, mM t I L V) = some (none, (lv, .ref 38 :: st, mM t I L V)) := id rfl
theorem G_20_9 {sx : eSx} (pc idx : Nat) (h : eFld sx.1 idx 6 9) (lv st : List Value) (t : Nat × Nat × Bool) (I : Nat → Nat → Int32) (L : Nat → Nat → Int64) (V : Nat → Option Nat) : eDen (sx := sx) (p_get pc idx 6 9 h) (lv, .ref 20 :: st, mM t I L V) = some (none, (lv, .int (I 20 9) :: st, mM t I L V)) := id rfl
theorem P_20_9 {sx : eSx} (pc idx : Nat) (h : eFld sx.1 idx 6 9) (h2 : ((eClT 6 9).2.2.2 = false ∨ ((eClT 6 9).2.2.2 = true ∧ sx.2.1 = true ∧ (eClT 6 9).1 = sx.1))) (lv st : List Value) (t : Nat × Nat × Bool) (I : Nat → Nat → Int32) (L : Nat → Nat → Int64) (V : Nat → Option Nat) (x : Int32) : eDen (sx := sx) (p_put pc idx 6 9 h h2) (lv, .int x :: .ref 20 :: st, mM t I L V) = some (none, (lv, st, mM t (si I 20 9 x) L V)) := id rfl
theorem G_20_10 {sx : eSx} (pc idx : Nat) (h : eFld sx.1 idx 6 10) (lv st : List Value) (t : Nat × Nat × Bool) (I : Nat → Nat → Int32) (L : Nat → Nat → Int64) (V : Nat → Option Nat) : eDen (sx := sx) (p_get pc idx 6 10 h) (lv, .ref 20 :: st, mM t I L V) = some (none, (lv, .int (I 20 10) :: st, mM t I L V)) := id rfl
theorem P_20_10 {sx : eSx} (pc idx : Nat) (h : eFld sx.1 idx 6 10) (h2 : ((eClT 6 10).2.2.2 = false ∨ ((eClT 6 10).2.2.2 = true ∧ sx.2.1 = true ∧ (eClT 6 10).1 = sx.1))) (lv st : List Value) (t : Nat × Nat × Bool) (I : Nat → Nat → Int32) (L : Nat → Nat → Int64) (V : Nat → Option Nat) (x : Int32) : eDen (sx := sx) (p_put pc idx 6 10 h h2) (lv, .int x :: .ref 20 :: st, mM t I L V) = some (none, (lv, st, mM t (si I 20 10 x) L V)) := id rfl
theorem R_20 (l : List Value) (t : Nat × Nat × Bool) (I : Nat → Nat → Int32) (L : Nat → Nat → Int64) (V : Nat → Option Nat) : eRcv 6 (.ref 20 :: l) (mM t I L V) = true := id rfl
theorem G_21_0 {sx : eSx} (pc idx : Nat) (h : eFld sx.1 idx 4 0) (lv st : List Value) (t : Nat × Nat × Bool) (I : Nat → Nat → Int32) (L : Nat → Nat → Int64) (V : Nat → Option Nat) : eDen (sx := sx) (p_get pc idx 4 0 h) (lv, .ref 21 :: st, mM t I L V) = some (none, (lv, .int (I 21 0) :: st, mM t I L V)) := id rfl
theorem P_21_0 {sx : eSx} (pc idx : Nat) (h : eFld sx.1 idx 4 0) (h2 : ((eClT 4 0).2.2.2 = false ∨ ((eClT 4 0).2.2.2 = true ∧ sx.2.1 = true ∧ (eClT 4 0).1 = sx.1))) (lv st : List Value) (t : Nat × Nat × Bool) (I : Nat → Nat → Int32) (L : Nat → Nat → Int64) (V : Nat → Option Nat) (x : Int32) : eDen (sx := sx) (p_put pc idx 4 0 h h2) (lv, .int x :: .ref 21 :: st, mM t I L V) = some (none, (lv, st, mM t (si I 21 0 x) L V)) := id rfl
theorem G_21_1 {sx : eSx} (pc idx : Nat) (h : eFld sx.1 idx 4 1) (lv st : List Value) (t : Nat × Nat × Bool) (I : Nat → Nat → Int32) (L : Nat → Nat → Int64) (V : Nat → Option Nat) : eDen (sx := sx) (p_get pc idx 4 1 h) (lv, .ref 21 :: st, mM t I L V) = some (none, (lv, .ref 22 :: st, mM t I L V)) := id rfl
theorem R_21 (l : List Value) (t : Nat × Nat × Bool) (I : Nat → Nat → Int32) (L : Nat → Nat → Int64) (V : Nat → Option Nat) : eRcv 4 (.ref 21 :: l) (mM t I L V) = true := id rfl
theorem A_22 {sx : eSx} (pc : Nat) (lv st : List Value) (t : Nat × Nat × Bool) (I : Nat → Nat → Int32) (L : Nat → Nat → Int64) (V : Nat → Option Nat) (i : Int32) : eDen (sx := sx) (p_iald pc) (lv, .int i :: .ref 22 :: st, mM t I L V) = vLd (eIx i 7) (fun j => .int (I 22 j)) lv st (mM t I L V) := by
  show Option.map _ (Option.map _ (eIx i 7)) = _
  cases eIx i 7 <;> rfl
theorem S_22 {sx : eSx} (pc : Nat) (lv st : List Value) (t : Nat × Nat × Bool) (I : Nat → Nat → Int32) (L : Nat → Nat → Int64) (V : Nat → Option Nat) (i : Int32) (x : Int32) : eDen (sx := sx) (p_iast pc) (lv, .int x :: .int i :: .ref 22 :: st, mM t I L V) = vSt (eIx i 7) (fun j => mM t (si I 22 j x) L V) lv st := by
  show Option.map _ (Option.map _ (eIx i 7)) = _
  cases eIx i 7 <;> rfl
theorem N_22 {sx : eSx} (pc : Nat) (lv st : List Value) (t : Nat × Nat × Bool) (I : Nat → Nat → Int32) (L : Nat → Nat → Int64) (V : Nat → Option Nat) : eDen (sx := sx) (p_alen pc) (lv, .ref 22 :: st, mM t I L V) = some (none, (lv, .int (nI 7) :: st, mM t I L V)) := id rfl
theorem G_23_0 {sx : eSx} (pc idx : Nat) (h : eFld sx.1 idx 4 0) (lv st : List Value) (t : Nat × Nat × Bool) (I : Nat → Nat → Int32) (L : Nat → Nat → Int64) (V : Nat → Option Nat) : eDen (sx := sx) (p_get pc idx 4 0 h) (lv, .ref 23 :: st, mM t I L V) = some (none, (lv, .int (I 23 0) :: st, mM t I L V)) := id rfl
theorem P_23_0 {sx : eSx} (pc idx : Nat) (h : eFld sx.1 idx 4 0) (h2 : ((eClT 4 0).2.2.2 = false ∨ ((eClT 4 0).2.2.2 = true ∧ sx.2.1 = true ∧ (eClT 4 0).1 = sx.1))) (lv st : List Value) (t : Nat × Nat × Bool) (I : Nat → Nat → Int32) (L : Nat → Nat → Int64) (V : Nat → Option Nat) (x : Int32) : eDen (sx := sx) (p_put pc idx 4 0 h h2) (lv, .int x :: .ref 23 :: st, mM t I L V) = some (none, (lv, st, mM t (si I 23 0 x) L V)) := id rfl
theorem G_23_1 {sx : eSx} (pc idx : Nat) (h : eFld sx.1 idx 4 1) (lv st : List Value) (t : Nat × Nat × Bool) (I : Nat → Nat → Int32) (L : Nat → Nat → Int64) (V : Nat → Option Nat) : eDen (sx := sx) (p_get pc idx 4 1 h) (lv, .ref 23 :: st, mM t I L V) = some (none, (lv, .ref 24 :: st, mM t I L V)) := id rfl
theorem R_23 (l : List Value) (t : Nat × Nat × Bool) (I : Nat → Nat → Int32) (L : Nat → Nat → Int64) (V : Nat → Option Nat) : eRcv 4 (.ref 23 :: l) (mM t I L V) = true := id rfl
theorem A_24 {sx : eSx} (pc : Nat) (lv st : List Value) (t : Nat × Nat × Bool) (I : Nat → Nat → Int32) (L : Nat → Nat → Int64) (V : Nat → Option Nat) (i : Int32) : eDen (sx := sx) (p_iald pc) (lv, .int i :: .ref 24 :: st, mM t I L V) = vLd (eIx i 7) (fun j => .int (I 24 j)) lv st (mM t I L V) := by
  show Option.map _ (Option.map _ (eIx i 7)) = _
  cases eIx i 7 <;> rfl
theorem S_24 {sx : eSx} (pc : Nat) (lv st : List Value) (t : Nat × Nat × Bool) (I : Nat → Nat → Int32) (L : Nat → Nat → Int64) (V : Nat → Option Nat) (i : Int32) (x : Int32) : eDen (sx := sx) (p_iast pc) (lv, .int x :: .int i :: .ref 24 :: st, mM t I L V) = vSt (eIx i 7) (fun j => mM t (si I 24 j x) L V) lv st := by
  show Option.map _ (Option.map _ (eIx i 7)) = _
  cases eIx i 7 <;> rfl
theorem N_24 {sx : eSx} (pc : Nat) (lv st : List Value) (t : Nat × Nat × Bool) (I : Nat → Nat → Int32) (L : Nat → Nat → Int64) (V : Nat → Option Nat) : eDen (sx := sx) (p_alen pc) (lv, .ref 24 :: st, mM t I L V) = some (none, (lv, .int (nI 7) :: st, mM t I L V)) := id rfl
theorem G_25_0 {sx : eSx} (pc idx : Nat) (h : eFld sx.1 idx 3 0) (lv st : List Value) (t : Nat × Nat × Bool) (I : Nat → Nat → Int32) (L : Nat → Nat → Int64) (V : Nat → Option Nat) : eDen (sx := sx) (p_get pc idx 3 0 h) (lv, .ref 25 :: st, mM t I L V) = some (none, (lv, .int (I 25 0) :: st, mM t I L V)) := id rfl
theorem P_25_0 {sx : eSx} (pc idx : Nat) (h : eFld sx.1 idx 3 0) (h2 : ((eClT 3 0).2.2.2 = false ∨ ((eClT 3 0).2.2.2 = true ∧ sx.2.1 = true ∧ (eClT 3 0).1 = sx.1))) (lv st : List Value) (t : Nat × Nat × Bool) (I : Nat → Nat → Int32) (L : Nat → Nat → Int64) (V : Nat → Option Nat) (x : Int32) : eDen (sx := sx) (p_put pc idx 3 0 h h2) (lv, .int x :: .ref 25 :: st, mM t I L V) = some (none, (lv, st, mM t (si I 25 0 x) L V)) := id rfl
theorem G_25_1 {sx : eSx} (pc idx : Nat) (h : eFld sx.1 idx 3 1) (lv st : List Value) (t : Nat × Nat × Bool) (I : Nat → Nat → Int32) (L : Nat → Nat → Int64) (V : Nat → Option Nat) : eDen (sx := sx) (p_get pc idx 3 1 h) (lv, .ref 25 :: st, mM t I L V) = some (none, (lv, .ref 26 :: st, mM t I L V)) := id rfl
theorem G_25_2 {sx : eSx} (pc idx : Nat) (h : eFld sx.1 idx 3 2) (lv st : List Value) (t : Nat × Nat × Bool) (I : Nat → Nat → Int32) (L : Nat → Nat → Int64) (V : Nat → Option Nat) : eDen (sx := sx) (p_get pc idx 3 2 h) (lv, .ref 25 :: st, mM t I L V) = some (none, (lv, .ref 27 :: st, mM t I L V)) := id rfl
theorem G_25_3 {sx : eSx} (pc idx : Nat) (h : eFld sx.1 idx 3 3) (lv st : List Value) (t : Nat × Nat × Bool) (I : Nat → Nat → Int32) (L : Nat → Nat → Int64) (V : Nat → Option Nat) : eDen (sx := sx) (p_get pc idx 3 3 h) (lv, .ref 25 :: st, mM t I L V) = some (none, (lv, .ref 28 :: st, mM t I L V)) := id rfl
theorem R_25 (l : List Value) (t : Nat × Nat × Bool) (I : Nat → Nat → Int32) (L : Nat → Nat → Int64) (V : Nat → Option Nat) : eRcv 3 (.ref 25 :: l) (mM t I L V) = true := id rfl
theorem A_26 {sx : eSx} (pc : Nat) (lv st : List Value) (t : Nat × Nat × Bool) (I : Nat → Nat → Int32) (L : Nat → Nat → Int64) (V : Nat → Option Nat) (i : Int32) : eDen (sx := sx) (p_iald pc) (lv, .int i :: .ref 26 :: st, mM t I L V) = vLd (eIx i 6) (fun j => .int (I 26 j)) lv st (mM t I L V) := by
  show Option.map _ (Option.map _ (eIx i 6)) = _
  cases eIx i 6 <;> rfl
theorem S_26 {sx : eSx} (pc : Nat) (lv st : List Value) (t : Nat × Nat × Bool) (I : Nat → Nat → Int32) (L : Nat → Nat → Int64) (V : Nat → Option Nat) (i : Int32) (x : Int32) : eDen (sx := sx) (p_iast pc) (lv, .int x :: .int i :: .ref 26 :: st, mM t I L V) = vSt (eIx i 6) (fun j => mM t (si I 26 j x) L V) lv st := by
  show Option.map _ (Option.map _ (eIx i 6)) = _
  cases eIx i 6 <;> rfl
theorem N_26 {sx : eSx} (pc : Nat) (lv st : List Value) (t : Nat × Nat × Bool) (I : Nat → Nat → Int32) (L : Nat → Nat → Int64) (V : Nat → Option Nat) : eDen (sx := sx) (p_alen pc) (lv, .ref 26 :: st, mM t I L V) = some (none, (lv, .int (nI 6) :: st, mM t I L V)) := id rfl
theorem A_27 {sx : eSx} (pc : Nat) (lv st : List Value) (t : Nat × Nat × Bool) (I : Nat → Nat → Int32) (L : Nat → Nat → Int64) (V : Nat → Option Nat) (i : Int32) : eDen (sx := sx) (p_iald pc) (lv, .int i :: .ref 27 :: st, mM t I L V) = vLd (eIx i 6) (fun j => .int (I 27 j)) lv st (mM t I L V) := by
  show Option.map _ (Option.map _ (eIx i 6)) = _
  cases eIx i 6 <;> rfl
theorem S_27 {sx : eSx} (pc : Nat) (lv st : List Value) (t : Nat × Nat × Bool) (I : Nat → Nat → Int32) (L : Nat → Nat → Int64) (V : Nat → Option Nat) (i : Int32) (x : Int32) : eDen (sx := sx) (p_iast pc) (lv, .int x :: .int i :: .ref 27 :: st, mM t I L V) = vSt (eIx i 6) (fun j => mM t (si I 27 j x) L V) lv st := by
  show Option.map _ (Option.map _ (eIx i 6)) = _
  cases eIx i 6 <;> rfl
theorem N_27 {sx : eSx} (pc : Nat) (lv st : List Value) (t : Nat × Nat × Bool) (I : Nat → Nat → Int32) (L : Nat → Nat → Int64) (V : Nat → Option Nat) : eDen (sx := sx) (p_alen pc) (lv, .ref 27 :: st, mM t I L V) = some (none, (lv, .int (nI 6) :: st, mM t I L V)) := id rfl
theorem A_28 {sx : eSx} (pc : Nat) (lv st : List Value) (t : Nat × Nat × Bool) (I : Nat → Nat → Int32) (L : Nat → Nat → Int64) (V : Nat → Option Nat) (i : Int32) : eDen (sx := sx) (p_iald pc) (lv, .int i :: .ref 28 :: st, mM t I L V) = vLd (eIx i 6) (fun j => .int (I 28 j)) lv st (mM t I L V) := by
  show Option.map _ (Option.map _ (eIx i 6)) = _
  cases eIx i 6 <;> rfl
theorem S_28 {sx : eSx} (pc : Nat) (lv st : List Value) (t : Nat × Nat × Bool) (I : Nat → Nat → Int32) (L : Nat → Nat → Int64) (V : Nat → Option Nat) (i : Int32) (x : Int32) : eDen (sx := sx) (p_iast pc) (lv, .int x :: .int i :: .ref 28 :: st, mM t I L V) = vSt (eIx i 6) (fun j => mM t (si I 28 j x) L V) lv st := by
  show Option.map _ (Option.map _ (eIx i 6)) = _
  cases eIx i 6 <;> rfl
theorem N_28 {sx : eSx} (pc : Nat) (lv st : List Value) (t : Nat × Nat × Bool) (I : Nat → Nat → Int32) (L : Nat → Nat → Int64) (V : Nat → Option Nat) : eDen (sx := sx) (p_alen pc) (lv, .ref 28 :: st, mM t I L V) = some (none, (lv, .int (nI 6) :: st, mM t I L V)) := id rfl
theorem G_29_0 {sx : eSx} (pc idx : Nat) (h : eFld sx.1 idx 1 0) (lv st : List Value) (t : Nat × Nat × Bool) (I : Nat → Nat → Int32) (L : Nat → Nat → Int64) (V : Nat → Option Nat) : eDen (sx := sx) (p_get pc idx 1 0 h) (lv, .ref 29 :: st, mM t I L V) = some (none, (lv, .int (I 29 0) :: st, mM t I L V)) := id rfl
theorem P_29_0 {sx : eSx} (pc idx : Nat) (h : eFld sx.1 idx 1 0) (h2 : ((eClT 1 0).2.2.2 = false ∨ ((eClT 1 0).2.2.2 = true ∧ sx.2.1 = true ∧ (eClT 1 0).1 = sx.1))) (lv st : List Value) (t : Nat × Nat × Bool) (I : Nat → Nat → Int32) (L : Nat → Nat → Int64) (V : Nat → Option Nat) (x : Int32) : eDen (sx := sx) (p_put pc idx 1 0 h h2) (lv, .int x :: .ref 29 :: st, mM t I L V) = some (none, (lv, st, mM t (si I 29 0 x) L V)) := id rfl
theorem G_29_1 {sx : eSx} (pc idx : Nat) (h : eFld sx.1 idx 1 1) (lv st : List Value) (t : Nat × Nat × Bool) (I : Nat → Nat → Int32) (L : Nat → Nat → Int64) (V : Nat → Option Nat) : eDen (sx := sx) (p_get pc idx 1 1 h) (lv, .ref 29 :: st, mM t I L V) = some (none, (lv, .ref 30 :: st, mM t I L V)) := id rfl
theorem G_29_2 {sx : eSx} (pc idx : Nat) (h : eFld sx.1 idx 1 2) (lv st : List Value) (t : Nat × Nat × Bool) (I : Nat → Nat → Int32) (L : Nat → Nat → Int64) (V : Nat → Option Nat) : eDen (sx := sx) (p_get pc idx 1 2 h) (lv, .ref 29 :: st, mM t I L V) = some (none, (lv, .ref 31 :: st, mM t I L V)) := id rfl
theorem G_29_3 {sx : eSx} (pc idx : Nat) (h : eFld sx.1 idx 1 3) (lv st : List Value) (t : Nat × Nat × Bool) (I : Nat → Nat → Int32) (L : Nat → Nat → Int64) (V : Nat → Option Nat) : eDen (sx := sx) (p_get pc idx 1 3 h) (lv, .ref 29 :: st, mM t I L V) = some (none, (lv, .ref 32 :: st, mM t I L V)) := id rfl
theorem G_29_4 {sx : eSx} (pc idx : Nat) (h : eFld sx.1 idx 1 4) (lv st : List Value) (t : Nat × Nat × Bool) (I : Nat → Nat → Int32) (L : Nat → Nat → Int64) (V : Nat → Option Nat) : eDen (sx := sx) (p_get pc idx 1 4 h) (lv, .ref 29 :: st, mM t I L V) = some (none, (lv, .ref 33 :: st, mM t I L V)) := id rfl
theorem R_29 (l : List Value) (t : Nat × Nat × Bool) (I : Nat → Nat → Int32) (L : Nat → Nat → Int64) (V : Nat → Option Nat) : eRcv 1 (.ref 29 :: l) (mM t I L V) = true := id rfl
theorem A_30 {sx : eSx} (pc : Nat) (lv st : List Value) (t : Nat × Nat × Bool) (I : Nat → Nat → Int32) (L : Nat → Nat → Int64) (V : Nat → Option Nat) (i : Int32) : eDen (sx := sx) (p_iald pc) (lv, .int i :: .ref 30 :: st, mM t I L V) = vLd (eIx i 5) (fun j => .int (I 30 j)) lv st (mM t I L V) := by
  show Option.map _ (Option.map _ (eIx i 5)) = _
  cases eIx i 5 <;> rfl
theorem S_30 {sx : eSx} (pc : Nat) (lv st : List Value) (t : Nat × Nat × Bool) (I : Nat → Nat → Int32) (L : Nat → Nat → Int64) (V : Nat → Option Nat) (i : Int32) (x : Int32) : eDen (sx := sx) (p_iast pc) (lv, .int x :: .int i :: .ref 30 :: st, mM t I L V) = vSt (eIx i 5) (fun j => mM t (si I 30 j x) L V) lv st := by
  show Option.map _ (Option.map _ (eIx i 5)) = _
  cases eIx i 5 <;> rfl
theorem N_30 {sx : eSx} (pc : Nat) (lv st : List Value) (t : Nat × Nat × Bool) (I : Nat → Nat → Int32) (L : Nat → Nat → Int64) (V : Nat → Option Nat) : eDen (sx := sx) (p_alen pc) (lv, .ref 30 :: st, mM t I L V) = some (none, (lv, .int (nI 5) :: st, mM t I L V)) := id rfl
theorem A_31 {sx : eSx} (pc : Nat) (lv st : List Value) (t : Nat × Nat × Bool) (I : Nat → Nat → Int32) (L : Nat → Nat → Int64) (V : Nat → Option Nat) (i : Int32) : eDen (sx := sx) (p_iald pc) (lv, .int i :: .ref 31 :: st, mM t I L V) = vLd (eIx i 5) (fun j => .int (I 31 j)) lv st (mM t I L V) := by
  show Option.map _ (Option.map _ (eIx i 5)) = _
  cases eIx i 5 <;> rfl
theorem S_31 {sx : eSx} (pc : Nat) (lv st : List Value) (t : Nat × Nat × Bool) (I : Nat → Nat → Int32) (L : Nat → Nat → Int64) (V : Nat → Option Nat) (i : Int32) (x : Int32) : eDen (sx := sx) (p_iast pc) (lv, .int x :: .int i :: .ref 31 :: st, mM t I L V) = vSt (eIx i 5) (fun j => mM t (si I 31 j x) L V) lv st := by
  show Option.map _ (Option.map _ (eIx i 5)) = _
  cases eIx i 5 <;> rfl
theorem N_31 {sx : eSx} (pc : Nat) (lv st : List Value) (t : Nat × Nat × Bool) (I : Nat → Nat → Int32) (L : Nat → Nat → Int64) (V : Nat → Option Nat) : eDen (sx := sx) (p_alen pc) (lv, .ref 31 :: st, mM t I L V) = some (none, (lv, .int (nI 5) :: st, mM t I L V)) := id rfl
theorem A_32 {sx : eSx} (pc : Nat) (lv st : List Value) (t : Nat × Nat × Bool) (I : Nat → Nat → Int32) (L : Nat → Nat → Int64) (V : Nat → Option Nat) (i : Int32) : eDen (sx := sx) (p_iald pc) (lv, .int i :: .ref 32 :: st, mM t I L V) = vLd (eIx i 5) (fun j => .int (I 32 j)) lv st (mM t I L V) := by
  show Option.map _ (Option.map _ (eIx i 5)) = _
  cases eIx i 5 <;> rfl
theorem S_32 {sx : eSx} (pc : Nat) (lv st : List Value) (t : Nat × Nat × Bool) (I : Nat → Nat → Int32) (L : Nat → Nat → Int64) (V : Nat → Option Nat) (i : Int32) (x : Int32) : eDen (sx := sx) (p_iast pc) (lv, .int x :: .int i :: .ref 32 :: st, mM t I L V) = vSt (eIx i 5) (fun j => mM t (si I 32 j x) L V) lv st := by
  show Option.map _ (Option.map _ (eIx i 5)) = _
  cases eIx i 5 <;> rfl
theorem N_32 {sx : eSx} (pc : Nat) (lv st : List Value) (t : Nat × Nat × Bool) (I : Nat → Nat → Int32) (L : Nat → Nat → Int64) (V : Nat → Option Nat) : eDen (sx := sx) (p_alen pc) (lv, .ref 32 :: st, mM t I L V) = some (none, (lv, .int (nI 5) :: st, mM t I L V)) := id rfl
theorem A_33 {sx : eSx} (pc : Nat) (lv st : List Value) (t : Nat × Nat × Bool) (I : Nat → Nat → Int32) (L : Nat → Nat → Int64) (V : Nat → Option Nat) (i : Int32) : eDen (sx := sx) (p_iald pc) (lv, .int i :: .ref 33 :: st, mM t I L V) = vLd (eIx i 5) (fun j => .int (I 33 j)) lv st (mM t I L V) := by
  show Option.map _ (Option.map _ (eIx i 5)) = _
  cases eIx i 5 <;> rfl
theorem S_33 {sx : eSx} (pc : Nat) (lv st : List Value) (t : Nat × Nat × Bool) (I : Nat → Nat → Int32) (L : Nat → Nat → Int64) (V : Nat → Option Nat) (i : Int32) (x : Int32) : eDen (sx := sx) (p_iast pc) (lv, .int x :: .int i :: .ref 33 :: st, mM t I L V) = vSt (eIx i 5) (fun j => mM t (si I 33 j x) L V) lv st := by
  show Option.map _ (Option.map _ (eIx i 5)) = _
  cases eIx i 5 <;> rfl
theorem N_33 {sx : eSx} (pc : Nat) (lv st : List Value) (t : Nat × Nat × Bool) (I : Nat → Nat → Int32) (L : Nat → Nat → Int64) (V : Nat → Option Nat) : eDen (sx := sx) (p_alen pc) (lv, .ref 33 :: st, mM t I L V) = some (none, (lv, .int (nI 5) :: st, mM t I L V)) := id rfl
theorem G_34_0 {sx : eSx} (pc idx : Nat) (h : eFld sx.1 idx 9 0) (lv st : List Value) (t : Nat × Nat × Bool) (I : Nat → Nat → Int32) (L : Nat → Nat → Int64) (V : Nat → Option Nat) : eDen (sx := sx) (p_get pc idx 9 0 h) (lv, .ref 34 :: st, mM t I L V) = some (none, (lv, .int (I 34 0) :: st, mM t I L V)) := id rfl
theorem P_34_0 {sx : eSx} (pc idx : Nat) (h : eFld sx.1 idx 9 0) (h2 : ((eClT 9 0).2.2.2 = false ∨ ((eClT 9 0).2.2.2 = true ∧ sx.2.1 = true ∧ (eClT 9 0).1 = sx.1))) (lv st : List Value) (t : Nat × Nat × Bool) (I : Nat → Nat → Int32) (L : Nat → Nat → Int64) (V : Nat → Option Nat) (x : Int32) : eDen (sx := sx) (p_put pc idx 9 0 h h2) (lv, .int x :: .ref 34 :: st, mM t I L V) = some (none, (lv, st, mM t (si I 34 0 x) L V)) := id rfl
theorem G_34_1 {sx : eSx} (pc idx : Nat) (h : eFld sx.1 idx 9 1) (lv st : List Value) (t : Nat × Nat × Bool) (I : Nat → Nat → Int32) (L : Nat → Nat → Int64) (V : Nat → Option Nat) : eDen (sx := sx) (p_get pc idx 9 1 h) (lv, .ref 34 :: st, mM t I L V) = some (none, (lv, .int (I 34 1) :: st, mM t I L V)) := id rfl
theorem P_34_1 {sx : eSx} (pc idx : Nat) (h : eFld sx.1 idx 9 1) (h2 : ((eClT 9 1).2.2.2 = false ∨ ((eClT 9 1).2.2.2 = true ∧ sx.2.1 = true ∧ (eClT 9 1).1 = sx.1))) (lv st : List Value) (t : Nat × Nat × Bool) (I : Nat → Nat → Int32) (L : Nat → Nat → Int64) (V : Nat → Option Nat) (x : Int32) : eDen (sx := sx) (p_put pc idx 9 1 h h2) (lv, .int x :: .ref 34 :: st, mM t I L V) = some (none, (lv, st, mM t (si I 34 1 x) L V)) := id rfl
theorem G_34_2 {sx : eSx} (pc idx : Nat) (h : eFld sx.1 idx 9 2) (lv st : List Value) (t : Nat × Nat × Bool) (I : Nat → Nat → Int32) (L : Nat → Nat → Int64) (V : Nat → Option Nat) : eDen (sx := sx) (p_get pc idx 9 2 h) (lv, .ref 34 :: st, mM t I L V) = some (none, (lv, .ref 35 :: st, mM t I L V)) := id rfl
theorem R_34 (l : List Value) (t : Nat × Nat × Bool) (I : Nat → Nat → Int32) (L : Nat → Nat → Int64) (V : Nat → Option Nat) : eRcv 9 (.ref 34 :: l) (mM t I L V) = true := id rfl
theorem A_35 {sx : eSx} (pc : Nat) (lv st : List Value) (t : Nat × Nat × Bool) (I : Nat → Nat → Int32) (L : Nat → Nat → Int64) (V : Nat → Option Nat) (i : Int32) : eDen (sx := sx) (p_iald pc) (lv, .int i :: .ref 35 :: st, mM t I L V) = vLd (eIx i 200) (fun j => .int (I 35 j)) lv st (mM t I L V) := by
  show Option.map _ (Option.map _ (eIx i 200)) = _
  cases eIx i 200 <;> rfl
theorem S_35 {sx : eSx} (pc : Nat) (lv st : List Value) (t : Nat × Nat × Bool) (I : Nat → Nat → Int32) (L : Nat → Nat → Int64) (V : Nat → Option Nat) (i : Int32) (x : Int32) : eDen (sx := sx) (p_iast pc) (lv, .int x :: .int i :: .ref 35 :: st, mM t I L V) = vSt (eIx i 200) (fun j => mM t (si I 35 j x) L V) lv st := by
  show Option.map _ (Option.map _ (eIx i 200)) = _
  cases eIx i 200 <;> rfl
theorem N_35 {sx : eSx} (pc : Nat) (lv st : List Value) (t : Nat × Nat × Bool) (I : Nat → Nat → Int32) (L : Nat → Nat → Int64) (V : Nat → Option Nat) : eDen (sx := sx) (p_alen pc) (lv, .ref 35 :: st, mM t I L V) = some (none, (lv, .int (nI 200) :: st, mM t I L V)) := id rfl
theorem G_36_0 {sx : eSx} (pc idx : Nat) (h : eFld sx.1 idx 0 0) (lv st : List Value) (t : Nat × Nat × Bool) (I : Nat → Nat → Int32) (L : Nat → Nat → Int64) (V : Nat → Option Nat) : eDen (sx := sx) (p_get pc idx 0 0 h) (lv, .ref 36 :: st, mM t I L V) = some (none, (lv, .long (L 36 0) :: st, mM t I L V)) := id rfl
theorem P_36_0 {sx : eSx} (pc idx : Nat) (h : eFld sx.1 idx 0 0) (h2 : ((eClT 0 0).2.2.2 = false ∨ ((eClT 0 0).2.2.2 = true ∧ sx.2.1 = true ∧ (eClT 0 0).1 = sx.1))) (lv st : List Value) (t : Nat × Nat × Bool) (I : Nat → Nat → Int32) (L : Nat → Nat → Int64) (V : Nat → Option Nat) (x : Int64) : eDen (sx := sx) (p_put pc idx 0 0 h h2) (lv, .long x :: .ref 36 :: st, mM t I L V) = some (none, (lv, st, mM t I (sl L 36 0 x) V)) := id rfl
theorem G_36_1 {sx : eSx} (pc idx : Nat) (h : eFld sx.1 idx 0 1) (lv st : List Value) (t : Nat × Nat × Bool) (I : Nat → Nat → Int32) (L : Nat → Nat → Int64) (V : Nat → Option Nat) : eDen (sx := sx) (p_get pc idx 0 1 h) (lv, .ref 36 :: st, mM t I L V) = some (none, (lv, .long (L 36 1) :: st, mM t I L V)) := id rfl
theorem P_36_1 {sx : eSx} (pc idx : Nat) (h : eFld sx.1 idx 0 1) (h2 : ((eClT 0 1).2.2.2 = false ∨ ((eClT 0 1).2.2.2 = true ∧ sx.2.1 = true ∧ (eClT 0 1).1 = sx.1))) (lv st : List Value) (t : Nat × Nat × Bool) (I : Nat → Nat → Int32) (L : Nat → Nat → Int64) (V : Nat → Option Nat) (x : Int64) : eDen (sx := sx) (p_put pc idx 0 1 h h2) (lv, .long x :: .ref 36 :: st, mM t I L V) = some (none, (lv, st, mM t I (sl L 36 1 x) V)) := id rfl
theorem R_36 (l : List Value) (t : Nat × Nat × Bool) (I : Nat → Nat → Int32) (L : Nat → Nat → Int64) (V : Nat → Option Nat) : eRcv 0 (.ref 36 :: l) (mM t I L V) = true := id rfl
theorem G_37_0 {sx : eSx} (pc idx : Nat) (h : eFld sx.1 idx 0 0) (lv st : List Value) (t : Nat × Nat × Bool) (I : Nat → Nat → Int32) (L : Nat → Nat → Int64) (V : Nat → Option Nat) : eDen (sx := sx) (p_get pc idx 0 0 h) (lv, .ref 37 :: st, mM t I L V) = some (none, (lv, .long (L 37 0) :: st, mM t I L V)) := id rfl
theorem P_37_0 {sx : eSx} (pc idx : Nat) (h : eFld sx.1 idx 0 0) (h2 : ((eClT 0 0).2.2.2 = false ∨ ((eClT 0 0).2.2.2 = true ∧ sx.2.1 = true ∧ (eClT 0 0).1 = sx.1))) (lv st : List Value) (t : Nat × Nat × Bool) (I : Nat → Nat → Int32) (L : Nat → Nat → Int64) (V : Nat → Option Nat) (x : Int64) : eDen (sx := sx) (p_put pc idx 0 0 h h2) (lv, .long x :: .ref 37 :: st, mM t I L V) = some (none, (lv, st, mM t I (sl L 37 0 x) V)) := id rfl
theorem G_37_1 {sx : eSx} (pc idx : Nat) (h : eFld sx.1 idx 0 1) (lv st : List Value) (t : Nat × Nat × Bool) (I : Nat → Nat → Int32) (L : Nat → Nat → Int64) (V : Nat → Option Nat) : eDen (sx := sx) (p_get pc idx 0 1 h) (lv, .ref 37 :: st, mM t I L V) = some (none, (lv, .long (L 37 1) :: st, mM t I L V)) := id rfl
theorem P_37_1 {sx : eSx} (pc idx : Nat) (h : eFld sx.1 idx 0 1) (h2 : ((eClT 0 1).2.2.2 = false ∨ ((eClT 0 1).2.2.2 = true ∧ sx.2.1 = true ∧ (eClT 0 1).1 = sx.1))) (lv st : List Value) (t : Nat × Nat × Bool) (I : Nat → Nat → Int32) (L : Nat → Nat → Int64) (V : Nat → Option Nat) (x : Int64) : eDen (sx := sx) (p_put pc idx 0 1 h h2) (lv, .long x :: .ref 37 :: st, mM t I L V) = some (none, (lv, st, mM t I (sl L 37 1 x) V)) := id rfl
theorem R_37 (l : List Value) (t : Nat × Nat × Bool) (I : Nat → Nat → Int32) (L : Nat → Nat → Int64) (V : Nat → Option Nat) : eRcv 0 (.ref 37 :: l) (mM t I L V) = true := id rfl
theorem A_38 {sx : eSx} (pc : Nat) (lv st : List Value) (t : Nat × Nat × Bool) (I : Nat → Nat → Int32) (L : Nat → Nat → Int64) (V : Nat → Option Nat) (i : Int32) : eDen (sx := sx) (p_lald pc) (lv, .int i :: .ref 38 :: st, mM t I L V) = vLd (eIx i 7) (fun j => .long (L 38 j)) lv st (mM t I L V) := by
  show Option.map _ (Option.map _ (eIx i 7)) = _
  cases eIx i 7 <;> rfl
theorem S_38 {sx : eSx} (pc : Nat) (lv st : List Value) (t : Nat × Nat × Bool) (I : Nat → Nat → Int32) (L : Nat → Nat → Int64) (V : Nat → Option Nat) (i : Int32) (x : Int64) : eDen (sx := sx) (p_last pc) (lv, .long x :: .int i :: .ref 38 :: st, mM t I L V) = vSt (eIx i 7) (fun j => mM t I (sl L 38 j x) V) lv st := by
  show Option.map _ (Option.map _ (eIx i 7)) = _
  cases eIx i 7 <;> rfl
theorem N_38 {sx : eSx} (pc : Nat) (lv st : List Value) (t : Nat × Nat × Bool) (I : Nat → Nat → Int32) (L : Nat → Nat → Int64) (V : Nat → Option Nat) : eDen (sx := sx) (p_alen pc) (lv, .ref 38 :: st, mM t I L V) = some (none, (lv, .int (nI 7) :: st, mM t I L V)) := id rfl
theorem G_39_0 {sx : eSx} (pc idx : Nat) (h : eFld sx.1 idx 6 0) (lv st : List Value) (t : Nat × Nat × Bool) (I : Nat → Nat → Int32) (L : Nat → Nat → Int64) (V : Nat → Option Nat) : eDen (sx := sx) (p_get pc idx 6 0 h) (lv, .ref 39 :: st, mM t I L V) = some (none, (lv, .ref 40 :: st, mM t I L V)) := id rfl
theorem G_39_1 {sx : eSx} (pc idx : Nat) (h : eFld sx.1 idx 6 1) (lv st : List Value) (t : Nat × Nat × Bool) (I : Nat → Nat → Int32) (L : Nat → Nat → Int64) (V : Nat → Option Nat) : eDen (sx := sx) (p_get pc idx 6 1 h) (lv, .ref 39 :: st, mM t I L V) = some (none, (lv, .ref 42 :: st, mM t I L V)) := id rfl
theorem G_39_2 {sx : eSx} (pc idx : Nat) (h : eFld sx.1 idx 6 2) (lv st : List Value) (t : Nat × Nat × Bool) (I : Nat → Nat → Int32) (L : Nat → Nat → Int64) (V : Nat → Option Nat) : eDen (sx := sx) (p_get pc idx 6 2 h) (lv, .ref 39 :: st, mM t I L V) = some (none, (lv, .ref 44 :: st, mM t I L V)) := id rfl
theorem G_39_3 {sx : eSx} (pc idx : Nat) (h : eFld sx.1 idx 6 3) (lv st : List Value) (t : Nat × Nat × Bool) (I : Nat → Nat → Int32) (L : Nat → Nat → Int64) (V : Nat → Option Nat) : eDen (sx := sx) (p_get pc idx 6 3 h) (lv, .ref 39 :: st, mM t I L V) = some (none, (lv, .ref 48 :: st, mM t I L V)) := id rfl
theorem G_39_4 {sx : eSx} (pc idx : Nat) (h : eFld sx.1 idx 6 4) (lv st : List Value) (t : Nat × Nat × Bool) (I : Nat → Nat → Int32) (L : Nat → Nat → Int64) (V : Nat → Option Nat) : eDen (sx := sx) (p_get pc idx 6 4 h) (lv, .ref 39 :: st, mM t I L V) = some (none, (lv, .ref 53 :: st, mM t I L V)) := id rfl
theorem G_39_5 {sx : eSx} (pc idx : Nat) (h : eFld sx.1 idx 6 5) (lv st : List Value) (t : Nat × Nat × Bool) (I : Nat → Nat → Int32) (L : Nat → Nat → Int64) (V : Nat → Option Nat) : eDen (sx := sx) (p_get pc idx 6 5 h) (lv, .ref 39 :: st, mM t I L V) = some (none, (lv, .int (I 39 5) :: st, mM t I L V)) := id rfl
theorem P_39_5 {sx : eSx} (pc idx : Nat) (h : eFld sx.1 idx 6 5) (h2 : ((eClT 6 5).2.2.2 = false ∨ ((eClT 6 5).2.2.2 = true ∧ sx.2.1 = true ∧ (eClT 6 5).1 = sx.1))) (lv st : List Value) (t : Nat × Nat × Bool) (I : Nat → Nat → Int32) (L : Nat → Nat → Int64) (V : Nat → Option Nat) (x : Int32) : eDen (sx := sx) (p_put pc idx 6 5 h h2) (lv, .int x :: .ref 39 :: st, mM t I L V) = some (none, (lv, st, mM t (si I 39 5 x) L V)) := id rfl
theorem G_39_6 {sx : eSx} (pc idx : Nat) (h : eFld sx.1 idx 6 6) (lv st : List Value) (t : Nat × Nat × Bool) (I : Nat → Nat → Int32) (L : Nat → Nat → Int64) (V : Nat → Option Nat) : eDen (sx := sx) (p_get pc idx 6 6 h) (lv, .ref 39 :: st, mM t I L V) = some (none, (lv, .ref 55 :: st, mM t I L V)) := id rfl
theorem G_39_7 {sx : eSx} (pc idx : Nat) (h : eFld sx.1 idx 6 7) (lv st : List Value) (t : Nat × Nat × Bool) (I : Nat → Nat → Int32) (L : Nat → Nat → Int64) (V : Nat → Option Nat) : eDen (sx := sx) (p_get pc idx 6 7 h) (lv, .ref 39 :: st, mM t I L V) = some (none, (lv, .ref 56 :: st, mM t I L V)) := id rfl
theorem G_39_8 {sx : eSx} (pc idx : Nat) (h : eFld sx.1 idx 6 8) (lv st : List Value) (t : Nat × Nat × Bool) (I : Nat → Nat → Int32) (L : Nat → Nat → Int64) (V : Nat → Option Nat) : eDen (sx := sx) (p_get pc idx 6 8 h) (lv, .ref 39 :: st, mM t I L V) = some (none, (lv, .ref 57 :: st, mM t I L V)) := id rfl
theorem G_39_9 {sx : eSx} (pc idx : Nat) (h : eFld sx.1 idx 6 9) (lv st : List Value) (t : Nat × Nat × Bool) (I : Nat → Nat → Int32) (L : Nat → Nat → Int64) (V : Nat → Option Nat) : eDen (sx := sx) (p_get pc idx 6 9 h) (lv, .ref 39 :: st, mM t I L V) = some (none, (lv, .int (I 39 9) :: st, mM t I L V)) := id rfl
theorem P_39_9 {sx : eSx} (pc idx : Nat) (h : eFld sx.1 idx 6 9) (h2 : ((eClT 6 9).2.2.2 = false ∨ ((eClT 6 9).2.2.2 = true ∧ sx.2.1 = true ∧ (eClT 6 9).1 = sx.1))) (lv st : List Value) (t : Nat × Nat × Bool) (I : Nat → Nat → Int32) (L : Nat → Nat → Int64) (V : Nat → Option Nat) (x : Int32) : eDen (sx := sx) (p_put pc idx 6 9 h h2) (lv, .int x :: .ref 39 :: st, mM t I L V) = some (none, (lv, st, mM t (si I 39 9 x) L V)) := id rfl
theorem G_39_10 {sx : eSx} (pc idx : Nat) (h : eFld sx.1 idx 6 10) (lv st : List Value) (t : Nat × Nat × Bool) (I : Nat → Nat → Int32) (L : Nat → Nat → Int64) (V : Nat → Option Nat) : eDen (sx := sx) (p_get pc idx 6 10 h) (lv, .ref 39 :: st, mM t I L V) = some (none, (lv, .int (I 39 10) :: st, mM t I L V)) := id rfl
theorem P_39_10 {sx : eSx} (pc idx : Nat) (h : eFld sx.1 idx 6 10) (h2 : ((eClT 6 10).2.2.2 = false ∨ ((eClT 6 10).2.2.2 = true ∧ sx.2.1 = true ∧ (eClT 6 10).1 = sx.1))) (lv st : List Value) (t : Nat × Nat × Bool) (I : Nat → Nat → Int32) (L : Nat → Nat → Int64) (V : Nat → Option Nat) (x : Int32) : eDen (sx := sx) (p_put pc idx 6 10 h h2) (lv, .int x :: .ref 39 :: st, mM t I L V) = some (none, (lv, st, mM t (si I 39 10 x) L V)) := id rfl
theorem R_39 (l : List Value) (t : Nat × Nat × Bool) (I : Nat → Nat → Int32) (L : Nat → Nat → Int64) (V : Nat → Option Nat) : eRcv 6 (.ref 39 :: l) (mM t I L V) = true := id rfl
theorem G_40_0 {sx : eSx} (pc idx : Nat) (h : eFld sx.1 idx 4 0) (lv st : List Value) (t : Nat × Nat × Bool) (I : Nat → Nat → Int32) (L : Nat → Nat → Int64) (V : Nat → Option Nat) : eDen (sx := sx) (p_get pc idx 4 0 h) (lv, .ref 40 :: st, mM t I L V) = some (none, (lv, .int (I 40 0) :: st, mM t I L V)) := id rfl
theorem P_40_0 {sx : eSx} (pc idx : Nat) (h : eFld sx.1 idx 4 0) (h2 : ((eClT 4 0).2.2.2 = false ∨ ((eClT 4 0).2.2.2 = true ∧ sx.2.1 = true ∧ (eClT 4 0).1 = sx.1))) (lv st : List Value) (t : Nat × Nat × Bool) (I : Nat → Nat → Int32) (L : Nat → Nat → Int64) (V : Nat → Option Nat) (x : Int32) : eDen (sx := sx) (p_put pc idx 4 0 h h2) (lv, .int x :: .ref 40 :: st, mM t I L V) = some (none, (lv, st, mM t (si I 40 0 x) L V)) := id rfl
theorem G_40_1 {sx : eSx} (pc idx : Nat) (h : eFld sx.1 idx 4 1) (lv st : List Value) (t : Nat × Nat × Bool) (I : Nat → Nat → Int32) (L : Nat → Nat → Int64) (V : Nat → Option Nat) : eDen (sx := sx) (p_get pc idx 4 1 h) (lv, .ref 40 :: st, mM t I L V) = some (none, (lv, .ref 41 :: st, mM t I L V)) := id rfl
theorem R_40 (l : List Value) (t : Nat × Nat × Bool) (I : Nat → Nat → Int32) (L : Nat → Nat → Int64) (V : Nat → Option Nat) : eRcv 4 (.ref 40 :: l) (mM t I L V) = true := id rfl
theorem A_41 {sx : eSx} (pc : Nat) (lv st : List Value) (t : Nat × Nat × Bool) (I : Nat → Nat → Int32) (L : Nat → Nat → Int64) (V : Nat → Option Nat) (i : Int32) : eDen (sx := sx) (p_iald pc) (lv, .int i :: .ref 41 :: st, mM t I L V) = vLd (eIx i 7) (fun j => .int (I 41 j)) lv st (mM t I L V) := by
  show Option.map _ (Option.map _ (eIx i 7)) = _
  cases eIx i 7 <;> rfl
theorem S_41 {sx : eSx} (pc : Nat) (lv st : List Value) (t : Nat × Nat × Bool) (I : Nat → Nat → Int32) (L : Nat → Nat → Int64) (V : Nat → Option Nat) (i : Int32) (x : Int32) : eDen (sx := sx) (p_iast pc) (lv, .int x :: .int i :: .ref 41 :: st, mM t I L V) = vSt (eIx i 7) (fun j => mM t (si I 41 j x) L V) lv st := by
  show Option.map _ (Option.map _ (eIx i 7)) = _
  cases eIx i 7 <;> rfl
theorem N_41 {sx : eSx} (pc : Nat) (lv st : List Value) (t : Nat × Nat × Bool) (I : Nat → Nat → Int32) (L : Nat → Nat → Int64) (V : Nat → Option Nat) : eDen (sx := sx) (p_alen pc) (lv, .ref 41 :: st, mM t I L V) = some (none, (lv, .int (nI 7) :: st, mM t I L V)) := id rfl
theorem G_42_0 {sx : eSx} (pc idx : Nat) (h : eFld sx.1 idx 4 0) (lv st : List Value) (t : Nat × Nat × Bool) (I : Nat → Nat → Int32) (L : Nat → Nat → Int64) (V : Nat → Option Nat) : eDen (sx := sx) (p_get pc idx 4 0 h) (lv, .ref 42 :: st, mM t I L V) = some (none, (lv, .int (I 42 0) :: st, mM t I L V)) := id rfl
theorem P_42_0 {sx : eSx} (pc idx : Nat) (h : eFld sx.1 idx 4 0) (h2 : ((eClT 4 0).2.2.2 = false ∨ ((eClT 4 0).2.2.2 = true ∧ sx.2.1 = true ∧ (eClT 4 0).1 = sx.1))) (lv st : List Value) (t : Nat × Nat × Bool) (I : Nat → Nat → Int32) (L : Nat → Nat → Int64) (V : Nat → Option Nat) (x : Int32) : eDen (sx := sx) (p_put pc idx 4 0 h h2) (lv, .int x :: .ref 42 :: st, mM t I L V) = some (none, (lv, st, mM t (si I 42 0 x) L V)) := id rfl
theorem G_42_1 {sx : eSx} (pc idx : Nat) (h : eFld sx.1 idx 4 1) (lv st : List Value) (t : Nat × Nat × Bool) (I : Nat → Nat → Int32) (L : Nat → Nat → Int64) (V : Nat → Option Nat) : eDen (sx := sx) (p_get pc idx 4 1 h) (lv, .ref 42 :: st, mM t I L V) = some (none, (lv, .ref 43 :: st, mM t I L V)) := id rfl
theorem R_42 (l : List Value) (t : Nat × Nat × Bool) (I : Nat → Nat → Int32) (L : Nat → Nat → Int64) (V : Nat → Option Nat) : eRcv 4 (.ref 42 :: l) (mM t I L V) = true := id rfl
theorem A_43 {sx : eSx} (pc : Nat) (lv st : List Value) (t : Nat × Nat × Bool) (I : Nat → Nat → Int32) (L : Nat → Nat → Int64) (V : Nat → Option Nat) (i : Int32) : eDen (sx := sx) (p_iald pc) (lv, .int i :: .ref 43 :: st, mM t I L V) = vLd (eIx i 7) (fun j => .int (I 43 j)) lv st (mM t I L V) := by
  show Option.map _ (Option.map _ (eIx i 7)) = _
  cases eIx i 7 <;> rfl
theorem S_43 {sx : eSx} (pc : Nat) (lv st : List Value) (t : Nat × Nat × Bool) (I : Nat → Nat → Int32) (L : Nat → Nat → Int64) (V : Nat → Option Nat) (i : Int32) (x : Int32) : eDen (sx := sx) (p_iast pc) (lv, .int x :: .int i :: .ref 43 :: st, mM t I L V) = vSt (eIx i 7) (fun j => mM t (si I 43 j x) L V) lv st := by
  show Option.map _ (Option.map _ (eIx i 7)) = _
  cases eIx i 7 <;> rfl
theorem N_43 {sx : eSx} (pc : Nat) (lv st : List Value) (t : Nat × Nat × Bool) (I : Nat → Nat → Int32) (L : Nat → Nat → Int64) (V : Nat → Option Nat) : eDen (sx := sx) (p_alen pc) (lv, .ref 43 :: st, mM t I L V) = some (none, (lv, .int (nI 7) :: st, mM t I L V)) := id rfl
theorem G_44_0 {sx : eSx} (pc idx : Nat) (h : eFld sx.1 idx 3 0) (lv st : List Value) (t : Nat × Nat × Bool) (I : Nat → Nat → Int32) (L : Nat → Nat → Int64) (V : Nat → Option Nat) : eDen (sx := sx) (p_get pc idx 3 0 h) (lv, .ref 44 :: st, mM t I L V) = some (none, (lv, .int (I 44 0) :: st, mM t I L V)) := id rfl
theorem P_44_0 {sx : eSx} (pc idx : Nat) (h : eFld sx.1 idx 3 0) (h2 : ((eClT 3 0).2.2.2 = false ∨ ((eClT 3 0).2.2.2 = true ∧ sx.2.1 = true ∧ (eClT 3 0).1 = sx.1))) (lv st : List Value) (t : Nat × Nat × Bool) (I : Nat → Nat → Int32) (L : Nat → Nat → Int64) (V : Nat → Option Nat) (x : Int32) : eDen (sx := sx) (p_put pc idx 3 0 h h2) (lv, .int x :: .ref 44 :: st, mM t I L V) = some (none, (lv, st, mM t (si I 44 0 x) L V)) := id rfl
theorem G_44_1 {sx : eSx} (pc idx : Nat) (h : eFld sx.1 idx 3 1) (lv st : List Value) (t : Nat × Nat × Bool) (I : Nat → Nat → Int32) (L : Nat → Nat → Int64) (V : Nat → Option Nat) : eDen (sx := sx) (p_get pc idx 3 1 h) (lv, .ref 44 :: st, mM t I L V) = some (none, (lv, .ref 45 :: st, mM t I L V)) := id rfl
theorem G_44_2 {sx : eSx} (pc idx : Nat) (h : eFld sx.1 idx 3 2) (lv st : List Value) (t : Nat × Nat × Bool) (I : Nat → Nat → Int32) (L : Nat → Nat → Int64) (V : Nat → Option Nat) : eDen (sx := sx) (p_get pc idx 3 2 h) (lv, .ref 44 :: st, mM t I L V) = some (none, (lv, .ref 46 :: st, mM t I L V)) := id rfl
theorem G_44_3 {sx : eSx} (pc idx : Nat) (h : eFld sx.1 idx 3 3) (lv st : List Value) (t : Nat × Nat × Bool) (I : Nat → Nat → Int32) (L : Nat → Nat → Int64) (V : Nat → Option Nat) : eDen (sx := sx) (p_get pc idx 3 3 h) (lv, .ref 44 :: st, mM t I L V) = some (none, (lv, .ref 47 :: st, mM t I L V)) := id rfl
theorem R_44 (l : List Value) (t : Nat × Nat × Bool) (I : Nat → Nat → Int32) (L : Nat → Nat → Int64) (V : Nat → Option Nat) : eRcv 3 (.ref 44 :: l) (mM t I L V) = true := id rfl
theorem A_45 {sx : eSx} (pc : Nat) (lv st : List Value) (t : Nat × Nat × Bool) (I : Nat → Nat → Int32) (L : Nat → Nat → Int64) (V : Nat → Option Nat) (i : Int32) : eDen (sx := sx) (p_iald pc) (lv, .int i :: .ref 45 :: st, mM t I L V) = vLd (eIx i 6) (fun j => .int (I 45 j)) lv st (mM t I L V) := by
  show Option.map _ (Option.map _ (eIx i 6)) = _
  cases eIx i 6 <;> rfl
theorem S_45 {sx : eSx} (pc : Nat) (lv st : List Value) (t : Nat × Nat × Bool) (I : Nat → Nat → Int32) (L : Nat → Nat → Int64) (V : Nat → Option Nat) (i : Int32) (x : Int32) : eDen (sx := sx) (p_iast pc) (lv, .int x :: .int i :: .ref 45 :: st, mM t I L V) = vSt (eIx i 6) (fun j => mM t (si I 45 j x) L V) lv st := by
  show Option.map _ (Option.map _ (eIx i 6)) = _
  cases eIx i 6 <;> rfl
theorem N_45 {sx : eSx} (pc : Nat) (lv st : List Value) (t : Nat × Nat × Bool) (I : Nat → Nat → Int32) (L : Nat → Nat → Int64) (V : Nat → Option Nat) : eDen (sx := sx) (p_alen pc) (lv, .ref 45 :: st, mM t I L V) = some (none, (lv, .int (nI 6) :: st, mM t I L V)) := id rfl
theorem A_46 {sx : eSx} (pc : Nat) (lv st : List Value) (t : Nat × Nat × Bool) (I : Nat → Nat → Int32) (L : Nat → Nat → Int64) (V : Nat → Option Nat) (i : Int32) : eDen (sx := sx) (p_iald pc) (lv, .int i :: .ref 46 :: st, mM t I L V) = vLd (eIx i 6) (fun j => .int (I 46 j)) lv st (mM t I L V) := by
  show Option.map _ (Option.map _ (eIx i 6)) = _
  cases eIx i 6 <;> rfl
theorem S_46 {sx : eSx} (pc : Nat) (lv st : List Value) (t : Nat × Nat × Bool) (I : Nat → Nat → Int32) (L : Nat → Nat → Int64) (V : Nat → Option Nat) (i : Int32) (x : Int32) : eDen (sx := sx) (p_iast pc) (lv, .int x :: .int i :: .ref 46 :: st, mM t I L V) = vSt (eIx i 6) (fun j => mM t (si I 46 j x) L V) lv st := by
  show Option.map _ (Option.map _ (eIx i 6)) = _
  cases eIx i 6 <;> rfl
theorem N_46 {sx : eSx} (pc : Nat) (lv st : List Value) (t : Nat × Nat × Bool) (I : Nat → Nat → Int32) (L : Nat → Nat → Int64) (V : Nat → Option Nat) : eDen (sx := sx) (p_alen pc) (lv, .ref 46 :: st, mM t I L V) = some (none, (lv, .int (nI 6) :: st, mM t I L V)) := id rfl
theorem A_47 {sx : eSx} (pc : Nat) (lv st : List Value) (t : Nat × Nat × Bool) (I : Nat → Nat → Int32) (L : Nat → Nat → Int64) (V : Nat → Option Nat) (i : Int32) : eDen (sx := sx) (p_iald pc) (lv, .int i :: .ref 47 :: st, mM t I L V) = vLd (eIx i 6) (fun j => .int (I 47 j)) lv st (mM t I L V) := by
  show Option.map _ (Option.map _ (eIx i 6)) = _
  cases eIx i 6 <;> rfl
theorem S_47 {sx : eSx} (pc : Nat) (lv st : List Value) (t : Nat × Nat × Bool) (I : Nat → Nat → Int32) (L : Nat → Nat → Int64) (V : Nat → Option Nat) (i : Int32) (x : Int32) : eDen (sx := sx) (p_iast pc) (lv, .int x :: .int i :: .ref 47 :: st, mM t I L V) = vSt (eIx i 6) (fun j => mM t (si I 47 j x) L V) lv st := by
  show Option.map _ (Option.map _ (eIx i 6)) = _
  cases eIx i 6 <;> rfl
theorem N_47 {sx : eSx} (pc : Nat) (lv st : List Value) (t : Nat × Nat × Bool) (I : Nat → Nat → Int32) (L : Nat → Nat → Int64) (V : Nat → Option Nat) : eDen (sx := sx) (p_alen pc) (lv, .ref 47 :: st, mM t I L V) = some (none, (lv, .int (nI 6) :: st, mM t I L V)) := id rfl
theorem G_48_0 {sx : eSx} (pc idx : Nat) (h : eFld sx.1 idx 1 0) (lv st : List Value) (t : Nat × Nat × Bool) (I : Nat → Nat → Int32) (L : Nat → Nat → Int64) (V : Nat → Option Nat) : eDen (sx := sx) (p_get pc idx 1 0 h) (lv, .ref 48 :: st, mM t I L V) = some (none, (lv, .int (I 48 0) :: st, mM t I L V)) := id rfl
theorem P_48_0 {sx : eSx} (pc idx : Nat) (h : eFld sx.1 idx 1 0) (h2 : ((eClT 1 0).2.2.2 = false ∨ ((eClT 1 0).2.2.2 = true ∧ sx.2.1 = true ∧ (eClT 1 0).1 = sx.1))) (lv st : List Value) (t : Nat × Nat × Bool) (I : Nat → Nat → Int32) (L : Nat → Nat → Int64) (V : Nat → Option Nat) (x : Int32) : eDen (sx := sx) (p_put pc idx 1 0 h h2) (lv, .int x :: .ref 48 :: st, mM t I L V) = some (none, (lv, st, mM t (si I 48 0 x) L V)) := id rfl
theorem G_48_1 {sx : eSx} (pc idx : Nat) (h : eFld sx.1 idx 1 1) (lv st : List Value) (t : Nat × Nat × Bool) (I : Nat → Nat → Int32) (L : Nat → Nat → Int64) (V : Nat → Option Nat) : eDen (sx := sx) (p_get pc idx 1 1 h) (lv, .ref 48 :: st, mM t I L V) = some (none, (lv, .ref 49 :: st, mM t I L V)) := id rfl
theorem G_48_2 {sx : eSx} (pc idx : Nat) (h : eFld sx.1 idx 1 2) (lv st : List Value) (t : Nat × Nat × Bool) (I : Nat → Nat → Int32) (L : Nat → Nat → Int64) (V : Nat → Option Nat) : eDen (sx := sx) (p_get pc idx 1 2 h) (lv, .ref 48 :: st, mM t I L V) = some (none, (lv, .ref 50 :: st, mM t I L V)) := id rfl
theorem G_48_3 {sx : eSx} (pc idx : Nat) (h : eFld sx.1 idx 1 3) (lv st : List Value) (t : Nat × Nat × Bool) (I : Nat → Nat → Int32) (L : Nat → Nat → Int64) (V : Nat → Option Nat) : eDen (sx := sx) (p_get pc idx 1 3 h) (lv, .ref 48 :: st, mM t I L V) = some (none, (lv, .ref 51 :: st, mM t I L V)) := id rfl
theorem G_48_4 {sx : eSx} (pc idx : Nat) (h : eFld sx.1 idx 1 4) (lv st : List Value) (t : Nat × Nat × Bool) (I : Nat → Nat → Int32) (L : Nat → Nat → Int64) (V : Nat → Option Nat) : eDen (sx := sx) (p_get pc idx 1 4 h) (lv, .ref 48 :: st, mM t I L V) = some (none, (lv, .ref 52 :: st, mM t I L V)) := id rfl
theorem R_48 (l : List Value) (t : Nat × Nat × Bool) (I : Nat → Nat → Int32) (L : Nat → Nat → Int64) (V : Nat → Option Nat) : eRcv 1 (.ref 48 :: l) (mM t I L V) = true := id rfl
theorem A_49 {sx : eSx} (pc : Nat) (lv st : List Value) (t : Nat × Nat × Bool) (I : Nat → Nat → Int32) (L : Nat → Nat → Int64) (V : Nat → Option Nat) (i : Int32) : eDen (sx := sx) (p_iald pc) (lv, .int i :: .ref 49 :: st, mM t I L V) = vLd (eIx i 5) (fun j => .int (I 49 j)) lv st (mM t I L V) := by
  show Option.map _ (Option.map _ (eIx i 5)) = _
  cases eIx i 5 <;> rfl
theorem S_49 {sx : eSx} (pc : Nat) (lv st : List Value) (t : Nat × Nat × Bool) (I : Nat → Nat → Int32) (L : Nat → Nat → Int64) (V : Nat → Option Nat) (i : Int32) (x : Int32) : eDen (sx := sx) (p_iast pc) (lv, .int x :: .int i :: .ref 49 :: st, mM t I L V) = vSt (eIx i 5) (fun j => mM t (si I 49 j x) L V) lv st := by
  show Option.map _ (Option.map _ (eIx i 5)) = _
  cases eIx i 5 <;> rfl
theorem N_49 {sx : eSx} (pc : Nat) (lv st : List Value) (t : Nat × Nat × Bool) (I : Nat → Nat → Int32) (L : Nat → Nat → Int64) (V : Nat → Option Nat) : eDen (sx := sx) (p_alen pc) (lv, .ref 49 :: st, mM t I L V) = some (none, (lv, .int (nI 5) :: st, mM t I L V)) := id rfl
theorem A_50 {sx : eSx} (pc : Nat) (lv st : List Value) (t : Nat × Nat × Bool) (I : Nat → Nat → Int32) (L : Nat → Nat → Int64) (V : Nat → Option Nat) (i : Int32) : eDen (sx := sx) (p_iald pc) (lv, .int i :: .ref 50 :: st, mM t I L V) = vLd (eIx i 5) (fun j => .int (I 50 j)) lv st (mM t I L V) := by
  show Option.map _ (Option.map _ (eIx i 5)) = _
  cases eIx i 5 <;> rfl
theorem S_50 {sx : eSx} (pc : Nat) (lv st : List Value) (t : Nat × Nat × Bool) (I : Nat → Nat → Int32) (L : Nat → Nat → Int64) (V : Nat → Option Nat) (i : Int32) (x : Int32) : eDen (sx := sx) (p_iast pc) (lv, .int x :: .int i :: .ref 50 :: st, mM t I L V) = vSt (eIx i 5) (fun j => mM t (si I 50 j x) L V) lv st := by
  show Option.map _ (Option.map _ (eIx i 5)) = _
  cases eIx i 5 <;> rfl
theorem N_50 {sx : eSx} (pc : Nat) (lv st : List Value) (t : Nat × Nat × Bool) (I : Nat → Nat → Int32) (L : Nat → Nat → Int64) (V : Nat → Option Nat) : eDen (sx := sx) (p_alen pc) (lv, .ref 50 :: st, mM t I L V) = some (none, (lv, .int (nI 5) :: st, mM t I L V)) := id rfl
theorem A_51 {sx : eSx} (pc : Nat) (lv st : List Value) (t : Nat × Nat × Bool) (I : Nat → Nat → Int32) (L : Nat → Nat → Int64) (V : Nat → Option Nat) (i : Int32) : eDen (sx := sx) (p_iald pc) (lv, .int i :: .ref 51 :: st, mM t I L V) = vLd (eIx i 5) (fun j => .int (I 51 j)) lv st (mM t I L V) := by
  show Option.map _ (Option.map _ (eIx i 5)) = _
  cases eIx i 5 <;> rfl
theorem S_51 {sx : eSx} (pc : Nat) (lv st : List Value) (t : Nat × Nat × Bool) (I : Nat → Nat → Int32) (L : Nat → Nat → Int64) (V : Nat → Option Nat) (i : Int32) (x : Int32) : eDen (sx := sx) (p_iast pc) (lv, .int x :: .int i :: .ref 51 :: st, mM t I L V) = vSt (eIx i 5) (fun j => mM t (si I 51 j x) L V) lv st := by
  show Option.map _ (Option.map _ (eIx i 5)) = _
  cases eIx i 5 <;> rfl
theorem N_51 {sx : eSx} (pc : Nat) (lv st : List Value) (t : Nat × Nat × Bool) (I : Nat → Nat → Int32) (L : Nat → Nat → Int64) (V : Nat → Option Nat) : eDen (sx := sx) (p_alen pc) (lv, .ref 51 :: st, mM t I L V) = some (none, (lv, .int (nI 5) :: st, mM t I L V)) := id rfl
theorem A_52 {sx : eSx} (pc : Nat) (lv st : List Value) (t : Nat × Nat × Bool) (I : Nat → Nat → Int32) (L : Nat → Nat → Int64) (V : Nat → Option Nat) (i : Int32) : eDen (sx := sx) (p_iald pc) (lv, .int i :: .ref 52 :: st, mM t I L V) = vLd (eIx i 5) (fun j => .int (I 52 j)) lv st (mM t I L V) := by
  show Option.map _ (Option.map _ (eIx i 5)) = _
  cases eIx i 5 <;> rfl
theorem S_52 {sx : eSx} (pc : Nat) (lv st : List Value) (t : Nat × Nat × Bool) (I : Nat → Nat → Int32) (L : Nat → Nat → Int64) (V : Nat → Option Nat) (i : Int32) (x : Int32) : eDen (sx := sx) (p_iast pc) (lv, .int x :: .int i :: .ref 52 :: st, mM t I L V) = vSt (eIx i 5) (fun j => mM t (si I 52 j x) L V) lv st := by
  show Option.map _ (Option.map _ (eIx i 5)) = _
  cases eIx i 5 <;> rfl
theorem N_52 {sx : eSx} (pc : Nat) (lv st : List Value) (t : Nat × Nat × Bool) (I : Nat → Nat → Int32) (L : Nat → Nat → Int64) (V : Nat → Option Nat) : eDen (sx := sx) (p_alen pc) (lv, .ref 52 :: st, mM t I L V) = some (none, (lv, .int (nI 5) :: st, mM t I L V)) := id rfl
theorem G_53_0 {sx : eSx} (pc idx : Nat) (h : eFld sx.1 idx 9 0) (lv st : List Value) (t : Nat × Nat × Bool) (I : Nat → Nat → Int32) (L : Nat → Nat → Int64) (V : Nat → Option Nat) : eDen (sx := sx) (p_get pc idx 9 0 h) (lv, .ref 53 :: st, mM t I L V) = some (none, (lv, .int (I 53 0) :: st, mM t I L V)) := id rfl
theorem P_53_0 {sx : eSx} (pc idx : Nat) (h : eFld sx.1 idx 9 0) (h2 : ((eClT 9 0).2.2.2 = false ∨ ((eClT 9 0).2.2.2 = true ∧ sx.2.1 = true ∧ (eClT 9 0).1 = sx.1))) (lv st : List Value) (t : Nat × Nat × Bool) (I : Nat → Nat → Int32) (L : Nat → Nat → Int64) (V : Nat → Option Nat) (x : Int32) : eDen (sx := sx) (p_put pc idx 9 0 h h2) (lv, .int x :: .ref 53 :: st, mM t I L V) = some (none, (lv, st, mM t (si I 53 0 x) L V)) := id rfl
theorem G_53_1 {sx : eSx} (pc idx : Nat) (h : eFld sx.1 idx 9 1) (lv st : List Value) (t : Nat × Nat × Bool) (I : Nat → Nat → Int32) (L : Nat → Nat → Int64) (V : Nat → Option Nat) : eDen (sx := sx) (p_get pc idx 9 1 h) (lv, .ref 53 :: st, mM t I L V) = some (none, (lv, .int (I 53 1) :: st, mM t I L V)) := id rfl
theorem P_53_1 {sx : eSx} (pc idx : Nat) (h : eFld sx.1 idx 9 1) (h2 : ((eClT 9 1).2.2.2 = false ∨ ((eClT 9 1).2.2.2 = true ∧ sx.2.1 = true ∧ (eClT 9 1).1 = sx.1))) (lv st : List Value) (t : Nat × Nat × Bool) (I : Nat → Nat → Int32) (L : Nat → Nat → Int64) (V : Nat → Option Nat) (x : Int32) : eDen (sx := sx) (p_put pc idx 9 1 h h2) (lv, .int x :: .ref 53 :: st, mM t I L V) = some (none, (lv, st, mM t (si I 53 1 x) L V)) := id rfl
theorem G_53_2 {sx : eSx} (pc idx : Nat) (h : eFld sx.1 idx 9 2) (lv st : List Value) (t : Nat × Nat × Bool) (I : Nat → Nat → Int32) (L : Nat → Nat → Int64) (V : Nat → Option Nat) : eDen (sx := sx) (p_get pc idx 9 2 h) (lv, .ref 53 :: st, mM t I L V) = some (none, (lv, .ref 54 :: st, mM t I L V)) := id rfl
theorem R_53 (l : List Value) (t : Nat × Nat × Bool) (I : Nat → Nat → Int32) (L : Nat → Nat → Int64) (V : Nat → Option Nat) : eRcv 9 (.ref 53 :: l) (mM t I L V) = true := id rfl
theorem A_54 {sx : eSx} (pc : Nat) (lv st : List Value) (t : Nat × Nat × Bool) (I : Nat → Nat → Int32) (L : Nat → Nat → Int64) (V : Nat → Option Nat) (i : Int32) : eDen (sx := sx) (p_iald pc) (lv, .int i :: .ref 54 :: st, mM t I L V) = vLd (eIx i 200) (fun j => .int (I 54 j)) lv st (mM t I L V) := by
  show Option.map _ (Option.map _ (eIx i 200)) = _
  cases eIx i 200 <;> rfl
theorem S_54 {sx : eSx} (pc : Nat) (lv st : List Value) (t : Nat × Nat × Bool) (I : Nat → Nat → Int32) (L : Nat → Nat → Int64) (V : Nat → Option Nat) (i : Int32) (x : Int32) : eDen (sx := sx) (p_iast pc) (lv, .int x :: .int i :: .ref 54 :: st, mM t I L V) = vSt (eIx i 200) (fun j => mM t (si I 54 j x) L V) lv st := by
  show Option.map _ (Option.map _ (eIx i 200)) = _
  cases eIx i 200 <;> rfl
theorem N_54 {sx : eSx} (pc : Nat) (lv st : List Value) (t : Nat × Nat × Bool) (I : Nat → Nat → Int32) (L : Nat → Nat → Int64) (V : Nat → Option Nat) : eDen (sx := sx) (p_alen pc) (lv, .ref 54 :: st, mM t I L V) = some (none, (lv, .int (nI 200) :: st, mM t I L V)) := id rfl
theorem G_55_0 {sx : eSx} (pc idx : Nat) (h : eFld sx.1 idx 0 0) (lv st : List Value) (t : Nat × Nat × Bool) (I : Nat → Nat → Int32) (L : Nat → Nat → Int64) (V : Nat → Option Nat) : eDen (sx := sx) (p_get pc idx 0 0 h) (lv, .ref 55 :: st, mM t I L V) = some (none, (lv, .long (L 55 0) :: st, mM t I L V)) := id rfl
theorem P_55_0 {sx : eSx} (pc idx : Nat) (h : eFld sx.1 idx 0 0) (h2 : ((eClT 0 0).2.2.2 = false ∨ ((eClT 0 0).2.2.2 = true ∧ sx.2.1 = true ∧ (eClT 0 0).1 = sx.1))) (lv st : List Value) (t : Nat × Nat × Bool) (I : Nat → Nat → Int32) (L : Nat → Nat → Int64) (V : Nat → Option Nat) (x : Int64) : eDen (sx := sx) (p_put pc idx 0 0 h h2) (lv, .long x :: .ref 55 :: st, mM t I L V) = some (none, (lv, st, mM t I (sl L 55 0 x) V)) := id rfl
theorem G_55_1 {sx : eSx} (pc idx : Nat) (h : eFld sx.1 idx 0 1) (lv st : List Value) (t : Nat × Nat × Bool) (I : Nat → Nat → Int32) (L : Nat → Nat → Int64) (V : Nat → Option Nat) : eDen (sx := sx) (p_get pc idx 0 1 h) (lv, .ref 55 :: st, mM t I L V) = some (none, (lv, .long (L 55 1) :: st, mM t I L V)) := id rfl
theorem P_55_1 {sx : eSx} (pc idx : Nat) (h : eFld sx.1 idx 0 1) (h2 : ((eClT 0 1).2.2.2 = false ∨ ((eClT 0 1).2.2.2 = true ∧ sx.2.1 = true ∧ (eClT 0 1).1 = sx.1))) (lv st : List Value) (t : Nat × Nat × Bool) (I : Nat → Nat → Int32) (L : Nat → Nat → Int64) (V : Nat → Option Nat) (x : Int64) : eDen (sx := sx) (p_put pc idx 0 1 h h2) (lv, .long x :: .ref 55 :: st, mM t I L V) = some (none, (lv, st, mM t I (sl L 55 1 x) V)) := id rfl
theorem R_55 (l : List Value) (t : Nat × Nat × Bool) (I : Nat → Nat → Int32) (L : Nat → Nat → Int64) (V : Nat → Option Nat) : eRcv 0 (.ref 55 :: l) (mM t I L V) = true := id rfl
theorem G_56_0 {sx : eSx} (pc idx : Nat) (h : eFld sx.1 idx 0 0) (lv st : List Value) (t : Nat × Nat × Bool) (I : Nat → Nat → Int32) (L : Nat → Nat → Int64) (V : Nat → Option Nat) : eDen (sx := sx) (p_get pc idx 0 0 h) (lv, .ref 56 :: st, mM t I L V) = some (none, (lv, .long (L 56 0) :: st, mM t I L V)) := id rfl
theorem P_56_0 {sx : eSx} (pc idx : Nat) (h : eFld sx.1 idx 0 0) (h2 : ((eClT 0 0).2.2.2 = false ∨ ((eClT 0 0).2.2.2 = true ∧ sx.2.1 = true ∧ (eClT 0 0).1 = sx.1))) (lv st : List Value) (t : Nat × Nat × Bool) (I : Nat → Nat → Int32) (L : Nat → Nat → Int64) (V : Nat → Option Nat) (x : Int64) : eDen (sx := sx) (p_put pc idx 0 0 h h2) (lv, .long x :: .ref 56 :: st, mM t I L V) = some (none, (lv, st, mM t I (sl L 56 0 x) V)) := id rfl
theorem G_56_1 {sx : eSx} (pc idx : Nat) (h : eFld sx.1 idx 0 1) (lv st : List Value) (t : Nat × Nat × Bool) (I : Nat → Nat → Int32) (L : Nat → Nat → Int64) (V : Nat → Option Nat) : eDen (sx := sx) (p_get pc idx 0 1 h) (lv, .ref 56 :: st, mM t I L V) = some (none, (lv, .long (L 56 1) :: st, mM t I L V)) := id rfl
theorem P_56_1 {sx : eSx} (pc idx : Nat) (h : eFld sx.1 idx 0 1) (h2 : ((eClT 0 1).2.2.2 = false ∨ ((eClT 0 1).2.2.2 = true ∧ sx.2.1 = true ∧ (eClT 0 1).1 = sx.1))) (lv st : List Value) (t : Nat × Nat × Bool) (I : Nat → Nat → Int32) (L : Nat → Nat → Int64) (V : Nat → Option Nat) (x : Int64) : eDen (sx := sx) (p_put pc idx 0 1 h h2) (lv, .long x :: .ref 56 :: st, mM t I L V) = some (none, (lv, st, mM t I (sl L 56 1 x) V)) := id rfl
theorem R_56 (l : List Value) (t : Nat × Nat × Bool) (I : Nat → Nat → Int32) (L : Nat → Nat → Int64) (V : Nat → Option Nat) : eRcv 0 (.ref 56 :: l) (mM t I L V) = true := id rfl
theorem A_57 {sx : eSx} (pc : Nat) (lv st : List Value) (t : Nat × Nat × Bool) (I : Nat → Nat → Int32) (L : Nat → Nat → Int64) (V : Nat → Option Nat) (i : Int32) : eDen (sx := sx) (p_lald pc) (lv, .int i :: .ref 57 :: st, mM t I L V) = vLd (eIx i 7) (fun j => .long (L 57 j)) lv st (mM t I L V) := by
  show Option.map _ (Option.map _ (eIx i 7)) = _
  cases eIx i 7 <;> rfl
theorem S_57 {sx : eSx} (pc : Nat) (lv st : List Value) (t : Nat × Nat × Bool) (I : Nat → Nat → Int32) (L : Nat → Nat → Int64) (V : Nat → Option Nat) (i : Int32) (x : Int64) : eDen (sx := sx) (p_last pc) (lv, .long x :: .int i :: .ref 57 :: st, mM t I L V) = vSt (eIx i 7) (fun j => mM t I (sl L 57 j x) V) lv st := by
  show Option.map _ (Option.map _ (eIx i 7)) = _
  cases eIx i 7 <;> rfl
theorem N_57 {sx : eSx} (pc : Nat) (lv st : List Value) (t : Nat × Nat × Bool) (I : Nat → Nat → Int32) (L : Nat → Nat → Int64) (V : Nat → Option Nat) : eDen (sx := sx) (p_alen pc) (lv, .ref 57 :: st, mM t I L V) = some (none, (lv, .int (nI 7) :: st, mM t I L V)) := id rfl
theorem A_58 {sx : eSx} (pc : Nat) (h : 53 = 53 ∨ 53 = 54) (lv st : List Value) (t : Nat × Nat × Bool) (I : Nat → Nat → Int32) (L : Nat → Nat → Int64) (V : Nat → Option Nat) (i : Int32) : eDen (sx := sx) (p_aald pc 53 h) (lv, .int i :: .ref 58 :: st, mM t I L V) = vLd (eIx i 6) (fun j => eRf (eA0 58 j)) lv st (mM t I L V) := by
  show Option.map _ (Option.map _ (eIx i 6)) = _
  cases eIx i 6 <;> rfl
theorem N_58 {sx : eSx} (pc : Nat) (lv st : List Value) (t : Nat × Nat × Bool) (I : Nat → Nat → Int32) (L : Nat → Nat → Int64) (V : Nat → Option Nat) : eDen (sx := sx) (p_alen pc) (lv, .ref 58 :: st, mM t I L V) = some (none, (lv, .int (nI 6) :: st, mM t I L V)) := id rfl
theorem G_59_0 {sx : eSx} (pc idx : Nat) (h : eFld sx.1 idx 2 0) (lv st : List Value) (t : Nat × Nat × Bool) (I : Nat → Nat → Int32) (L : Nat → Nat → Int64) (V : Nat → Option Nat) : eDen (sx := sx) (p_get pc idx 2 0 h) (lv, .ref 59 :: st, mM t I L V) = some (none, (lv, .int (I 59 0) :: st, mM t I L V)) := id rfl
theorem P_59_0 {sx : eSx} (pc idx : Nat) (h : eFld sx.1 idx 2 0) (h2 : ((eClT 2 0).2.2.2 = false ∨ ((eClT 2 0).2.2.2 = true ∧ sx.2.1 = true ∧ (eClT 2 0).1 = sx.1))) (lv st : List Value) (t : Nat × Nat × Bool) (I : Nat → Nat → Int32) (L : Nat → Nat → Int64) (V : Nat → Option Nat) (x : Int32) : eDen (sx := sx) (p_put pc idx 2 0 h h2) (lv, .int x :: .ref 59 :: st, mM t I L V) = some (none, (lv, st, mM t (si I 59 0 x) L V)) := id rfl
theorem G_59_1 {sx : eSx} (pc idx : Nat) (h : eFld sx.1 idx 2 1) (lv st : List Value) (t : Nat × Nat × Bool) (I : Nat → Nat → Int32) (L : Nat → Nat → Int64) (V : Nat → Option Nat) : eDen (sx := sx) (p_get pc idx 2 1 h) (lv, .ref 59 :: st, mM t I L V) = some (none, (lv, .ref 60 :: st, mM t I L V)) := id rfl
theorem G_59_2 {sx : eSx} (pc idx : Nat) (h : eFld sx.1 idx 2 2) (lv st : List Value) (t : Nat × Nat × Bool) (I : Nat → Nat → Int32) (L : Nat → Nat → Int64) (V : Nat → Option Nat) : eDen (sx := sx) (p_get pc idx 2 2 h) (lv, .ref 59 :: st, mM t I L V) = some (none, (lv, .ref 61 :: st, mM t I L V)) := id rfl
theorem G_59_3 {sx : eSx} (pc idx : Nat) (h : eFld sx.1 idx 2 3) (lv st : List Value) (t : Nat × Nat × Bool) (I : Nat → Nat → Int32) (L : Nat → Nat → Int64) (V : Nat → Option Nat) : eDen (sx := sx) (p_get pc idx 2 3 h) (lv, .ref 59 :: st, mM t I L V) = some (none, (lv, .ref 62 :: st, mM t I L V)) := id rfl
theorem R_59 (l : List Value) (t : Nat × Nat × Bool) (I : Nat → Nat → Int32) (L : Nat → Nat → Int64) (V : Nat → Option Nat) : eRcv 2 (.ref 59 :: l) (mM t I L V) = true := id rfl
theorem A_60 {sx : eSx} (pc : Nat) (lv st : List Value) (t : Nat × Nat × Bool) (I : Nat → Nat → Int32) (L : Nat → Nat → Int64) (V : Nat → Option Nat) (i : Int32) : eDen (sx := sx) (p_iald pc) (lv, .int i :: .ref 60 :: st, mM t I L V) = vLd (eIx i 6) (fun j => .int (I 60 j)) lv st (mM t I L V) := by
  show Option.map _ (Option.map _ (eIx i 6)) = _
  cases eIx i 6 <;> rfl
theorem S_60 {sx : eSx} (pc : Nat) (lv st : List Value) (t : Nat × Nat × Bool) (I : Nat → Nat → Int32) (L : Nat → Nat → Int64) (V : Nat → Option Nat) (i : Int32) (x : Int32) : eDen (sx := sx) (p_iast pc) (lv, .int x :: .int i :: .ref 60 :: st, mM t I L V) = vSt (eIx i 6) (fun j => mM t (si I 60 j x) L V) lv st := by
  show Option.map _ (Option.map _ (eIx i 6)) = _
  cases eIx i 6 <;> rfl
theorem N_60 {sx : eSx} (pc : Nat) (lv st : List Value) (t : Nat × Nat × Bool) (I : Nat → Nat → Int32) (L : Nat → Nat → Int64) (V : Nat → Option Nat) : eDen (sx := sx) (p_alen pc) (lv, .ref 60 :: st, mM t I L V) = some (none, (lv, .int (nI 6) :: st, mM t I L V)) := id rfl
theorem A_61 {sx : eSx} (pc : Nat) (lv st : List Value) (t : Nat × Nat × Bool) (I : Nat → Nat → Int32) (L : Nat → Nat → Int64) (V : Nat → Option Nat) (i : Int32) : eDen (sx := sx) (p_iald pc) (lv, .int i :: .ref 61 :: st, mM t I L V) = vLd (eIx i 6) (fun j => .int (I 61 j)) lv st (mM t I L V) := by
  show Option.map _ (Option.map _ (eIx i 6)) = _
  cases eIx i 6 <;> rfl
theorem S_61 {sx : eSx} (pc : Nat) (lv st : List Value) (t : Nat × Nat × Bool) (I : Nat → Nat → Int32) (L : Nat → Nat → Int64) (V : Nat → Option Nat) (i : Int32) (x : Int32) : eDen (sx := sx) (p_iast pc) (lv, .int x :: .int i :: .ref 61 :: st, mM t I L V) = vSt (eIx i 6) (fun j => mM t (si I 61 j x) L V) lv st := by
  show Option.map _ (Option.map _ (eIx i 6)) = _
  cases eIx i 6 <;> rfl
theorem N_61 {sx : eSx} (pc : Nat) (lv st : List Value) (t : Nat × Nat × Bool) (I : Nat → Nat → Int32) (L : Nat → Nat → Int64) (V : Nat → Option Nat) : eDen (sx := sx) (p_alen pc) (lv, .ref 61 :: st, mM t I L V) = some (none, (lv, .int (nI 6) :: st, mM t I L V)) := id rfl
theorem G_62_0 {sx : eSx} (pc idx : Nat) (h : eFld sx.1 idx 0 0) (lv st : List Value) (t : Nat × Nat × Bool) (I : Nat → Nat → Int32) (L : Nat → Nat → Int64) (V : Nat → Option Nat) : eDen (sx := sx) (p_get pc idx 0 0 h) (lv, .ref 62 :: st, mM t I L V) = some (none, (lv, .long (L 62 0) :: st, mM t I L V)) := id rfl
theorem P_62_0 {sx : eSx} (pc idx : Nat) (h : eFld sx.1 idx 0 0) (h2 : ((eClT 0 0).2.2.2 = false ∨ ((eClT 0 0).2.2.2 = true ∧ sx.2.1 = true ∧ (eClT 0 0).1 = sx.1))) (lv st : List Value) (t : Nat × Nat × Bool) (I : Nat → Nat → Int32) (L : Nat → Nat → Int64) (V : Nat → Option Nat) (x : Int64) : eDen (sx := sx) (p_put pc idx 0 0 h h2) (lv, .long x :: .ref 62 :: st, mM t I L V) = some (none, (lv, st, mM t I (sl L 62 0 x) V)) := id rfl
theorem G_62_1 {sx : eSx} (pc idx : Nat) (h : eFld sx.1 idx 0 1) (lv st : List Value) (t : Nat × Nat × Bool) (I : Nat → Nat → Int32) (L : Nat → Nat → Int64) (V : Nat → Option Nat) : eDen (sx := sx) (p_get pc idx 0 1 h) (lv, .ref 62 :: st, mM t I L V) = some (none, (lv, .long (L 62 1) :: st, mM t I L V)) := id rfl
theorem P_62_1 {sx : eSx} (pc idx : Nat) (h : eFld sx.1 idx 0 1) (h2 : ((eClT 0 1).2.2.2 = false ∨ ((eClT 0 1).2.2.2 = true ∧ sx.2.1 = true ∧ (eClT 0 1).1 = sx.1))) (lv st : List Value) (t : Nat × Nat × Bool) (I : Nat → Nat → Int32) (L : Nat → Nat → Int64) (V : Nat → Option Nat) (x : Int64) : eDen (sx := sx) (p_put pc idx 0 1 h h2) (lv, .long x :: .ref 62 :: st, mM t I L V) = some (none, (lv, st, mM t I (sl L 62 1 x) V)) := id rfl
theorem R_62 (l : List Value) (t : Nat × Nat × Bool) (I : Nat → Nat → Int32) (L : Nat → Nat → Int64) (V : Nat → Option Nat) : eRcv 0 (.ref 62 :: l) (mM t I L V) = true := id rfl
theorem G_63_0 {sx : eSx} (pc idx : Nat) (h : eFld sx.1 idx 0 0) (lv st : List Value) (t : Nat × Nat × Bool) (I : Nat → Nat → Int32) (L : Nat → Nat → Int64) (V : Nat → Option Nat) : eDen (sx := sx) (p_get pc idx 0 0 h) (lv, .ref 63 :: st, mM t I L V) = some (none, (lv, .long (L 63 0) :: st, mM t I L V)) := id rfl
theorem P_63_0 {sx : eSx} (pc idx : Nat) (h : eFld sx.1 idx 0 0) (h2 : ((eClT 0 0).2.2.2 = false ∨ ((eClT 0 0).2.2.2 = true ∧ sx.2.1 = true ∧ (eClT 0 0).1 = sx.1))) (lv st : List Value) (t : Nat × Nat × Bool) (I : Nat → Nat → Int32) (L : Nat → Nat → Int64) (V : Nat → Option Nat) (x : Int64) : eDen (sx := sx) (p_put pc idx 0 0 h h2) (lv, .long x :: .ref 63 :: st, mM t I L V) = some (none, (lv, st, mM t I (sl L 63 0 x) V)) := id rfl
theorem G_63_1 {sx : eSx} (pc idx : Nat) (h : eFld sx.1 idx 0 1) (lv st : List Value) (t : Nat × Nat × Bool) (I : Nat → Nat → Int32) (L : Nat → Nat → Int64) (V : Nat → Option Nat) : eDen (sx := sx) (p_get pc idx 0 1 h) (lv, .ref 63 :: st, mM t I L V) = some (none, (lv, .long (L 63 1) :: st, mM t I L V)) := id rfl
theorem P_63_1 {sx : eSx} (pc idx : Nat) (h : eFld sx.1 idx 0 1) (h2 : ((eClT 0 1).2.2.2 = false ∨ ((eClT 0 1).2.2.2 = true ∧ sx.2.1 = true ∧ (eClT 0 1).1 = sx.1))) (lv st : List Value) (t : Nat × Nat × Bool) (I : Nat → Nat → Int32) (L : Nat → Nat → Int64) (V : Nat → Option Nat) (x : Int64) : eDen (sx := sx) (p_put pc idx 0 1 h h2) (lv, .long x :: .ref 63 :: st, mM t I L V) = some (none, (lv, st, mM t I (sl L 63 1 x) V)) := id rfl
theorem R_63 (l : List Value) (t : Nat × Nat × Bool) (I : Nat → Nat → Int32) (L : Nat → Nat → Int64) (V : Nat → Option Nat) : eRcv 0 (.ref 63 :: l) (mM t I L V) = true := id rfl
theorem A_64 {sx : eSx} (pc : Nat) (lv st : List Value) (t : Nat × Nat × Bool) (I : Nat → Nat → Int32) (L : Nat → Nat → Int64) (V : Nat → Option Nat) (i : Int32) : eDen (sx := sx) (p_lald pc) (lv, .int i :: .ref 64 :: st, mM t I L V) = vLd (eIx i 6) (fun j => .long (L 64 j)) lv st (mM t I L V) := by
  show Option.map _ (Option.map _ (eIx i 6)) = _
  cases eIx i 6 <;> rfl
theorem S_64 {sx : eSx} (pc : Nat) (lv st : List Value) (t : Nat × Nat × Bool) (I : Nat → Nat → Int32) (L : Nat → Nat → Int64) (V : Nat → Option Nat) (i : Int32) (x : Int64) : eDen (sx := sx) (p_last pc) (lv, .long x :: .int i :: .ref 64 :: st, mM t I L V) = vSt (eIx i 6) (fun j => mM t I (sl L 64 j x) V) lv st := by
  show Option.map _ (Option.map _ (eIx i 6)) = _
  cases eIx i 6 <;> rfl
theorem N_64 {sx : eSx} (pc : Nat) (lv st : List Value) (t : Nat × Nat × Bool) (I : Nat → Nat → Int32) (L : Nat → Nat → Int64) (V : Nat → Option Nat) : eDen (sx := sx) (p_alen pc) (lv, .ref 64 :: st, mM t I L V) = some (none, (lv, .int (nI 6) :: st, mM t I L V)) := id rfl
theorem G_65_0 {sx : eSx} (pc idx : Nat) (h : eFld sx.1 idx 7 0) (lv st : List Value) (t : Nat × Nat × Bool) (I : Nat → Nat → Int32) (L : Nat → Nat → Int64) (V : Nat → Option Nat) : eDen (sx := sx) (p_get pc idx 7 0 h) (lv, .ref 65 :: st, mM t I L V) = some (none, (lv, .int (I 65 0) :: st, mM t I L V)) := id rfl
theorem P_65_0 {sx : eSx} (pc idx : Nat) (h : eFld sx.1 idx 7 0) (h2 : ((eClT 7 0).2.2.2 = false ∨ ((eClT 7 0).2.2.2 = true ∧ sx.2.1 = true ∧ (eClT 7 0).1 = sx.1))) (lv st : List Value) (t : Nat × Nat × Bool) (I : Nat → Nat → Int32) (L : Nat → Nat → Int64) (V : Nat → Option Nat) (x : Int32) : eDen (sx := sx) (p_put pc idx 7 0 h h2) (lv, .int x :: .ref 65 :: st, mM t I L V) = some (none, (lv, st, mM t (si I 65 0 x) L V)) := id rfl
theorem G_65_1 {sx : eSx} (pc idx : Nat) (h : eFld sx.1 idx 7 1) (lv st : List Value) (t : Nat × Nat × Bool) (I : Nat → Nat → Int32) (L : Nat → Nat → Int64) (V : Nat → Option Nat) : eDen (sx := sx) (p_get pc idx 7 1 h) (lv, .ref 65 :: st, mM t I L V) = some (none, (lv, .ref 66 :: st, mM t I L V)) := id rfl
theorem G_65_2 {sx : eSx} (pc idx : Nat) (h : eFld sx.1 idx 7 2) (lv st : List Value) (t : Nat × Nat × Bool) (I : Nat → Nat → Int32) (L : Nat → Nat → Int64) (V : Nat → Option Nat) : eDen (sx := sx) (p_get pc idx 7 2 h) (lv, .ref 65 :: st, mM t I L V) = some (none, (lv, .int (I 65 2) :: st, mM t I L V)) := id rfl
theorem P_65_2 {sx : eSx} (pc idx : Nat) (h : eFld sx.1 idx 7 2) (h2 : ((eClT 7 2).2.2.2 = false ∨ ((eClT 7 2).2.2.2 = true ∧ sx.2.1 = true ∧ (eClT 7 2).1 = sx.1))) (lv st : List Value) (t : Nat × Nat × Bool) (I : Nat → Nat → Int32) (L : Nat → Nat → Int64) (V : Nat → Option Nat) (x : Int32) : eDen (sx := sx) (p_put pc idx 7 2 h h2) (lv, .int x :: .ref 65 :: st, mM t I L V) = some (none, (lv, st, mM t (si I 65 2 x) L V)) := id rfl
theorem G_65_3 {sx : eSx} (pc idx : Nat) (h : eFld sx.1 idx 7 3) (lv st : List Value) (t : Nat × Nat × Bool) (I : Nat → Nat → Int32) (L : Nat → Nat → Int64) (V : Nat → Option Nat) : eDen (sx := sx) (p_get pc idx 7 3 h) (lv, .ref 65 :: st, mM t I L V) = some (none, (lv, .int (I 65 3) :: st, mM t I L V)) := id rfl
theorem P_65_3 {sx : eSx} (pc idx : Nat) (h : eFld sx.1 idx 7 3) (h2 : ((eClT 7 3).2.2.2 = false ∨ ((eClT 7 3).2.2.2 = true ∧ sx.2.1 = true ∧ (eClT 7 3).1 = sx.1))) (lv st : List Value) (t : Nat × Nat × Bool) (I : Nat → Nat → Int32) (L : Nat → Nat → Int64) (V : Nat → Option Nat) (x : Int32) : eDen (sx := sx) (p_put pc idx 7 3 h h2) (lv, .int x :: .ref 65 :: st, mM t I L V) = some (none, (lv, st, mM t (si I 65 3 x) L V)) := id rfl
theorem G_65_4 {sx : eSx} (pc idx : Nat) (h : eFld sx.1 idx 7 4) (lv st : List Value) (t : Nat × Nat × Bool) (I : Nat → Nat → Int32) (L : Nat → Nat → Int64) (V : Nat → Option Nat) : eDen (sx := sx) (p_get pc idx 7 4 h) (lv, .ref 65 :: st, mM t I L V) = some (none, (lv, .int (I 65 4) :: st, mM t I L V)) := id rfl
theorem P_65_4 {sx : eSx} (pc idx : Nat) (h : eFld sx.1 idx 7 4) (h2 : ((eClT 7 4).2.2.2 = false ∨ ((eClT 7 4).2.2.2 = true ∧ sx.2.1 = true ∧ (eClT 7 4).1 = sx.1))) (lv st : List Value) (t : Nat × Nat × Bool) (I : Nat → Nat → Int32) (L : Nat → Nat → Int64) (V : Nat → Option Nat) (x : Int32) : eDen (sx := sx) (p_put pc idx 7 4 h h2) (lv, .int x :: .ref 65 :: st, mM t I L V) = some (none, (lv, st, mM t (si I 65 4 x) L V)) := id rfl
theorem G_65_5 {sx : eSx} (pc idx : Nat) (h : eFld sx.1 idx 7 5) (lv st : List Value) (t : Nat × Nat × Bool) (I : Nat → Nat → Int32) (L : Nat → Nat → Int64) (V : Nat → Option Nat) : eDen (sx := sx) (p_get pc idx 7 5 h) (lv, .ref 65 :: st, mM t I L V) = some (none, (lv, .int (I 65 5) :: st, mM t I L V)) := id rfl
theorem P_65_5 {sx : eSx} (pc idx : Nat) (h : eFld sx.1 idx 7 5) (h2 : ((eClT 7 5).2.2.2 = false ∨ ((eClT 7 5).2.2.2 = true ∧ sx.2.1 = true ∧ (eClT 7 5).1 = sx.1))) (lv st : List Value) (t : Nat × Nat × Bool) (I : Nat → Nat → Int32) (L : Nat → Nat → Int64) (V : Nat → Option Nat) (x : Int32) : eDen (sx := sx) (p_put pc idx 7 5 h h2) (lv, .int x :: .ref 65 :: st, mM t I L V) = some (none, (lv, st, mM t (si I 65 5 x) L V)) := id rfl
theorem G_65_6 {sx : eSx} (pc idx : Nat) (h : eFld sx.1 idx 7 6) (lv st : List Value) (t : Nat × Nat × Bool) (I : Nat → Nat → Int32) (L : Nat → Nat → Int64) (V : Nat → Option Nat) : eDen (sx := sx) (p_get pc idx 7 6 h) (lv, .ref 65 :: st, mM t I L V) = some (none, (lv, .int (I 65 6) :: st, mM t I L V)) := id rfl
theorem P_65_6 {sx : eSx} (pc idx : Nat) (h : eFld sx.1 idx 7 6) (h2 : ((eClT 7 6).2.2.2 = false ∨ ((eClT 7 6).2.2.2 = true ∧ sx.2.1 = true ∧ (eClT 7 6).1 = sx.1))) (lv st : List Value) (t : Nat × Nat × Bool) (I : Nat → Nat → Int32) (L : Nat → Nat → Int64) (V : Nat → Option Nat) (x : Int32) : eDen (sx := sx) (p_put pc idx 7 6 h h2) (lv, .int x :: .ref 65 :: st, mM t I L V) = some (none, (lv, st, mM t (si I 65 6 x) L V)) := id rfl
theorem G_65_7 {sx : eSx} (pc idx : Nat) (h : eFld sx.1 idx 7 7) (lv st : List Value) (t : Nat × Nat × Bool) (I : Nat → Nat → Int32) (L : Nat → Nat → Int64) (V : Nat → Option Nat) : eDen (sx := sx) (p_get pc idx 7 7 h) (lv, .ref 65 :: st, mM t I L V) = some (none, (lv, .int (I 65 7) :: st, mM t I L V)) := id rfl
theorem P_65_7 {sx : eSx} (pc idx : Nat) (h : eFld sx.1 idx 7 7) (h2 : ((eClT 7 7).2.2.2 = false ∨ ((eClT 7 7).2.2.2 = true ∧ sx.2.1 = true ∧ (eClT 7 7).1 = sx.1))) (lv st : List Value) (t : Nat × Nat × Bool) (I : Nat → Nat → Int32) (L : Nat → Nat → Int64) (V : Nat → Option Nat) (x : Int32) : eDen (sx := sx) (p_put pc idx 7 7 h h2) (lv, .int x :: .ref 65 :: st, mM t I L V) = some (none, (lv, st, mM t (si I 65 7 x) L V)) := id rfl
theorem R_65 (l : List Value) (t : Nat × Nat × Bool) (I : Nat → Nat → Int32) (L : Nat → Nat → Int64) (V : Nat → Option Nat) : eRcv 7 (.ref 65 :: l) (mM t I L V) = true := id rfl
theorem A_66 {sx : eSx} (pc : Nat) (lv st : List Value) (t : Nat × Nat × Bool) (I : Nat → Nat → Int32) (L : Nat → Nat → Int64) (V : Nat → Option Nat) (i : Int32) : eDen (sx := sx) (p_bald pc) (lv, .int i :: .ref 66 :: st, mM t I L V) = vLd (eIx i 400) (fun j => .int (I 66 j)) lv st (mM t I L V) := by
  show Option.map _ (Option.map _ (eIx i 400)) = _
  cases eIx i 400 <;> rfl
theorem S_66 {sx : eSx} (pc : Nat) (lv st : List Value) (t : Nat × Nat × Bool) (I : Nat → Nat → Int32) (L : Nat → Nat → Int64) (V : Nat → Option Nat) (i : Int32) (x : Int32) : eDen (sx := sx) (p_bast pc) (lv, .int x :: .int i :: .ref 66 :: st, mM t I L V) = vSt (eIx i 400) (fun j => mM t (si I 66 j x.toInt8.toInt32) L V) lv st := by
  show Option.map _ (Option.map _ (eIx i 400)) = _
  cases eIx i 400 <;> rfl
theorem N_66 {sx : eSx} (pc : Nat) (lv st : List Value) (t : Nat × Nat × Bool) (I : Nat → Nat → Int32) (L : Nat → Nat → Int64) (V : Nat → Option Nat) : eDen (sx := sx) (p_alen pc) (lv, .ref 66 :: st, mM t I L V) = some (none, (lv, .int (nI 400) :: st, mM t I L V)) := id rfl
theorem G_67_0 {sx : eSx} (pc idx : Nat) (h : eFld sx.1 idx 8 0) (lv st : List Value) (t : Nat × Nat × Bool) (I : Nat → Nat → Int32) (L : Nat → Nat → Int64) (V : Nat → Option Nat) : eDen (sx := sx) (p_get pc idx 8 0 h) (lv, .ref 67 :: st, mM t I L V) = some (none, (lv, .int (I 67 0) :: st, mM t I L V)) := id rfl
theorem P_67_0 {sx : eSx} (pc idx : Nat) (h : eFld sx.1 idx 8 0) (h2 : ((eClT 8 0).2.2.2 = false ∨ ((eClT 8 0).2.2.2 = true ∧ sx.2.1 = true ∧ (eClT 8 0).1 = sx.1))) (lv st : List Value) (t : Nat × Nat × Bool) (I : Nat → Nat → Int32) (L : Nat → Nat → Int64) (V : Nat → Option Nat) (x : Int32) : eDen (sx := sx) (p_put pc idx 8 0 h h2) (lv, .int x :: .ref 67 :: st, mM t I L V) = if x = 0 ∨ x = 1 then some (none, (lv, st, mM t (si I 67 0 x) L V)) else none := by
  show Option.map _ (Option.map _ (if x = 0 ∨ x = 1 then _ else none)) = _
  split <;> rfl
theorem R_67 (l : List Value) (t : Nat × Nat × Bool) (I : Nat → Nat → Int32) (L : Nat → Nat → Int64) (V : Nat → Option Nat) : eRcv 8 (.ref 67 :: l) (mM t I L V) = true := id rfl
theorem G_68_0 {sx : eSx} (pc idx : Nat) (h : eFld sx.1 idx 5 0) (lv st : List Value) (t : Nat × Nat × Bool) (I : Nat → Nat → Int32) (L : Nat → Nat → Int64) (V : Nat → Option Nat) : eDen (sx := sx) (p_get pc idx 5 0 h) (lv, .ref 68 :: st, mM t I L V) = some (none, (lv, .int (I 68 0) :: st, mM t I L V)) := id rfl
theorem P_68_0 {sx : eSx} (pc idx : Nat) (h : eFld sx.1 idx 5 0) (h2 : ((eClT 5 0).2.2.2 = false ∨ ((eClT 5 0).2.2.2 = true ∧ sx.2.1 = true ∧ (eClT 5 0).1 = sx.1))) (lv st : List Value) (t : Nat × Nat × Bool) (I : Nat → Nat → Int32) (L : Nat → Nat → Int64) (V : Nat → Option Nat) (x : Int32) : eDen (sx := sx) (p_put pc idx 5 0 h h2) (lv, .int x :: .ref 68 :: st, mM t I L V) = some (none, (lv, st, mM t (si I 68 0 x) L V)) := id rfl
theorem G_68_1 {sx : eSx} (pc idx : Nat) (h : eFld sx.1 idx 5 1) (lv st : List Value) (t : Nat × Nat × Bool) (I : Nat → Nat → Int32) (L : Nat → Nat → Int64) (V : Nat → Option Nat) : eDen (sx := sx) (p_get pc idx 5 1 h) (lv, .ref 68 :: st, mM t I L V) = some (none, (lv, .int (I 68 1) :: st, mM t I L V)) := id rfl
theorem P_68_1 {sx : eSx} (pc idx : Nat) (h : eFld sx.1 idx 5 1) (h2 : ((eClT 5 1).2.2.2 = false ∨ ((eClT 5 1).2.2.2 = true ∧ sx.2.1 = true ∧ (eClT 5 1).1 = sx.1))) (lv st : List Value) (t : Nat × Nat × Bool) (I : Nat → Nat → Int32) (L : Nat → Nat → Int64) (V : Nat → Option Nat) (x : Int32) : eDen (sx := sx) (p_put pc idx 5 1 h h2) (lv, .int x :: .ref 68 :: st, mM t I L V) = some (none, (lv, st, mM t (si I 68 1 x) L V)) := id rfl
theorem G_68_2 {sx : eSx} (pc idx : Nat) (h : eFld sx.1 idx 5 2) (lv st : List Value) (t : Nat × Nat × Bool) (I : Nat → Nat → Int32) (L : Nat → Nat → Int64) (V : Nat → Option Nat) : eDen (sx := sx) (p_get pc idx 5 2 h) (lv, .ref 68 :: st, mM t I L V) = some (none, (lv, .int (I 68 2) :: st, mM t I L V)) := id rfl
theorem P_68_2 {sx : eSx} (pc idx : Nat) (h : eFld sx.1 idx 5 2) (h2 : ((eClT 5 2).2.2.2 = false ∨ ((eClT 5 2).2.2.2 = true ∧ sx.2.1 = true ∧ (eClT 5 2).1 = sx.1))) (lv st : List Value) (t : Nat × Nat × Bool) (I : Nat → Nat → Int32) (L : Nat → Nat → Int64) (V : Nat → Option Nat) (x : Int32) : eDen (sx := sx) (p_put pc idx 5 2 h h2) (lv, .int x :: .ref 68 :: st, mM t I L V) = if x = 0 ∨ x = 1 then some (none, (lv, st, mM t (si I 68 2 x) L V)) else none := by
  show Option.map _ (Option.map _ (if x = 0 ∨ x = 1 then _ else none)) = _
  split <;> rfl
theorem G_68_3 {sx : eSx} (pc idx : Nat) (h : eFld sx.1 idx 5 3) (lv st : List Value) (t : Nat × Nat × Bool) (I : Nat → Nat → Int32) (L : Nat → Nat → Int64) (V : Nat → Option Nat) : eDen (sx := sx) (p_get pc idx 5 3 h) (lv, .ref 68 :: st, mM t I L V) = some (none, (lv, .ref 69 :: st, mM t I L V)) := id rfl
theorem G_68_4 {sx : eSx} (pc idx : Nat) (h : eFld sx.1 idx 5 4) (lv st : List Value) (t : Nat × Nat × Bool) (I : Nat → Nat → Int32) (L : Nat → Nat → Int64) (V : Nat → Option Nat) : eDen (sx := sx) (p_get pc idx 5 4 h) (lv, .ref 68 :: st, mM t I L V) = some (none, (lv, .ref 70 :: st, mM t I L V)) := id rfl
theorem G_68_5 {sx : eSx} (pc idx : Nat) (h : eFld sx.1 idx 5 5) (lv st : List Value) (t : Nat × Nat × Bool) (I : Nat → Nat → Int32) (L : Nat → Nat → Int64) (V : Nat → Option Nat) : eDen (sx := sx) (p_get pc idx 5 5 h) (lv, .ref 68 :: st, mM t I L V) = some (none, (lv, .ref 71 :: st, mM t I L V)) := id rfl
theorem G_68_6 {sx : eSx} (pc idx : Nat) (h : eFld sx.1 idx 5 6) (lv st : List Value) (t : Nat × Nat × Bool) (I : Nat → Nat → Int32) (L : Nat → Nat → Int64) (V : Nat → Option Nat) : eDen (sx := sx) (p_get pc idx 5 6 h) (lv, .ref 68 :: st, mM t I L V) = some (none, (lv, .ref 72 :: st, mM t I L V)) := id rfl
theorem G_68_7 {sx : eSx} (pc idx : Nat) (h : eFld sx.1 idx 5 7) (lv st : List Value) (t : Nat × Nat × Bool) (I : Nat → Nat → Int32) (L : Nat → Nat → Int64) (V : Nat → Option Nat) : eDen (sx := sx) (p_get pc idx 5 7 h) (lv, .ref 68 :: st, mM t I L V) = some (none, (lv, .ref 73 :: st, mM t I L V)) := id rfl
theorem R_68 (l : List Value) (t : Nat × Nat × Bool) (I : Nat → Nat → Int32) (L : Nat → Nat → Int64) (V : Nat → Option Nat) : eRcv 5 (.ref 68 :: l) (mM t I L V) = true := id rfl
theorem A_69 {sx : eSx} (pc : Nat) (h : 54 = 53 ∨ 54 = 54) (lv st : List Value) (t : Nat × Nat × Bool) (I : Nat → Nat → Int32) (L : Nat → Nat → Int64) (V : Nat → Option Nat) (i : Int32) : eDen (sx := sx) (p_aald pc 54 h) (lv, .int i :: .ref 69 :: st, mM t I L V) = vLd (eIx i 30) (fun j => eRf (V j)) lv st (mM t I L V) := by
  show Option.map _ (Option.map _ (eIx i 30)) = _
  cases eIx i 30 <;> rfl
theorem N_69 {sx : eSx} (pc : Nat) (lv st : List Value) (t : Nat × Nat × Bool) (I : Nat → Nat → Int32) (L : Nat → Nat → Int64) (V : Nat → Option Nat) : eDen (sx := sx) (p_alen pc) (lv, .ref 69 :: st, mM t I L V) = some (none, (lv, .int (nI 30) :: st, mM t I L V)) := id rfl
theorem A_70 {sx : eSx} (pc : Nat) (lv st : List Value) (t : Nat × Nat × Bool) (I : Nat → Nat → Int32) (L : Nat → Nat → Int64) (V : Nat → Option Nat) (i : Int32) : eDen (sx := sx) (p_iald pc) (lv, .int i :: .ref 70 :: st, mM t I L V) = vLd (eIx i 30) (fun j => .int (I 70 j)) lv st (mM t I L V) := by
  show Option.map _ (Option.map _ (eIx i 30)) = _
  cases eIx i 30 <;> rfl
theorem S_70 {sx : eSx} (pc : Nat) (lv st : List Value) (t : Nat × Nat × Bool) (I : Nat → Nat → Int32) (L : Nat → Nat → Int64) (V : Nat → Option Nat) (i : Int32) (x : Int32) : eDen (sx := sx) (p_iast pc) (lv, .int x :: .int i :: .ref 70 :: st, mM t I L V) = vSt (eIx i 30) (fun j => mM t (si I 70 j x) L V) lv st := by
  show Option.map _ (Option.map _ (eIx i 30)) = _
  cases eIx i 30 <;> rfl
theorem N_70 {sx : eSx} (pc : Nat) (lv st : List Value) (t : Nat × Nat × Bool) (I : Nat → Nat → Int32) (L : Nat → Nat → Int64) (V : Nat → Option Nat) : eDen (sx := sx) (p_alen pc) (lv, .ref 70 :: st, mM t I L V) = some (none, (lv, .int (nI 30) :: st, mM t I L V)) := id rfl
theorem A_71 {sx : eSx} (pc : Nat) (lv st : List Value) (t : Nat × Nat × Bool) (I : Nat → Nat → Int32) (L : Nat → Nat → Int64) (V : Nat → Option Nat) (i : Int32) : eDen (sx := sx) (p_iald pc) (lv, .int i :: .ref 71 :: st, mM t I L V) = vLd (eIx i 30) (fun j => .int (I 71 j)) lv st (mM t I L V) := by
  show Option.map _ (Option.map _ (eIx i 30)) = _
  cases eIx i 30 <;> rfl
theorem S_71 {sx : eSx} (pc : Nat) (lv st : List Value) (t : Nat × Nat × Bool) (I : Nat → Nat → Int32) (L : Nat → Nat → Int64) (V : Nat → Option Nat) (i : Int32) (x : Int32) : eDen (sx := sx) (p_iast pc) (lv, .int x :: .int i :: .ref 71 :: st, mM t I L V) = vSt (eIx i 30) (fun j => mM t (si I 71 j x) L V) lv st := by
  show Option.map _ (Option.map _ (eIx i 30)) = _
  cases eIx i 30 <;> rfl
theorem N_71 {sx : eSx} (pc : Nat) (lv st : List Value) (t : Nat × Nat × Bool) (I : Nat → Nat → Int32) (L : Nat → Nat → Int64) (V : Nat → Option Nat) : eDen (sx := sx) (p_alen pc) (lv, .ref 71 :: st, mM t I L V) = some (none, (lv, .int (nI 30) :: st, mM t I L V)) := id rfl
theorem A_72 {sx : eSx} (pc : Nat) (lv st : List Value) (t : Nat × Nat × Bool) (I : Nat → Nat → Int32) (L : Nat → Nat → Int64) (V : Nat → Option Nat) (i : Int32) : eDen (sx := sx) (p_iald pc) (lv, .int i :: .ref 72 :: st, mM t I L V) = vLd (eIx i 30) (fun j => .int (I 72 j)) lv st (mM t I L V) := by
  show Option.map _ (Option.map _ (eIx i 30)) = _
  cases eIx i 30 <;> rfl
theorem S_72 {sx : eSx} (pc : Nat) (lv st : List Value) (t : Nat × Nat × Bool) (I : Nat → Nat → Int32) (L : Nat → Nat → Int64) (V : Nat → Option Nat) (i : Int32) (x : Int32) : eDen (sx := sx) (p_iast pc) (lv, .int x :: .int i :: .ref 72 :: st, mM t I L V) = vSt (eIx i 30) (fun j => mM t (si I 72 j x) L V) lv st := by
  show Option.map _ (Option.map _ (eIx i 30)) = _
  cases eIx i 30 <;> rfl
theorem N_72 {sx : eSx} (pc : Nat) (lv st : List Value) (t : Nat × Nat × Bool) (I : Nat → Nat → Int32) (L : Nat → Nat → Int64) (V : Nat → Option Nat) : eDen (sx := sx) (p_alen pc) (lv, .ref 72 :: st, mM t I L V) = some (none, (lv, .int (nI 30) :: st, mM t I L V)) := id rfl
theorem A_73 {sx : eSx} (pc : Nat) (lv st : List Value) (t : Nat × Nat × Bool) (I : Nat → Nat → Int32) (L : Nat → Nat → Int64) (V : Nat → Option Nat) (i : Int32) : eDen (sx := sx) (p_iald pc) (lv, .int i :: .ref 73 :: st, mM t I L V) = vLd (eIx i 30) (fun j => .int (I 73 j)) lv st (mM t I L V) := by
  show Option.map _ (Option.map _ (eIx i 30)) = _
  cases eIx i 30 <;> rfl
theorem S_73 {sx : eSx} (pc : Nat) (lv st : List Value) (t : Nat × Nat × Bool) (I : Nat → Nat → Int32) (L : Nat → Nat → Int64) (V : Nat → Option Nat) (i : Int32) (x : Int32) : eDen (sx := sx) (p_iast pc) (lv, .int x :: .int i :: .ref 73 :: st, mM t I L V) = vSt (eIx i 30) (fun j => mM t (si I 73 j x) L V) lv st := by
  show Option.map _ (Option.map _ (eIx i 30)) = _
  cases eIx i 30 <;> rfl
theorem N_73 {sx : eSx} (pc : Nat) (lv st : List Value) (t : Nat × Nat × Bool) (I : Nat → Nat → Int32) (L : Nat → Nat → Int64) (V : Nat → Option Nat) : eDen (sx := sx) (p_alen pc) (lv, .ref 73 :: st, mM t I L V) = some (none, (lv, .int (nI 30) :: st, mM t I L V)) := id rfl
theorem A_74 {sx : eSx} (pc : Nat) (lv st : List Value) (t : Nat × Nat × Bool) (I : Nat → Nat → Int32) (L : Nat → Nat → Int64) (V : Nat → Option Nat) (i : Int32) : eDen (sx := sx) (p_bald pc) (lv, .int i :: .ref 74 :: st, mM t I L V) = vLd (eIx i 128) (fun j => .int (I 74 j)) lv st (mM t I L V) := by
  show Option.map _ (Option.map _ (eIx i 128)) = _
  cases eIx i 128 <;> rfl
theorem S_74 {sx : eSx} (pc : Nat) (lv st : List Value) (t : Nat × Nat × Bool) (I : Nat → Nat → Int32) (L : Nat → Nat → Int64) (V : Nat → Option Nat) (i : Int32) (x : Int32) : eDen (sx := sx) (p_bast pc) (lv, .int x :: .int i :: .ref 74 :: st, mM t I L V) = vSt (eIx i 128) (fun j => mM t (si I 74 j x.toInt8.toInt32) L V) lv st := by
  show Option.map _ (Option.map _ (eIx i 128)) = _
  cases eIx i 128 <;> rfl
theorem N_74 {sx : eSx} (pc : Nat) (lv st : List Value) (t : Nat × Nat × Bool) (I : Nat → Nat → Int32) (L : Nat → Nat → Int64) (V : Nat → Option Nat) : eDen (sx := sx) (p_alen pc) (lv, .ref 74 :: st, mM t I L V) = some (none, (lv, .int (nI 128) :: st, mM t I L V)) := id rfl
theorem G_75_0 {sx : eSx} (pc idx : Nat) (h : eFld sx.1 idx 6 0) (lv st : List Value) (t : Nat × Nat × Bool) (I : Nat → Nat → Int32) (L : Nat → Nat → Int64) (V : Nat → Option Nat) : eDen (sx := sx) (p_get pc idx 6 0 h) (lv, .ref 75 :: st, mM t I L V) = some (none, (lv, .ref 76 :: st, mM t I L V)) := id rfl
theorem G_75_1 {sx : eSx} (pc idx : Nat) (h : eFld sx.1 idx 6 1) (lv st : List Value) (t : Nat × Nat × Bool) (I : Nat → Nat → Int32) (L : Nat → Nat → Int64) (V : Nat → Option Nat) : eDen (sx := sx) (p_get pc idx 6 1 h) (lv, .ref 75 :: st, mM t I L V) = some (none, (lv, .ref 78 :: st, mM t I L V)) := id rfl
theorem G_75_2 {sx : eSx} (pc idx : Nat) (h : eFld sx.1 idx 6 2) (lv st : List Value) (t : Nat × Nat × Bool) (I : Nat → Nat → Int32) (L : Nat → Nat → Int64) (V : Nat → Option Nat) : eDen (sx := sx) (p_get pc idx 6 2 h) (lv, .ref 75 :: st, mM t I L V) = some (none, (lv, .ref 80 :: st, mM t I L V)) := id rfl
theorem G_75_3 {sx : eSx} (pc idx : Nat) (h : eFld sx.1 idx 6 3) (lv st : List Value) (t : Nat × Nat × Bool) (I : Nat → Nat → Int32) (L : Nat → Nat → Int64) (V : Nat → Option Nat) : eDen (sx := sx) (p_get pc idx 6 3 h) (lv, .ref 75 :: st, mM t I L V) = some (none, (lv, .ref 84 :: st, mM t I L V)) := id rfl
theorem G_75_4 {sx : eSx} (pc idx : Nat) (h : eFld sx.1 idx 6 4) (lv st : List Value) (t : Nat × Nat × Bool) (I : Nat → Nat → Int32) (L : Nat → Nat → Int64) (V : Nat → Option Nat) : eDen (sx := sx) (p_get pc idx 6 4 h) (lv, .ref 75 :: st, mM t I L V) = some (none, (lv, .ref 89 :: st, mM t I L V)) := id rfl
theorem G_75_5 {sx : eSx} (pc idx : Nat) (h : eFld sx.1 idx 6 5) (lv st : List Value) (t : Nat × Nat × Bool) (I : Nat → Nat → Int32) (L : Nat → Nat → Int64) (V : Nat → Option Nat) : eDen (sx := sx) (p_get pc idx 6 5 h) (lv, .ref 75 :: st, mM t I L V) = some (none, (lv, .int (I 75 5) :: st, mM t I L V)) := id rfl
theorem P_75_5 {sx : eSx} (pc idx : Nat) (h : eFld sx.1 idx 6 5) (h2 : ((eClT 6 5).2.2.2 = false ∨ ((eClT 6 5).2.2.2 = true ∧ sx.2.1 = true ∧ (eClT 6 5).1 = sx.1))) (lv st : List Value) (t : Nat × Nat × Bool) (I : Nat → Nat → Int32) (L : Nat → Nat → Int64) (V : Nat → Option Nat) (x : Int32) : eDen (sx := sx) (p_put pc idx 6 5 h h2) (lv, .int x :: .ref 75 :: st, mM t I L V) = some (none, (lv, st, mM t (si I 75 5 x) L V)) := id rfl
theorem G_75_6 {sx : eSx} (pc idx : Nat) (h : eFld sx.1 idx 6 6) (lv st : List Value) (t : Nat × Nat × Bool) (I : Nat → Nat → Int32) (L : Nat → Nat → Int64) (V : Nat → Option Nat) : eDen (sx := sx) (p_get pc idx 6 6 h) (lv, .ref 75 :: st, mM t I L V) = some (none, (lv, .ref 91 :: st, mM t I L V)) := id rfl
theorem G_75_7 {sx : eSx} (pc idx : Nat) (h : eFld sx.1 idx 6 7) (lv st : List Value) (t : Nat × Nat × Bool) (I : Nat → Nat → Int32) (L : Nat → Nat → Int64) (V : Nat → Option Nat) : eDen (sx := sx) (p_get pc idx 6 7 h) (lv, .ref 75 :: st, mM t I L V) = some (none, (lv, .ref 92 :: st, mM t I L V)) := id rfl
theorem G_75_8 {sx : eSx} (pc idx : Nat) (h : eFld sx.1 idx 6 8) (lv st : List Value) (t : Nat × Nat × Bool) (I : Nat → Nat → Int32) (L : Nat → Nat → Int64) (V : Nat → Option Nat) : eDen (sx := sx) (p_get pc idx 6 8 h) (lv, .ref 75 :: st, mM t I L V) = some (none, (lv, .ref 93 :: st, mM t I L V)) := id rfl
theorem G_75_9 {sx : eSx} (pc idx : Nat) (h : eFld sx.1 idx 6 9) (lv st : List Value) (t : Nat × Nat × Bool) (I : Nat → Nat → Int32) (L : Nat → Nat → Int64) (V : Nat → Option Nat) : eDen (sx := sx) (p_get pc idx 6 9 h) (lv, .ref 75 :: st, mM t I L V) = some (none, (lv, .int (I 75 9) :: st, mM t I L V)) := id rfl
theorem P_75_9 {sx : eSx} (pc idx : Nat) (h : eFld sx.1 idx 6 9) (h2 : ((eClT 6 9).2.2.2 = false ∨ ((eClT 6 9).2.2.2 = true ∧ sx.2.1 = true ∧ (eClT 6 9).1 = sx.1))) (lv st : List Value) (t : Nat × Nat × Bool) (I : Nat → Nat → Int32) (L : Nat → Nat → Int64) (V : Nat → Option Nat) (x : Int32) : eDen (sx := sx) (p_put pc idx 6 9 h h2) (lv, .int x :: .ref 75 :: st, mM t I L V) = some (none, (lv, st, mM t (si I 75 9 x) L V)) := id rfl
theorem G_75_10 {sx : eSx} (pc idx : Nat) (h : eFld sx.1 idx 6 10) (lv st : List Value) (t : Nat × Nat × Bool) (I : Nat → Nat → Int32) (L : Nat → Nat → Int64) (V : Nat → Option Nat) : eDen (sx := sx) (p_get pc idx 6 10 h) (lv, .ref 75 :: st, mM t I L V) = some (none, (lv, .int (I 75 10) :: st, mM t I L V)) := id rfl
theorem P_75_10 {sx : eSx} (pc idx : Nat) (h : eFld sx.1 idx 6 10) (h2 : ((eClT 6 10).2.2.2 = false ∨ ((eClT 6 10).2.2.2 = true ∧ sx.2.1 = true ∧ (eClT 6 10).1 = sx.1))) (lv st : List Value) (t : Nat × Nat × Bool) (I : Nat → Nat → Int32) (L : Nat → Nat → Int64) (V : Nat → Option Nat) (x : Int32) : eDen (sx := sx) (p_put pc idx 6 10 h h2) (lv, .int x :: .ref 75 :: st, mM t I L V) = some (none, (lv, st, mM t (si I 75 10 x) L V)) := id rfl
theorem R_75 (l : List Value) (t : Nat × Nat × Bool) (I : Nat → Nat → Int32) (L : Nat → Nat → Int64) (V : Nat → Option Nat) : eRcv 6 (.ref 75 :: l) (mM t I L V) = true := id rfl
theorem G_76_0 {sx : eSx} (pc idx : Nat) (h : eFld sx.1 idx 4 0) (lv st : List Value) (t : Nat × Nat × Bool) (I : Nat → Nat → Int32) (L : Nat → Nat → Int64) (V : Nat → Option Nat) : eDen (sx := sx) (p_get pc idx 4 0 h) (lv, .ref 76 :: st, mM t I L V) = some (none, (lv, .int (I 76 0) :: st, mM t I L V)) := id rfl
theorem P_76_0 {sx : eSx} (pc idx : Nat) (h : eFld sx.1 idx 4 0) (h2 : ((eClT 4 0).2.2.2 = false ∨ ((eClT 4 0).2.2.2 = true ∧ sx.2.1 = true ∧ (eClT 4 0).1 = sx.1))) (lv st : List Value) (t : Nat × Nat × Bool) (I : Nat → Nat → Int32) (L : Nat → Nat → Int64) (V : Nat → Option Nat) (x : Int32) : eDen (sx := sx) (p_put pc idx 4 0 h h2) (lv, .int x :: .ref 76 :: st, mM t I L V) = some (none, (lv, st, mM t (si I 76 0 x) L V)) := id rfl
theorem G_76_1 {sx : eSx} (pc idx : Nat) (h : eFld sx.1 idx 4 1) (lv st : List Value) (t : Nat × Nat × Bool) (I : Nat → Nat → Int32) (L : Nat → Nat → Int64) (V : Nat → Option Nat) : eDen (sx := sx) (p_get pc idx 4 1 h) (lv, .ref 76 :: st, mM t I L V) = some (none, (lv, .ref 77 :: st, mM t I L V)) := id rfl
theorem R_76 (l : List Value) (t : Nat × Nat × Bool) (I : Nat → Nat → Int32) (L : Nat → Nat → Int64) (V : Nat → Option Nat) : eRcv 4 (.ref 76 :: l) (mM t I L V) = true := id rfl
theorem A_77 {sx : eSx} (pc : Nat) (lv st : List Value) (t : Nat × Nat × Bool) (I : Nat → Nat → Int32) (L : Nat → Nat → Int64) (V : Nat → Option Nat) (i : Int32) : eDen (sx := sx) (p_iald pc) (lv, .int i :: .ref 77 :: st, mM t I L V) = vLd (eIx i 7) (fun j => .int (I 77 j)) lv st (mM t I L V) := by
  show Option.map _ (Option.map _ (eIx i 7)) = _
  cases eIx i 7 <;> rfl
theorem S_77 {sx : eSx} (pc : Nat) (lv st : List Value) (t : Nat × Nat × Bool) (I : Nat → Nat → Int32) (L : Nat → Nat → Int64) (V : Nat → Option Nat) (i : Int32) (x : Int32) : eDen (sx := sx) (p_iast pc) (lv, .int x :: .int i :: .ref 77 :: st, mM t I L V) = vSt (eIx i 7) (fun j => mM t (si I 77 j x) L V) lv st := by
  show Option.map _ (Option.map _ (eIx i 7)) = _
  cases eIx i 7 <;> rfl
theorem N_77 {sx : eSx} (pc : Nat) (lv st : List Value) (t : Nat × Nat × Bool) (I : Nat → Nat → Int32) (L : Nat → Nat → Int64) (V : Nat → Option Nat) : eDen (sx := sx) (p_alen pc) (lv, .ref 77 :: st, mM t I L V) = some (none, (lv, .int (nI 7) :: st, mM t I L V)) := id rfl
theorem G_78_0 {sx : eSx} (pc idx : Nat) (h : eFld sx.1 idx 4 0) (lv st : List Value) (t : Nat × Nat × Bool) (I : Nat → Nat → Int32) (L : Nat → Nat → Int64) (V : Nat → Option Nat) : eDen (sx := sx) (p_get pc idx 4 0 h) (lv, .ref 78 :: st, mM t I L V) = some (none, (lv, .int (I 78 0) :: st, mM t I L V)) := id rfl
theorem P_78_0 {sx : eSx} (pc idx : Nat) (h : eFld sx.1 idx 4 0) (h2 : ((eClT 4 0).2.2.2 = false ∨ ((eClT 4 0).2.2.2 = true ∧ sx.2.1 = true ∧ (eClT 4 0).1 = sx.1))) (lv st : List Value) (t : Nat × Nat × Bool) (I : Nat → Nat → Int32) (L : Nat → Nat → Int64) (V : Nat → Option Nat) (x : Int32) : eDen (sx := sx) (p_put pc idx 4 0 h h2) (lv, .int x :: .ref 78 :: st, mM t I L V) = some (none, (lv, st, mM t (si I 78 0 x) L V)) := id rfl
theorem G_78_1 {sx : eSx} (pc idx : Nat) (h : eFld sx.1 idx 4 1) (lv st : List Value) (t : Nat × Nat × Bool) (I : Nat → Nat → Int32) (L : Nat → Nat → Int64) (V : Nat → Option Nat) : eDen (sx := sx) (p_get pc idx 4 1 h) (lv, .ref 78 :: st, mM t I L V) = some (none, (lv, .ref 79 :: st, mM t I L V)) := id rfl
theorem R_78 (l : List Value) (t : Nat × Nat × Bool) (I : Nat → Nat → Int32) (L : Nat → Nat → Int64) (V : Nat → Option Nat) : eRcv 4 (.ref 78 :: l) (mM t I L V) = true := id rfl
theorem A_79 {sx : eSx} (pc : Nat) (lv st : List Value) (t : Nat × Nat × Bool) (I : Nat → Nat → Int32) (L : Nat → Nat → Int64) (V : Nat → Option Nat) (i : Int32) : eDen (sx := sx) (p_iald pc) (lv, .int i :: .ref 79 :: st, mM t I L V) = vLd (eIx i 7) (fun j => .int (I 79 j)) lv st (mM t I L V) := by
  show Option.map _ (Option.map _ (eIx i 7)) = _
  cases eIx i 7 <;> rfl
theorem S_79 {sx : eSx} (pc : Nat) (lv st : List Value) (t : Nat × Nat × Bool) (I : Nat → Nat → Int32) (L : Nat → Nat → Int64) (V : Nat → Option Nat) (i : Int32) (x : Int32) : eDen (sx := sx) (p_iast pc) (lv, .int x :: .int i :: .ref 79 :: st, mM t I L V) = vSt (eIx i 7) (fun j => mM t (si I 79 j x) L V) lv st := by
  show Option.map _ (Option.map _ (eIx i 7)) = _
  cases eIx i 7 <;> rfl
theorem N_79 {sx : eSx} (pc : Nat) (lv st : List Value) (t : Nat × Nat × Bool) (I : Nat → Nat → Int32) (L : Nat → Nat → Int64) (V : Nat → Option Nat) : eDen (sx := sx) (p_alen pc) (lv, .ref 79 :: st, mM t I L V) = some (none, (lv, .int (nI 7) :: st, mM t I L V)) := id rfl
theorem G_80_0 {sx : eSx} (pc idx : Nat) (h : eFld sx.1 idx 3 0) (lv st : List Value) (t : Nat × Nat × Bool) (I : Nat → Nat → Int32) (L : Nat → Nat → Int64) (V : Nat → Option Nat) : eDen (sx := sx) (p_get pc idx 3 0 h) (lv, .ref 80 :: st, mM t I L V) = some (none, (lv, .int (I 80 0) :: st, mM t I L V)) := id rfl
theorem P_80_0 {sx : eSx} (pc idx : Nat) (h : eFld sx.1 idx 3 0) (h2 : ((eClT 3 0).2.2.2 = false ∨ ((eClT 3 0).2.2.2 = true ∧ sx.2.1 = true ∧ (eClT 3 0).1 = sx.1))) (lv st : List Value) (t : Nat × Nat × Bool) (I : Nat → Nat → Int32) (L : Nat → Nat → Int64) (V : Nat → Option Nat) (x : Int32) : eDen (sx := sx) (p_put pc idx 3 0 h h2) (lv, .int x :: .ref 80 :: st, mM t I L V) = some (none, (lv, st, mM t (si I 80 0 x) L V)) := id rfl
theorem G_80_1 {sx : eSx} (pc idx : Nat) (h : eFld sx.1 idx 3 1) (lv st : List Value) (t : Nat × Nat × Bool) (I : Nat → Nat → Int32) (L : Nat → Nat → Int64) (V : Nat → Option Nat) : eDen (sx := sx) (p_get pc idx 3 1 h) (lv, .ref 80 :: st, mM t I L V) = some (none, (lv, .ref 81 :: st, mM t I L V)) := id rfl
theorem G_80_2 {sx : eSx} (pc idx : Nat) (h : eFld sx.1 idx 3 2) (lv st : List Value) (t : Nat × Nat × Bool) (I : Nat → Nat → Int32) (L : Nat → Nat → Int64) (V : Nat → Option Nat) : eDen (sx := sx) (p_get pc idx 3 2 h) (lv, .ref 80 :: st, mM t I L V) = some (none, (lv, .ref 82 :: st, mM t I L V)) := id rfl
theorem G_80_3 {sx : eSx} (pc idx : Nat) (h : eFld sx.1 idx 3 3) (lv st : List Value) (t : Nat × Nat × Bool) (I : Nat → Nat → Int32) (L : Nat → Nat → Int64) (V : Nat → Option Nat) : eDen (sx := sx) (p_get pc idx 3 3 h) (lv, .ref 80 :: st, mM t I L V) = some (none, (lv, .ref 83 :: st, mM t I L V)) := id rfl
theorem R_80 (l : List Value) (t : Nat × Nat × Bool) (I : Nat → Nat → Int32) (L : Nat → Nat → Int64) (V : Nat → Option Nat) : eRcv 3 (.ref 80 :: l) (mM t I L V) = true := id rfl
theorem A_81 {sx : eSx} (pc : Nat) (lv st : List Value) (t : Nat × Nat × Bool) (I : Nat → Nat → Int32) (L : Nat → Nat → Int64) (V : Nat → Option Nat) (i : Int32) : eDen (sx := sx) (p_iald pc) (lv, .int i :: .ref 81 :: st, mM t I L V) = vLd (eIx i 6) (fun j => .int (I 81 j)) lv st (mM t I L V) := by
  show Option.map _ (Option.map _ (eIx i 6)) = _
  cases eIx i 6 <;> rfl
theorem S_81 {sx : eSx} (pc : Nat) (lv st : List Value) (t : Nat × Nat × Bool) (I : Nat → Nat → Int32) (L : Nat → Nat → Int64) (V : Nat → Option Nat) (i : Int32) (x : Int32) : eDen (sx := sx) (p_iast pc) (lv, .int x :: .int i :: .ref 81 :: st, mM t I L V) = vSt (eIx i 6) (fun j => mM t (si I 81 j x) L V) lv st := by
  show Option.map _ (Option.map _ (eIx i 6)) = _
  cases eIx i 6 <;> rfl
theorem N_81 {sx : eSx} (pc : Nat) (lv st : List Value) (t : Nat × Nat × Bool) (I : Nat → Nat → Int32) (L : Nat → Nat → Int64) (V : Nat → Option Nat) : eDen (sx := sx) (p_alen pc) (lv, .ref 81 :: st, mM t I L V) = some (none, (lv, .int (nI 6) :: st, mM t I L V)) := id rfl
theorem A_82 {sx : eSx} (pc : Nat) (lv st : List Value) (t : Nat × Nat × Bool) (I : Nat → Nat → Int32) (L : Nat → Nat → Int64) (V : Nat → Option Nat) (i : Int32) : eDen (sx := sx) (p_iald pc) (lv, .int i :: .ref 82 :: st, mM t I L V) = vLd (eIx i 6) (fun j => .int (I 82 j)) lv st (mM t I L V) := by
  show Option.map _ (Option.map _ (eIx i 6)) = _
  cases eIx i 6 <;> rfl
theorem S_82 {sx : eSx} (pc : Nat) (lv st : List Value) (t : Nat × Nat × Bool) (I : Nat → Nat → Int32) (L : Nat → Nat → Int64) (V : Nat → Option Nat) (i : Int32) (x : Int32) : eDen (sx := sx) (p_iast pc) (lv, .int x :: .int i :: .ref 82 :: st, mM t I L V) = vSt (eIx i 6) (fun j => mM t (si I 82 j x) L V) lv st := by
  show Option.map _ (Option.map _ (eIx i 6)) = _
  cases eIx i 6 <;> rfl
theorem N_82 {sx : eSx} (pc : Nat) (lv st : List Value) (t : Nat × Nat × Bool) (I : Nat → Nat → Int32) (L : Nat → Nat → Int64) (V : Nat → Option Nat) : eDen (sx := sx) (p_alen pc) (lv, .ref 82 :: st, mM t I L V) = some (none, (lv, .int (nI 6) :: st, mM t I L V)) := id rfl
theorem A_83 {sx : eSx} (pc : Nat) (lv st : List Value) (t : Nat × Nat × Bool) (I : Nat → Nat → Int32) (L : Nat → Nat → Int64) (V : Nat → Option Nat) (i : Int32) : eDen (sx := sx) (p_iald pc) (lv, .int i :: .ref 83 :: st, mM t I L V) = vLd (eIx i 6) (fun j => .int (I 83 j)) lv st (mM t I L V) := by
  show Option.map _ (Option.map _ (eIx i 6)) = _
  cases eIx i 6 <;> rfl
theorem S_83 {sx : eSx} (pc : Nat) (lv st : List Value) (t : Nat × Nat × Bool) (I : Nat → Nat → Int32) (L : Nat → Nat → Int64) (V : Nat → Option Nat) (i : Int32) (x : Int32) : eDen (sx := sx) (p_iast pc) (lv, .int x :: .int i :: .ref 83 :: st, mM t I L V) = vSt (eIx i 6) (fun j => mM t (si I 83 j x) L V) lv st := by
  show Option.map _ (Option.map _ (eIx i 6)) = _
  cases eIx i 6 <;> rfl
theorem N_83 {sx : eSx} (pc : Nat) (lv st : List Value) (t : Nat × Nat × Bool) (I : Nat → Nat → Int32) (L : Nat → Nat → Int64) (V : Nat → Option Nat) : eDen (sx := sx) (p_alen pc) (lv, .ref 83 :: st, mM t I L V) = some (none, (lv, .int (nI 6) :: st, mM t I L V)) := id rfl
theorem G_84_0 {sx : eSx} (pc idx : Nat) (h : eFld sx.1 idx 1 0) (lv st : List Value) (t : Nat × Nat × Bool) (I : Nat → Nat → Int32) (L : Nat → Nat → Int64) (V : Nat → Option Nat) : eDen (sx := sx) (p_get pc idx 1 0 h) (lv, .ref 84 :: st, mM t I L V) = some (none, (lv, .int (I 84 0) :: st, mM t I L V)) := id rfl
theorem P_84_0 {sx : eSx} (pc idx : Nat) (h : eFld sx.1 idx 1 0) (h2 : ((eClT 1 0).2.2.2 = false ∨ ((eClT 1 0).2.2.2 = true ∧ sx.2.1 = true ∧ (eClT 1 0).1 = sx.1))) (lv st : List Value) (t : Nat × Nat × Bool) (I : Nat → Nat → Int32) (L : Nat → Nat → Int64) (V : Nat → Option Nat) (x : Int32) : eDen (sx := sx) (p_put pc idx 1 0 h h2) (lv, .int x :: .ref 84 :: st, mM t I L V) = some (none, (lv, st, mM t (si I 84 0 x) L V)) := id rfl
theorem G_84_1 {sx : eSx} (pc idx : Nat) (h : eFld sx.1 idx 1 1) (lv st : List Value) (t : Nat × Nat × Bool) (I : Nat → Nat → Int32) (L : Nat → Nat → Int64) (V : Nat → Option Nat) : eDen (sx := sx) (p_get pc idx 1 1 h) (lv, .ref 84 :: st, mM t I L V) = some (none, (lv, .ref 85 :: st, mM t I L V)) := id rfl
theorem G_84_2 {sx : eSx} (pc idx : Nat) (h : eFld sx.1 idx 1 2) (lv st : List Value) (t : Nat × Nat × Bool) (I : Nat → Nat → Int32) (L : Nat → Nat → Int64) (V : Nat → Option Nat) : eDen (sx := sx) (p_get pc idx 1 2 h) (lv, .ref 84 :: st, mM t I L V) = some (none, (lv, .ref 86 :: st, mM t I L V)) := id rfl
theorem G_84_3 {sx : eSx} (pc idx : Nat) (h : eFld sx.1 idx 1 3) (lv st : List Value) (t : Nat × Nat × Bool) (I : Nat → Nat → Int32) (L : Nat → Nat → Int64) (V : Nat → Option Nat) : eDen (sx := sx) (p_get pc idx 1 3 h) (lv, .ref 84 :: st, mM t I L V) = some (none, (lv, .ref 87 :: st, mM t I L V)) := id rfl
theorem G_84_4 {sx : eSx} (pc idx : Nat) (h : eFld sx.1 idx 1 4) (lv st : List Value) (t : Nat × Nat × Bool) (I : Nat → Nat → Int32) (L : Nat → Nat → Int64) (V : Nat → Option Nat) : eDen (sx := sx) (p_get pc idx 1 4 h) (lv, .ref 84 :: st, mM t I L V) = some (none, (lv, .ref 88 :: st, mM t I L V)) := id rfl
theorem R_84 (l : List Value) (t : Nat × Nat × Bool) (I : Nat → Nat → Int32) (L : Nat → Nat → Int64) (V : Nat → Option Nat) : eRcv 1 (.ref 84 :: l) (mM t I L V) = true := id rfl
theorem A_85 {sx : eSx} (pc : Nat) (lv st : List Value) (t : Nat × Nat × Bool) (I : Nat → Nat → Int32) (L : Nat → Nat → Int64) (V : Nat → Option Nat) (i : Int32) : eDen (sx := sx) (p_iald pc) (lv, .int i :: .ref 85 :: st, mM t I L V) = vLd (eIx i 5) (fun j => .int (I 85 j)) lv st (mM t I L V) := by
  show Option.map _ (Option.map _ (eIx i 5)) = _
  cases eIx i 5 <;> rfl
theorem S_85 {sx : eSx} (pc : Nat) (lv st : List Value) (t : Nat × Nat × Bool) (I : Nat → Nat → Int32) (L : Nat → Nat → Int64) (V : Nat → Option Nat) (i : Int32) (x : Int32) : eDen (sx := sx) (p_iast pc) (lv, .int x :: .int i :: .ref 85 :: st, mM t I L V) = vSt (eIx i 5) (fun j => mM t (si I 85 j x) L V) lv st := by
  show Option.map _ (Option.map _ (eIx i 5)) = _
  cases eIx i 5 <;> rfl
theorem N_85 {sx : eSx} (pc : Nat) (lv st : List Value) (t : Nat × Nat × Bool) (I : Nat → Nat → Int32) (L : Nat → Nat → Int64) (V : Nat → Option Nat) : eDen (sx := sx) (p_alen pc) (lv, .ref 85 :: st, mM t I L V) = some (none, (lv, .int (nI 5) :: st, mM t I L V)) := id rfl
theorem A_86 {sx : eSx} (pc : Nat) (lv st : List Value) (t : Nat × Nat × Bool) (I : Nat → Nat → Int32) (L : Nat → Nat → Int64) (V : Nat → Option Nat) (i : Int32) : eDen (sx := sx) (p_iald pc) (lv, .int i :: .ref 86 :: st, mM t I L V) = vLd (eIx i 5) (fun j => .int (I 86 j)) lv st (mM t I L V) := by
  show Option.map _ (Option.map _ (eIx i 5)) = _
  cases eIx i 5 <;> rfl
theorem S_86 {sx : eSx} (pc : Nat) (lv st : List Value) (t : Nat × Nat × Bool) (I : Nat → Nat → Int32) (L : Nat → Nat → Int64) (V : Nat → Option Nat) (i : Int32) (x : Int32) : eDen (sx := sx) (p_iast pc) (lv, .int x :: .int i :: .ref 86 :: st, mM t I L V) = vSt (eIx i 5) (fun j => mM t (si I 86 j x) L V) lv st := by
  show Option.map _ (Option.map _ (eIx i 5)) = _
  cases eIx i 5 <;> rfl
theorem N_86 {sx : eSx} (pc : Nat) (lv st : List Value) (t : Nat × Nat × Bool) (I : Nat → Nat → Int32) (L : Nat → Nat → Int64) (V : Nat → Option Nat) : eDen (sx := sx) (p_alen pc) (lv, .ref 86 :: st, mM t I L V) = some (none, (lv, .int (nI 5) :: st, mM t I L V)) := id rfl
theorem A_87 {sx : eSx} (pc : Nat) (lv st : List Value) (t : Nat × Nat × Bool) (I : Nat → Nat → Int32) (L : Nat → Nat → Int64) (V : Nat → Option Nat) (i : Int32) : eDen (sx := sx) (p_iald pc) (lv, .int i :: .ref 87 :: st, mM t I L V) = vLd (eIx i 5) (fun j => .int (I 87 j)) lv st (mM t I L V) := by
  show Option.map _ (Option.map _ (eIx i 5)) = _
  cases eIx i 5 <;> rfl
theorem S_87 {sx : eSx} (pc : Nat) (lv st : List Value) (t : Nat × Nat × Bool) (I : Nat → Nat → Int32) (L : Nat → Nat → Int64) (V : Nat → Option Nat) (i : Int32) (x : Int32) : eDen (sx := sx) (p_iast pc) (lv, .int x :: .int i :: .ref 87 :: st, mM t I L V) = vSt (eIx i 5) (fun j => mM t (si I 87 j x) L V) lv st := by
  show Option.map _ (Option.map _ (eIx i 5)) = _
  cases eIx i 5 <;> rfl
theorem N_87 {sx : eSx} (pc : Nat) (lv st : List Value) (t : Nat × Nat × Bool) (I : Nat → Nat → Int32) (L : Nat → Nat → Int64) (V : Nat → Option Nat) : eDen (sx := sx) (p_alen pc) (lv, .ref 87 :: st, mM t I L V) = some (none, (lv, .int (nI 5) :: st, mM t I L V)) := id rfl
theorem A_88 {sx : eSx} (pc : Nat) (lv st : List Value) (t : Nat × Nat × Bool) (I : Nat → Nat → Int32) (L : Nat → Nat → Int64) (V : Nat → Option Nat) (i : Int32) : eDen (sx := sx) (p_iald pc) (lv, .int i :: .ref 88 :: st, mM t I L V) = vLd (eIx i 5) (fun j => .int (I 88 j)) lv st (mM t I L V) := by
  show Option.map _ (Option.map _ (eIx i 5)) = _
  cases eIx i 5 <;> rfl
theorem S_88 {sx : eSx} (pc : Nat) (lv st : List Value) (t : Nat × Nat × Bool) (I : Nat → Nat → Int32) (L : Nat → Nat → Int64) (V : Nat → Option Nat) (i : Int32) (x : Int32) : eDen (sx := sx) (p_iast pc) (lv, .int x :: .int i :: .ref 88 :: st, mM t I L V) = vSt (eIx i 5) (fun j => mM t (si I 88 j x) L V) lv st := by
  show Option.map _ (Option.map _ (eIx i 5)) = _
  cases eIx i 5 <;> rfl
theorem N_88 {sx : eSx} (pc : Nat) (lv st : List Value) (t : Nat × Nat × Bool) (I : Nat → Nat → Int32) (L : Nat → Nat → Int64) (V : Nat → Option Nat) : eDen (sx := sx) (p_alen pc) (lv, .ref 88 :: st, mM t I L V) = some (none, (lv, .int (nI 5) :: st, mM t I L V)) := id rfl
theorem G_89_0 {sx : eSx} (pc idx : Nat) (h : eFld sx.1 idx 9 0) (lv st : List Value) (t : Nat × Nat × Bool) (I : Nat → Nat → Int32) (L : Nat → Nat → Int64) (V : Nat → Option Nat) : eDen (sx := sx) (p_get pc idx 9 0 h) (lv, .ref 89 :: st, mM t I L V) = some (none, (lv, .int (I 89 0) :: st, mM t I L V)) := id rfl
theorem P_89_0 {sx : eSx} (pc idx : Nat) (h : eFld sx.1 idx 9 0) (h2 : ((eClT 9 0).2.2.2 = false ∨ ((eClT 9 0).2.2.2 = true ∧ sx.2.1 = true ∧ (eClT 9 0).1 = sx.1))) (lv st : List Value) (t : Nat × Nat × Bool) (I : Nat → Nat → Int32) (L : Nat → Nat → Int64) (V : Nat → Option Nat) (x : Int32) : eDen (sx := sx) (p_put pc idx 9 0 h h2) (lv, .int x :: .ref 89 :: st, mM t I L V) = some (none, (lv, st, mM t (si I 89 0 x) L V)) := id rfl
theorem G_89_1 {sx : eSx} (pc idx : Nat) (h : eFld sx.1 idx 9 1) (lv st : List Value) (t : Nat × Nat × Bool) (I : Nat → Nat → Int32) (L : Nat → Nat → Int64) (V : Nat → Option Nat) : eDen (sx := sx) (p_get pc idx 9 1 h) (lv, .ref 89 :: st, mM t I L V) = some (none, (lv, .int (I 89 1) :: st, mM t I L V)) := id rfl
theorem P_89_1 {sx : eSx} (pc idx : Nat) (h : eFld sx.1 idx 9 1) (h2 : ((eClT 9 1).2.2.2 = false ∨ ((eClT 9 1).2.2.2 = true ∧ sx.2.1 = true ∧ (eClT 9 1).1 = sx.1))) (lv st : List Value) (t : Nat × Nat × Bool) (I : Nat → Nat → Int32) (L : Nat → Nat → Int64) (V : Nat → Option Nat) (x : Int32) : eDen (sx := sx) (p_put pc idx 9 1 h h2) (lv, .int x :: .ref 89 :: st, mM t I L V) = some (none, (lv, st, mM t (si I 89 1 x) L V)) := id rfl
theorem G_89_2 {sx : eSx} (pc idx : Nat) (h : eFld sx.1 idx 9 2) (lv st : List Value) (t : Nat × Nat × Bool) (I : Nat → Nat → Int32) (L : Nat → Nat → Int64) (V : Nat → Option Nat) : eDen (sx := sx) (p_get pc idx 9 2 h) (lv, .ref 89 :: st, mM t I L V) = some (none, (lv, .ref 90 :: st, mM t I L V)) := id rfl
theorem R_89 (l : List Value) (t : Nat × Nat × Bool) (I : Nat → Nat → Int32) (L : Nat → Nat → Int64) (V : Nat → Option Nat) : eRcv 9 (.ref 89 :: l) (mM t I L V) = true := id rfl
theorem A_90 {sx : eSx} (pc : Nat) (lv st : List Value) (t : Nat × Nat × Bool) (I : Nat → Nat → Int32) (L : Nat → Nat → Int64) (V : Nat → Option Nat) (i : Int32) : eDen (sx := sx) (p_iald pc) (lv, .int i :: .ref 90 :: st, mM t I L V) = vLd (eIx i 200) (fun j => .int (I 90 j)) lv st (mM t I L V) := by
  show Option.map _ (Option.map _ (eIx i 200)) = _
  cases eIx i 200 <;> rfl
theorem S_90 {sx : eSx} (pc : Nat) (lv st : List Value) (t : Nat × Nat × Bool) (I : Nat → Nat → Int32) (L : Nat → Nat → Int64) (V : Nat → Option Nat) (i : Int32) (x : Int32) : eDen (sx := sx) (p_iast pc) (lv, .int x :: .int i :: .ref 90 :: st, mM t I L V) = vSt (eIx i 200) (fun j => mM t (si I 90 j x) L V) lv st := by
  show Option.map _ (Option.map _ (eIx i 200)) = _
  cases eIx i 200 <;> rfl
theorem N_90 {sx : eSx} (pc : Nat) (lv st : List Value) (t : Nat × Nat × Bool) (I : Nat → Nat → Int32) (L : Nat → Nat → Int64) (V : Nat → Option Nat) : eDen (sx := sx) (p_alen pc) (lv, .ref 90 :: st, mM t I L V) = some (none, (lv, .int (nI 200) :: st, mM t I L V)) := id rfl
theorem G_91_0 {sx : eSx} (pc idx : Nat) (h : eFld sx.1 idx 0 0) (lv st : List Value) (t : Nat × Nat × Bool) (I : Nat → Nat → Int32) (L : Nat → Nat → Int64) (V : Nat → Option Nat) : eDen (sx := sx) (p_get pc idx 0 0 h) (lv, .ref 91 :: st, mM t I L V) = some (none, (lv, .long (L 91 0) :: st, mM t I L V)) := id rfl
theorem P_91_0 {sx : eSx} (pc idx : Nat) (h : eFld sx.1 idx 0 0) (h2 : ((eClT 0 0).2.2.2 = false ∨ ((eClT 0 0).2.2.2 = true ∧ sx.2.1 = true ∧ (eClT 0 0).1 = sx.1))) (lv st : List Value) (t : Nat × Nat × Bool) (I : Nat → Nat → Int32) (L : Nat → Nat → Int64) (V : Nat → Option Nat) (x : Int64) : eDen (sx := sx) (p_put pc idx 0 0 h h2) (lv, .long x :: .ref 91 :: st, mM t I L V) = some (none, (lv, st, mM t I (sl L 91 0 x) V)) := id rfl
theorem G_91_1 {sx : eSx} (pc idx : Nat) (h : eFld sx.1 idx 0 1) (lv st : List Value) (t : Nat × Nat × Bool) (I : Nat → Nat → Int32) (L : Nat → Nat → Int64) (V : Nat → Option Nat) : eDen (sx := sx) (p_get pc idx 0 1 h) (lv, .ref 91 :: st, mM t I L V) = some (none, (lv, .long (L 91 1) :: st, mM t I L V)) := id rfl
theorem P_91_1 {sx : eSx} (pc idx : Nat) (h : eFld sx.1 idx 0 1) (h2 : ((eClT 0 1).2.2.2 = false ∨ ((eClT 0 1).2.2.2 = true ∧ sx.2.1 = true ∧ (eClT 0 1).1 = sx.1))) (lv st : List Value) (t : Nat × Nat × Bool) (I : Nat → Nat → Int32) (L : Nat → Nat → Int64) (V : Nat → Option Nat) (x : Int64) : eDen (sx := sx) (p_put pc idx 0 1 h h2) (lv, .long x :: .ref 91 :: st, mM t I L V) = some (none, (lv, st, mM t I (sl L 91 1 x) V)) := id rfl
theorem R_91 (l : List Value) (t : Nat × Nat × Bool) (I : Nat → Nat → Int32) (L : Nat → Nat → Int64) (V : Nat → Option Nat) : eRcv 0 (.ref 91 :: l) (mM t I L V) = true := id rfl
theorem G_92_0 {sx : eSx} (pc idx : Nat) (h : eFld sx.1 idx 0 0) (lv st : List Value) (t : Nat × Nat × Bool) (I : Nat → Nat → Int32) (L : Nat → Nat → Int64) (V : Nat → Option Nat) : eDen (sx := sx) (p_get pc idx 0 0 h) (lv, .ref 92 :: st, mM t I L V) = some (none, (lv, .long (L 92 0) :: st, mM t I L V)) := id rfl
theorem P_92_0 {sx : eSx} (pc idx : Nat) (h : eFld sx.1 idx 0 0) (h2 : ((eClT 0 0).2.2.2 = false ∨ ((eClT 0 0).2.2.2 = true ∧ sx.2.1 = true ∧ (eClT 0 0).1 = sx.1))) (lv st : List Value) (t : Nat × Nat × Bool) (I : Nat → Nat → Int32) (L : Nat → Nat → Int64) (V : Nat → Option Nat) (x : Int64) : eDen (sx := sx) (p_put pc idx 0 0 h h2) (lv, .long x :: .ref 92 :: st, mM t I L V) = some (none, (lv, st, mM t I (sl L 92 0 x) V)) := id rfl
theorem G_92_1 {sx : eSx} (pc idx : Nat) (h : eFld sx.1 idx 0 1) (lv st : List Value) (t : Nat × Nat × Bool) (I : Nat → Nat → Int32) (L : Nat → Nat → Int64) (V : Nat → Option Nat) : eDen (sx := sx) (p_get pc idx 0 1 h) (lv, .ref 92 :: st, mM t I L V) = some (none, (lv, .long (L 92 1) :: st, mM t I L V)) := id rfl
theorem P_92_1 {sx : eSx} (pc idx : Nat) (h : eFld sx.1 idx 0 1) (h2 : ((eClT 0 1).2.2.2 = false ∨ ((eClT 0 1).2.2.2 = true ∧ sx.2.1 = true ∧ (eClT 0 1).1 = sx.1))) (lv st : List Value) (t : Nat × Nat × Bool) (I : Nat → Nat → Int32) (L : Nat → Nat → Int64) (V : Nat → Option Nat) (x : Int64) : eDen (sx := sx) (p_put pc idx 0 1 h h2) (lv, .long x :: .ref 92 :: st, mM t I L V) = some (none, (lv, st, mM t I (sl L 92 1 x) V)) := id rfl
theorem R_92 (l : List Value) (t : Nat × Nat × Bool) (I : Nat → Nat → Int32) (L : Nat → Nat → Int64) (V : Nat → Option Nat) : eRcv 0 (.ref 92 :: l) (mM t I L V) = true := id rfl
theorem A_93 {sx : eSx} (pc : Nat) (lv st : List Value) (t : Nat × Nat × Bool) (I : Nat → Nat → Int32) (L : Nat → Nat → Int64) (V : Nat → Option Nat) (i : Int32) : eDen (sx := sx) (p_lald pc) (lv, .int i :: .ref 93 :: st, mM t I L V) = vLd (eIx i 7) (fun j => .long (L 93 j)) lv st (mM t I L V) := by
  show Option.map _ (Option.map _ (eIx i 7)) = _
  cases eIx i 7 <;> rfl
theorem S_93 {sx : eSx} (pc : Nat) (lv st : List Value) (t : Nat × Nat × Bool) (I : Nat → Nat → Int32) (L : Nat → Nat → Int64) (V : Nat → Option Nat) (i : Int32) (x : Int64) : eDen (sx := sx) (p_last pc) (lv, .long x :: .int i :: .ref 93 :: st, mM t I L V) = vSt (eIx i 7) (fun j => mM t I (sl L 93 j x) V) lv st := by
  show Option.map _ (Option.map _ (eIx i 7)) = _
  cases eIx i 7 <;> rfl
theorem N_93 {sx : eSx} (pc : Nat) (lv st : List Value) (t : Nat × Nat × Bool) (I : Nat → Nat → Int32) (L : Nat → Nat → Int64) (V : Nat → Option Nat) : eDen (sx := sx) (p_alen pc) (lv, .ref 93 :: st, mM t I L V) = some (none, (lv, .int (nI 7) :: st, mM t I L V)) := id rfl
theorem G_94_0 {sx : eSx} (pc idx : Nat) (h : eFld sx.1 idx 6 0) (lv st : List Value) (t : Nat × Nat × Bool) (I : Nat → Nat → Int32) (L : Nat → Nat → Int64) (V : Nat → Option Nat) : eDen (sx := sx) (p_get pc idx 6 0 h) (lv, .ref 94 :: st, mM t I L V) = some (none, (lv, .ref 95 :: st, mM t I L V)) := id rfl
theorem G_94_1 {sx : eSx} (pc idx : Nat) (h : eFld sx.1 idx 6 1) (lv st : List Value) (t : Nat × Nat × Bool) (I : Nat → Nat → Int32) (L : Nat → Nat → Int64) (V : Nat → Option Nat) : eDen (sx := sx) (p_get pc idx 6 1 h) (lv, .ref 94 :: st, mM t I L V) = some (none, (lv, .ref 97 :: st, mM t I L V)) := id rfl
theorem G_94_2 {sx : eSx} (pc idx : Nat) (h : eFld sx.1 idx 6 2) (lv st : List Value) (t : Nat × Nat × Bool) (I : Nat → Nat → Int32) (L : Nat → Nat → Int64) (V : Nat → Option Nat) : eDen (sx := sx) (p_get pc idx 6 2 h) (lv, .ref 94 :: st, mM t I L V) = some (none, (lv, .ref 99 :: st, mM t I L V)) := id rfl
theorem G_94_3 {sx : eSx} (pc idx : Nat) (h : eFld sx.1 idx 6 3) (lv st : List Value) (t : Nat × Nat × Bool) (I : Nat → Nat → Int32) (L : Nat → Nat → Int64) (V : Nat → Option Nat) : eDen (sx := sx) (p_get pc idx 6 3 h) (lv, .ref 94 :: st, mM t I L V) = some (none, (lv, .ref 103 :: st, mM t I L V)) := id rfl
theorem G_94_4 {sx : eSx} (pc idx : Nat) (h : eFld sx.1 idx 6 4) (lv st : List Value) (t : Nat × Nat × Bool) (I : Nat → Nat → Int32) (L : Nat → Nat → Int64) (V : Nat → Option Nat) : eDen (sx := sx) (p_get pc idx 6 4 h) (lv, .ref 94 :: st, mM t I L V) = some (none, (lv, .ref 108 :: st, mM t I L V)) := id rfl
theorem G_94_5 {sx : eSx} (pc idx : Nat) (h : eFld sx.1 idx 6 5) (lv st : List Value) (t : Nat × Nat × Bool) (I : Nat → Nat → Int32) (L : Nat → Nat → Int64) (V : Nat → Option Nat) : eDen (sx := sx) (p_get pc idx 6 5 h) (lv, .ref 94 :: st, mM t I L V) = some (none, (lv, .int (I 94 5) :: st, mM t I L V)) := id rfl
theorem P_94_5 {sx : eSx} (pc idx : Nat) (h : eFld sx.1 idx 6 5) (h2 : ((eClT 6 5).2.2.2 = false ∨ ((eClT 6 5).2.2.2 = true ∧ sx.2.1 = true ∧ (eClT 6 5).1 = sx.1))) (lv st : List Value) (t : Nat × Nat × Bool) (I : Nat → Nat → Int32) (L : Nat → Nat → Int64) (V : Nat → Option Nat) (x : Int32) : eDen (sx := sx) (p_put pc idx 6 5 h h2) (lv, .int x :: .ref 94 :: st, mM t I L V) = some (none, (lv, st, mM t (si I 94 5 x) L V)) := id rfl
theorem G_94_6 {sx : eSx} (pc idx : Nat) (h : eFld sx.1 idx 6 6) (lv st : List Value) (t : Nat × Nat × Bool) (I : Nat → Nat → Int32) (L : Nat → Nat → Int64) (V : Nat → Option Nat) : eDen (sx := sx) (p_get pc idx 6 6 h) (lv, .ref 94 :: st, mM t I L V) = some (none, (lv, .ref 110 :: st, mM t I L V)) := id rfl
theorem G_94_7 {sx : eSx} (pc idx : Nat) (h : eFld sx.1 idx 6 7) (lv st : List Value) (t : Nat × Nat × Bool) (I : Nat → Nat → Int32) (L : Nat → Nat → Int64) (V : Nat → Option Nat) : eDen (sx := sx) (p_get pc idx 6 7 h) (lv, .ref 94 :: st, mM t I L V) = some (none, (lv, .ref 111 :: st, mM t I L V)) := id rfl
theorem G_94_8 {sx : eSx} (pc idx : Nat) (h : eFld sx.1 idx 6 8) (lv st : List Value) (t : Nat × Nat × Bool) (I : Nat → Nat → Int32) (L : Nat → Nat → Int64) (V : Nat → Option Nat) : eDen (sx := sx) (p_get pc idx 6 8 h) (lv, .ref 94 :: st, mM t I L V) = some (none, (lv, .ref 112 :: st, mM t I L V)) := id rfl
theorem G_94_9 {sx : eSx} (pc idx : Nat) (h : eFld sx.1 idx 6 9) (lv st : List Value) (t : Nat × Nat × Bool) (I : Nat → Nat → Int32) (L : Nat → Nat → Int64) (V : Nat → Option Nat) : eDen (sx := sx) (p_get pc idx 6 9 h) (lv, .ref 94 :: st, mM t I L V) = some (none, (lv, .int (I 94 9) :: st, mM t I L V)) := id rfl
theorem P_94_9 {sx : eSx} (pc idx : Nat) (h : eFld sx.1 idx 6 9) (h2 : ((eClT 6 9).2.2.2 = false ∨ ((eClT 6 9).2.2.2 = true ∧ sx.2.1 = true ∧ (eClT 6 9).1 = sx.1))) (lv st : List Value) (t : Nat × Nat × Bool) (I : Nat → Nat → Int32) (L : Nat → Nat → Int64) (V : Nat → Option Nat) (x : Int32) : eDen (sx := sx) (p_put pc idx 6 9 h h2) (lv, .int x :: .ref 94 :: st, mM t I L V) = some (none, (lv, st, mM t (si I 94 9 x) L V)) := id rfl
theorem G_94_10 {sx : eSx} (pc idx : Nat) (h : eFld sx.1 idx 6 10) (lv st : List Value) (t : Nat × Nat × Bool) (I : Nat → Nat → Int32) (L : Nat → Nat → Int64) (V : Nat → Option Nat) : eDen (sx := sx) (p_get pc idx 6 10 h) (lv, .ref 94 :: st, mM t I L V) = some (none, (lv, .int (I 94 10) :: st, mM t I L V)) := id rfl
theorem P_94_10 {sx : eSx} (pc idx : Nat) (h : eFld sx.1 idx 6 10) (h2 : ((eClT 6 10).2.2.2 = false ∨ ((eClT 6 10).2.2.2 = true ∧ sx.2.1 = true ∧ (eClT 6 10).1 = sx.1))) (lv st : List Value) (t : Nat × Nat × Bool) (I : Nat → Nat → Int32) (L : Nat → Nat → Int64) (V : Nat → Option Nat) (x : Int32) : eDen (sx := sx) (p_put pc idx 6 10 h h2) (lv, .int x :: .ref 94 :: st, mM t I L V) = some (none, (lv, st, mM t (si I 94 10 x) L V)) := id rfl
theorem R_94 (l : List Value) (t : Nat × Nat × Bool) (I : Nat → Nat → Int32) (L : Nat → Nat → Int64) (V : Nat → Option Nat) : eRcv 6 (.ref 94 :: l) (mM t I L V) = true := id rfl
theorem G_95_0 {sx : eSx} (pc idx : Nat) (h : eFld sx.1 idx 4 0) (lv st : List Value) (t : Nat × Nat × Bool) (I : Nat → Nat → Int32) (L : Nat → Nat → Int64) (V : Nat → Option Nat) : eDen (sx := sx) (p_get pc idx 4 0 h) (lv, .ref 95 :: st, mM t I L V) = some (none, (lv, .int (I 95 0) :: st, mM t I L V)) := id rfl
theorem P_95_0 {sx : eSx} (pc idx : Nat) (h : eFld sx.1 idx 4 0) (h2 : ((eClT 4 0).2.2.2 = false ∨ ((eClT 4 0).2.2.2 = true ∧ sx.2.1 = true ∧ (eClT 4 0).1 = sx.1))) (lv st : List Value) (t : Nat × Nat × Bool) (I : Nat → Nat → Int32) (L : Nat → Nat → Int64) (V : Nat → Option Nat) (x : Int32) : eDen (sx := sx) (p_put pc idx 4 0 h h2) (lv, .int x :: .ref 95 :: st, mM t I L V) = some (none, (lv, st, mM t (si I 95 0 x) L V)) := id rfl
theorem G_95_1 {sx : eSx} (pc idx : Nat) (h : eFld sx.1 idx 4 1) (lv st : List Value) (t : Nat × Nat × Bool) (I : Nat → Nat → Int32) (L : Nat → Nat → Int64) (V : Nat → Option Nat) : eDen (sx := sx) (p_get pc idx 4 1 h) (lv, .ref 95 :: st, mM t I L V) = some (none, (lv, .ref 96 :: st, mM t I L V)) := id rfl
theorem R_95 (l : List Value) (t : Nat × Nat × Bool) (I : Nat → Nat → Int32) (L : Nat → Nat → Int64) (V : Nat → Option Nat) : eRcv 4 (.ref 95 :: l) (mM t I L V) = true := id rfl
theorem A_96 {sx : eSx} (pc : Nat) (lv st : List Value) (t : Nat × Nat × Bool) (I : Nat → Nat → Int32) (L : Nat → Nat → Int64) (V : Nat → Option Nat) (i : Int32) : eDen (sx := sx) (p_iald pc) (lv, .int i :: .ref 96 :: st, mM t I L V) = vLd (eIx i 7) (fun j => .int (I 96 j)) lv st (mM t I L V) := by
  show Option.map _ (Option.map _ (eIx i 7)) = _
  cases eIx i 7 <;> rfl
theorem S_96 {sx : eSx} (pc : Nat) (lv st : List Value) (t : Nat × Nat × Bool) (I : Nat → Nat → Int32) (L : Nat → Nat → Int64) (V : Nat → Option Nat) (i : Int32) (x : Int32) : eDen (sx := sx) (p_iast pc) (lv, .int x :: .int i :: .ref 96 :: st, mM t I L V) = vSt (eIx i 7) (fun j => mM t (si I 96 j x) L V) lv st := by
  show Option.map _ (Option.map _ (eIx i 7)) = _
  cases eIx i 7 <;> rfl
theorem N_96 {sx : eSx} (pc : Nat) (lv st : List Value) (t : Nat × Nat × Bool) (I : Nat → Nat → Int32) (L : Nat → Nat → Int64) (V : Nat → Option Nat) : eDen (sx := sx) (p_alen pc) (lv, .ref 96 :: st, mM t I L V) = some (none, (lv, .int (nI 7) :: st, mM t I L V)) := id rfl
theorem G_97_0 {sx : eSx} (pc idx : Nat) (h : eFld sx.1 idx 4 0) (lv st : List Value) (t : Nat × Nat × Bool) (I : Nat → Nat → Int32) (L : Nat → Nat → Int64) (V : Nat → Option Nat) : eDen (sx := sx) (p_get pc idx 4 0 h) (lv, .ref 97 :: st, mM t I L V) = some (none, (lv, .int (I 97 0) :: st, mM t I L V)) := id rfl
theorem P_97_0 {sx : eSx} (pc idx : Nat) (h : eFld sx.1 idx 4 0) (h2 : ((eClT 4 0).2.2.2 = false ∨ ((eClT 4 0).2.2.2 = true ∧ sx.2.1 = true ∧ (eClT 4 0).1 = sx.1))) (lv st : List Value) (t : Nat × Nat × Bool) (I : Nat → Nat → Int32) (L : Nat → Nat → Int64) (V : Nat → Option Nat) (x : Int32) : eDen (sx := sx) (p_put pc idx 4 0 h h2) (lv, .int x :: .ref 97 :: st, mM t I L V) = some (none, (lv, st, mM t (si I 97 0 x) L V)) := id rfl
theorem G_97_1 {sx : eSx} (pc idx : Nat) (h : eFld sx.1 idx 4 1) (lv st : List Value) (t : Nat × Nat × Bool) (I : Nat → Nat → Int32) (L : Nat → Nat → Int64) (V : Nat → Option Nat) : eDen (sx := sx) (p_get pc idx 4 1 h) (lv, .ref 97 :: st, mM t I L V) = some (none, (lv, .ref 98 :: st, mM t I L V)) := id rfl
theorem R_97 (l : List Value) (t : Nat × Nat × Bool) (I : Nat → Nat → Int32) (L : Nat → Nat → Int64) (V : Nat → Option Nat) : eRcv 4 (.ref 97 :: l) (mM t I L V) = true := id rfl
theorem A_98 {sx : eSx} (pc : Nat) (lv st : List Value) (t : Nat × Nat × Bool) (I : Nat → Nat → Int32) (L : Nat → Nat → Int64) (V : Nat → Option Nat) (i : Int32) : eDen (sx := sx) (p_iald pc) (lv, .int i :: .ref 98 :: st, mM t I L V) = vLd (eIx i 7) (fun j => .int (I 98 j)) lv st (mM t I L V) := by
  show Option.map _ (Option.map _ (eIx i 7)) = _
  cases eIx i 7 <;> rfl
theorem S_98 {sx : eSx} (pc : Nat) (lv st : List Value) (t : Nat × Nat × Bool) (I : Nat → Nat → Int32) (L : Nat → Nat → Int64) (V : Nat → Option Nat) (i : Int32) (x : Int32) : eDen (sx := sx) (p_iast pc) (lv, .int x :: .int i :: .ref 98 :: st, mM t I L V) = vSt (eIx i 7) (fun j => mM t (si I 98 j x) L V) lv st := by
  show Option.map _ (Option.map _ (eIx i 7)) = _
  cases eIx i 7 <;> rfl
theorem N_98 {sx : eSx} (pc : Nat) (lv st : List Value) (t : Nat × Nat × Bool) (I : Nat → Nat → Int32) (L : Nat → Nat → Int64) (V : Nat → Option Nat) : eDen (sx := sx) (p_alen pc) (lv, .ref 98 :: st, mM t I L V) = some (none, (lv, .int (nI 7) :: st, mM t I L V)) := id rfl
theorem G_99_0 {sx : eSx} (pc idx : Nat) (h : eFld sx.1 idx 3 0) (lv st : List Value) (t : Nat × Nat × Bool) (I : Nat → Nat → Int32) (L : Nat → Nat → Int64) (V : Nat → Option Nat) : eDen (sx := sx) (p_get pc idx 3 0 h) (lv, .ref 99 :: st, mM t I L V) = some (none, (lv, .int (I 99 0) :: st, mM t I L V)) := id rfl
theorem P_99_0 {sx : eSx} (pc idx : Nat) (h : eFld sx.1 idx 3 0) (h2 : ((eClT 3 0).2.2.2 = false ∨ ((eClT 3 0).2.2.2 = true ∧ sx.2.1 = true ∧ (eClT 3 0).1 = sx.1))) (lv st : List Value) (t : Nat × Nat × Bool) (I : Nat → Nat → Int32) (L : Nat → Nat → Int64) (V : Nat → Option Nat) (x : Int32) : eDen (sx := sx) (p_put pc idx 3 0 h h2) (lv, .int x :: .ref 99 :: st, mM t I L V) = some (none, (lv, st, mM t (si I 99 0 x) L V)) := id rfl
theorem G_99_1 {sx : eSx} (pc idx : Nat) (h : eFld sx.1 idx 3 1) (lv st : List Value) (t : Nat × Nat × Bool) (I : Nat → Nat → Int32) (L : Nat → Nat → Int64) (V : Nat → Option Nat) : eDen (sx := sx) (p_get pc idx 3 1 h) (lv, .ref 99 :: st, mM t I L V) = some (none, (lv, .ref 100 :: st, mM t I L V)) := id rfl
theorem G_99_2 {sx : eSx} (pc idx : Nat) (h : eFld sx.1 idx 3 2) (lv st : List Value) (t : Nat × Nat × Bool) (I : Nat → Nat → Int32) (L : Nat → Nat → Int64) (V : Nat → Option Nat) : eDen (sx := sx) (p_get pc idx 3 2 h) (lv, .ref 99 :: st, mM t I L V) = some (none, (lv, .ref 101 :: st, mM t I L V)) := id rfl
theorem G_99_3 {sx : eSx} (pc idx : Nat) (h : eFld sx.1 idx 3 3) (lv st : List Value) (t : Nat × Nat × Bool) (I : Nat → Nat → Int32) (L : Nat → Nat → Int64) (V : Nat → Option Nat) : eDen (sx := sx) (p_get pc idx 3 3 h) (lv, .ref 99 :: st, mM t I L V) = some (none, (lv, .ref 102 :: st, mM t I L V)) := id rfl
theorem R_99 (l : List Value) (t : Nat × Nat × Bool) (I : Nat → Nat → Int32) (L : Nat → Nat → Int64) (V : Nat → Option Nat) : eRcv 3 (.ref 99 :: l) (mM t I L V) = true := id rfl
theorem A_100 {sx : eSx} (pc : Nat) (lv st : List Value) (t : Nat × Nat × Bool) (I : Nat → Nat → Int32) (L : Nat → Nat → Int64) (V : Nat → Option Nat) (i : Int32) : eDen (sx := sx) (p_iald pc) (lv, .int i :: .ref 100 :: st, mM t I L V) = vLd (eIx i 6) (fun j => .int (I 100 j)) lv st (mM t I L V) := by
  show Option.map _ (Option.map _ (eIx i 6)) = _
  cases eIx i 6 <;> rfl
theorem S_100 {sx : eSx} (pc : Nat) (lv st : List Value) (t : Nat × Nat × Bool) (I : Nat → Nat → Int32) (L : Nat → Nat → Int64) (V : Nat → Option Nat) (i : Int32) (x : Int32) : eDen (sx := sx) (p_iast pc) (lv, .int x :: .int i :: .ref 100 :: st, mM t I L V) = vSt (eIx i 6) (fun j => mM t (si I 100 j x) L V) lv st := by
  show Option.map _ (Option.map _ (eIx i 6)) = _
  cases eIx i 6 <;> rfl
theorem N_100 {sx : eSx} (pc : Nat) (lv st : List Value) (t : Nat × Nat × Bool) (I : Nat → Nat → Int32) (L : Nat → Nat → Int64) (V : Nat → Option Nat) : eDen (sx := sx) (p_alen pc) (lv, .ref 100 :: st, mM t I L V) = some (none, (lv, .int (nI 6) :: st, mM t I L V)) := id rfl
theorem A_101 {sx : eSx} (pc : Nat) (lv st : List Value) (t : Nat × Nat × Bool) (I : Nat → Nat → Int32) (L : Nat → Nat → Int64) (V : Nat → Option Nat) (i : Int32) : eDen (sx := sx) (p_iald pc) (lv, .int i :: .ref 101 :: st, mM t I L V) = vLd (eIx i 6) (fun j => .int (I 101 j)) lv st (mM t I L V) := by
  show Option.map _ (Option.map _ (eIx i 6)) = _
  cases eIx i 6 <;> rfl
theorem S_101 {sx : eSx} (pc : Nat) (lv st : List Value) (t : Nat × Nat × Bool) (I : Nat → Nat → Int32) (L : Nat → Nat → Int64) (V : Nat → Option Nat) (i : Int32) (x : Int32) : eDen (sx := sx) (p_iast pc) (lv, .int x :: .int i :: .ref 101 :: st, mM t I L V) = vSt (eIx i 6) (fun j => mM t (si I 101 j x) L V) lv st := by
  show Option.map _ (Option.map _ (eIx i 6)) = _
  cases eIx i 6 <;> rfl
theorem N_101 {sx : eSx} (pc : Nat) (lv st : List Value) (t : Nat × Nat × Bool) (I : Nat → Nat → Int32) (L : Nat → Nat → Int64) (V : Nat → Option Nat) : eDen (sx := sx) (p_alen pc) (lv, .ref 101 :: st, mM t I L V) = some (none, (lv, .int (nI 6) :: st, mM t I L V)) := id rfl
theorem A_102 {sx : eSx} (pc : Nat) (lv st : List Value) (t : Nat × Nat × Bool) (I : Nat → Nat → Int32) (L : Nat → Nat → Int64) (V : Nat → Option Nat) (i : Int32) : eDen (sx := sx) (p_iald pc) (lv, .int i :: .ref 102 :: st, mM t I L V) = vLd (eIx i 6) (fun j => .int (I 102 j)) lv st (mM t I L V) := by
  show Option.map _ (Option.map _ (eIx i 6)) = _
  cases eIx i 6 <;> rfl
theorem S_102 {sx : eSx} (pc : Nat) (lv st : List Value) (t : Nat × Nat × Bool) (I : Nat → Nat → Int32) (L : Nat → Nat → Int64) (V : Nat → Option Nat) (i : Int32) (x : Int32) : eDen (sx := sx) (p_iast pc) (lv, .int x :: .int i :: .ref 102 :: st, mM t I L V) = vSt (eIx i 6) (fun j => mM t (si I 102 j x) L V) lv st := by
  show Option.map _ (Option.map _ (eIx i 6)) = _
  cases eIx i 6 <;> rfl
theorem N_102 {sx : eSx} (pc : Nat) (lv st : List Value) (t : Nat × Nat × Bool) (I : Nat → Nat → Int32) (L : Nat → Nat → Int64) (V : Nat → Option Nat) : eDen (sx := sx) (p_alen pc) (lv, .ref 102 :: st, mM t I L V) = some (none, (lv, .int (nI 6) :: st, mM t I L V)) := id rfl
theorem G_103_0 {sx : eSx} (pc idx : Nat) (h : eFld sx.1 idx 1 0) (lv st : List Value) (t : Nat × Nat × Bool) (I : Nat → Nat → Int32) (L : Nat → Nat → Int64) (V : Nat → Option Nat) : eDen (sx := sx) (p_get pc idx 1 0 h) (lv, .ref 103 :: st, mM t I L V) = some (none, (lv, .int (I 103 0) :: st, mM t I L V)) := id rfl
theorem P_103_0 {sx : eSx} (pc idx : Nat) (h : eFld sx.1 idx 1 0) (h2 : ((eClT 1 0).2.2.2 = false ∨ ((eClT 1 0).2.2.2 = true ∧ sx.2.1 = true ∧ (eClT 1 0).1 = sx.1))) (lv st : List Value) (t : Nat × Nat × Bool) (I : Nat → Nat → Int32) (L : Nat → Nat → Int64) (V : Nat → Option Nat) (x : Int32) : eDen (sx := sx) (p_put pc idx 1 0 h h2) (lv, .int x :: .ref 103 :: st, mM t I L V) = some (none, (lv, st, mM t (si I 103 0 x) L V)) := id rfl
theorem G_103_1 {sx : eSx} (pc idx : Nat) (h : eFld sx.1 idx 1 1) (lv st : List Value) (t : Nat × Nat × Bool) (I : Nat → Nat → Int32) (L : Nat → Nat → Int64) (V : Nat → Option Nat) : eDen (sx := sx) (p_get pc idx 1 1 h) (lv, .ref 103 :: st, mM t I L V) = some (none, (lv, .ref 104 :: st, mM t I L V)) := id rfl
theorem G_103_2 {sx : eSx} (pc idx : Nat) (h : eFld sx.1 idx 1 2) (lv st : List Value) (t : Nat × Nat × Bool) (I : Nat → Nat → Int32) (L : Nat → Nat → Int64) (V : Nat → Option Nat) : eDen (sx := sx) (p_get pc idx 1 2 h) (lv, .ref 103 :: st, mM t I L V) = some (none, (lv, .ref 105 :: st, mM t I L V)) := id rfl
theorem G_103_3 {sx : eSx} (pc idx : Nat) (h : eFld sx.1 idx 1 3) (lv st : List Value) (t : Nat × Nat × Bool) (I : Nat → Nat → Int32) (L : Nat → Nat → Int64) (V : Nat → Option Nat) : eDen (sx := sx) (p_get pc idx 1 3 h) (lv, .ref 103 :: st, mM t I L V) = some (none, (lv, .ref 106 :: st, mM t I L V)) := id rfl
theorem G_103_4 {sx : eSx} (pc idx : Nat) (h : eFld sx.1 idx 1 4) (lv st : List Value) (t : Nat × Nat × Bool) (I : Nat → Nat → Int32) (L : Nat → Nat → Int64) (V : Nat → Option Nat) : eDen (sx := sx) (p_get pc idx 1 4 h) (lv, .ref 103 :: st, mM t I L V) = some (none, (lv, .ref 107 :: st, mM t I L V)) := id rfl
theorem R_103 (l : List Value) (t : Nat × Nat × Bool) (I : Nat → Nat → Int32) (L : Nat → Nat → Int64) (V : Nat → Option Nat) : eRcv 1 (.ref 103 :: l) (mM t I L V) = true := id rfl
theorem A_104 {sx : eSx} (pc : Nat) (lv st : List Value) (t : Nat × Nat × Bool) (I : Nat → Nat → Int32) (L : Nat → Nat → Int64) (V : Nat → Option Nat) (i : Int32) : eDen (sx := sx) (p_iald pc) (lv, .int i :: .ref 104 :: st, mM t I L V) = vLd (eIx i 5) (fun j => .int (I 104 j)) lv st (mM t I L V) := by
  show Option.map _ (Option.map _ (eIx i 5)) = _
  cases eIx i 5 <;> rfl
theorem S_104 {sx : eSx} (pc : Nat) (lv st : List Value) (t : Nat × Nat × Bool) (I : Nat → Nat → Int32) (L : Nat → Nat → Int64) (V : Nat → Option Nat) (i : Int32) (x : Int32) : eDen (sx := sx) (p_iast pc) (lv, .int x :: .int i :: .ref 104 :: st, mM t I L V) = vSt (eIx i 5) (fun j => mM t (si I 104 j x) L V) lv st := by
  show Option.map _ (Option.map _ (eIx i 5)) = _
  cases eIx i 5 <;> rfl
theorem N_104 {sx : eSx} (pc : Nat) (lv st : List Value) (t : Nat × Nat × Bool) (I : Nat → Nat → Int32) (L : Nat → Nat → Int64) (V : Nat → Option Nat) : eDen (sx := sx) (p_alen pc) (lv, .ref 104 :: st, mM t I L V) = some (none, (lv, .int (nI 5) :: st, mM t I L V)) := id rfl
theorem A_105 {sx : eSx} (pc : Nat) (lv st : List Value) (t : Nat × Nat × Bool) (I : Nat → Nat → Int32) (L : Nat → Nat → Int64) (V : Nat → Option Nat) (i : Int32) : eDen (sx := sx) (p_iald pc) (lv, .int i :: .ref 105 :: st, mM t I L V) = vLd (eIx i 5) (fun j => .int (I 105 j)) lv st (mM t I L V) := by
  show Option.map _ (Option.map _ (eIx i 5)) = _
  cases eIx i 5 <;> rfl
theorem S_105 {sx : eSx} (pc : Nat) (lv st : List Value) (t : Nat × Nat × Bool) (I : Nat → Nat → Int32) (L : Nat → Nat → Int64) (V : Nat → Option Nat) (i : Int32) (x : Int32) : eDen (sx := sx) (p_iast pc) (lv, .int x :: .int i :: .ref 105 :: st, mM t I L V) = vSt (eIx i 5) (fun j => mM t (si I 105 j x) L V) lv st := by
  show Option.map _ (Option.map _ (eIx i 5)) = _
  cases eIx i 5 <;> rfl
theorem N_105 {sx : eSx} (pc : Nat) (lv st : List Value) (t : Nat × Nat × Bool) (I : Nat → Nat → Int32) (L : Nat → Nat → Int64) (V : Nat → Option Nat) : eDen (sx := sx) (p_alen pc) (lv, .ref 105 :: st, mM t I L V) = some (none, (lv, .int (nI 5) :: st, mM t I L V)) := id rfl
theorem A_106 {sx : eSx} (pc : Nat) (lv st : List Value) (t : Nat × Nat × Bool) (I : Nat → Nat → Int32) (L : Nat → Nat → Int64) (V : Nat → Option Nat) (i : Int32) : eDen (sx := sx) (p_iald pc) (lv, .int i :: .ref 106 :: st, mM t I L V) = vLd (eIx i 5) (fun j => .int (I 106 j)) lv st (mM t I L V) := by
  show Option.map _ (Option.map _ (eIx i 5)) = _
  cases eIx i 5 <;> rfl
theorem S_106 {sx : eSx} (pc : Nat) (lv st : List Value) (t : Nat × Nat × Bool) (I : Nat → Nat → Int32) (L : Nat → Nat → Int64) (V : Nat → Option Nat) (i : Int32) (x : Int32) : eDen (sx := sx) (p_iast pc) (lv, .int x :: .int i :: .ref 106 :: st, mM t I L V) = vSt (eIx i 5) (fun j => mM t (si I 106 j x) L V) lv st := by
  show Option.map _ (Option.map _ (eIx i 5)) = _
  cases eIx i 5 <;> rfl
theorem N_106 {sx : eSx} (pc : Nat) (lv st : List Value) (t : Nat × Nat × Bool) (I : Nat → Nat → Int32) (L : Nat → Nat → Int64) (V : Nat → Option Nat) : eDen (sx := sx) (p_alen pc) (lv, .ref 106 :: st, mM t I L V) = some (none, (lv, .int (nI 5) :: st, mM t I L V)) := id rfl
theorem A_107 {sx : eSx} (pc : Nat) (lv st : List Value) (t : Nat × Nat × Bool) (I : Nat → Nat → Int32) (L : Nat → Nat → Int64) (V : Nat → Option Nat) (i : Int32) : eDen (sx := sx) (p_iald pc) (lv, .int i :: .ref 107 :: st, mM t I L V) = vLd (eIx i 5) (fun j => .int (I 107 j)) lv st (mM t I L V) := by
  show Option.map _ (Option.map _ (eIx i 5)) = _
  cases eIx i 5 <;> rfl
theorem S_107 {sx : eSx} (pc : Nat) (lv st : List Value) (t : Nat × Nat × Bool) (I : Nat → Nat → Int32) (L : Nat → Nat → Int64) (V : Nat → Option Nat) (i : Int32) (x : Int32) : eDen (sx := sx) (p_iast pc) (lv, .int x :: .int i :: .ref 107 :: st, mM t I L V) = vSt (eIx i 5) (fun j => mM t (si I 107 j x) L V) lv st := by
  show Option.map _ (Option.map _ (eIx i 5)) = _
  cases eIx i 5 <;> rfl
theorem N_107 {sx : eSx} (pc : Nat) (lv st : List Value) (t : Nat × Nat × Bool) (I : Nat → Nat → Int32) (L : Nat → Nat → Int64) (V : Nat → Option Nat) : eDen (sx := sx) (p_alen pc) (lv, .ref 107 :: st, mM t I L V) = some (none, (lv, .int (nI 5) :: st, mM t I L V)) := id rfl
theorem G_108_0 {sx : eSx} (pc idx : Nat) (h : eFld sx.1 idx 9 0) (lv st : List Value) (t : Nat × Nat × Bool) (I : Nat → Nat → Int32) (L : Nat → Nat → Int64) (V : Nat → Option Nat) : eDen (sx := sx) (p_get pc idx 9 0 h) (lv, .ref 108 :: st, mM t I L V) = some (none, (lv, .int (I 108 0) :: st, mM t I L V)) := id rfl
theorem P_108_0 {sx : eSx} (pc idx : Nat) (h : eFld sx.1 idx 9 0) (h2 : ((eClT 9 0).2.2.2 = false ∨ ((eClT 9 0).2.2.2 = true ∧ sx.2.1 = true ∧ (eClT 9 0).1 = sx.1))) (lv st : List Value) (t : Nat × Nat × Bool) (I : Nat → Nat → Int32) (L : Nat → Nat → Int64) (V : Nat → Option Nat) (x : Int32) : eDen (sx := sx) (p_put pc idx 9 0 h h2) (lv, .int x :: .ref 108 :: st, mM t I L V) = some (none, (lv, st, mM t (si I 108 0 x) L V)) := id rfl
theorem G_108_1 {sx : eSx} (pc idx : Nat) (h : eFld sx.1 idx 9 1) (lv st : List Value) (t : Nat × Nat × Bool) (I : Nat → Nat → Int32) (L : Nat → Nat → Int64) (V : Nat → Option Nat) : eDen (sx := sx) (p_get pc idx 9 1 h) (lv, .ref 108 :: st, mM t I L V) = some (none, (lv, .int (I 108 1) :: st, mM t I L V)) := id rfl
theorem P_108_1 {sx : eSx} (pc idx : Nat) (h : eFld sx.1 idx 9 1) (h2 : ((eClT 9 1).2.2.2 = false ∨ ((eClT 9 1).2.2.2 = true ∧ sx.2.1 = true ∧ (eClT 9 1).1 = sx.1))) (lv st : List Value) (t : Nat × Nat × Bool) (I : Nat → Nat → Int32) (L : Nat → Nat → Int64) (V : Nat → Option Nat) (x : Int32) : eDen (sx := sx) (p_put pc idx 9 1 h h2) (lv, .int x :: .ref 108 :: st, mM t I L V) = some (none, (lv, st, mM t (si I 108 1 x) L V)) := id rfl
theorem G_108_2 {sx : eSx} (pc idx : Nat) (h : eFld sx.1 idx 9 2) (lv st : List Value) (t : Nat × Nat × Bool) (I : Nat → Nat → Int32) (L : Nat → Nat → Int64) (V : Nat → Option Nat) : eDen (sx := sx) (p_get pc idx 9 2 h) (lv, .ref 108 :: st, mM t I L V) = some (none, (lv, .ref 109 :: st, mM t I L V)) := id rfl
theorem R_108 (l : List Value) (t : Nat × Nat × Bool) (I : Nat → Nat → Int32) (L : Nat → Nat → Int64) (V : Nat → Option Nat) : eRcv 9 (.ref 108 :: l) (mM t I L V) = true := id rfl
theorem A_109 {sx : eSx} (pc : Nat) (lv st : List Value) (t : Nat × Nat × Bool) (I : Nat → Nat → Int32) (L : Nat → Nat → Int64) (V : Nat → Option Nat) (i : Int32) : eDen (sx := sx) (p_iald pc) (lv, .int i :: .ref 109 :: st, mM t I L V) = vLd (eIx i 200) (fun j => .int (I 109 j)) lv st (mM t I L V) := by
  show Option.map _ (Option.map _ (eIx i 200)) = _
  cases eIx i 200 <;> rfl
theorem S_109 {sx : eSx} (pc : Nat) (lv st : List Value) (t : Nat × Nat × Bool) (I : Nat → Nat → Int32) (L : Nat → Nat → Int64) (V : Nat → Option Nat) (i : Int32) (x : Int32) : eDen (sx := sx) (p_iast pc) (lv, .int x :: .int i :: .ref 109 :: st, mM t I L V) = vSt (eIx i 200) (fun j => mM t (si I 109 j x) L V) lv st := by
  show Option.map _ (Option.map _ (eIx i 200)) = _
  cases eIx i 200 <;> rfl
theorem N_109 {sx : eSx} (pc : Nat) (lv st : List Value) (t : Nat × Nat × Bool) (I : Nat → Nat → Int32) (L : Nat → Nat → Int64) (V : Nat → Option Nat) : eDen (sx := sx) (p_alen pc) (lv, .ref 109 :: st, mM t I L V) = some (none, (lv, .int (nI 200) :: st, mM t I L V)) := id rfl
theorem G_110_0 {sx : eSx} (pc idx : Nat) (h : eFld sx.1 idx 0 0) (lv st : List Value) (t : Nat × Nat × Bool) (I : Nat → Nat → Int32) (L : Nat → Nat → Int64) (V : Nat → Option Nat) : eDen (sx := sx) (p_get pc idx 0 0 h) (lv, .ref 110 :: st, mM t I L V) = some (none, (lv, .long (L 110 0) :: st, mM t I L V)) := id rfl
theorem P_110_0 {sx : eSx} (pc idx : Nat) (h : eFld sx.1 idx 0 0) (h2 : ((eClT 0 0).2.2.2 = false ∨ ((eClT 0 0).2.2.2 = true ∧ sx.2.1 = true ∧ (eClT 0 0).1 = sx.1))) (lv st : List Value) (t : Nat × Nat × Bool) (I : Nat → Nat → Int32) (L : Nat → Nat → Int64) (V : Nat → Option Nat) (x : Int64) : eDen (sx := sx) (p_put pc idx 0 0 h h2) (lv, .long x :: .ref 110 :: st, mM t I L V) = some (none, (lv, st, mM t I (sl L 110 0 x) V)) := id rfl
theorem G_110_1 {sx : eSx} (pc idx : Nat) (h : eFld sx.1 idx 0 1) (lv st : List Value) (t : Nat × Nat × Bool) (I : Nat → Nat → Int32) (L : Nat → Nat → Int64) (V : Nat → Option Nat) : eDen (sx := sx) (p_get pc idx 0 1 h) (lv, .ref 110 :: st, mM t I L V) = some (none, (lv, .long (L 110 1) :: st, mM t I L V)) := id rfl
theorem P_110_1 {sx : eSx} (pc idx : Nat) (h : eFld sx.1 idx 0 1) (h2 : ((eClT 0 1).2.2.2 = false ∨ ((eClT 0 1).2.2.2 = true ∧ sx.2.1 = true ∧ (eClT 0 1).1 = sx.1))) (lv st : List Value) (t : Nat × Nat × Bool) (I : Nat → Nat → Int32) (L : Nat → Nat → Int64) (V : Nat → Option Nat) (x : Int64) : eDen (sx := sx) (p_put pc idx 0 1 h h2) (lv, .long x :: .ref 110 :: st, mM t I L V) = some (none, (lv, st, mM t I (sl L 110 1 x) V)) := id rfl
theorem R_110 (l : List Value) (t : Nat × Nat × Bool) (I : Nat → Nat → Int32) (L : Nat → Nat → Int64) (V : Nat → Option Nat) : eRcv 0 (.ref 110 :: l) (mM t I L V) = true := id rfl
theorem G_111_0 {sx : eSx} (pc idx : Nat) (h : eFld sx.1 idx 0 0) (lv st : List Value) (t : Nat × Nat × Bool) (I : Nat → Nat → Int32) (L : Nat → Nat → Int64) (V : Nat → Option Nat) : eDen (sx := sx) (p_get pc idx 0 0 h) (lv, .ref 111 :: st, mM t I L V) = some (none, (lv, .long (L 111 0) :: st, mM t I L V)) := id rfl
theorem P_111_0 {sx : eSx} (pc idx : Nat) (h : eFld sx.1 idx 0 0) (h2 : ((eClT 0 0).2.2.2 = false ∨ ((eClT 0 0).2.2.2 = true ∧ sx.2.1 = true ∧ (eClT 0 0).1 = sx.1))) (lv st : List Value) (t : Nat × Nat × Bool) (I : Nat → Nat → Int32) (L : Nat → Nat → Int64) (V : Nat → Option Nat) (x : Int64) : eDen (sx := sx) (p_put pc idx 0 0 h h2) (lv, .long x :: .ref 111 :: st, mM t I L V) = some (none, (lv, st, mM t I (sl L 111 0 x) V)) := id rfl
theorem G_111_1 {sx : eSx} (pc idx : Nat) (h : eFld sx.1 idx 0 1) (lv st : List Value) (t : Nat × Nat × Bool) (I : Nat → Nat → Int32) (L : Nat → Nat → Int64) (V : Nat → Option Nat) : eDen (sx := sx) (p_get pc idx 0 1 h) (lv, .ref 111 :: st, mM t I L V) = some (none, (lv, .long (L 111 1) :: st, mM t I L V)) := id rfl
theorem P_111_1 {sx : eSx} (pc idx : Nat) (h : eFld sx.1 idx 0 1) (h2 : ((eClT 0 1).2.2.2 = false ∨ ((eClT 0 1).2.2.2 = true ∧ sx.2.1 = true ∧ (eClT 0 1).1 = sx.1))) (lv st : List Value) (t : Nat × Nat × Bool) (I : Nat → Nat → Int32) (L : Nat → Nat → Int64) (V : Nat → Option Nat) (x : Int64) : eDen (sx := sx) (p_put pc idx 0 1 h h2) (lv, .long x :: .ref 111 :: st, mM t I L V) = some (none, (lv, st, mM t I (sl L 111 1 x) V)) := id rfl
theorem R_111 (l : List Value) (t : Nat × Nat × Bool) (I : Nat → Nat → Int32) (L : Nat → Nat → Int64) (V : Nat → Option Nat) : eRcv 0 (.ref 111 :: l) (mM t I L V) = true := id rfl
theorem A_112 {sx : eSx} (pc : Nat) (lv st : List Value) (t : Nat × Nat × Bool) (I : Nat → Nat → Int32) (L : Nat → Nat → Int64) (V : Nat → Option Nat) (i : Int32) : eDen (sx := sx) (p_lald pc) (lv, .int i :: .ref 112 :: st, mM t I L V) = vLd (eIx i 7) (fun j => .long (L 112 j)) lv st (mM t I L V) := by
  show Option.map _ (Option.map _ (eIx i 7)) = _
  cases eIx i 7 <;> rfl
theorem S_112 {sx : eSx} (pc : Nat) (lv st : List Value) (t : Nat × Nat × Bool) (I : Nat → Nat → Int32) (L : Nat → Nat → Int64) (V : Nat → Option Nat) (i : Int32) (x : Int64) : eDen (sx := sx) (p_last pc) (lv, .long x :: .int i :: .ref 112 :: st, mM t I L V) = vSt (eIx i 7) (fun j => mM t I (sl L 112 j x) V) lv st := by
  show Option.map _ (Option.map _ (eIx i 7)) = _
  cases eIx i 7 <;> rfl
theorem N_112 {sx : eSx} (pc : Nat) (lv st : List Value) (t : Nat × Nat × Bool) (I : Nat → Nat → Int32) (L : Nat → Nat → Int64) (V : Nat → Option Nat) : eDen (sx := sx) (p_alen pc) (lv, .ref 112 :: st, mM t I L V) = some (none, (lv, .int (nI 7) :: st, mM t I L V)) := id rfl
theorem G_113_0 {sx : eSx} (pc idx : Nat) (h : eFld sx.1 idx 6 0) (lv st : List Value) (t : Nat × Nat × Bool) (I : Nat → Nat → Int32) (L : Nat → Nat → Int64) (V : Nat → Option Nat) : eDen (sx := sx) (p_get pc idx 6 0 h) (lv, .ref 113 :: st, mM t I L V) = some (none, (lv, .ref 114 :: st, mM t I L V)) := id rfl
theorem G_113_1 {sx : eSx} (pc idx : Nat) (h : eFld sx.1 idx 6 1) (lv st : List Value) (t : Nat × Nat × Bool) (I : Nat → Nat → Int32) (L : Nat → Nat → Int64) (V : Nat → Option Nat) : eDen (sx := sx) (p_get pc idx 6 1 h) (lv, .ref 113 :: st, mM t I L V) = some (none, (lv, .ref 116 :: st, mM t I L V)) := id rfl
theorem G_113_2 {sx : eSx} (pc idx : Nat) (h : eFld sx.1 idx 6 2) (lv st : List Value) (t : Nat × Nat × Bool) (I : Nat → Nat → Int32) (L : Nat → Nat → Int64) (V : Nat → Option Nat) : eDen (sx := sx) (p_get pc idx 6 2 h) (lv, .ref 113 :: st, mM t I L V) = some (none, (lv, .ref 118 :: st, mM t I L V)) := id rfl
theorem G_113_3 {sx : eSx} (pc idx : Nat) (h : eFld sx.1 idx 6 3) (lv st : List Value) (t : Nat × Nat × Bool) (I : Nat → Nat → Int32) (L : Nat → Nat → Int64) (V : Nat → Option Nat) : eDen (sx := sx) (p_get pc idx 6 3 h) (lv, .ref 113 :: st, mM t I L V) = some (none, (lv, .ref 122 :: st, mM t I L V)) := id rfl
theorem G_113_4 {sx : eSx} (pc idx : Nat) (h : eFld sx.1 idx 6 4) (lv st : List Value) (t : Nat × Nat × Bool) (I : Nat → Nat → Int32) (L : Nat → Nat → Int64) (V : Nat → Option Nat) : eDen (sx := sx) (p_get pc idx 6 4 h) (lv, .ref 113 :: st, mM t I L V) = some (none, (lv, .ref 127 :: st, mM t I L V)) := id rfl
theorem G_113_5 {sx : eSx} (pc idx : Nat) (h : eFld sx.1 idx 6 5) (lv st : List Value) (t : Nat × Nat × Bool) (I : Nat → Nat → Int32) (L : Nat → Nat → Int64) (V : Nat → Option Nat) : eDen (sx := sx) (p_get pc idx 6 5 h) (lv, .ref 113 :: st, mM t I L V) = some (none, (lv, .int (I 113 5) :: st, mM t I L V)) := id rfl
theorem P_113_5 {sx : eSx} (pc idx : Nat) (h : eFld sx.1 idx 6 5) (h2 : ((eClT 6 5).2.2.2 = false ∨ ((eClT 6 5).2.2.2 = true ∧ sx.2.1 = true ∧ (eClT 6 5).1 = sx.1))) (lv st : List Value) (t : Nat × Nat × Bool) (I : Nat → Nat → Int32) (L : Nat → Nat → Int64) (V : Nat → Option Nat) (x : Int32) : eDen (sx := sx) (p_put pc idx 6 5 h h2) (lv, .int x :: .ref 113 :: st, mM t I L V) = some (none, (lv, st, mM t (si I 113 5 x) L V)) := id rfl
theorem G_113_6 {sx : eSx} (pc idx : Nat) (h : eFld sx.1 idx 6 6) (lv st : List Value) (t : Nat × Nat × Bool) (I : Nat → Nat → Int32) (L : Nat → Nat → Int64) (V : Nat → Option Nat) : eDen (sx := sx) (p_get pc idx 6 6 h) (lv, .ref 113 :: st, mM t I L V) = some (none, (lv, .ref 129 :: st, mM t I L V)) := id rfl
theorem G_113_7 {sx : eSx} (pc idx : Nat) (h : eFld sx.1 idx 6 7) (lv st : List Value) (t : Nat × Nat × Bool) (I : Nat → Nat → Int32) (L : Nat → Nat → Int64) (V : Nat → Option Nat) : eDen (sx := sx) (p_get pc idx 6 7 h) (lv, .ref 113 :: st, mM t I L V) = some (none, (lv, .ref 130 :: st, mM t I L V)) := id rfl
theorem G_113_8 {sx : eSx} (pc idx : Nat) (h : eFld sx.1 idx 6 8) (lv st : List Value) (t : Nat × Nat × Bool) (I : Nat → Nat → Int32) (L : Nat → Nat → Int64) (V : Nat → Option Nat) : eDen (sx := sx) (p_get pc idx 6 8 h) (lv, .ref 113 :: st, mM t I L V) = some (none, (lv, .ref 131 :: st, mM t I L V)) := id rfl
theorem G_113_9 {sx : eSx} (pc idx : Nat) (h : eFld sx.1 idx 6 9) (lv st : List Value) (t : Nat × Nat × Bool) (I : Nat → Nat → Int32) (L : Nat → Nat → Int64) (V : Nat → Option Nat) : eDen (sx := sx) (p_get pc idx 6 9 h) (lv, .ref 113 :: st, mM t I L V) = some (none, (lv, .int (I 113 9) :: st, mM t I L V)) := id rfl
theorem P_113_9 {sx : eSx} (pc idx : Nat) (h : eFld sx.1 idx 6 9) (h2 : ((eClT 6 9).2.2.2 = false ∨ ((eClT 6 9).2.2.2 = true ∧ sx.2.1 = true ∧ (eClT 6 9).1 = sx.1))) (lv st : List Value) (t : Nat × Nat × Bool) (I : Nat → Nat → Int32) (L : Nat → Nat → Int64) (V : Nat → Option Nat) (x : Int32) : eDen (sx := sx) (p_put pc idx 6 9 h h2) (lv, .int x :: .ref 113 :: st, mM t I L V) = some (none, (lv, st, mM t (si I 113 9 x) L V)) := id rfl
theorem G_113_10 {sx : eSx} (pc idx : Nat) (h : eFld sx.1 idx 6 10) (lv st : List Value) (t : Nat × Nat × Bool) (I : Nat → Nat → Int32) (L : Nat → Nat → Int64) (V : Nat → Option Nat) : eDen (sx := sx) (p_get pc idx 6 10 h) (lv, .ref 113 :: st, mM t I L V) = some (none, (lv, .int (I 113 10) :: st, mM t I L V)) := id rfl
theorem P_113_10 {sx : eSx} (pc idx : Nat) (h : eFld sx.1 idx 6 10) (h2 : ((eClT 6 10).2.2.2 = false ∨ ((eClT 6 10).2.2.2 = true ∧ sx.2.1 = true ∧ (eClT 6 10).1 = sx.1))) (lv st : List Value) (t : Nat × Nat × Bool) (I : Nat → Nat → Int32) (L : Nat → Nat → Int64) (V : Nat → Option Nat) (x : Int32) : eDen (sx := sx) (p_put pc idx 6 10 h h2) (lv, .int x :: .ref 113 :: st, mM t I L V) = some (none, (lv, st, mM t (si I 113 10 x) L V)) := id rfl
theorem R_113 (l : List Value) (t : Nat × Nat × Bool) (I : Nat → Nat → Int32) (L : Nat → Nat → Int64) (V : Nat → Option Nat) : eRcv 6 (.ref 113 :: l) (mM t I L V) = true := id rfl
theorem G_114_0 {sx : eSx} (pc idx : Nat) (h : eFld sx.1 idx 4 0) (lv st : List Value) (t : Nat × Nat × Bool) (I : Nat → Nat → Int32) (L : Nat → Nat → Int64) (V : Nat → Option Nat) : eDen (sx := sx) (p_get pc idx 4 0 h) (lv, .ref 114 :: st, mM t I L V) = some (none, (lv, .int (I 114 0) :: st, mM t I L V)) := id rfl
theorem P_114_0 {sx : eSx} (pc idx : Nat) (h : eFld sx.1 idx 4 0) (h2 : ((eClT 4 0).2.2.2 = false ∨ ((eClT 4 0).2.2.2 = true ∧ sx.2.1 = true ∧ (eClT 4 0).1 = sx.1))) (lv st : List Value) (t : Nat × Nat × Bool) (I : Nat → Nat → Int32) (L : Nat → Nat → Int64) (V : Nat → Option Nat) (x : Int32) : eDen (sx := sx) (p_put pc idx 4 0 h h2) (lv, .int x :: .ref 114 :: st, mM t I L V) = some (none, (lv, st, mM t (si I 114 0 x) L V)) := id rfl
theorem G_114_1 {sx : eSx} (pc idx : Nat) (h : eFld sx.1 idx 4 1) (lv st : List Value) (t : Nat × Nat × Bool) (I : Nat → Nat → Int32) (L : Nat → Nat → Int64) (V : Nat → Option Nat) : eDen (sx := sx) (p_get pc idx 4 1 h) (lv, .ref 114 :: st, mM t I L V) = some (none, (lv, .ref 115 :: st, mM t I L V)) := id rfl
theorem R_114 (l : List Value) (t : Nat × Nat × Bool) (I : Nat → Nat → Int32) (L : Nat → Nat → Int64) (V : Nat → Option Nat) : eRcv 4 (.ref 114 :: l) (mM t I L V) = true := id rfl
theorem A_115 {sx : eSx} (pc : Nat) (lv st : List Value) (t : Nat × Nat × Bool) (I : Nat → Nat → Int32) (L : Nat → Nat → Int64) (V : Nat → Option Nat) (i : Int32) : eDen (sx := sx) (p_iald pc) (lv, .int i :: .ref 115 :: st, mM t I L V) = vLd (eIx i 7) (fun j => .int (I 115 j)) lv st (mM t I L V) := by
  show Option.map _ (Option.map _ (eIx i 7)) = _
  cases eIx i 7 <;> rfl
theorem S_115 {sx : eSx} (pc : Nat) (lv st : List Value) (t : Nat × Nat × Bool) (I : Nat → Nat → Int32) (L : Nat → Nat → Int64) (V : Nat → Option Nat) (i : Int32) (x : Int32) : eDen (sx := sx) (p_iast pc) (lv, .int x :: .int i :: .ref 115 :: st, mM t I L V) = vSt (eIx i 7) (fun j => mM t (si I 115 j x) L V) lv st := by
  show Option.map _ (Option.map _ (eIx i 7)) = _
  cases eIx i 7 <;> rfl
theorem N_115 {sx : eSx} (pc : Nat) (lv st : List Value) (t : Nat × Nat × Bool) (I : Nat → Nat → Int32) (L : Nat → Nat → Int64) (V : Nat → Option Nat) : eDen (sx := sx) (p_alen pc) (lv, .ref 115 :: st, mM t I L V) = some (none, (lv, .int (nI 7) :: st, mM t I L V)) := id rfl
theorem G_116_0 {sx : eSx} (pc idx : Nat) (h : eFld sx.1 idx 4 0) (lv st : List Value) (t : Nat × Nat × Bool) (I : Nat → Nat → Int32) (L : Nat → Nat → Int64) (V : Nat → Option Nat) : eDen (sx := sx) (p_get pc idx 4 0 h) (lv, .ref 116 :: st, mM t I L V) = some (none, (lv, .int (I 116 0) :: st, mM t I L V)) := id rfl
theorem P_116_0 {sx : eSx} (pc idx : Nat) (h : eFld sx.1 idx 4 0) (h2 : ((eClT 4 0).2.2.2 = false ∨ ((eClT 4 0).2.2.2 = true ∧ sx.2.1 = true ∧ (eClT 4 0).1 = sx.1))) (lv st : List Value) (t : Nat × Nat × Bool) (I : Nat → Nat → Int32) (L : Nat → Nat → Int64) (V : Nat → Option Nat) (x : Int32) : eDen (sx := sx) (p_put pc idx 4 0 h h2) (lv, .int x :: .ref 116 :: st, mM t I L V) = some (none, (lv, st, mM t (si I 116 0 x) L V)) := id rfl
theorem G_116_1 {sx : eSx} (pc idx : Nat) (h : eFld sx.1 idx 4 1) (lv st : List Value) (t : Nat × Nat × Bool) (I : Nat → Nat → Int32) (L : Nat → Nat → Int64) (V : Nat → Option Nat) : eDen (sx := sx) (p_get pc idx 4 1 h) (lv, .ref 116 :: st, mM t I L V) = some (none, (lv, .ref 117 :: st, mM t I L V)) := id rfl
theorem R_116 (l : List Value) (t : Nat × Nat × Bool) (I : Nat → Nat → Int32) (L : Nat → Nat → Int64) (V : Nat → Option Nat) : eRcv 4 (.ref 116 :: l) (mM t I L V) = true := id rfl
theorem A_117 {sx : eSx} (pc : Nat) (lv st : List Value) (t : Nat × Nat × Bool) (I : Nat → Nat → Int32) (L : Nat → Nat → Int64) (V : Nat → Option Nat) (i : Int32) : eDen (sx := sx) (p_iald pc) (lv, .int i :: .ref 117 :: st, mM t I L V) = vLd (eIx i 7) (fun j => .int (I 117 j)) lv st (mM t I L V) := by
  show Option.map _ (Option.map _ (eIx i 7)) = _
  cases eIx i 7 <;> rfl
theorem S_117 {sx : eSx} (pc : Nat) (lv st : List Value) (t : Nat × Nat × Bool) (I : Nat → Nat → Int32) (L : Nat → Nat → Int64) (V : Nat → Option Nat) (i : Int32) (x : Int32) : eDen (sx := sx) (p_iast pc) (lv, .int x :: .int i :: .ref 117 :: st, mM t I L V) = vSt (eIx i 7) (fun j => mM t (si I 117 j x) L V) lv st := by
  show Option.map _ (Option.map _ (eIx i 7)) = _
  cases eIx i 7 <;> rfl
theorem N_117 {sx : eSx} (pc : Nat) (lv st : List Value) (t : Nat × Nat × Bool) (I : Nat → Nat → Int32) (L : Nat → Nat → Int64) (V : Nat → Option Nat) : eDen (sx := sx) (p_alen pc) (lv, .ref 117 :: st, mM t I L V) = some (none, (lv, .int (nI 7) :: st, mM t I L V)) := id rfl
theorem G_118_0 {sx : eSx} (pc idx : Nat) (h : eFld sx.1 idx 3 0) (lv st : List Value) (t : Nat × Nat × Bool) (I : Nat → Nat → Int32) (L : Nat → Nat → Int64) (V : Nat → Option Nat) : eDen (sx := sx) (p_get pc idx 3 0 h) (lv, .ref 118 :: st, mM t I L V) = some (none, (lv, .int (I 118 0) :: st, mM t I L V)) := id rfl
theorem P_118_0 {sx : eSx} (pc idx : Nat) (h : eFld sx.1 idx 3 0) (h2 : ((eClT 3 0).2.2.2 = false ∨ ((eClT 3 0).2.2.2 = true ∧ sx.2.1 = true ∧ (eClT 3 0).1 = sx.1))) (lv st : List Value) (t : Nat × Nat × Bool) (I : Nat → Nat → Int32) (L : Nat → Nat → Int64) (V : Nat → Option Nat) (x : Int32) : eDen (sx := sx) (p_put pc idx 3 0 h h2) (lv, .int x :: .ref 118 :: st, mM t I L V) = some (none, (lv, st, mM t (si I 118 0 x) L V)) := id rfl
theorem G_118_1 {sx : eSx} (pc idx : Nat) (h : eFld sx.1 idx 3 1) (lv st : List Value) (t : Nat × Nat × Bool) (I : Nat → Nat → Int32) (L : Nat → Nat → Int64) (V : Nat → Option Nat) : eDen (sx := sx) (p_get pc idx 3 1 h) (lv, .ref 118 :: st, mM t I L V) = some (none, (lv, .ref 119 :: st, mM t I L V)) := id rfl
theorem G_118_2 {sx : eSx} (pc idx : Nat) (h : eFld sx.1 idx 3 2) (lv st : List Value) (t : Nat × Nat × Bool) (I : Nat → Nat → Int32) (L : Nat → Nat → Int64) (V : Nat → Option Nat) : eDen (sx := sx) (p_get pc idx 3 2 h) (lv, .ref 118 :: st, mM t I L V) = some (none, (lv, .ref 120 :: st, mM t I L V)) := id rfl
theorem G_118_3 {sx : eSx} (pc idx : Nat) (h : eFld sx.1 idx 3 3) (lv st : List Value) (t : Nat × Nat × Bool) (I : Nat → Nat → Int32) (L : Nat → Nat → Int64) (V : Nat → Option Nat) : eDen (sx := sx) (p_get pc idx 3 3 h) (lv, .ref 118 :: st, mM t I L V) = some (none, (lv, .ref 121 :: st, mM t I L V)) := id rfl
theorem R_118 (l : List Value) (t : Nat × Nat × Bool) (I : Nat → Nat → Int32) (L : Nat → Nat → Int64) (V : Nat → Option Nat) : eRcv 3 (.ref 118 :: l) (mM t I L V) = true := id rfl
theorem A_119 {sx : eSx} (pc : Nat) (lv st : List Value) (t : Nat × Nat × Bool) (I : Nat → Nat → Int32) (L : Nat → Nat → Int64) (V : Nat → Option Nat) (i : Int32) : eDen (sx := sx) (p_iald pc) (lv, .int i :: .ref 119 :: st, mM t I L V) = vLd (eIx i 6) (fun j => .int (I 119 j)) lv st (mM t I L V) := by
  show Option.map _ (Option.map _ (eIx i 6)) = _
  cases eIx i 6 <;> rfl
theorem S_119 {sx : eSx} (pc : Nat) (lv st : List Value) (t : Nat × Nat × Bool) (I : Nat → Nat → Int32) (L : Nat → Nat → Int64) (V : Nat → Option Nat) (i : Int32) (x : Int32) : eDen (sx := sx) (p_iast pc) (lv, .int x :: .int i :: .ref 119 :: st, mM t I L V) = vSt (eIx i 6) (fun j => mM t (si I 119 j x) L V) lv st := by
  show Option.map _ (Option.map _ (eIx i 6)) = _
  cases eIx i 6 <;> rfl
theorem N_119 {sx : eSx} (pc : Nat) (lv st : List Value) (t : Nat × Nat × Bool) (I : Nat → Nat → Int32) (L : Nat → Nat → Int64) (V : Nat → Option Nat) : eDen (sx := sx) (p_alen pc) (lv, .ref 119 :: st, mM t I L V) = some (none, (lv, .int (nI 6) :: st, mM t I L V)) := id rfl
theorem A_120 {sx : eSx} (pc : Nat) (lv st : List Value) (t : Nat × Nat × Bool) (I : Nat → Nat → Int32) (L : Nat → Nat → Int64) (V : Nat → Option Nat) (i : Int32) : eDen (sx := sx) (p_iald pc) (lv, .int i :: .ref 120 :: st, mM t I L V) = vLd (eIx i 6) (fun j => .int (I 120 j)) lv st (mM t I L V) := by
  show Option.map _ (Option.map _ (eIx i 6)) = _
  cases eIx i 6 <;> rfl
theorem S_120 {sx : eSx} (pc : Nat) (lv st : List Value) (t : Nat × Nat × Bool) (I : Nat → Nat → Int32) (L : Nat → Nat → Int64) (V : Nat → Option Nat) (i : Int32) (x : Int32) : eDen (sx := sx) (p_iast pc) (lv, .int x :: .int i :: .ref 120 :: st, mM t I L V) = vSt (eIx i 6) (fun j => mM t (si I 120 j x) L V) lv st := by
  show Option.map _ (Option.map _ (eIx i 6)) = _
  cases eIx i 6 <;> rfl
theorem N_120 {sx : eSx} (pc : Nat) (lv st : List Value) (t : Nat × Nat × Bool) (I : Nat → Nat → Int32) (L : Nat → Nat → Int64) (V : Nat → Option Nat) : eDen (sx := sx) (p_alen pc) (lv, .ref 120 :: st, mM t I L V) = some (none, (lv, .int (nI 6) :: st, mM t I L V)) := id rfl
theorem A_121 {sx : eSx} (pc : Nat) (lv st : List Value) (t : Nat × Nat × Bool) (I : Nat → Nat → Int32) (L : Nat → Nat → Int64) (V : Nat → Option Nat) (i : Int32) : eDen (sx := sx) (p_iald pc) (lv, .int i :: .ref 121 :: st, mM t I L V) = vLd (eIx i 6) (fun j => .int (I 121 j)) lv st (mM t I L V) := by
  show Option.map _ (Option.map _ (eIx i 6)) = _
  cases eIx i 6 <;> rfl
theorem S_121 {sx : eSx} (pc : Nat) (lv st : List Value) (t : Nat × Nat × Bool) (I : Nat → Nat → Int32) (L : Nat → Nat → Int64) (V : Nat → Option Nat) (i : Int32) (x : Int32) : eDen (sx := sx) (p_iast pc) (lv, .int x :: .int i :: .ref 121 :: st, mM t I L V) = vSt (eIx i 6) (fun j => mM t (si I 121 j x) L V) lv st := by
  show Option.map _ (Option.map _ (eIx i 6)) = _
  cases eIx i 6 <;> rfl
theorem N_121 {sx : eSx} (pc : Nat) (lv st : List Value) (t : Nat × Nat × Bool) (I : Nat → Nat → Int32) (L : Nat → Nat → Int64) (V : Nat → Option Nat) : eDen (sx := sx) (p_alen pc) (lv, .ref 121 :: st, mM t I L V) = some (none, (lv, .int (nI 6) :: st, mM t I L V)) := id rfl
theorem G_122_0 {sx : eSx} (pc idx : Nat) (h : eFld sx.1 idx 1 0) (lv st : List Value) (t : Nat × Nat × Bool) (I : Nat → Nat → Int32) (L : Nat → Nat → Int64) (V : Nat → Option Nat) : eDen (sx := sx) (p_get pc idx 1 0 h) (lv, .ref 122 :: st, mM t I L V) = some (none, (lv, .int (I 122 0) :: st, mM t I L V)) := id rfl
theorem P_122_0 {sx : eSx} (pc idx : Nat) (h : eFld sx.1 idx 1 0) (h2 : ((eClT 1 0).2.2.2 = false ∨ ((eClT 1 0).2.2.2 = true ∧ sx.2.1 = true ∧ (eClT 1 0).1 = sx.1))) (lv st : List Value) (t : Nat × Nat × Bool) (I : Nat → Nat → Int32) (L : Nat → Nat → Int64) (V : Nat → Option Nat) (x : Int32) : eDen (sx := sx) (p_put pc idx 1 0 h h2) (lv, .int x :: .ref 122 :: st, mM t I L V) = some (none, (lv, st, mM t (si I 122 0 x) L V)) := id rfl
theorem G_122_1 {sx : eSx} (pc idx : Nat) (h : eFld sx.1 idx 1 1) (lv st : List Value) (t : Nat × Nat × Bool) (I : Nat → Nat → Int32) (L : Nat → Nat → Int64) (V : Nat → Option Nat) : eDen (sx := sx) (p_get pc idx 1 1 h) (lv, .ref 122 :: st, mM t I L V) = some (none, (lv, .ref 123 :: st, mM t I L V)) := id rfl
theorem G_122_2 {sx : eSx} (pc idx : Nat) (h : eFld sx.1 idx 1 2) (lv st : List Value) (t : Nat × Nat × Bool) (I : Nat → Nat → Int32) (L : Nat → Nat → Int64) (V : Nat → Option Nat) : eDen (sx := sx) (p_get pc idx 1 2 h) (lv, .ref 122 :: st, mM t I L V) = some (none, (lv, .ref 124 :: st, mM t I L V)) := id rfl
theorem G_122_3 {sx : eSx} (pc idx : Nat) (h : eFld sx.1 idx 1 3) (lv st : List Value) (t : Nat × Nat × Bool) (I : Nat → Nat → Int32) (L : Nat → Nat → Int64) (V : Nat → Option Nat) : eDen (sx := sx) (p_get pc idx 1 3 h) (lv, .ref 122 :: st, mM t I L V) = some (none, (lv, .ref 125 :: st, mM t I L V)) := id rfl
theorem G_122_4 {sx : eSx} (pc idx : Nat) (h : eFld sx.1 idx 1 4) (lv st : List Value) (t : Nat × Nat × Bool) (I : Nat → Nat → Int32) (L : Nat → Nat → Int64) (V : Nat → Option Nat) : eDen (sx := sx) (p_get pc idx 1 4 h) (lv, .ref 122 :: st, mM t I L V) = some (none, (lv, .ref 126 :: st, mM t I L V)) := id rfl
theorem R_122 (l : List Value) (t : Nat × Nat × Bool) (I : Nat → Nat → Int32) (L : Nat → Nat → Int64) (V : Nat → Option Nat) : eRcv 1 (.ref 122 :: l) (mM t I L V) = true := id rfl
theorem A_123 {sx : eSx} (pc : Nat) (lv st : List Value) (t : Nat × Nat × Bool) (I : Nat → Nat → Int32) (L : Nat → Nat → Int64) (V : Nat → Option Nat) (i : Int32) : eDen (sx := sx) (p_iald pc) (lv, .int i :: .ref 123 :: st, mM t I L V) = vLd (eIx i 5) (fun j => .int (I 123 j)) lv st (mM t I L V) := by
  show Option.map _ (Option.map _ (eIx i 5)) = _
  cases eIx i 5 <;> rfl
theorem S_123 {sx : eSx} (pc : Nat) (lv st : List Value) (t : Nat × Nat × Bool) (I : Nat → Nat → Int32) (L : Nat → Nat → Int64) (V : Nat → Option Nat) (i : Int32) (x : Int32) : eDen (sx := sx) (p_iast pc) (lv, .int x :: .int i :: .ref 123 :: st, mM t I L V) = vSt (eIx i 5) (fun j => mM t (si I 123 j x) L V) lv st := by
  show Option.map _ (Option.map _ (eIx i 5)) = _
  cases eIx i 5 <;> rfl
theorem N_123 {sx : eSx} (pc : Nat) (lv st : List Value) (t : Nat × Nat × Bool) (I : Nat → Nat → Int32) (L : Nat → Nat → Int64) (V : Nat → Option Nat) : eDen (sx := sx) (p_alen pc) (lv, .ref 123 :: st, mM t I L V) = some (none, (lv, .int (nI 5) :: st, mM t I L V)) := id rfl
theorem A_124 {sx : eSx} (pc : Nat) (lv st : List Value) (t : Nat × Nat × Bool) (I : Nat → Nat → Int32) (L : Nat → Nat → Int64) (V : Nat → Option Nat) (i : Int32) : eDen (sx := sx) (p_iald pc) (lv, .int i :: .ref 124 :: st, mM t I L V) = vLd (eIx i 5) (fun j => .int (I 124 j)) lv st (mM t I L V) := by
  show Option.map _ (Option.map _ (eIx i 5)) = _
  cases eIx i 5 <;> rfl
theorem S_124 {sx : eSx} (pc : Nat) (lv st : List Value) (t : Nat × Nat × Bool) (I : Nat → Nat → Int32) (L : Nat → Nat → Int64) (V : Nat → Option Nat) (i : Int32) (x : Int32) : eDen (sx := sx) (p_iast pc) (lv, .int x :: .int i :: .ref 124 :: st, mM t I L V) = vSt (eIx i 5) (fun j => mM t (si I 124 j x) L V) lv st := by
  show Option.map _ (Option.map _ (eIx i 5)) = _
  cases eIx i 5 <;> rfl
theorem N_124 {sx : eSx} (pc : Nat) (lv st : List Value) (t : Nat × Nat × Bool) (I : Nat → Nat → Int32) (L : Nat → Nat → Int64) (V : Nat → Option Nat) : eDen (sx := sx) (p_alen pc) (lv, .ref 124 :: st, mM t I L V) = some (none, (lv, .int (nI 5) :: st, mM t I L V)) := id rfl
theorem A_125 {sx : eSx} (pc : Nat) (lv st : List Value) (t : Nat × Nat × Bool) (I : Nat → Nat → Int32) (L : Nat → Nat → Int64) (V : Nat → Option Nat) (i : Int32) : eDen (sx := sx) (p_iald pc) (lv, .int i :: .ref 125 :: st, mM t I L V) = vLd (eIx i 5) (fun j => .int (I 125 j)) lv st (mM t I L V) := by
  show Option.map _ (Option.map _ (eIx i 5)) = _
  cases eIx i 5 <;> rfl
theorem S_125 {sx : eSx} (pc : Nat) (lv st : List Value) (t : Nat × Nat × Bool) (I : Nat → Nat → Int32) (L : Nat → Nat → Int64) (V : Nat → Option Nat) (i : Int32) (x : Int32) : eDen (sx := sx) (p_iast pc) (lv, .int x :: .int i :: .ref 125 :: st, mM t I L V) = vSt (eIx i 5) (fun j => mM t (si I 125 j x) L V) lv st := by
  show Option.map _ (Option.map _ (eIx i 5)) = _
  cases eIx i 5 <;> rfl
theorem N_125 {sx : eSx} (pc : Nat) (lv st : List Value) (t : Nat × Nat × Bool) (I : Nat → Nat → Int32) (L : Nat → Nat → Int64) (V : Nat → Option Nat) : eDen (sx := sx) (p_alen pc) (lv, .ref 125 :: st, mM t I L V) = some (none, (lv, .int (nI 5) :: st, mM t I L V)) := id rfl
theorem A_126 {sx : eSx} (pc : Nat) (lv st : List Value) (t : Nat × Nat × Bool) (I : Nat → Nat → Int32) (L : Nat → Nat → Int64) (V : Nat → Option Nat) (i : Int32) : eDen (sx := sx) (p_iald pc) (lv, .int i :: .ref 126 :: st, mM t I L V) = vLd (eIx i 5) (fun j => .int (I 126 j)) lv st (mM t I L V) := by
  show Option.map _ (Option.map _ (eIx i 5)) = _
  cases eIx i 5 <;> rfl
theorem S_126 {sx : eSx} (pc : Nat) (lv st : List Value) (t : Nat × Nat × Bool) (I : Nat → Nat → Int32) (L : Nat → Nat → Int64) (V : Nat → Option Nat) (i : Int32) (x : Int32) : eDen (sx := sx) (p_iast pc) (lv, .int x :: .int i :: .ref 126 :: st, mM t I L V) = vSt (eIx i 5) (fun j => mM t (si I 126 j x) L V) lv st := by
  show Option.map _ (Option.map _ (eIx i 5)) = _
  cases eIx i 5 <;> rfl
theorem N_126 {sx : eSx} (pc : Nat) (lv st : List Value) (t : Nat × Nat × Bool) (I : Nat → Nat → Int32) (L : Nat → Nat → Int64) (V : Nat → Option Nat) : eDen (sx := sx) (p_alen pc) (lv, .ref 126 :: st, mM t I L V) = some (none, (lv, .int (nI 5) :: st, mM t I L V)) := id rfl
theorem G_127_0 {sx : eSx} (pc idx : Nat) (h : eFld sx.1 idx 9 0) (lv st : List Value) (t : Nat × Nat × Bool) (I : Nat → Nat → Int32) (L : Nat → Nat → Int64) (V : Nat → Option Nat) : eDen (sx := sx) (p_get pc idx 9 0 h) (lv, .ref 127 :: st, mM t I L V) = some (none, (lv, .int (I 127 0) :: st, mM t I L V)) := id rfl
theorem P_127_0 {sx : eSx} (pc idx : Nat) (h : eFld sx.1 idx 9 0) (h2 : ((eClT 9 0).2.2.2 = false ∨ ((eClT 9 0).2.2.2 = true ∧ sx.2.1 = true ∧ (eClT 9 0).1 = sx.1))) (lv st : List Value) (t : Nat × Nat × Bool) (I : Nat → Nat → Int32) (L : Nat → Nat → Int64) (V : Nat → Option Nat) (x : Int32) : eDen (sx := sx) (p_put pc idx 9 0 h h2) (lv, .int x :: .ref 127 :: st, mM t I L V) = some (none, (lv, st, mM t (si I 127 0 x) L V)) := id rfl
theorem G_127_1 {sx : eSx} (pc idx : Nat) (h : eFld sx.1 idx 9 1) (lv st : List Value) (t : Nat × Nat × Bool) (I : Nat → Nat → Int32) (L : Nat → Nat → Int64) (V : Nat → Option Nat) : eDen (sx := sx) (p_get pc idx 9 1 h) (lv, .ref 127 :: st, mM t I L V) = some (none, (lv, .int (I 127 1) :: st, mM t I L V)) := id rfl
theorem P_127_1 {sx : eSx} (pc idx : Nat) (h : eFld sx.1 idx 9 1) (h2 : ((eClT 9 1).2.2.2 = false ∨ ((eClT 9 1).2.2.2 = true ∧ sx.2.1 = true ∧ (eClT 9 1).1 = sx.1))) (lv st : List Value) (t : Nat × Nat × Bool) (I : Nat → Nat → Int32) (L : Nat → Nat → Int64) (V : Nat → Option Nat) (x : Int32) : eDen (sx := sx) (p_put pc idx 9 1 h h2) (lv, .int x :: .ref 127 :: st, mM t I L V) = some (none, (lv, st, mM t (si I 127 1 x) L V)) := id rfl
theorem G_127_2 {sx : eSx} (pc idx : Nat) (h : eFld sx.1 idx 9 2) (lv st : List Value) (t : Nat × Nat × Bool) (I : Nat → Nat → Int32) (L : Nat → Nat → Int64) (V : Nat → Option Nat) : eDen (sx := sx) (p_get pc idx 9 2 h) (lv, .ref 127 :: st, mM t I L V) = some (none, (lv, .ref 128 :: st, mM t I L V)) := id rfl
theorem R_127 (l : List Value) (t : Nat × Nat × Bool) (I : Nat → Nat → Int32) (L : Nat → Nat → Int64) (V : Nat → Option Nat) : eRcv 9 (.ref 127 :: l) (mM t I L V) = true := id rfl
theorem A_128 {sx : eSx} (pc : Nat) (lv st : List Value) (t : Nat × Nat × Bool) (I : Nat → Nat → Int32) (L : Nat → Nat → Int64) (V : Nat → Option Nat) (i : Int32) : eDen (sx := sx) (p_iald pc) (lv, .int i :: .ref 128 :: st, mM t I L V) = vLd (eIx i 200) (fun j => .int (I 128 j)) lv st (mM t I L V) := by
  show Option.map _ (Option.map _ (eIx i 200)) = _
  cases eIx i 200 <;> rfl
theorem S_128 {sx : eSx} (pc : Nat) (lv st : List Value) (t : Nat × Nat × Bool) (I : Nat → Nat → Int32) (L : Nat → Nat → Int64) (V : Nat → Option Nat) (i : Int32) (x : Int32) : eDen (sx := sx) (p_iast pc) (lv, .int x :: .int i :: .ref 128 :: st, mM t I L V) = vSt (eIx i 200) (fun j => mM t (si I 128 j x) L V) lv st := by
  show Option.map _ (Option.map _ (eIx i 200)) = _
  cases eIx i 200 <;> rfl
theorem N_128 {sx : eSx} (pc : Nat) (lv st : List Value) (t : Nat × Nat × Bool) (I : Nat → Nat → Int32) (L : Nat → Nat → Int64) (V : Nat → Option Nat) : eDen (sx := sx) (p_alen pc) (lv, .ref 128 :: st, mM t I L V) = some (none, (lv, .int (nI 200) :: st, mM t I L V)) := id rfl
theorem G_129_0 {sx : eSx} (pc idx : Nat) (h : eFld sx.1 idx 0 0) (lv st : List Value) (t : Nat × Nat × Bool) (I : Nat → Nat → Int32) (L : Nat → Nat → Int64) (V : Nat → Option Nat) : eDen (sx := sx) (p_get pc idx 0 0 h) (lv, .ref 129 :: st, mM t I L V) = some (none, (lv, .long (L 129 0) :: st, mM t I L V)) := id rfl
theorem P_129_0 {sx : eSx} (pc idx : Nat) (h : eFld sx.1 idx 0 0) (h2 : ((eClT 0 0).2.2.2 = false ∨ ((eClT 0 0).2.2.2 = true ∧ sx.2.1 = true ∧ (eClT 0 0).1 = sx.1))) (lv st : List Value) (t : Nat × Nat × Bool) (I : Nat → Nat → Int32) (L : Nat → Nat → Int64) (V : Nat → Option Nat) (x : Int64) : eDen (sx := sx) (p_put pc idx 0 0 h h2) (lv, .long x :: .ref 129 :: st, mM t I L V) = some (none, (lv, st, mM t I (sl L 129 0 x) V)) := id rfl
theorem G_129_1 {sx : eSx} (pc idx : Nat) (h : eFld sx.1 idx 0 1) (lv st : List Value) (t : Nat × Nat × Bool) (I : Nat → Nat → Int32) (L : Nat → Nat → Int64) (V : Nat → Option Nat) : eDen (sx := sx) (p_get pc idx 0 1 h) (lv, .ref 129 :: st, mM t I L V) = some (none, (lv, .long (L 129 1) :: st, mM t I L V)) := id rfl
theorem P_129_1 {sx : eSx} (pc idx : Nat) (h : eFld sx.1 idx 0 1) (h2 : ((eClT 0 1).2.2.2 = false ∨ ((eClT 0 1).2.2.2 = true ∧ sx.2.1 = true ∧ (eClT 0 1).1 = sx.1))) (lv st : List Value) (t : Nat × Nat × Bool) (I : Nat → Nat → Int32) (L : Nat → Nat → Int64) (V : Nat → Option Nat) (x : Int64) : eDen (sx := sx) (p_put pc idx 0 1 h h2) (lv, .long x :: .ref 129 :: st, mM t I L V) = some (none, (lv, st, mM t I (sl L 129 1 x) V)) := id rfl
theorem R_129 (l : List Value) (t : Nat × Nat × Bool) (I : Nat → Nat → Int32) (L : Nat → Nat → Int64) (V : Nat → Option Nat) : eRcv 0 (.ref 129 :: l) (mM t I L V) = true := id rfl
theorem G_130_0 {sx : eSx} (pc idx : Nat) (h : eFld sx.1 idx 0 0) (lv st : List Value) (t : Nat × Nat × Bool) (I : Nat → Nat → Int32) (L : Nat → Nat → Int64) (V : Nat → Option Nat) : eDen (sx := sx) (p_get pc idx 0 0 h) (lv, .ref 130 :: st, mM t I L V) = some (none, (lv, .long (L 130 0) :: st, mM t I L V)) := id rfl
theorem P_130_0 {sx : eSx} (pc idx : Nat) (h : eFld sx.1 idx 0 0) (h2 : ((eClT 0 0).2.2.2 = false ∨ ((eClT 0 0).2.2.2 = true ∧ sx.2.1 = true ∧ (eClT 0 0).1 = sx.1))) (lv st : List Value) (t : Nat × Nat × Bool) (I : Nat → Nat → Int32) (L : Nat → Nat → Int64) (V : Nat → Option Nat) (x : Int64) : eDen (sx := sx) (p_put pc idx 0 0 h h2) (lv, .long x :: .ref 130 :: st, mM t I L V) = some (none, (lv, st, mM t I (sl L 130 0 x) V)) := id rfl
theorem G_130_1 {sx : eSx} (pc idx : Nat) (h : eFld sx.1 idx 0 1) (lv st : List Value) (t : Nat × Nat × Bool) (I : Nat → Nat → Int32) (L : Nat → Nat → Int64) (V : Nat → Option Nat) : eDen (sx := sx) (p_get pc idx 0 1 h) (lv, .ref 130 :: st, mM t I L V) = some (none, (lv, .long (L 130 1) :: st, mM t I L V)) := id rfl
theorem P_130_1 {sx : eSx} (pc idx : Nat) (h : eFld sx.1 idx 0 1) (h2 : ((eClT 0 1).2.2.2 = false ∨ ((eClT 0 1).2.2.2 = true ∧ sx.2.1 = true ∧ (eClT 0 1).1 = sx.1))) (lv st : List Value) (t : Nat × Nat × Bool) (I : Nat → Nat → Int32) (L : Nat → Nat → Int64) (V : Nat → Option Nat) (x : Int64) : eDen (sx := sx) (p_put pc idx 0 1 h h2) (lv, .long x :: .ref 130 :: st, mM t I L V) = some (none, (lv, st, mM t I (sl L 130 1 x) V)) := id rfl
theorem R_130 (l : List Value) (t : Nat × Nat × Bool) (I : Nat → Nat → Int32) (L : Nat → Nat → Int64) (V : Nat → Option Nat) : eRcv 0 (.ref 130 :: l) (mM t I L V) = true := id rfl
theorem A_131 {sx : eSx} (pc : Nat) (lv st : List Value) (t : Nat × Nat × Bool) (I : Nat → Nat → Int32) (L : Nat → Nat → Int64) (V : Nat → Option Nat) (i : Int32) : eDen (sx := sx) (p_lald pc) (lv, .int i :: .ref 131 :: st, mM t I L V) = vLd (eIx i 7) (fun j => .long (L 131 j)) lv st (mM t I L V) := by
  show Option.map _ (Option.map _ (eIx i 7)) = _
  cases eIx i 7 <;> rfl
theorem S_131 {sx : eSx} (pc : Nat) (lv st : List Value) (t : Nat × Nat × Bool) (I : Nat → Nat → Int32) (L : Nat → Nat → Int64) (V : Nat → Option Nat) (i : Int32) (x : Int64) : eDen (sx := sx) (p_last pc) (lv, .long x :: .int i :: .ref 131 :: st, mM t I L V) = vSt (eIx i 7) (fun j => mM t I (sl L 131 j x) V) lv st := by
  show Option.map _ (Option.map _ (eIx i 7)) = _
  cases eIx i 7 <;> rfl
theorem N_131 {sx : eSx} (pc : Nat) (lv st : List Value) (t : Nat × Nat × Bool) (I : Nat → Nat → Int32) (L : Nat → Nat → Int64) (V : Nat → Option Nat) : eDen (sx := sx) (p_alen pc) (lv, .ref 131 :: st, mM t I L V) = some (none, (lv, .int (nI 7) :: st, mM t I L V)) := id rfl
theorem G_132_0 {sx : eSx} (pc idx : Nat) (h : eFld sx.1 idx 6 0) (lv st : List Value) (t : Nat × Nat × Bool) (I : Nat → Nat → Int32) (L : Nat → Nat → Int64) (V : Nat → Option Nat) : eDen (sx := sx) (p_get pc idx 6 0 h) (lv, .ref 132 :: st, mM t I L V) = some (none, (lv, .ref 133 :: st, mM t I L V)) := id rfl
theorem G_132_1 {sx : eSx} (pc idx : Nat) (h : eFld sx.1 idx 6 1) (lv st : List Value) (t : Nat × Nat × Bool) (I : Nat → Nat → Int32) (L : Nat → Nat → Int64) (V : Nat → Option Nat) : eDen (sx := sx) (p_get pc idx 6 1 h) (lv, .ref 132 :: st, mM t I L V) = some (none, (lv, .ref 135 :: st, mM t I L V)) := id rfl
theorem G_132_2 {sx : eSx} (pc idx : Nat) (h : eFld sx.1 idx 6 2) (lv st : List Value) (t : Nat × Nat × Bool) (I : Nat → Nat → Int32) (L : Nat → Nat → Int64) (V : Nat → Option Nat) : eDen (sx := sx) (p_get pc idx 6 2 h) (lv, .ref 132 :: st, mM t I L V) = some (none, (lv, .ref 137 :: st, mM t I L V)) := id rfl
theorem G_132_3 {sx : eSx} (pc idx : Nat) (h : eFld sx.1 idx 6 3) (lv st : List Value) (t : Nat × Nat × Bool) (I : Nat → Nat → Int32) (L : Nat → Nat → Int64) (V : Nat → Option Nat) : eDen (sx := sx) (p_get pc idx 6 3 h) (lv, .ref 132 :: st, mM t I L V) = some (none, (lv, .ref 141 :: st, mM t I L V)) := id rfl
theorem G_132_4 {sx : eSx} (pc idx : Nat) (h : eFld sx.1 idx 6 4) (lv st : List Value) (t : Nat × Nat × Bool) (I : Nat → Nat → Int32) (L : Nat → Nat → Int64) (V : Nat → Option Nat) : eDen (sx := sx) (p_get pc idx 6 4 h) (lv, .ref 132 :: st, mM t I L V) = some (none, (lv, .ref 146 :: st, mM t I L V)) := id rfl
theorem G_132_5 {sx : eSx} (pc idx : Nat) (h : eFld sx.1 idx 6 5) (lv st : List Value) (t : Nat × Nat × Bool) (I : Nat → Nat → Int32) (L : Nat → Nat → Int64) (V : Nat → Option Nat) : eDen (sx := sx) (p_get pc idx 6 5 h) (lv, .ref 132 :: st, mM t I L V) = some (none, (lv, .int (I 132 5) :: st, mM t I L V)) := id rfl
theorem P_132_5 {sx : eSx} (pc idx : Nat) (h : eFld sx.1 idx 6 5) (h2 : ((eClT 6 5).2.2.2 = false ∨ ((eClT 6 5).2.2.2 = true ∧ sx.2.1 = true ∧ (eClT 6 5).1 = sx.1))) (lv st : List Value) (t : Nat × Nat × Bool) (I : Nat → Nat → Int32) (L : Nat → Nat → Int64) (V : Nat → Option Nat) (x : Int32) : eDen (sx := sx) (p_put pc idx 6 5 h h2) (lv, .int x :: .ref 132 :: st, mM t I L V) = some (none, (lv, st, mM t (si I 132 5 x) L V)) := id rfl
theorem G_132_6 {sx : eSx} (pc idx : Nat) (h : eFld sx.1 idx 6 6) (lv st : List Value) (t : Nat × Nat × Bool) (I : Nat → Nat → Int32) (L : Nat → Nat → Int64) (V : Nat → Option Nat) : eDen (sx := sx) (p_get pc idx 6 6 h) (lv, .ref 132 :: st, mM t I L V) = some (none, (lv, .ref 148 :: st, mM t I L V)) := id rfl
theorem G_132_7 {sx : eSx} (pc idx : Nat) (h : eFld sx.1 idx 6 7) (lv st : List Value) (t : Nat × Nat × Bool) (I : Nat → Nat → Int32) (L : Nat → Nat → Int64) (V : Nat → Option Nat) : eDen (sx := sx) (p_get pc idx 6 7 h) (lv, .ref 132 :: st, mM t I L V) = some (none, (lv, .ref 149 :: st, mM t I L V)) := id rfl
theorem G_132_8 {sx : eSx} (pc idx : Nat) (h : eFld sx.1 idx 6 8) (lv st : List Value) (t : Nat × Nat × Bool) (I : Nat → Nat → Int32) (L : Nat → Nat → Int64) (V : Nat → Option Nat) : eDen (sx := sx) (p_get pc idx 6 8 h) (lv, .ref 132 :: st, mM t I L V) = some (none, (lv, .ref 150 :: st, mM t I L V)) := id rfl
theorem G_132_9 {sx : eSx} (pc idx : Nat) (h : eFld sx.1 idx 6 9) (lv st : List Value) (t : Nat × Nat × Bool) (I : Nat → Nat → Int32) (L : Nat → Nat → Int64) (V : Nat → Option Nat) : eDen (sx := sx) (p_get pc idx 6 9 h) (lv, .ref 132 :: st, mM t I L V) = some (none, (lv, .int (I 132 9) :: st, mM t I L V)) := id rfl
theorem P_132_9 {sx : eSx} (pc idx : Nat) (h : eFld sx.1 idx 6 9) (h2 : ((eClT 6 9).2.2.2 = false ∨ ((eClT 6 9).2.2.2 = true ∧ sx.2.1 = true ∧ (eClT 6 9).1 = sx.1))) (lv st : List Value) (t : Nat × Nat × Bool) (I : Nat → Nat → Int32) (L : Nat → Nat → Int64) (V : Nat → Option Nat) (x : Int32) : eDen (sx := sx) (p_put pc idx 6 9 h h2) (lv, .int x :: .ref 132 :: st, mM t I L V) = some (none, (lv, st, mM t (si I 132 9 x) L V)) := id rfl
theorem G_132_10 {sx : eSx} (pc idx : Nat) (h : eFld sx.1 idx 6 10) (lv st : List Value) (t : Nat × Nat × Bool) (I : Nat → Nat → Int32) (L : Nat → Nat → Int64) (V : Nat → Option Nat) : eDen (sx := sx) (p_get pc idx 6 10 h) (lv, .ref 132 :: st, mM t I L V) = some (none, (lv, .int (I 132 10) :: st, mM t I L V)) := id rfl
theorem P_132_10 {sx : eSx} (pc idx : Nat) (h : eFld sx.1 idx 6 10) (h2 : ((eClT 6 10).2.2.2 = false ∨ ((eClT 6 10).2.2.2 = true ∧ sx.2.1 = true ∧ (eClT 6 10).1 = sx.1))) (lv st : List Value) (t : Nat × Nat × Bool) (I : Nat → Nat → Int32) (L : Nat → Nat → Int64) (V : Nat → Option Nat) (x : Int32) : eDen (sx := sx) (p_put pc idx 6 10 h h2) (lv, .int x :: .ref 132 :: st, mM t I L V) = some (none, (lv, st, mM t (si I 132 10 x) L V)) := id rfl
theorem R_132 (l : List Value) (t : Nat × Nat × Bool) (I : Nat → Nat → Int32) (L : Nat → Nat → Int64) (V : Nat → Option Nat) : eRcv 6 (.ref 132 :: l) (mM t I L V) = true := id rfl
theorem G_133_0 {sx : eSx} (pc idx : Nat) (h : eFld sx.1 idx 4 0) (lv st : List Value) (t : Nat × Nat × Bool) (I : Nat → Nat → Int32) (L : Nat → Nat → Int64) (V : Nat → Option Nat) : eDen (sx := sx) (p_get pc idx 4 0 h) (lv, .ref 133 :: st, mM t I L V) = some (none, (lv, .int (I 133 0) :: st, mM t I L V)) := id rfl
theorem P_133_0 {sx : eSx} (pc idx : Nat) (h : eFld sx.1 idx 4 0) (h2 : ((eClT 4 0).2.2.2 = false ∨ ((eClT 4 0).2.2.2 = true ∧ sx.2.1 = true ∧ (eClT 4 0).1 = sx.1))) (lv st : List Value) (t : Nat × Nat × Bool) (I : Nat → Nat → Int32) (L : Nat → Nat → Int64) (V : Nat → Option Nat) (x : Int32) : eDen (sx := sx) (p_put pc idx 4 0 h h2) (lv, .int x :: .ref 133 :: st, mM t I L V) = some (none, (lv, st, mM t (si I 133 0 x) L V)) := id rfl
theorem G_133_1 {sx : eSx} (pc idx : Nat) (h : eFld sx.1 idx 4 1) (lv st : List Value) (t : Nat × Nat × Bool) (I : Nat → Nat → Int32) (L : Nat → Nat → Int64) (V : Nat → Option Nat) : eDen (sx := sx) (p_get pc idx 4 1 h) (lv, .ref 133 :: st, mM t I L V) = some (none, (lv, .ref 134 :: st, mM t I L V)) := id rfl
theorem R_133 (l : List Value) (t : Nat × Nat × Bool) (I : Nat → Nat → Int32) (L : Nat → Nat → Int64) (V : Nat → Option Nat) : eRcv 4 (.ref 133 :: l) (mM t I L V) = true := id rfl
theorem A_134 {sx : eSx} (pc : Nat) (lv st : List Value) (t : Nat × Nat × Bool) (I : Nat → Nat → Int32) (L : Nat → Nat → Int64) (V : Nat → Option Nat) (i : Int32) : eDen (sx := sx) (p_iald pc) (lv, .int i :: .ref 134 :: st, mM t I L V) = vLd (eIx i 7) (fun j => .int (I 134 j)) lv st (mM t I L V) := by
  show Option.map _ (Option.map _ (eIx i 7)) = _
  cases eIx i 7 <;> rfl
theorem S_134 {sx : eSx} (pc : Nat) (lv st : List Value) (t : Nat × Nat × Bool) (I : Nat → Nat → Int32) (L : Nat → Nat → Int64) (V : Nat → Option Nat) (i : Int32) (x : Int32) : eDen (sx := sx) (p_iast pc) (lv, .int x :: .int i :: .ref 134 :: st, mM t I L V) = vSt (eIx i 7) (fun j => mM t (si I 134 j x) L V) lv st := by
  show Option.map _ (Option.map _ (eIx i 7)) = _
  cases eIx i 7 <;> rfl
theorem N_134 {sx : eSx} (pc : Nat) (lv st : List Value) (t : Nat × Nat × Bool) (I : Nat → Nat → Int32) (L : Nat → Nat → Int64) (V : Nat → Option Nat) : eDen (sx := sx) (p_alen pc) (lv, .ref 134 :: st, mM t I L V) = some (none, (lv, .int (nI 7) :: st, mM t I L V)) := id rfl
theorem G_135_0 {sx : eSx} (pc idx : Nat) (h : eFld sx.1 idx 4 0) (lv st : List Value) (t : Nat × Nat × Bool) (I : Nat → Nat → Int32) (L : Nat → Nat → Int64) (V : Nat → Option Nat) : eDen (sx := sx) (p_get pc idx 4 0 h) (lv, .ref 135 :: st, mM t I L V) = some (none, (lv, .int (I 135 0) :: st, mM t I L V)) := id rfl
theorem P_135_0 {sx : eSx} (pc idx : Nat) (h : eFld sx.1 idx 4 0) (h2 : ((eClT 4 0).2.2.2 = false ∨ ((eClT 4 0).2.2.2 = true ∧ sx.2.1 = true ∧ (eClT 4 0).1 = sx.1))) (lv st : List Value) (t : Nat × Nat × Bool) (I : Nat → Nat → Int32) (L : Nat → Nat → Int64) (V : Nat → Option Nat) (x : Int32) : eDen (sx := sx) (p_put pc idx 4 0 h h2) (lv, .int x :: .ref 135 :: st, mM t I L V) = some (none, (lv, st, mM t (si I 135 0 x) L V)) := id rfl
theorem G_135_1 {sx : eSx} (pc idx : Nat) (h : eFld sx.1 idx 4 1) (lv st : List Value) (t : Nat × Nat × Bool) (I : Nat → Nat → Int32) (L : Nat → Nat → Int64) (V : Nat → Option Nat) : eDen (sx := sx) (p_get pc idx 4 1 h) (lv, .ref 135 :: st, mM t I L V) = some (none, (lv, .ref 136 :: st, mM t I L V)) := id rfl
theorem R_135 (l : List Value) (t : Nat × Nat × Bool) (I : Nat → Nat → Int32) (L : Nat → Nat → Int64) (V : Nat → Option Nat) : eRcv 4 (.ref 135 :: l) (mM t I L V) = true := id rfl
theorem A_136 {sx : eSx} (pc : Nat) (lv st : List Value) (t : Nat × Nat × Bool) (I : Nat → Nat → Int32) (L : Nat → Nat → Int64) (V : Nat → Option Nat) (i : Int32) : eDen (sx := sx) (p_iald pc) (lv, .int i :: .ref 136 :: st, mM t I L V) = vLd (eIx i 7) (fun j => .int (I 136 j)) lv st (mM t I L V) := by
  show Option.map _ (Option.map _ (eIx i 7)) = _
  cases eIx i 7 <;> rfl
theorem S_136 {sx : eSx} (pc : Nat) (lv st : List Value) (t : Nat × Nat × Bool) (I : Nat → Nat → Int32) (L : Nat → Nat → Int64) (V : Nat → Option Nat) (i : Int32) (x : Int32) : eDen (sx := sx) (p_iast pc) (lv, .int x :: .int i :: .ref 136 :: st, mM t I L V) = vSt (eIx i 7) (fun j => mM t (si I 136 j x) L V) lv st := by
  show Option.map _ (Option.map _ (eIx i 7)) = _
  cases eIx i 7 <;> rfl
theorem N_136 {sx : eSx} (pc : Nat) (lv st : List Value) (t : Nat × Nat × Bool) (I : Nat → Nat → Int32) (L : Nat → Nat → Int64) (V : Nat → Option Nat) : eDen (sx := sx) (p_alen pc) (lv, .ref 136 :: st, mM t I L V) = some (none, (lv, .int (nI 7) :: st, mM t I L V)) := id rfl
theorem G_137_0 {sx : eSx} (pc idx : Nat) (h : eFld sx.1 idx 3 0) (lv st : List Value) (t : Nat × Nat × Bool) (I : Nat → Nat → Int32) (L : Nat → Nat → Int64) (V : Nat → Option Nat) : eDen (sx := sx) (p_get pc idx 3 0 h) (lv, .ref 137 :: st, mM t I L V) = some (none, (lv, .int (I 137 0) :: st, mM t I L V)) := id rfl
theorem P_137_0 {sx : eSx} (pc idx : Nat) (h : eFld sx.1 idx 3 0) (h2 : ((eClT 3 0).2.2.2 = false ∨ ((eClT 3 0).2.2.2 = true ∧ sx.2.1 = true ∧ (eClT 3 0).1 = sx.1))) (lv st : List Value) (t : Nat × Nat × Bool) (I : Nat → Nat → Int32) (L : Nat → Nat → Int64) (V : Nat → Option Nat) (x : Int32) : eDen (sx := sx) (p_put pc idx 3 0 h h2) (lv, .int x :: .ref 137 :: st, mM t I L V) = some (none, (lv, st, mM t (si I 137 0 x) L V)) := id rfl
theorem G_137_1 {sx : eSx} (pc idx : Nat) (h : eFld sx.1 idx 3 1) (lv st : List Value) (t : Nat × Nat × Bool) (I : Nat → Nat → Int32) (L : Nat → Nat → Int64) (V : Nat → Option Nat) : eDen (sx := sx) (p_get pc idx 3 1 h) (lv, .ref 137 :: st, mM t I L V) = some (none, (lv, .ref 138 :: st, mM t I L V)) := id rfl
theorem G_137_2 {sx : eSx} (pc idx : Nat) (h : eFld sx.1 idx 3 2) (lv st : List Value) (t : Nat × Nat × Bool) (I : Nat → Nat → Int32) (L : Nat → Nat → Int64) (V : Nat → Option Nat) : eDen (sx := sx) (p_get pc idx 3 2 h) (lv, .ref 137 :: st, mM t I L V) = some (none, (lv, .ref 139 :: st, mM t I L V)) := id rfl
theorem G_137_3 {sx : eSx} (pc idx : Nat) (h : eFld sx.1 idx 3 3) (lv st : List Value) (t : Nat × Nat × Bool) (I : Nat → Nat → Int32) (L : Nat → Nat → Int64) (V : Nat → Option Nat) : eDen (sx := sx) (p_get pc idx 3 3 h) (lv, .ref 137 :: st, mM t I L V) = some (none, (lv, .ref 140 :: st, mM t I L V)) := id rfl
theorem R_137 (l : List Value) (t : Nat × Nat × Bool) (I : Nat → Nat → Int32) (L : Nat → Nat → Int64) (V : Nat → Option Nat) : eRcv 3 (.ref 137 :: l) (mM t I L V) = true := id rfl
theorem A_138 {sx : eSx} (pc : Nat) (lv st : List Value) (t : Nat × Nat × Bool) (I : Nat → Nat → Int32) (L : Nat → Nat → Int64) (V : Nat → Option Nat) (i : Int32) : eDen (sx := sx) (p_iald pc) (lv, .int i :: .ref 138 :: st, mM t I L V) = vLd (eIx i 6) (fun j => .int (I 138 j)) lv st (mM t I L V) := by
  show Option.map _ (Option.map _ (eIx i 6)) = _
  cases eIx i 6 <;> rfl
theorem S_138 {sx : eSx} (pc : Nat) (lv st : List Value) (t : Nat × Nat × Bool) (I : Nat → Nat → Int32) (L : Nat → Nat → Int64) (V : Nat → Option Nat) (i : Int32) (x : Int32) : eDen (sx := sx) (p_iast pc) (lv, .int x :: .int i :: .ref 138 :: st, mM t I L V) = vSt (eIx i 6) (fun j => mM t (si I 138 j x) L V) lv st := by
  show Option.map _ (Option.map _ (eIx i 6)) = _
  cases eIx i 6 <;> rfl
theorem N_138 {sx : eSx} (pc : Nat) (lv st : List Value) (t : Nat × Nat × Bool) (I : Nat → Nat → Int32) (L : Nat → Nat → Int64) (V : Nat → Option Nat) : eDen (sx := sx) (p_alen pc) (lv, .ref 138 :: st, mM t I L V) = some (none, (lv, .int (nI 6) :: st, mM t I L V)) := id rfl
theorem A_139 {sx : eSx} (pc : Nat) (lv st : List Value) (t : Nat × Nat × Bool) (I : Nat → Nat → Int32) (L : Nat → Nat → Int64) (V : Nat → Option Nat) (i : Int32) : eDen (sx := sx) (p_iald pc) (lv, .int i :: .ref 139 :: st, mM t I L V) = vLd (eIx i 6) (fun j => .int (I 139 j)) lv st (mM t I L V) := by
  show Option.map _ (Option.map _ (eIx i 6)) = _
  cases eIx i 6 <;> rfl
theorem S_139 {sx : eSx} (pc : Nat) (lv st : List Value) (t : Nat × Nat × Bool) (I : Nat → Nat → Int32) (L : Nat → Nat → Int64) (V : Nat → Option Nat) (i : Int32) (x : Int32) : eDen (sx := sx) (p_iast pc) (lv, .int x :: .int i :: .ref 139 :: st, mM t I L V) = vSt (eIx i 6) (fun j => mM t (si I 139 j x) L V) lv st := by
  show Option.map _ (Option.map _ (eIx i 6)) = _
  cases eIx i 6 <;> rfl
theorem N_139 {sx : eSx} (pc : Nat) (lv st : List Value) (t : Nat × Nat × Bool) (I : Nat → Nat → Int32) (L : Nat → Nat → Int64) (V : Nat → Option Nat) : eDen (sx := sx) (p_alen pc) (lv, .ref 139 :: st, mM t I L V) = some (none, (lv, .int (nI 6) :: st, mM t I L V)) := id rfl
theorem A_140 {sx : eSx} (pc : Nat) (lv st : List Value) (t : Nat × Nat × Bool) (I : Nat → Nat → Int32) (L : Nat → Nat → Int64) (V : Nat → Option Nat) (i : Int32) : eDen (sx := sx) (p_iald pc) (lv, .int i :: .ref 140 :: st, mM t I L V) = vLd (eIx i 6) (fun j => .int (I 140 j)) lv st (mM t I L V) := by
  show Option.map _ (Option.map _ (eIx i 6)) = _
  cases eIx i 6 <;> rfl
theorem S_140 {sx : eSx} (pc : Nat) (lv st : List Value) (t : Nat × Nat × Bool) (I : Nat → Nat → Int32) (L : Nat → Nat → Int64) (V : Nat → Option Nat) (i : Int32) (x : Int32) : eDen (sx := sx) (p_iast pc) (lv, .int x :: .int i :: .ref 140 :: st, mM t I L V) = vSt (eIx i 6) (fun j => mM t (si I 140 j x) L V) lv st := by
  show Option.map _ (Option.map _ (eIx i 6)) = _
  cases eIx i 6 <;> rfl
theorem N_140 {sx : eSx} (pc : Nat) (lv st : List Value) (t : Nat × Nat × Bool) (I : Nat → Nat → Int32) (L : Nat → Nat → Int64) (V : Nat → Option Nat) : eDen (sx := sx) (p_alen pc) (lv, .ref 140 :: st, mM t I L V) = some (none, (lv, .int (nI 6) :: st, mM t I L V)) := id rfl
theorem G_141_0 {sx : eSx} (pc idx : Nat) (h : eFld sx.1 idx 1 0) (lv st : List Value) (t : Nat × Nat × Bool) (I : Nat → Nat → Int32) (L : Nat → Nat → Int64) (V : Nat → Option Nat) : eDen (sx := sx) (p_get pc idx 1 0 h) (lv, .ref 141 :: st, mM t I L V) = some (none, (lv, .int (I 141 0) :: st, mM t I L V)) := id rfl
theorem P_141_0 {sx : eSx} (pc idx : Nat) (h : eFld sx.1 idx 1 0) (h2 : ((eClT 1 0).2.2.2 = false ∨ ((eClT 1 0).2.2.2 = true ∧ sx.2.1 = true ∧ (eClT 1 0).1 = sx.1))) (lv st : List Value) (t : Nat × Nat × Bool) (I : Nat → Nat → Int32) (L : Nat → Nat → Int64) (V : Nat → Option Nat) (x : Int32) : eDen (sx := sx) (p_put pc idx 1 0 h h2) (lv, .int x :: .ref 141 :: st, mM t I L V) = some (none, (lv, st, mM t (si I 141 0 x) L V)) := id rfl
theorem G_141_1 {sx : eSx} (pc idx : Nat) (h : eFld sx.1 idx 1 1) (lv st : List Value) (t : Nat × Nat × Bool) (I : Nat → Nat → Int32) (L : Nat → Nat → Int64) (V : Nat → Option Nat) : eDen (sx := sx) (p_get pc idx 1 1 h) (lv, .ref 141 :: st, mM t I L V) = some (none, (lv, .ref 142 :: st, mM t I L V)) := id rfl
theorem G_141_2 {sx : eSx} (pc idx : Nat) (h : eFld sx.1 idx 1 2) (lv st : List Value) (t : Nat × Nat × Bool) (I : Nat → Nat → Int32) (L : Nat → Nat → Int64) (V : Nat → Option Nat) : eDen (sx := sx) (p_get pc idx 1 2 h) (lv, .ref 141 :: st, mM t I L V) = some (none, (lv, .ref 143 :: st, mM t I L V)) := id rfl
theorem G_141_3 {sx : eSx} (pc idx : Nat) (h : eFld sx.1 idx 1 3) (lv st : List Value) (t : Nat × Nat × Bool) (I : Nat → Nat → Int32) (L : Nat → Nat → Int64) (V : Nat → Option Nat) : eDen (sx := sx) (p_get pc idx 1 3 h) (lv, .ref 141 :: st, mM t I L V) = some (none, (lv, .ref 144 :: st, mM t I L V)) := id rfl
theorem G_141_4 {sx : eSx} (pc idx : Nat) (h : eFld sx.1 idx 1 4) (lv st : List Value) (t : Nat × Nat × Bool) (I : Nat → Nat → Int32) (L : Nat → Nat → Int64) (V : Nat → Option Nat) : eDen (sx := sx) (p_get pc idx 1 4 h) (lv, .ref 141 :: st, mM t I L V) = some (none, (lv, .ref 145 :: st, mM t I L V)) := id rfl
theorem R_141 (l : List Value) (t : Nat × Nat × Bool) (I : Nat → Nat → Int32) (L : Nat → Nat → Int64) (V : Nat → Option Nat) : eRcv 1 (.ref 141 :: l) (mM t I L V) = true := id rfl
theorem A_142 {sx : eSx} (pc : Nat) (lv st : List Value) (t : Nat × Nat × Bool) (I : Nat → Nat → Int32) (L : Nat → Nat → Int64) (V : Nat → Option Nat) (i : Int32) : eDen (sx := sx) (p_iald pc) (lv, .int i :: .ref 142 :: st, mM t I L V) = vLd (eIx i 5) (fun j => .int (I 142 j)) lv st (mM t I L V) := by
  show Option.map _ (Option.map _ (eIx i 5)) = _
  cases eIx i 5 <;> rfl
theorem S_142 {sx : eSx} (pc : Nat) (lv st : List Value) (t : Nat × Nat × Bool) (I : Nat → Nat → Int32) (L : Nat → Nat → Int64) (V : Nat → Option Nat) (i : Int32) (x : Int32) : eDen (sx := sx) (p_iast pc) (lv, .int x :: .int i :: .ref 142 :: st, mM t I L V) = vSt (eIx i 5) (fun j => mM t (si I 142 j x) L V) lv st := by
  show Option.map _ (Option.map _ (eIx i 5)) = _
  cases eIx i 5 <;> rfl
theorem N_142 {sx : eSx} (pc : Nat) (lv st : List Value) (t : Nat × Nat × Bool) (I : Nat → Nat → Int32) (L : Nat → Nat → Int64) (V : Nat → Option Nat) : eDen (sx := sx) (p_alen pc) (lv, .ref 142 :: st, mM t I L V) = some (none, (lv, .int (nI 5) :: st, mM t I L V)) := id rfl
theorem A_143 {sx : eSx} (pc : Nat) (lv st : List Value) (t : Nat × Nat × Bool) (I : Nat → Nat → Int32) (L : Nat → Nat → Int64) (V : Nat → Option Nat) (i : Int32) : eDen (sx := sx) (p_iald pc) (lv, .int i :: .ref 143 :: st, mM t I L V) = vLd (eIx i 5) (fun j => .int (I 143 j)) lv st (mM t I L V) := by
  show Option.map _ (Option.map _ (eIx i 5)) = _
  cases eIx i 5 <;> rfl
theorem S_143 {sx : eSx} (pc : Nat) (lv st : List Value) (t : Nat × Nat × Bool) (I : Nat → Nat → Int32) (L : Nat → Nat → Int64) (V : Nat → Option Nat) (i : Int32) (x : Int32) : eDen (sx := sx) (p_iast pc) (lv, .int x :: .int i :: .ref 143 :: st, mM t I L V) = vSt (eIx i 5) (fun j => mM t (si I 143 j x) L V) lv st := by
  show Option.map _ (Option.map _ (eIx i 5)) = _
  cases eIx i 5 <;> rfl
theorem N_143 {sx : eSx} (pc : Nat) (lv st : List Value) (t : Nat × Nat × Bool) (I : Nat → Nat → Int32) (L : Nat → Nat → Int64) (V : Nat → Option Nat) : eDen (sx := sx) (p_alen pc) (lv, .ref 143 :: st, mM t I L V) = some (none, (lv, .int (nI 5) :: st, mM t I L V)) := id rfl
theorem A_144 {sx : eSx} (pc : Nat) (lv st : List Value) (t : Nat × Nat × Bool) (I : Nat → Nat → Int32) (L : Nat → Nat → Int64) (V : Nat → Option Nat) (i : Int32) : eDen (sx := sx) (p_iald pc) (lv, .int i :: .ref 144 :: st, mM t I L V) = vLd (eIx i 5) (fun j => .int (I 144 j)) lv st (mM t I L V) := by
  show Option.map _ (Option.map _ (eIx i 5)) = _
  cases eIx i 5 <;> rfl
theorem S_144 {sx : eSx} (pc : Nat) (lv st : List Value) (t : Nat × Nat × Bool) (I : Nat → Nat → Int32) (L : Nat → Nat → Int64) (V : Nat → Option Nat) (i : Int32) (x : Int32) : eDen (sx := sx) (p_iast pc) (lv, .int x :: .int i :: .ref 144 :: st, mM t I L V) = vSt (eIx i 5) (fun j => mM t (si I 144 j x) L V) lv st := by
  show Option.map _ (Option.map _ (eIx i 5)) = _
  cases eIx i 5 <;> rfl
theorem N_144 {sx : eSx} (pc : Nat) (lv st : List Value) (t : Nat × Nat × Bool) (I : Nat → Nat → Int32) (L : Nat → Nat → Int64) (V : Nat → Option Nat) : eDen (sx := sx) (p_alen pc) (lv, .ref 144 :: st, mM t I L V) = some (none, (lv, .int (nI 5) :: st, mM t I L V)) := id rfl
theorem A_145 {sx : eSx} (pc : Nat) (lv st : List Value) (t : Nat × Nat × Bool) (I : Nat → Nat → Int32) (L : Nat → Nat → Int64) (V : Nat → Option Nat) (i : Int32) : eDen (sx := sx) (p_iald pc) (lv, .int i :: .ref 145 :: st, mM t I L V) = vLd (eIx i 5) (fun j => .int (I 145 j)) lv st (mM t I L V) := by
  show Option.map _ (Option.map _ (eIx i 5)) = _
  cases eIx i 5 <;> rfl
theorem S_145 {sx : eSx} (pc : Nat) (lv st : List Value) (t : Nat × Nat × Bool) (I : Nat → Nat → Int32) (L : Nat → Nat → Int64) (V : Nat → Option Nat) (i : Int32) (x : Int32) : eDen (sx := sx) (p_iast pc) (lv, .int x :: .int i :: .ref 145 :: st, mM t I L V) = vSt (eIx i 5) (fun j => mM t (si I 145 j x) L V) lv st := by
  show Option.map _ (Option.map _ (eIx i 5)) = _
  cases eIx i 5 <;> rfl
theorem N_145 {sx : eSx} (pc : Nat) (lv st : List Value) (t : Nat × Nat × Bool) (I : Nat → Nat → Int32) (L : Nat → Nat → Int64) (V : Nat → Option Nat) : eDen (sx := sx) (p_alen pc) (lv, .ref 145 :: st, mM t I L V) = some (none, (lv, .int (nI 5) :: st, mM t I L V)) := id rfl
theorem G_146_0 {sx : eSx} (pc idx : Nat) (h : eFld sx.1 idx 9 0) (lv st : List Value) (t : Nat × Nat × Bool) (I : Nat → Nat → Int32) (L : Nat → Nat → Int64) (V : Nat → Option Nat) : eDen (sx := sx) (p_get pc idx 9 0 h) (lv, .ref 146 :: st, mM t I L V) = some (none, (lv, .int (I 146 0) :: st, mM t I L V)) := id rfl
theorem P_146_0 {sx : eSx} (pc idx : Nat) (h : eFld sx.1 idx 9 0) (h2 : ((eClT 9 0).2.2.2 = false ∨ ((eClT 9 0).2.2.2 = true ∧ sx.2.1 = true ∧ (eClT 9 0).1 = sx.1))) (lv st : List Value) (t : Nat × Nat × Bool) (I : Nat → Nat → Int32) (L : Nat → Nat → Int64) (V : Nat → Option Nat) (x : Int32) : eDen (sx := sx) (p_put pc idx 9 0 h h2) (lv, .int x :: .ref 146 :: st, mM t I L V) = some (none, (lv, st, mM t (si I 146 0 x) L V)) := id rfl
theorem G_146_1 {sx : eSx} (pc idx : Nat) (h : eFld sx.1 idx 9 1) (lv st : List Value) (t : Nat × Nat × Bool) (I : Nat → Nat → Int32) (L : Nat → Nat → Int64) (V : Nat → Option Nat) : eDen (sx := sx) (p_get pc idx 9 1 h) (lv, .ref 146 :: st, mM t I L V) = some (none, (lv, .int (I 146 1) :: st, mM t I L V)) := id rfl
theorem P_146_1 {sx : eSx} (pc idx : Nat) (h : eFld sx.1 idx 9 1) (h2 : ((eClT 9 1).2.2.2 = false ∨ ((eClT 9 1).2.2.2 = true ∧ sx.2.1 = true ∧ (eClT 9 1).1 = sx.1))) (lv st : List Value) (t : Nat × Nat × Bool) (I : Nat → Nat → Int32) (L : Nat → Nat → Int64) (V : Nat → Option Nat) (x : Int32) : eDen (sx := sx) (p_put pc idx 9 1 h h2) (lv, .int x :: .ref 146 :: st, mM t I L V) = some (none, (lv, st, mM t (si I 146 1 x) L V)) := id rfl
theorem G_146_2 {sx : eSx} (pc idx : Nat) (h : eFld sx.1 idx 9 2) (lv st : List Value) (t : Nat × Nat × Bool) (I : Nat → Nat → Int32) (L : Nat → Nat → Int64) (V : Nat → Option Nat) : eDen (sx := sx) (p_get pc idx 9 2 h) (lv, .ref 146 :: st, mM t I L V) = some (none, (lv, .ref 147 :: st, mM t I L V)) := id rfl
theorem R_146 (l : List Value) (t : Nat × Nat × Bool) (I : Nat → Nat → Int32) (L : Nat → Nat → Int64) (V : Nat → Option Nat) : eRcv 9 (.ref 146 :: l) (mM t I L V) = true := id rfl
theorem A_147 {sx : eSx} (pc : Nat) (lv st : List Value) (t : Nat × Nat × Bool) (I : Nat → Nat → Int32) (L : Nat → Nat → Int64) (V : Nat → Option Nat) (i : Int32) : eDen (sx := sx) (p_iald pc) (lv, .int i :: .ref 147 :: st, mM t I L V) = vLd (eIx i 200) (fun j => .int (I 147 j)) lv st (mM t I L V) := by
  show Option.map _ (Option.map _ (eIx i 200)) = _
  cases eIx i 200 <;> rfl
theorem S_147 {sx : eSx} (pc : Nat) (lv st : List Value) (t : Nat × Nat × Bool) (I : Nat → Nat → Int32) (L : Nat → Nat → Int64) (V : Nat → Option Nat) (i : Int32) (x : Int32) : eDen (sx := sx) (p_iast pc) (lv, .int x :: .int i :: .ref 147 :: st, mM t I L V) = vSt (eIx i 200) (fun j => mM t (si I 147 j x) L V) lv st := by
  show Option.map _ (Option.map _ (eIx i 200)) = _
  cases eIx i 200 <;> rfl
theorem N_147 {sx : eSx} (pc : Nat) (lv st : List Value) (t : Nat × Nat × Bool) (I : Nat → Nat → Int32) (L : Nat → Nat → Int64) (V : Nat → Option Nat) : eDen (sx := sx) (p_alen pc) (lv, .ref 147 :: st, mM t I L V) = some (none, (lv, .int (nI 200) :: st, mM t I L V)) := id rfl
theorem G_148_0 {sx : eSx} (pc idx : Nat) (h : eFld sx.1 idx 0 0) (lv st : List Value) (t : Nat × Nat × Bool) (I : Nat → Nat → Int32) (L : Nat → Nat → Int64) (V : Nat → Option Nat) : eDen (sx := sx) (p_get pc idx 0 0 h) (lv, .ref 148 :: st, mM t I L V) = some (none, (lv, .long (L 148 0) :: st, mM t I L V)) := id rfl
theorem P_148_0 {sx : eSx} (pc idx : Nat) (h : eFld sx.1 idx 0 0) (h2 : ((eClT 0 0).2.2.2 = false ∨ ((eClT 0 0).2.2.2 = true ∧ sx.2.1 = true ∧ (eClT 0 0).1 = sx.1))) (lv st : List Value) (t : Nat × Nat × Bool) (I : Nat → Nat → Int32) (L : Nat → Nat → Int64) (V : Nat → Option Nat) (x : Int64) : eDen (sx := sx) (p_put pc idx 0 0 h h2) (lv, .long x :: .ref 148 :: st, mM t I L V) = some (none, (lv, st, mM t I (sl L 148 0 x) V)) := id rfl
theorem G_148_1 {sx : eSx} (pc idx : Nat) (h : eFld sx.1 idx 0 1) (lv st : List Value) (t : Nat × Nat × Bool) (I : Nat → Nat → Int32) (L : Nat → Nat → Int64) (V : Nat → Option Nat) : eDen (sx := sx) (p_get pc idx 0 1 h) (lv, .ref 148 :: st, mM t I L V) = some (none, (lv, .long (L 148 1) :: st, mM t I L V)) := id rfl
theorem P_148_1 {sx : eSx} (pc idx : Nat) (h : eFld sx.1 idx 0 1) (h2 : ((eClT 0 1).2.2.2 = false ∨ ((eClT 0 1).2.2.2 = true ∧ sx.2.1 = true ∧ (eClT 0 1).1 = sx.1))) (lv st : List Value) (t : Nat × Nat × Bool) (I : Nat → Nat → Int32) (L : Nat → Nat → Int64) (V : Nat → Option Nat) (x : Int64) : eDen (sx := sx) (p_put pc idx 0 1 h h2) (lv, .long x :: .ref 148 :: st, mM t I L V) = some (none, (lv, st, mM t I (sl L 148 1 x) V)) := id rfl
theorem R_148 (l : List Value) (t : Nat × Nat × Bool) (I : Nat → Nat → Int32) (L : Nat → Nat → Int64) (V : Nat → Option Nat) : eRcv 0 (.ref 148 :: l) (mM t I L V) = true := id rfl
theorem G_149_0 {sx : eSx} (pc idx : Nat) (h : eFld sx.1 idx 0 0) (lv st : List Value) (t : Nat × Nat × Bool) (I : Nat → Nat → Int32) (L : Nat → Nat → Int64) (V : Nat → Option Nat) : eDen (sx := sx) (p_get pc idx 0 0 h) (lv, .ref 149 :: st, mM t I L V) = some (none, (lv, .long (L 149 0) :: st, mM t I L V)) := id rfl
theorem P_149_0 {sx : eSx} (pc idx : Nat) (h : eFld sx.1 idx 0 0) (h2 : ((eClT 0 0).2.2.2 = false ∨ ((eClT 0 0).2.2.2 = true ∧ sx.2.1 = true ∧ (eClT 0 0).1 = sx.1))) (lv st : List Value) (t : Nat × Nat × Bool) (I : Nat → Nat → Int32) (L : Nat → Nat → Int64) (V : Nat → Option Nat) (x : Int64) : eDen (sx := sx) (p_put pc idx 0 0 h h2) (lv, .long x :: .ref 149 :: st, mM t I L V) = some (none, (lv, st, mM t I (sl L 149 0 x) V)) := id rfl
theorem G_149_1 {sx : eSx} (pc idx : Nat) (h : eFld sx.1 idx 0 1) (lv st : List Value) (t : Nat × Nat × Bool) (I : Nat → Nat → Int32) (L : Nat → Nat → Int64) (V : Nat → Option Nat) : eDen (sx := sx) (p_get pc idx 0 1 h) (lv, .ref 149 :: st, mM t I L V) = some (none, (lv, .long (L 149 1) :: st, mM t I L V)) := id rfl
theorem P_149_1 {sx : eSx} (pc idx : Nat) (h : eFld sx.1 idx 0 1) (h2 : ((eClT 0 1).2.2.2 = false ∨ ((eClT 0 1).2.2.2 = true ∧ sx.2.1 = true ∧ (eClT 0 1).1 = sx.1))) (lv st : List Value) (t : Nat × Nat × Bool) (I : Nat → Nat → Int32) (L : Nat → Nat → Int64) (V : Nat → Option Nat) (x : Int64) : eDen (sx := sx) (p_put pc idx 0 1 h h2) (lv, .long x :: .ref 149 :: st, mM t I L V) = some (none, (lv, st, mM t I (sl L 149 1 x) V)) := id rfl
theorem R_149 (l : List Value) (t : Nat × Nat × Bool) (I : Nat → Nat → Int32) (L : Nat → Nat → Int64) (V : Nat → Option Nat) : eRcv 0 (.ref 149 :: l) (mM t I L V) = true := id rfl
theorem A_150 {sx : eSx} (pc : Nat) (lv st : List Value) (t : Nat × Nat × Bool) (I : Nat → Nat → Int32) (L : Nat → Nat → Int64) (V : Nat → Option Nat) (i : Int32) : eDen (sx := sx) (p_lald pc) (lv, .int i :: .ref 150 :: st, mM t I L V) = vLd (eIx i 7) (fun j => .long (L 150 j)) lv st (mM t I L V) := by
  show Option.map _ (Option.map _ (eIx i 7)) = _
  cases eIx i 7 <;> rfl
theorem S_150 {sx : eSx} (pc : Nat) (lv st : List Value) (t : Nat × Nat × Bool) (I : Nat → Nat → Int32) (L : Nat → Nat → Int64) (V : Nat → Option Nat) (i : Int32) (x : Int64) : eDen (sx := sx) (p_last pc) (lv, .long x :: .int i :: .ref 150 :: st, mM t I L V) = vSt (eIx i 7) (fun j => mM t I (sl L 150 j x) V) lv st := by
  show Option.map _ (Option.map _ (eIx i 7)) = _
  cases eIx i 7 <;> rfl
theorem N_150 {sx : eSx} (pc : Nat) (lv st : List Value) (t : Nat × Nat × Bool) (I : Nat → Nat → Int32) (L : Nat → Nat → Int64) (V : Nat → Option Nat) : eDen (sx := sx) (p_alen pc) (lv, .ref 150 :: st, mM t I L V) = some (none, (lv, .int (nI 7) :: st, mM t I L V)) := id rfl
theorem G_151_0 {sx : eSx} (pc idx : Nat) (h : eFld sx.1 idx 6 0) (lv st : List Value) (t : Nat × Nat × Bool) (I : Nat → Nat → Int32) (L : Nat → Nat → Int64) (V : Nat → Option Nat) : eDen (sx := sx) (p_get pc idx 6 0 h) (lv, .ref 151 :: st, mM t I L V) = some (none, (lv, .ref 152 :: st, mM t I L V)) := id rfl
theorem G_151_1 {sx : eSx} (pc idx : Nat) (h : eFld sx.1 idx 6 1) (lv st : List Value) (t : Nat × Nat × Bool) (I : Nat → Nat → Int32) (L : Nat → Nat → Int64) (V : Nat → Option Nat) : eDen (sx := sx) (p_get pc idx 6 1 h) (lv, .ref 151 :: st, mM t I L V) = some (none, (lv, .ref 154 :: st, mM t I L V)) := id rfl
theorem G_151_2 {sx : eSx} (pc idx : Nat) (h : eFld sx.1 idx 6 2) (lv st : List Value) (t : Nat × Nat × Bool) (I : Nat → Nat → Int32) (L : Nat → Nat → Int64) (V : Nat → Option Nat) : eDen (sx := sx) (p_get pc idx 6 2 h) (lv, .ref 151 :: st, mM t I L V) = some (none, (lv, .ref 156 :: st, mM t I L V)) := id rfl
theorem G_151_3 {sx : eSx} (pc idx : Nat) (h : eFld sx.1 idx 6 3) (lv st : List Value) (t : Nat × Nat × Bool) (I : Nat → Nat → Int32) (L : Nat → Nat → Int64) (V : Nat → Option Nat) : eDen (sx := sx) (p_get pc idx 6 3 h) (lv, .ref 151 :: st, mM t I L V) = some (none, (lv, .ref 160 :: st, mM t I L V)) := id rfl
theorem G_151_4 {sx : eSx} (pc idx : Nat) (h : eFld sx.1 idx 6 4) (lv st : List Value) (t : Nat × Nat × Bool) (I : Nat → Nat → Int32) (L : Nat → Nat → Int64) (V : Nat → Option Nat) : eDen (sx := sx) (p_get pc idx 6 4 h) (lv, .ref 151 :: st, mM t I L V) = some (none, (lv, .ref 165 :: st, mM t I L V)) := id rfl
theorem G_151_5 {sx : eSx} (pc idx : Nat) (h : eFld sx.1 idx 6 5) (lv st : List Value) (t : Nat × Nat × Bool) (I : Nat → Nat → Int32) (L : Nat → Nat → Int64) (V : Nat → Option Nat) : eDen (sx := sx) (p_get pc idx 6 5 h) (lv, .ref 151 :: st, mM t I L V) = some (none, (lv, .int (I 151 5) :: st, mM t I L V)) := id rfl
theorem P_151_5 {sx : eSx} (pc idx : Nat) (h : eFld sx.1 idx 6 5) (h2 : ((eClT 6 5).2.2.2 = false ∨ ((eClT 6 5).2.2.2 = true ∧ sx.2.1 = true ∧ (eClT 6 5).1 = sx.1))) (lv st : List Value) (t : Nat × Nat × Bool) (I : Nat → Nat → Int32) (L : Nat → Nat → Int64) (V : Nat → Option Nat) (x : Int32) : eDen (sx := sx) (p_put pc idx 6 5 h h2) (lv, .int x :: .ref 151 :: st, mM t I L V) = some (none, (lv, st, mM t (si I 151 5 x) L V)) := id rfl
theorem G_151_6 {sx : eSx} (pc idx : Nat) (h : eFld sx.1 idx 6 6) (lv st : List Value) (t : Nat × Nat × Bool) (I : Nat → Nat → Int32) (L : Nat → Nat → Int64) (V : Nat → Option Nat) : eDen (sx := sx) (p_get pc idx 6 6 h) (lv, .ref 151 :: st, mM t I L V) = some (none, (lv, .ref 167 :: st, mM t I L V)) := id rfl
theorem G_151_7 {sx : eSx} (pc idx : Nat) (h : eFld sx.1 idx 6 7) (lv st : List Value) (t : Nat × Nat × Bool) (I : Nat → Nat → Int32) (L : Nat → Nat → Int64) (V : Nat → Option Nat) : eDen (sx := sx) (p_get pc idx 6 7 h) (lv, .ref 151 :: st, mM t I L V) = some (none, (lv, .ref 168 :: st, mM t I L V)) := id rfl
theorem G_151_8 {sx : eSx} (pc idx : Nat) (h : eFld sx.1 idx 6 8) (lv st : List Value) (t : Nat × Nat × Bool) (I : Nat → Nat → Int32) (L : Nat → Nat → Int64) (V : Nat → Option Nat) : eDen (sx := sx) (p_get pc idx 6 8 h) (lv, .ref 151 :: st, mM t I L V) = some (none, (lv, .ref 169 :: st, mM t I L V)) := id rfl
theorem G_151_9 {sx : eSx} (pc idx : Nat) (h : eFld sx.1 idx 6 9) (lv st : List Value) (t : Nat × Nat × Bool) (I : Nat → Nat → Int32) (L : Nat → Nat → Int64) (V : Nat → Option Nat) : eDen (sx := sx) (p_get pc idx 6 9 h) (lv, .ref 151 :: st, mM t I L V) = some (none, (lv, .int (I 151 9) :: st, mM t I L V)) := id rfl
theorem P_151_9 {sx : eSx} (pc idx : Nat) (h : eFld sx.1 idx 6 9) (h2 : ((eClT 6 9).2.2.2 = false ∨ ((eClT 6 9).2.2.2 = true ∧ sx.2.1 = true ∧ (eClT 6 9).1 = sx.1))) (lv st : List Value) (t : Nat × Nat × Bool) (I : Nat → Nat → Int32) (L : Nat → Nat → Int64) (V : Nat → Option Nat) (x : Int32) : eDen (sx := sx) (p_put pc idx 6 9 h h2) (lv, .int x :: .ref 151 :: st, mM t I L V) = some (none, (lv, st, mM t (si I 151 9 x) L V)) := id rfl
theorem G_151_10 {sx : eSx} (pc idx : Nat) (h : eFld sx.1 idx 6 10) (lv st : List Value) (t : Nat × Nat × Bool) (I : Nat → Nat → Int32) (L : Nat → Nat → Int64) (V : Nat → Option Nat) : eDen (sx := sx) (p_get pc idx 6 10 h) (lv, .ref 151 :: st, mM t I L V) = some (none, (lv, .int (I 151 10) :: st, mM t I L V)) := id rfl
theorem P_151_10 {sx : eSx} (pc idx : Nat) (h : eFld sx.1 idx 6 10) (h2 : ((eClT 6 10).2.2.2 = false ∨ ((eClT 6 10).2.2.2 = true ∧ sx.2.1 = true ∧ (eClT 6 10).1 = sx.1))) (lv st : List Value) (t : Nat × Nat × Bool) (I : Nat → Nat → Int32) (L : Nat → Nat → Int64) (V : Nat → Option Nat) (x : Int32) : eDen (sx := sx) (p_put pc idx 6 10 h h2) (lv, .int x :: .ref 151 :: st, mM t I L V) = some (none, (lv, st, mM t (si I 151 10 x) L V)) := id rfl
theorem R_151 (l : List Value) (t : Nat × Nat × Bool) (I : Nat → Nat → Int32) (L : Nat → Nat → Int64) (V : Nat → Option Nat) : eRcv 6 (.ref 151 :: l) (mM t I L V) = true := id rfl
theorem G_152_0 {sx : eSx} (pc idx : Nat) (h : eFld sx.1 idx 4 0) (lv st : List Value) (t : Nat × Nat × Bool) (I : Nat → Nat → Int32) (L : Nat → Nat → Int64) (V : Nat → Option Nat) : eDen (sx := sx) (p_get pc idx 4 0 h) (lv, .ref 152 :: st, mM t I L V) = some (none, (lv, .int (I 152 0) :: st, mM t I L V)) := id rfl
theorem P_152_0 {sx : eSx} (pc idx : Nat) (h : eFld sx.1 idx 4 0) (h2 : ((eClT 4 0).2.2.2 = false ∨ ((eClT 4 0).2.2.2 = true ∧ sx.2.1 = true ∧ (eClT 4 0).1 = sx.1))) (lv st : List Value) (t : Nat × Nat × Bool) (I : Nat → Nat → Int32) (L : Nat → Nat → Int64) (V : Nat → Option Nat) (x : Int32) : eDen (sx := sx) (p_put pc idx 4 0 h h2) (lv, .int x :: .ref 152 :: st, mM t I L V) = some (none, (lv, st, mM t (si I 152 0 x) L V)) := id rfl
theorem G_152_1 {sx : eSx} (pc idx : Nat) (h : eFld sx.1 idx 4 1) (lv st : List Value) (t : Nat × Nat × Bool) (I : Nat → Nat → Int32) (L : Nat → Nat → Int64) (V : Nat → Option Nat) : eDen (sx := sx) (p_get pc idx 4 1 h) (lv, .ref 152 :: st, mM t I L V) = some (none, (lv, .ref 153 :: st, mM t I L V)) := id rfl
theorem R_152 (l : List Value) (t : Nat × Nat × Bool) (I : Nat → Nat → Int32) (L : Nat → Nat → Int64) (V : Nat → Option Nat) : eRcv 4 (.ref 152 :: l) (mM t I L V) = true := id rfl
theorem A_153 {sx : eSx} (pc : Nat) (lv st : List Value) (t : Nat × Nat × Bool) (I : Nat → Nat → Int32) (L : Nat → Nat → Int64) (V : Nat → Option Nat) (i : Int32) : eDen (sx := sx) (p_iald pc) (lv, .int i :: .ref 153 :: st, mM t I L V) = vLd (eIx i 7) (fun j => .int (I 153 j)) lv st (mM t I L V) := by
  show Option.map _ (Option.map _ (eIx i 7)) = _
  cases eIx i 7 <;> rfl
theorem S_153 {sx : eSx} (pc : Nat) (lv st : List Value) (t : Nat × Nat × Bool) (I : Nat → Nat → Int32) (L : Nat → Nat → Int64) (V : Nat → Option Nat) (i : Int32) (x : Int32) : eDen (sx := sx) (p_iast pc) (lv, .int x :: .int i :: .ref 153 :: st, mM t I L V) = vSt (eIx i 7) (fun j => mM t (si I 153 j x) L V) lv st := by
  show Option.map _ (Option.map _ (eIx i 7)) = _
  cases eIx i 7 <;> rfl
theorem N_153 {sx : eSx} (pc : Nat) (lv st : List Value) (t : Nat × Nat × Bool) (I : Nat → Nat → Int32) (L : Nat → Nat → Int64) (V : Nat → Option Nat) : eDen (sx := sx) (p_alen pc) (lv, .ref 153 :: st, mM t I L V) = some (none, (lv, .int (nI 7) :: st, mM t I L V)) := id rfl
theorem G_154_0 {sx : eSx} (pc idx : Nat) (h : eFld sx.1 idx 4 0) (lv st : List Value) (t : Nat × Nat × Bool) (I : Nat → Nat → Int32) (L : Nat → Nat → Int64) (V : Nat → Option Nat) : eDen (sx := sx) (p_get pc idx 4 0 h) (lv, .ref 154 :: st, mM t I L V) = some (none, (lv, .int (I 154 0) :: st, mM t I L V)) := id rfl
theorem P_154_0 {sx : eSx} (pc idx : Nat) (h : eFld sx.1 idx 4 0) (h2 : ((eClT 4 0).2.2.2 = false ∨ ((eClT 4 0).2.2.2 = true ∧ sx.2.1 = true ∧ (eClT 4 0).1 = sx.1))) (lv st : List Value) (t : Nat × Nat × Bool) (I : Nat → Nat → Int32) (L : Nat → Nat → Int64) (V : Nat → Option Nat) (x : Int32) : eDen (sx := sx) (p_put pc idx 4 0 h h2) (lv, .int x :: .ref 154 :: st, mM t I L V) = some (none, (lv, st, mM t (si I 154 0 x) L V)) := id rfl
theorem G_154_1 {sx : eSx} (pc idx : Nat) (h : eFld sx.1 idx 4 1) (lv st : List Value) (t : Nat × Nat × Bool) (I : Nat → Nat → Int32) (L : Nat → Nat → Int64) (V : Nat → Option Nat) : eDen (sx := sx) (p_get pc idx 4 1 h) (lv, .ref 154 :: st, mM t I L V) = some (none, (lv, .ref 155 :: st, mM t I L V)) := id rfl
theorem R_154 (l : List Value) (t : Nat × Nat × Bool) (I : Nat → Nat → Int32) (L : Nat → Nat → Int64) (V : Nat → Option Nat) : eRcv 4 (.ref 154 :: l) (mM t I L V) = true := id rfl
theorem A_155 {sx : eSx} (pc : Nat) (lv st : List Value) (t : Nat × Nat × Bool) (I : Nat → Nat → Int32) (L : Nat → Nat → Int64) (V : Nat → Option Nat) (i : Int32) : eDen (sx := sx) (p_iald pc) (lv, .int i :: .ref 155 :: st, mM t I L V) = vLd (eIx i 7) (fun j => .int (I 155 j)) lv st (mM t I L V) := by
  show Option.map _ (Option.map _ (eIx i 7)) = _
  cases eIx i 7 <;> rfl
theorem S_155 {sx : eSx} (pc : Nat) (lv st : List Value) (t : Nat × Nat × Bool) (I : Nat → Nat → Int32) (L : Nat → Nat → Int64) (V : Nat → Option Nat) (i : Int32) (x : Int32) : eDen (sx := sx) (p_iast pc) (lv, .int x :: .int i :: .ref 155 :: st, mM t I L V) = vSt (eIx i 7) (fun j => mM t (si I 155 j x) L V) lv st := by
  show Option.map _ (Option.map _ (eIx i 7)) = _
  cases eIx i 7 <;> rfl
theorem N_155 {sx : eSx} (pc : Nat) (lv st : List Value) (t : Nat × Nat × Bool) (I : Nat → Nat → Int32) (L : Nat → Nat → Int64) (V : Nat → Option Nat) : eDen (sx := sx) (p_alen pc) (lv, .ref 155 :: st, mM t I L V) = some (none, (lv, .int (nI 7) :: st, mM t I L V)) := id rfl
theorem G_156_0 {sx : eSx} (pc idx : Nat) (h : eFld sx.1 idx 3 0) (lv st : List Value) (t : Nat × Nat × Bool) (I : Nat → Nat → Int32) (L : Nat → Nat → Int64) (V : Nat → Option Nat) : eDen (sx := sx) (p_get pc idx 3 0 h) (lv, .ref 156 :: st, mM t I L V) = some (none, (lv, .int (I 156 0) :: st, mM t I L V)) := id rfl
theorem P_156_0 {sx : eSx} (pc idx : Nat) (h : eFld sx.1 idx 3 0) (h2 : ((eClT 3 0).2.2.2 = false ∨ ((eClT 3 0).2.2.2 = true ∧ sx.2.1 = true ∧ (eClT 3 0).1 = sx.1))) (lv st : List Value) (t : Nat × Nat × Bool) (I : Nat → Nat → Int32) (L : Nat → Nat → Int64) (V : Nat → Option Nat) (x : Int32) : eDen (sx := sx) (p_put pc idx 3 0 h h2) (lv, .int x :: .ref 156 :: st, mM t I L V) = some (none, (lv, st, mM t (si I 156 0 x) L V)) := id rfl
theorem G_156_1 {sx : eSx} (pc idx : Nat) (h : eFld sx.1 idx 3 1) (lv st : List Value) (t : Nat × Nat × Bool) (I : Nat → Nat → Int32) (L : Nat → Nat → Int64) (V : Nat → Option Nat) : eDen (sx := sx) (p_get pc idx 3 1 h) (lv, .ref 156 :: st, mM t I L V) = some (none, (lv, .ref 157 :: st, mM t I L V)) := id rfl
theorem G_156_2 {sx : eSx} (pc idx : Nat) (h : eFld sx.1 idx 3 2) (lv st : List Value) (t : Nat × Nat × Bool) (I : Nat → Nat → Int32) (L : Nat → Nat → Int64) (V : Nat → Option Nat) : eDen (sx := sx) (p_get pc idx 3 2 h) (lv, .ref 156 :: st, mM t I L V) = some (none, (lv, .ref 158 :: st, mM t I L V)) := id rfl
theorem G_156_3 {sx : eSx} (pc idx : Nat) (h : eFld sx.1 idx 3 3) (lv st : List Value) (t : Nat × Nat × Bool) (I : Nat → Nat → Int32) (L : Nat → Nat → Int64) (V : Nat → Option Nat) : eDen (sx := sx) (p_get pc idx 3 3 h) (lv, .ref 156 :: st, mM t I L V) = some (none, (lv, .ref 159 :: st, mM t I L V)) := id rfl
theorem R_156 (l : List Value) (t : Nat × Nat × Bool) (I : Nat → Nat → Int32) (L : Nat → Nat → Int64) (V : Nat → Option Nat) : eRcv 3 (.ref 156 :: l) (mM t I L V) = true := id rfl
theorem A_157 {sx : eSx} (pc : Nat) (lv st : List Value) (t : Nat × Nat × Bool) (I : Nat → Nat → Int32) (L : Nat → Nat → Int64) (V : Nat → Option Nat) (i : Int32) : eDen (sx := sx) (p_iald pc) (lv, .int i :: .ref 157 :: st, mM t I L V) = vLd (eIx i 6) (fun j => .int (I 157 j)) lv st (mM t I L V) := by
  show Option.map _ (Option.map _ (eIx i 6)) = _
  cases eIx i 6 <;> rfl
theorem S_157 {sx : eSx} (pc : Nat) (lv st : List Value) (t : Nat × Nat × Bool) (I : Nat → Nat → Int32) (L : Nat → Nat → Int64) (V : Nat → Option Nat) (i : Int32) (x : Int32) : eDen (sx := sx) (p_iast pc) (lv, .int x :: .int i :: .ref 157 :: st, mM t I L V) = vSt (eIx i 6) (fun j => mM t (si I 157 j x) L V) lv st := by
  show Option.map _ (Option.map _ (eIx i 6)) = _
  cases eIx i 6 <;> rfl
theorem N_157 {sx : eSx} (pc : Nat) (lv st : List Value) (t : Nat × Nat × Bool) (I : Nat → Nat → Int32) (L : Nat → Nat → Int64) (V : Nat → Option Nat) : eDen (sx := sx) (p_alen pc) (lv, .ref 157 :: st, mM t I L V) = some (none, (lv, .int (nI 6) :: st, mM t I L V)) := id rfl
theorem A_158 {sx : eSx} (pc : Nat) (lv st : List Value) (t : Nat × Nat × Bool) (I : Nat → Nat → Int32) (L : Nat → Nat → Int64) (V : Nat → Option Nat) (i : Int32) : eDen (sx := sx) (p_iald pc) (lv, .int i :: .ref 158 :: st, mM t I L V) = vLd (eIx i 6) (fun j => .int (I 158 j)) lv st (mM t I L V) := by
  show Option.map _ (Option.map _ (eIx i 6)) = _
  cases eIx i 6 <;> rfl
theorem S_158 {sx : eSx} (pc : Nat) (lv st : List Value) (t : Nat × Nat × Bool) (I : Nat → Nat → Int32) (L : Nat → Nat → Int64) (V : Nat → Option Nat) (i : Int32) (x : Int32) : eDen (sx := sx) (p_iast pc) (lv, .int x :: .int i :: .ref 158 :: st, mM t I L V) = vSt (eIx i 6) (fun j => mM t (si I 158 j x) L V) lv st := by
  show Option.map _ (Option.map _ (eIx i 6)) = _
  cases eIx i 6 <;> rfl
theorem N_158 {sx : eSx} (pc : Nat) (lv st : List Value) (t : Nat × Nat × Bool) (I : Nat → Nat → Int32) (L : Nat → Nat → Int64) (V : Nat → Option Nat) : eDen (sx := sx) (p_alen pc) (lv, .ref 158 :: st, mM t I L V) = some (none, (lv, .int (nI 6) :: st, mM t I L V)) := id rfl
theorem A_159 {sx : eSx} (pc : Nat) (lv st : List Value) (t : Nat × Nat × Bool) (I : Nat → Nat → Int32) (L : Nat → Nat → Int64) (V : Nat → Option Nat) (i : Int32) : eDen (sx := sx) (p_iald pc) (lv, .int i :: .ref 159 :: st, mM t I L V) = vLd (eIx i 6) (fun j => .int (I 159 j)) lv st (mM t I L V) := by
  show Option.map _ (Option.map _ (eIx i 6)) = _
  cases eIx i 6 <;> rfl
theorem S_159 {sx : eSx} (pc : Nat) (lv st : List Value) (t : Nat × Nat × Bool) (I : Nat → Nat → Int32) (L : Nat → Nat → Int64) (V : Nat → Option Nat) (i : Int32) (x : Int32) : eDen (sx := sx) (p_iast pc) (lv, .int x :: .int i :: .ref 159 :: st, mM t I L V) = vSt (eIx i 6) (fun j => mM t (si I 159 j x) L V) lv st := by
  show Option.map _ (Option.map _ (eIx i 6)) = _
  cases eIx i 6 <;> rfl
theorem N_159 {sx : eSx} (pc : Nat) (lv st : List Value) (t : Nat × Nat × Bool) (I : Nat → Nat → Int32) (L : Nat → Nat → Int64) (V : Nat → Option Nat) : eDen (sx := sx) (p_alen pc) (lv, .ref 159 :: st, mM t I L V) = some (none, (lv, .int (nI 6) :: st, mM t I L V)) := id rfl
theorem G_160_0 {sx : eSx} (pc idx : Nat) (h : eFld sx.1 idx 1 0) (lv st : List Value) (t : Nat × Nat × Bool) (I : Nat → Nat → Int32) (L : Nat → Nat → Int64) (V : Nat → Option Nat) : eDen (sx := sx) (p_get pc idx 1 0 h) (lv, .ref 160 :: st, mM t I L V) = some (none, (lv, .int (I 160 0) :: st, mM t I L V)) := id rfl
theorem P_160_0 {sx : eSx} (pc idx : Nat) (h : eFld sx.1 idx 1 0) (h2 : ((eClT 1 0).2.2.2 = false ∨ ((eClT 1 0).2.2.2 = true ∧ sx.2.1 = true ∧ (eClT 1 0).1 = sx.1))) (lv st : List Value) (t : Nat × Nat × Bool) (I : Nat → Nat → Int32) (L : Nat → Nat → Int64) (V : Nat → Option Nat) (x : Int32) : eDen (sx := sx) (p_put pc idx 1 0 h h2) (lv, .int x :: .ref 160 :: st, mM t I L V) = some (none, (lv, st, mM t (si I 160 0 x) L V)) := id rfl
theorem G_160_1 {sx : eSx} (pc idx : Nat) (h : eFld sx.1 idx 1 1) (lv st : List Value) (t : Nat × Nat × Bool) (I : Nat → Nat → Int32) (L : Nat → Nat → Int64) (V : Nat → Option Nat) : eDen (sx := sx) (p_get pc idx 1 1 h) (lv, .ref 160 :: st, mM t I L V) = some (none, (lv, .ref 161 :: st, mM t I L V)) := id rfl
theorem G_160_2 {sx : eSx} (pc idx : Nat) (h : eFld sx.1 idx 1 2) (lv st : List Value) (t : Nat × Nat × Bool) (I : Nat → Nat → Int32) (L : Nat → Nat → Int64) (V : Nat → Option Nat) : eDen (sx := sx) (p_get pc idx 1 2 h) (lv, .ref 160 :: st, mM t I L V) = some (none, (lv, .ref 162 :: st, mM t I L V)) := id rfl
theorem G_160_3 {sx : eSx} (pc idx : Nat) (h : eFld sx.1 idx 1 3) (lv st : List Value) (t : Nat × Nat × Bool) (I : Nat → Nat → Int32) (L : Nat → Nat → Int64) (V : Nat → Option Nat) : eDen (sx := sx) (p_get pc idx 1 3 h) (lv, .ref 160 :: st, mM t I L V) = some (none, (lv, .ref 163 :: st, mM t I L V)) := id rfl
theorem G_160_4 {sx : eSx} (pc idx : Nat) (h : eFld sx.1 idx 1 4) (lv st : List Value) (t : Nat × Nat × Bool) (I : Nat → Nat → Int32) (L : Nat → Nat → Int64) (V : Nat → Option Nat) : eDen (sx := sx) (p_get pc idx 1 4 h) (lv, .ref 160 :: st, mM t I L V) = some (none, (lv, .ref 164 :: st, mM t I L V)) := id rfl
theorem R_160 (l : List Value) (t : Nat × Nat × Bool) (I : Nat → Nat → Int32) (L : Nat → Nat → Int64) (V : Nat → Option Nat) : eRcv 1 (.ref 160 :: l) (mM t I L V) = true := id rfl
theorem A_161 {sx : eSx} (pc : Nat) (lv st : List Value) (t : Nat × Nat × Bool) (I : Nat → Nat → Int32) (L : Nat → Nat → Int64) (V : Nat → Option Nat) (i : Int32) : eDen (sx := sx) (p_iald pc) (lv, .int i :: .ref 161 :: st, mM t I L V) = vLd (eIx i 5) (fun j => .int (I 161 j)) lv st (mM t I L V) := by
  show Option.map _ (Option.map _ (eIx i 5)) = _
  cases eIx i 5 <;> rfl
theorem S_161 {sx : eSx} (pc : Nat) (lv st : List Value) (t : Nat × Nat × Bool) (I : Nat → Nat → Int32) (L : Nat → Nat → Int64) (V : Nat → Option Nat) (i : Int32) (x : Int32) : eDen (sx := sx) (p_iast pc) (lv, .int x :: .int i :: .ref 161 :: st, mM t I L V) = vSt (eIx i 5) (fun j => mM t (si I 161 j x) L V) lv st := by
  show Option.map _ (Option.map _ (eIx i 5)) = _
  cases eIx i 5 <;> rfl
theorem N_161 {sx : eSx} (pc : Nat) (lv st : List Value) (t : Nat × Nat × Bool) (I : Nat → Nat → Int32) (L : Nat → Nat → Int64) (V : Nat → Option Nat) : eDen (sx := sx) (p_alen pc) (lv, .ref 161 :: st, mM t I L V) = some (none, (lv, .int (nI 5) :: st, mM t I L V)) := id rfl
theorem A_162 {sx : eSx} (pc : Nat) (lv st : List Value) (t : Nat × Nat × Bool) (I : Nat → Nat → Int32) (L : Nat → Nat → Int64) (V : Nat → Option Nat) (i : Int32) : eDen (sx := sx) (p_iald pc) (lv, .int i :: .ref 162 :: st, mM t I L V) = vLd (eIx i 5) (fun j => .int (I 162 j)) lv st (mM t I L V) := by
  show Option.map _ (Option.map _ (eIx i 5)) = _
  cases eIx i 5 <;> rfl
theorem S_162 {sx : eSx} (pc : Nat) (lv st : List Value) (t : Nat × Nat × Bool) (I : Nat → Nat → Int32) (L : Nat → Nat → Int64) (V : Nat → Option Nat) (i : Int32) (x : Int32) : eDen (sx := sx) (p_iast pc) (lv, .int x :: .int i :: .ref 162 :: st, mM t I L V) = vSt (eIx i 5) (fun j => mM t (si I 162 j x) L V) lv st := by
  show Option.map _ (Option.map _ (eIx i 5)) = _
  cases eIx i 5 <;> rfl
theorem N_162 {sx : eSx} (pc : Nat) (lv st : List Value) (t : Nat × Nat × Bool) (I : Nat → Nat → Int32) (L : Nat → Nat → Int64) (V : Nat → Option Nat) : eDen (sx := sx) (p_alen pc) (lv, .ref 162 :: st, mM t I L V) = some (none, (lv, .int (nI 5) :: st, mM t I L V)) := id rfl
theorem A_163 {sx : eSx} (pc : Nat) (lv st : List Value) (t : Nat × Nat × Bool) (I : Nat → Nat → Int32) (L : Nat → Nat → Int64) (V : Nat → Option Nat) (i : Int32) : eDen (sx := sx) (p_iald pc) (lv, .int i :: .ref 163 :: st, mM t I L V) = vLd (eIx i 5) (fun j => .int (I 163 j)) lv st (mM t I L V) := by
  show Option.map _ (Option.map _ (eIx i 5)) = _
  cases eIx i 5 <;> rfl
theorem S_163 {sx : eSx} (pc : Nat) (lv st : List Value) (t : Nat × Nat × Bool) (I : Nat → Nat → Int32) (L : Nat → Nat → Int64) (V : Nat → Option Nat) (i : Int32) (x : Int32) : eDen (sx := sx) (p_iast pc) (lv, .int x :: .int i :: .ref 163 :: st, mM t I L V) = vSt (eIx i 5) (fun j => mM t (si I 163 j x) L V) lv st := by
  show Option.map _ (Option.map _ (eIx i 5)) = _
  cases eIx i 5 <;> rfl
theorem N_163 {sx : eSx} (pc : Nat) (lv st : List Value) (t : Nat × Nat × Bool) (I : Nat → Nat → Int32) (L : Nat → Nat → Int64) (V : Nat → Option Nat) : eDen (sx := sx) (p_alen pc) (lv, .ref 163 :: st, mM t I L V) = some (none, (lv, .int (nI 5) :: st, mM t I L V)) := id rfl
theorem A_164 {sx : eSx} (pc : Nat) (lv st : List Value) (t : Nat × Nat × Bool) (I : Nat → Nat → Int32) (L : Nat → Nat → Int64) (V : Nat → Option Nat) (i : Int32) : eDen (sx := sx) (p_iald pc) (lv, .int i :: .ref 164 :: st, mM t I L V) = vLd (eIx i 5) (fun j => .int (I 164 j)) lv st (mM t I L V) := by
  show Option.map _ (Option.map _ (eIx i 5)) = _
  cases eIx i 5 <;> rfl
theorem S_164 {sx : eSx} (pc : Nat) (lv st : List Value) (t : Nat × Nat × Bool) (I : Nat → Nat → Int32) (L : Nat → Nat → Int64) (V : Nat → Option Nat) (i : Int32) (x : Int32) : eDen (sx := sx) (p_iast pc) (lv, .int x :: .int i :: .ref 164 :: st, mM t I L V) = vSt (eIx i 5) (fun j => mM t (si I 164 j x) L V) lv st := by
  show Option.map _ (Option.map _ (eIx i 5)) = _
  cases eIx i 5 <;> rfl
theorem N_164 {sx : eSx} (pc : Nat) (lv st : List Value) (t : Nat × Nat × Bool) (I : Nat → Nat → Int32) (L : Nat → Nat → Int64) (V : Nat → Option Nat) : eDen (sx := sx) (p_alen pc) (lv, .ref 164 :: st, mM t I L V) = some (none, (lv, .int (nI 5) :: st, mM t I L V)) := id rfl
theorem G_165_0 {sx : eSx} (pc idx : Nat) (h : eFld sx.1 idx 9 0) (lv st : List Value) (t : Nat × Nat × Bool) (I : Nat → Nat → Int32) (L : Nat → Nat → Int64) (V : Nat → Option Nat) : eDen (sx := sx) (p_get pc idx 9 0 h) (lv, .ref 165 :: st, mM t I L V) = some (none, (lv, .int (I 165 0) :: st, mM t I L V)) := id rfl
theorem P_165_0 {sx : eSx} (pc idx : Nat) (h : eFld sx.1 idx 9 0) (h2 : ((eClT 9 0).2.2.2 = false ∨ ((eClT 9 0).2.2.2 = true ∧ sx.2.1 = true ∧ (eClT 9 0).1 = sx.1))) (lv st : List Value) (t : Nat × Nat × Bool) (I : Nat → Nat → Int32) (L : Nat → Nat → Int64) (V : Nat → Option Nat) (x : Int32) : eDen (sx := sx) (p_put pc idx 9 0 h h2) (lv, .int x :: .ref 165 :: st, mM t I L V) = some (none, (lv, st, mM t (si I 165 0 x) L V)) := id rfl
theorem G_165_1 {sx : eSx} (pc idx : Nat) (h : eFld sx.1 idx 9 1) (lv st : List Value) (t : Nat × Nat × Bool) (I : Nat → Nat → Int32) (L : Nat → Nat → Int64) (V : Nat → Option Nat) : eDen (sx := sx) (p_get pc idx 9 1 h) (lv, .ref 165 :: st, mM t I L V) = some (none, (lv, .int (I 165 1) :: st, mM t I L V)) := id rfl
theorem P_165_1 {sx : eSx} (pc idx : Nat) (h : eFld sx.1 idx 9 1) (h2 : ((eClT 9 1).2.2.2 = false ∨ ((eClT 9 1).2.2.2 = true ∧ sx.2.1 = true ∧ (eClT 9 1).1 = sx.1))) (lv st : List Value) (t : Nat × Nat × Bool) (I : Nat → Nat → Int32) (L : Nat → Nat → Int64) (V : Nat → Option Nat) (x : Int32) : eDen (sx := sx) (p_put pc idx 9 1 h h2) (lv, .int x :: .ref 165 :: st, mM t I L V) = some (none, (lv, st, mM t (si I 165 1 x) L V)) := id rfl
theorem G_165_2 {sx : eSx} (pc idx : Nat) (h : eFld sx.1 idx 9 2) (lv st : List Value) (t : Nat × Nat × Bool) (I : Nat → Nat → Int32) (L : Nat → Nat → Int64) (V : Nat → Option Nat) : eDen (sx := sx) (p_get pc idx 9 2 h) (lv, .ref 165 :: st, mM t I L V) = some (none, (lv, .ref 166 :: st, mM t I L V)) := id rfl
theorem R_165 (l : List Value) (t : Nat × Nat × Bool) (I : Nat → Nat → Int32) (L : Nat → Nat → Int64) (V : Nat → Option Nat) : eRcv 9 (.ref 165 :: l) (mM t I L V) = true := id rfl
theorem A_166 {sx : eSx} (pc : Nat) (lv st : List Value) (t : Nat × Nat × Bool) (I : Nat → Nat → Int32) (L : Nat → Nat → Int64) (V : Nat → Option Nat) (i : Int32) : eDen (sx := sx) (p_iald pc) (lv, .int i :: .ref 166 :: st, mM t I L V) = vLd (eIx i 200) (fun j => .int (I 166 j)) lv st (mM t I L V) := by
  show Option.map _ (Option.map _ (eIx i 200)) = _
  cases eIx i 200 <;> rfl
theorem S_166 {sx : eSx} (pc : Nat) (lv st : List Value) (t : Nat × Nat × Bool) (I : Nat → Nat → Int32) (L : Nat → Nat → Int64) (V : Nat → Option Nat) (i : Int32) (x : Int32) : eDen (sx := sx) (p_iast pc) (lv, .int x :: .int i :: .ref 166 :: st, mM t I L V) = vSt (eIx i 200) (fun j => mM t (si I 166 j x) L V) lv st := by
  show Option.map _ (Option.map _ (eIx i 200)) = _
  cases eIx i 200 <;> rfl
theorem N_166 {sx : eSx} (pc : Nat) (lv st : List Value) (t : Nat × Nat × Bool) (I : Nat → Nat → Int32) (L : Nat → Nat → Int64) (V : Nat → Option Nat) : eDen (sx := sx) (p_alen pc) (lv, .ref 166 :: st, mM t I L V) = some (none, (lv, .int (nI 200) :: st, mM t I L V)) := id rfl
theorem G_167_0 {sx : eSx} (pc idx : Nat) (h : eFld sx.1 idx 0 0) (lv st : List Value) (t : Nat × Nat × Bool) (I : Nat → Nat → Int32) (L : Nat → Nat → Int64) (V : Nat → Option Nat) : eDen (sx := sx) (p_get pc idx 0 0 h) (lv, .ref 167 :: st, mM t I L V) = some (none, (lv, .long (L 167 0) :: st, mM t I L V)) := id rfl
theorem P_167_0 {sx : eSx} (pc idx : Nat) (h : eFld sx.1 idx 0 0) (h2 : ((eClT 0 0).2.2.2 = false ∨ ((eClT 0 0).2.2.2 = true ∧ sx.2.1 = true ∧ (eClT 0 0).1 = sx.1))) (lv st : List Value) (t : Nat × Nat × Bool) (I : Nat → Nat → Int32) (L : Nat → Nat → Int64) (V : Nat → Option Nat) (x : Int64) : eDen (sx := sx) (p_put pc idx 0 0 h h2) (lv, .long x :: .ref 167 :: st, mM t I L V) = some (none, (lv, st, mM t I (sl L 167 0 x) V)) := id rfl
theorem G_167_1 {sx : eSx} (pc idx : Nat) (h : eFld sx.1 idx 0 1) (lv st : List Value) (t : Nat × Nat × Bool) (I : Nat → Nat → Int32) (L : Nat → Nat → Int64) (V : Nat → Option Nat) : eDen (sx := sx) (p_get pc idx 0 1 h) (lv, .ref 167 :: st, mM t I L V) = some (none, (lv, .long (L 167 1) :: st, mM t I L V)) := id rfl
theorem P_167_1 {sx : eSx} (pc idx : Nat) (h : eFld sx.1 idx 0 1) (h2 : ((eClT 0 1).2.2.2 = false ∨ ((eClT 0 1).2.2.2 = true ∧ sx.2.1 = true ∧ (eClT 0 1).1 = sx.1))) (lv st : List Value) (t : Nat × Nat × Bool) (I : Nat → Nat → Int32) (L : Nat → Nat → Int64) (V : Nat → Option Nat) (x : Int64) : eDen (sx := sx) (p_put pc idx 0 1 h h2) (lv, .long x :: .ref 167 :: st, mM t I L V) = some (none, (lv, st, mM t I (sl L 167 1 x) V)) := id rfl
theorem R_167 (l : List Value) (t : Nat × Nat × Bool) (I : Nat → Nat → Int32) (L : Nat → Nat → Int64) (V : Nat → Option Nat) : eRcv 0 (.ref 167 :: l) (mM t I L V) = true := id rfl
theorem G_168_0 {sx : eSx} (pc idx : Nat) (h : eFld sx.1 idx 0 0) (lv st : List Value) (t : Nat × Nat × Bool) (I : Nat → Nat → Int32) (L : Nat → Nat → Int64) (V : Nat → Option Nat) : eDen (sx := sx) (p_get pc idx 0 0 h) (lv, .ref 168 :: st, mM t I L V) = some (none, (lv, .long (L 168 0) :: st, mM t I L V)) := id rfl
theorem P_168_0 {sx : eSx} (pc idx : Nat) (h : eFld sx.1 idx 0 0) (h2 : ((eClT 0 0).2.2.2 = false ∨ ((eClT 0 0).2.2.2 = true ∧ sx.2.1 = true ∧ (eClT 0 0).1 = sx.1))) (lv st : List Value) (t : Nat × Nat × Bool) (I : Nat → Nat → Int32) (L : Nat → Nat → Int64) (V : Nat → Option Nat) (x : Int64) : eDen (sx := sx) (p_put pc idx 0 0 h h2) (lv, .long x :: .ref 168 :: st, mM t I L V) = some (none, (lv, st, mM t I (sl L 168 0 x) V)) := id rfl
theorem G_168_1 {sx : eSx} (pc idx : Nat) (h : eFld sx.1 idx 0 1) (lv st : List Value) (t : Nat × Nat × Bool) (I : Nat → Nat → Int32) (L : Nat → Nat → Int64) (V : Nat → Option Nat) : eDen (sx := sx) (p_get pc idx 0 1 h) (lv, .ref 168 :: st, mM t I L V) = some (none, (lv, .long (L 168 1) :: st, mM t I L V)) := id rfl
theorem P_168_1 {sx : eSx} (pc idx : Nat) (h : eFld sx.1 idx 0 1) (h2 : ((eClT 0 1).2.2.2 = false ∨ ((eClT 0 1).2.2.2 = true ∧ sx.2.1 = true ∧ (eClT 0 1).1 = sx.1))) (lv st : List Value) (t : Nat × Nat × Bool) (I : Nat → Nat → Int32) (L : Nat → Nat → Int64) (V : Nat → Option Nat) (x : Int64) : eDen (sx := sx) (p_put pc idx 0 1 h h2) (lv, .long x :: .ref 168 :: st, mM t I L V) = some (none, (lv, st, mM t I (sl L 168 1 x) V)) := id rfl
theorem R_168 (l : List Value) (t : Nat × Nat × Bool) (I : Nat → Nat → Int32) (L : Nat → Nat → Int64) (V : Nat → Option Nat) : eRcv 0 (.ref 168 :: l) (mM t I L V) = true := id rfl
theorem A_169 {sx : eSx} (pc : Nat) (lv st : List Value) (t : Nat × Nat × Bool) (I : Nat → Nat → Int32) (L : Nat → Nat → Int64) (V : Nat → Option Nat) (i : Int32) : eDen (sx := sx) (p_lald pc) (lv, .int i :: .ref 169 :: st, mM t I L V) = vLd (eIx i 7) (fun j => .long (L 169 j)) lv st (mM t I L V) := by
  show Option.map _ (Option.map _ (eIx i 7)) = _
  cases eIx i 7 <;> rfl
theorem S_169 {sx : eSx} (pc : Nat) (lv st : List Value) (t : Nat × Nat × Bool) (I : Nat → Nat → Int32) (L : Nat → Nat → Int64) (V : Nat → Option Nat) (i : Int32) (x : Int64) : eDen (sx := sx) (p_last pc) (lv, .long x :: .int i :: .ref 169 :: st, mM t I L V) = vSt (eIx i 7) (fun j => mM t I (sl L 169 j x) V) lv st := by
  show Option.map _ (Option.map _ (eIx i 7)) = _
  cases eIx i 7 <;> rfl
theorem N_169 {sx : eSx} (pc : Nat) (lv st : List Value) (t : Nat × Nat × Bool) (I : Nat → Nat → Int32) (L : Nat → Nat → Int64) (V : Nat → Option Nat) : eDen (sx := sx) (p_alen pc) (lv, .ref 169 :: st, mM t I L V) = some (none, (lv, .int (nI 7) :: st, mM t I L V)) := id rfl
theorem G_170_0 {sx : eSx} (pc idx : Nat) (h : eFld sx.1 idx 6 0) (lv st : List Value) (t : Nat × Nat × Bool) (I : Nat → Nat → Int32) (L : Nat → Nat → Int64) (V : Nat → Option Nat) : eDen (sx := sx) (p_get pc idx 6 0 h) (lv, .ref 170 :: st, mM t I L V) = some (none, (lv, .ref 171 :: st, mM t I L V)) := id rfl
theorem G_170_1 {sx : eSx} (pc idx : Nat) (h : eFld sx.1 idx 6 1) (lv st : List Value) (t : Nat × Nat × Bool) (I : Nat → Nat → Int32) (L : Nat → Nat → Int64) (V : Nat → Option Nat) : eDen (sx := sx) (p_get pc idx 6 1 h) (lv, .ref 170 :: st, mM t I L V) = some (none, (lv, .ref 173 :: st, mM t I L V)) := id rfl
theorem G_170_2 {sx : eSx} (pc idx : Nat) (h : eFld sx.1 idx 6 2) (lv st : List Value) (t : Nat × Nat × Bool) (I : Nat → Nat → Int32) (L : Nat → Nat → Int64) (V : Nat → Option Nat) : eDen (sx := sx) (p_get pc idx 6 2 h) (lv, .ref 170 :: st, mM t I L V) = some (none, (lv, .ref 175 :: st, mM t I L V)) := id rfl
theorem G_170_3 {sx : eSx} (pc idx : Nat) (h : eFld sx.1 idx 6 3) (lv st : List Value) (t : Nat × Nat × Bool) (I : Nat → Nat → Int32) (L : Nat → Nat → Int64) (V : Nat → Option Nat) : eDen (sx := sx) (p_get pc idx 6 3 h) (lv, .ref 170 :: st, mM t I L V) = some (none, (lv, .ref 179 :: st, mM t I L V)) := id rfl
theorem G_170_4 {sx : eSx} (pc idx : Nat) (h : eFld sx.1 idx 6 4) (lv st : List Value) (t : Nat × Nat × Bool) (I : Nat → Nat → Int32) (L : Nat → Nat → Int64) (V : Nat → Option Nat) : eDen (sx := sx) (p_get pc idx 6 4 h) (lv, .ref 170 :: st, mM t I L V) = some (none, (lv, .ref 184 :: st, mM t I L V)) := id rfl
theorem G_170_5 {sx : eSx} (pc idx : Nat) (h : eFld sx.1 idx 6 5) (lv st : List Value) (t : Nat × Nat × Bool) (I : Nat → Nat → Int32) (L : Nat → Nat → Int64) (V : Nat → Option Nat) : eDen (sx := sx) (p_get pc idx 6 5 h) (lv, .ref 170 :: st, mM t I L V) = some (none, (lv, .int (I 170 5) :: st, mM t I L V)) := id rfl
theorem P_170_5 {sx : eSx} (pc idx : Nat) (h : eFld sx.1 idx 6 5) (h2 : ((eClT 6 5).2.2.2 = false ∨ ((eClT 6 5).2.2.2 = true ∧ sx.2.1 = true ∧ (eClT 6 5).1 = sx.1))) (lv st : List Value) (t : Nat × Nat × Bool) (I : Nat → Nat → Int32) (L : Nat → Nat → Int64) (V : Nat → Option Nat) (x : Int32) : eDen (sx := sx) (p_put pc idx 6 5 h h2) (lv, .int x :: .ref 170 :: st, mM t I L V) = some (none, (lv, st, mM t (si I 170 5 x) L V)) := id rfl
theorem G_170_6 {sx : eSx} (pc idx : Nat) (h : eFld sx.1 idx 6 6) (lv st : List Value) (t : Nat × Nat × Bool) (I : Nat → Nat → Int32) (L : Nat → Nat → Int64) (V : Nat → Option Nat) : eDen (sx := sx) (p_get pc idx 6 6 h) (lv, .ref 170 :: st, mM t I L V) = some (none, (lv, .ref 186 :: st, mM t I L V)) := id rfl
theorem G_170_7 {sx : eSx} (pc idx : Nat) (h : eFld sx.1 idx 6 7) (lv st : List Value) (t : Nat × Nat × Bool) (I : Nat → Nat → Int32) (L : Nat → Nat → Int64) (V : Nat → Option Nat) : eDen (sx := sx) (p_get pc idx 6 7 h) (lv, .ref 170 :: st, mM t I L V) = some (none, (lv, .ref 187 :: st, mM t I L V)) := id rfl
theorem G_170_8 {sx : eSx} (pc idx : Nat) (h : eFld sx.1 idx 6 8) (lv st : List Value) (t : Nat × Nat × Bool) (I : Nat → Nat → Int32) (L : Nat → Nat → Int64) (V : Nat → Option Nat) : eDen (sx := sx) (p_get pc idx 6 8 h) (lv, .ref 170 :: st, mM t I L V) = some (none, (lv, .ref 188 :: st, mM t I L V)) := id rfl
theorem G_170_9 {sx : eSx} (pc idx : Nat) (h : eFld sx.1 idx 6 9) (lv st : List Value) (t : Nat × Nat × Bool) (I : Nat → Nat → Int32) (L : Nat → Nat → Int64) (V : Nat → Option Nat) : eDen (sx := sx) (p_get pc idx 6 9 h) (lv, .ref 170 :: st, mM t I L V) = some (none, (lv, .int (I 170 9) :: st, mM t I L V)) := id rfl
theorem P_170_9 {sx : eSx} (pc idx : Nat) (h : eFld sx.1 idx 6 9) (h2 : ((eClT 6 9).2.2.2 = false ∨ ((eClT 6 9).2.2.2 = true ∧ sx.2.1 = true ∧ (eClT 6 9).1 = sx.1))) (lv st : List Value) (t : Nat × Nat × Bool) (I : Nat → Nat → Int32) (L : Nat → Nat → Int64) (V : Nat → Option Nat) (x : Int32) : eDen (sx := sx) (p_put pc idx 6 9 h h2) (lv, .int x :: .ref 170 :: st, mM t I L V) = some (none, (lv, st, mM t (si I 170 9 x) L V)) := id rfl
theorem G_170_10 {sx : eSx} (pc idx : Nat) (h : eFld sx.1 idx 6 10) (lv st : List Value) (t : Nat × Nat × Bool) (I : Nat → Nat → Int32) (L : Nat → Nat → Int64) (V : Nat → Option Nat) : eDen (sx := sx) (p_get pc idx 6 10 h) (lv, .ref 170 :: st, mM t I L V) = some (none, (lv, .int (I 170 10) :: st, mM t I L V)) := id rfl
theorem P_170_10 {sx : eSx} (pc idx : Nat) (h : eFld sx.1 idx 6 10) (h2 : ((eClT 6 10).2.2.2 = false ∨ ((eClT 6 10).2.2.2 = true ∧ sx.2.1 = true ∧ (eClT 6 10).1 = sx.1))) (lv st : List Value) (t : Nat × Nat × Bool) (I : Nat → Nat → Int32) (L : Nat → Nat → Int64) (V : Nat → Option Nat) (x : Int32) : eDen (sx := sx) (p_put pc idx 6 10 h h2) (lv, .int x :: .ref 170 :: st, mM t I L V) = some (none, (lv, st, mM t (si I 170 10 x) L V)) := id rfl
theorem R_170 (l : List Value) (t : Nat × Nat × Bool) (I : Nat → Nat → Int32) (L : Nat → Nat → Int64) (V : Nat → Option Nat) : eRcv 6 (.ref 170 :: l) (mM t I L V) = true := id rfl
theorem G_171_0 {sx : eSx} (pc idx : Nat) (h : eFld sx.1 idx 4 0) (lv st : List Value) (t : Nat × Nat × Bool) (I : Nat → Nat → Int32) (L : Nat → Nat → Int64) (V : Nat → Option Nat) : eDen (sx := sx) (p_get pc idx 4 0 h) (lv, .ref 171 :: st, mM t I L V) = some (none, (lv, .int (I 171 0) :: st, mM t I L V)) := id rfl
theorem P_171_0 {sx : eSx} (pc idx : Nat) (h : eFld sx.1 idx 4 0) (h2 : ((eClT 4 0).2.2.2 = false ∨ ((eClT 4 0).2.2.2 = true ∧ sx.2.1 = true ∧ (eClT 4 0).1 = sx.1))) (lv st : List Value) (t : Nat × Nat × Bool) (I : Nat → Nat → Int32) (L : Nat → Nat → Int64) (V : Nat → Option Nat) (x : Int32) : eDen (sx := sx) (p_put pc idx 4 0 h h2) (lv, .int x :: .ref 171 :: st, mM t I L V) = some (none, (lv, st, mM t (si I 171 0 x) L V)) := id rfl
theorem G_171_1 {sx : eSx} (pc idx : Nat) (h : eFld sx.1 idx 4 1) (lv st : List Value) (t : Nat × Nat × Bool) (I : Nat → Nat → Int32) (L : Nat → Nat → Int64) (V : Nat → Option Nat) : eDen (sx := sx) (p_get pc idx 4 1 h) (lv, .ref 171 :: st, mM t I L V) = some (none, (lv, .ref 172 :: st, mM t I L V)) := id rfl
theorem R_171 (l : List Value) (t : Nat × Nat × Bool) (I : Nat → Nat → Int32) (L : Nat → Nat → Int64) (V : Nat → Option Nat) : eRcv 4 (.ref 171 :: l) (mM t I L V) = true := id rfl
theorem A_172 {sx : eSx} (pc : Nat) (lv st : List Value) (t : Nat × Nat × Bool) (I : Nat → Nat → Int32) (L : Nat → Nat → Int64) (V : Nat → Option Nat) (i : Int32) : eDen (sx := sx) (p_iald pc) (lv, .int i :: .ref 172 :: st, mM t I L V) = vLd (eIx i 7) (fun j => .int (I 172 j)) lv st (mM t I L V) := by
  show Option.map _ (Option.map _ (eIx i 7)) = _
  cases eIx i 7 <;> rfl
theorem S_172 {sx : eSx} (pc : Nat) (lv st : List Value) (t : Nat × Nat × Bool) (I : Nat → Nat → Int32) (L : Nat → Nat → Int64) (V : Nat → Option Nat) (i : Int32) (x : Int32) : eDen (sx := sx) (p_iast pc) (lv, .int x :: .int i :: .ref 172 :: st, mM t I L V) = vSt (eIx i 7) (fun j => mM t (si I 172 j x) L V) lv st := by
  show Option.map _ (Option.map _ (eIx i 7)) = _
  cases eIx i 7 <;> rfl
theorem N_172 {sx : eSx} (pc : Nat) (lv st : List Value) (t : Nat × Nat × Bool) (I : Nat → Nat → Int32) (L : Nat → Nat → Int64) (V : Nat → Option Nat) : eDen (sx := sx) (p_alen pc) (lv, .ref 172 :: st, mM t I L V) = some (none, (lv, .int (nI 7) :: st, mM t I L V)) := id rfl
theorem G_173_0 {sx : eSx} (pc idx : Nat) (h : eFld sx.1 idx 4 0) (lv st : List Value) (t : Nat × Nat × Bool) (I : Nat → Nat → Int32) (L : Nat → Nat → Int64) (V : Nat → Option Nat) : eDen (sx := sx) (p_get pc idx 4 0 h) (lv, .ref 173 :: st, mM t I L V) = some (none, (lv, .int (I 173 0) :: st, mM t I L V)) := id rfl
theorem P_173_0 {sx : eSx} (pc idx : Nat) (h : eFld sx.1 idx 4 0) (h2 : ((eClT 4 0).2.2.2 = false ∨ ((eClT 4 0).2.2.2 = true ∧ sx.2.1 = true ∧ (eClT 4 0).1 = sx.1))) (lv st : List Value) (t : Nat × Nat × Bool) (I : Nat → Nat → Int32) (L : Nat → Nat → Int64) (V : Nat → Option Nat) (x : Int32) : eDen (sx := sx) (p_put pc idx 4 0 h h2) (lv, .int x :: .ref 173 :: st, mM t I L V) = some (none, (lv, st, mM t (si I 173 0 x) L V)) := id rfl
theorem G_173_1 {sx : eSx} (pc idx : Nat) (h : eFld sx.1 idx 4 1) (lv st : List Value) (t : Nat × Nat × Bool) (I : Nat → Nat → Int32) (L : Nat → Nat → Int64) (V : Nat → Option Nat) : eDen (sx := sx) (p_get pc idx 4 1 h) (lv, .ref 173 :: st, mM t I L V) = some (none, (lv, .ref 174 :: st, mM t I L V)) := id rfl
theorem R_173 (l : List Value) (t : Nat × Nat × Bool) (I : Nat → Nat → Int32) (L : Nat → Nat → Int64) (V : Nat → Option Nat) : eRcv 4 (.ref 173 :: l) (mM t I L V) = true := id rfl
theorem A_174 {sx : eSx} (pc : Nat) (lv st : List Value) (t : Nat × Nat × Bool) (I : Nat → Nat → Int32) (L : Nat → Nat → Int64) (V : Nat → Option Nat) (i : Int32) : eDen (sx := sx) (p_iald pc) (lv, .int i :: .ref 174 :: st, mM t I L V) = vLd (eIx i 7) (fun j => .int (I 174 j)) lv st (mM t I L V) := by
  show Option.map _ (Option.map _ (eIx i 7)) = _
  cases eIx i 7 <;> rfl
theorem S_174 {sx : eSx} (pc : Nat) (lv st : List Value) (t : Nat × Nat × Bool) (I : Nat → Nat → Int32) (L : Nat → Nat → Int64) (V : Nat → Option Nat) (i : Int32) (x : Int32) : eDen (sx := sx) (p_iast pc) (lv, .int x :: .int i :: .ref 174 :: st, mM t I L V) = vSt (eIx i 7) (fun j => mM t (si I 174 j x) L V) lv st := by
  show Option.map _ (Option.map _ (eIx i 7)) = _
  cases eIx i 7 <;> rfl
theorem N_174 {sx : eSx} (pc : Nat) (lv st : List Value) (t : Nat × Nat × Bool) (I : Nat → Nat → Int32) (L : Nat → Nat → Int64) (V : Nat → Option Nat) : eDen (sx := sx) (p_alen pc) (lv, .ref 174 :: st, mM t I L V) = some (none, (lv, .int (nI 7) :: st, mM t I L V)) := id rfl
theorem G_175_0 {sx : eSx} (pc idx : Nat) (h : eFld sx.1 idx 3 0) (lv st : List Value) (t : Nat × Nat × Bool) (I : Nat → Nat → Int32) (L : Nat → Nat → Int64) (V : Nat → Option Nat) : eDen (sx := sx) (p_get pc idx 3 0 h) (lv, .ref 175 :: st, mM t I L V) = some (none, (lv, .int (I 175 0) :: st, mM t I L V)) := id rfl
theorem P_175_0 {sx : eSx} (pc idx : Nat) (h : eFld sx.1 idx 3 0) (h2 : ((eClT 3 0).2.2.2 = false ∨ ((eClT 3 0).2.2.2 = true ∧ sx.2.1 = true ∧ (eClT 3 0).1 = sx.1))) (lv st : List Value) (t : Nat × Nat × Bool) (I : Nat → Nat → Int32) (L : Nat → Nat → Int64) (V : Nat → Option Nat) (x : Int32) : eDen (sx := sx) (p_put pc idx 3 0 h h2) (lv, .int x :: .ref 175 :: st, mM t I L V) = some (none, (lv, st, mM t (si I 175 0 x) L V)) := id rfl
theorem G_175_1 {sx : eSx} (pc idx : Nat) (h : eFld sx.1 idx 3 1) (lv st : List Value) (t : Nat × Nat × Bool) (I : Nat → Nat → Int32) (L : Nat → Nat → Int64) (V : Nat → Option Nat) : eDen (sx := sx) (p_get pc idx 3 1 h) (lv, .ref 175 :: st, mM t I L V) = some (none, (lv, .ref 176 :: st, mM t I L V)) := id rfl
theorem G_175_2 {sx : eSx} (pc idx : Nat) (h : eFld sx.1 idx 3 2) (lv st : List Value) (t : Nat × Nat × Bool) (I : Nat → Nat → Int32) (L : Nat → Nat → Int64) (V : Nat → Option Nat) : eDen (sx := sx) (p_get pc idx 3 2 h) (lv, .ref 175 :: st, mM t I L V) = some (none, (lv, .ref 177 :: st, mM t I L V)) := id rfl
theorem G_175_3 {sx : eSx} (pc idx : Nat) (h : eFld sx.1 idx 3 3) (lv st : List Value) (t : Nat × Nat × Bool) (I : Nat → Nat → Int32) (L : Nat → Nat → Int64) (V : Nat → Option Nat) : eDen (sx := sx) (p_get pc idx 3 3 h) (lv, .ref 175 :: st, mM t I L V) = some (none, (lv, .ref 178 :: st, mM t I L V)) := id rfl
theorem R_175 (l : List Value) (t : Nat × Nat × Bool) (I : Nat → Nat → Int32) (L : Nat → Nat → Int64) (V : Nat → Option Nat) : eRcv 3 (.ref 175 :: l) (mM t I L V) = true := id rfl
theorem A_176 {sx : eSx} (pc : Nat) (lv st : List Value) (t : Nat × Nat × Bool) (I : Nat → Nat → Int32) (L : Nat → Nat → Int64) (V : Nat → Option Nat) (i : Int32) : eDen (sx := sx) (p_iald pc) (lv, .int i :: .ref 176 :: st, mM t I L V) = vLd (eIx i 6) (fun j => .int (I 176 j)) lv st (mM t I L V) := by
  show Option.map _ (Option.map _ (eIx i 6)) = _
  cases eIx i 6 <;> rfl
theorem S_176 {sx : eSx} (pc : Nat) (lv st : List Value) (t : Nat × Nat × Bool) (I : Nat → Nat → Int32) (L : Nat → Nat → Int64) (V : Nat → Option Nat) (i : Int32) (x : Int32) : eDen (sx := sx) (p_iast pc) (lv, .int x :: .int i :: .ref 176 :: st, mM t I L V) = vSt (eIx i 6) (fun j => mM t (si I 176 j x) L V) lv st := by
  show Option.map _ (Option.map _ (eIx i 6)) = _
  cases eIx i 6 <;> rfl
theorem N_176 {sx : eSx} (pc : Nat) (lv st : List Value) (t : Nat × Nat × Bool) (I : Nat → Nat → Int32) (L : Nat → Nat → Int64) (V : Nat → Option Nat) : eDen (sx := sx) (p_alen pc) (lv, .ref 176 :: st, mM t I L V) = some (none, (lv, .int (nI 6) :: st, mM t I L V)) := id rfl
theorem A_177 {sx : eSx} (pc : Nat) (lv st : List Value) (t : Nat × Nat × Bool) (I : Nat → Nat → Int32) (L : Nat → Nat → Int64) (V : Nat → Option Nat) (i : Int32) : eDen (sx := sx) (p_iald pc) (lv, .int i :: .ref 177 :: st, mM t I L V) = vLd (eIx i 6) (fun j => .int (I 177 j)) lv st (mM t I L V) := by
  show Option.map _ (Option.map _ (eIx i 6)) = _
  cases eIx i 6 <;> rfl
theorem S_177 {sx : eSx} (pc : Nat) (lv st : List Value) (t : Nat × Nat × Bool) (I : Nat → Nat → Int32) (L : Nat → Nat → Int64) (V : Nat → Option Nat) (i : Int32) (x : Int32) : eDen (sx := sx) (p_iast pc) (lv, .int x :: .int i :: .ref 177 :: st, mM t I L V) = vSt (eIx i 6) (fun j => mM t (si I 177 j x) L V) lv st := by
  show Option.map _ (Option.map _ (eIx i 6)) = _
  cases eIx i 6 <;> rfl
theorem N_177 {sx : eSx} (pc : Nat) (lv st : List Value) (t : Nat × Nat × Bool) (I : Nat → Nat → Int32) (L : Nat → Nat → Int64) (V : Nat → Option Nat) : eDen (sx := sx) (p_alen pc) (lv, .ref 177 :: st, mM t I L V) = some (none, (lv, .int (nI 6) :: st, mM t I L V)) := id rfl
theorem A_178 {sx : eSx} (pc : Nat) (lv st : List Value) (t : Nat × Nat × Bool) (I : Nat → Nat → Int32) (L : Nat → Nat → Int64) (V : Nat → Option Nat) (i : Int32) : eDen (sx := sx) (p_iald pc) (lv, .int i :: .ref 178 :: st, mM t I L V) = vLd (eIx i 6) (fun j => .int (I 178 j)) lv st (mM t I L V) := by
  show Option.map _ (Option.map _ (eIx i 6)) = _
  cases eIx i 6 <;> rfl
theorem S_178 {sx : eSx} (pc : Nat) (lv st : List Value) (t : Nat × Nat × Bool) (I : Nat → Nat → Int32) (L : Nat → Nat → Int64) (V : Nat → Option Nat) (i : Int32) (x : Int32) : eDen (sx := sx) (p_iast pc) (lv, .int x :: .int i :: .ref 178 :: st, mM t I L V) = vSt (eIx i 6) (fun j => mM t (si I 178 j x) L V) lv st := by
  show Option.map _ (Option.map _ (eIx i 6)) = _
  cases eIx i 6 <;> rfl
theorem N_178 {sx : eSx} (pc : Nat) (lv st : List Value) (t : Nat × Nat × Bool) (I : Nat → Nat → Int32) (L : Nat → Nat → Int64) (V : Nat → Option Nat) : eDen (sx := sx) (p_alen pc) (lv, .ref 178 :: st, mM t I L V) = some (none, (lv, .int (nI 6) :: st, mM t I L V)) := id rfl
theorem G_179_0 {sx : eSx} (pc idx : Nat) (h : eFld sx.1 idx 1 0) (lv st : List Value) (t : Nat × Nat × Bool) (I : Nat → Nat → Int32) (L : Nat → Nat → Int64) (V : Nat → Option Nat) : eDen (sx := sx) (p_get pc idx 1 0 h) (lv, .ref 179 :: st, mM t I L V) = some (none, (lv, .int (I 179 0) :: st, mM t I L V)) := id rfl
theorem P_179_0 {sx : eSx} (pc idx : Nat) (h : eFld sx.1 idx 1 0) (h2 : ((eClT 1 0).2.2.2 = false ∨ ((eClT 1 0).2.2.2 = true ∧ sx.2.1 = true ∧ (eClT 1 0).1 = sx.1))) (lv st : List Value) (t : Nat × Nat × Bool) (I : Nat → Nat → Int32) (L : Nat → Nat → Int64) (V : Nat → Option Nat) (x : Int32) : eDen (sx := sx) (p_put pc idx 1 0 h h2) (lv, .int x :: .ref 179 :: st, mM t I L V) = some (none, (lv, st, mM t (si I 179 0 x) L V)) := id rfl
theorem G_179_1 {sx : eSx} (pc idx : Nat) (h : eFld sx.1 idx 1 1) (lv st : List Value) (t : Nat × Nat × Bool) (I : Nat → Nat → Int32) (L : Nat → Nat → Int64) (V : Nat → Option Nat) : eDen (sx := sx) (p_get pc idx 1 1 h) (lv, .ref 179 :: st, mM t I L V) = some (none, (lv, .ref 180 :: st, mM t I L V)) := id rfl
theorem G_179_2 {sx : eSx} (pc idx : Nat) (h : eFld sx.1 idx 1 2) (lv st : List Value) (t : Nat × Nat × Bool) (I : Nat → Nat → Int32) (L : Nat → Nat → Int64) (V : Nat → Option Nat) : eDen (sx := sx) (p_get pc idx 1 2 h) (lv, .ref 179 :: st, mM t I L V) = some (none, (lv, .ref 181 :: st, mM t I L V)) := id rfl
theorem G_179_3 {sx : eSx} (pc idx : Nat) (h : eFld sx.1 idx 1 3) (lv st : List Value) (t : Nat × Nat × Bool) (I : Nat → Nat → Int32) (L : Nat → Nat → Int64) (V : Nat → Option Nat) : eDen (sx := sx) (p_get pc idx 1 3 h) (lv, .ref 179 :: st, mM t I L V) = some (none, (lv, .ref 182 :: st, mM t I L V)) := id rfl
theorem G_179_4 {sx : eSx} (pc idx : Nat) (h : eFld sx.1 idx 1 4) (lv st : List Value) (t : Nat × Nat × Bool) (I : Nat → Nat → Int32) (L : Nat → Nat → Int64) (V : Nat → Option Nat) : eDen (sx := sx) (p_get pc idx 1 4 h) (lv, .ref 179 :: st, mM t I L V) = some (none, (lv, .ref 183 :: st, mM t I L V)) := id rfl
theorem R_179 (l : List Value) (t : Nat × Nat × Bool) (I : Nat → Nat → Int32) (L : Nat → Nat → Int64) (V : Nat → Option Nat) : eRcv 1 (.ref 179 :: l) (mM t I L V) = true := id rfl
theorem A_180 {sx : eSx} (pc : Nat) (lv st : List Value) (t : Nat × Nat × Bool) (I : Nat → Nat → Int32) (L : Nat → Nat → Int64) (V : Nat → Option Nat) (i : Int32) : eDen (sx := sx) (p_iald pc) (lv, .int i :: .ref 180 :: st, mM t I L V) = vLd (eIx i 5) (fun j => .int (I 180 j)) lv st (mM t I L V) := by
  show Option.map _ (Option.map _ (eIx i 5)) = _
  cases eIx i 5 <;> rfl
theorem S_180 {sx : eSx} (pc : Nat) (lv st : List Value) (t : Nat × Nat × Bool) (I : Nat → Nat → Int32) (L : Nat → Nat → Int64) (V : Nat → Option Nat) (i : Int32) (x : Int32) : eDen (sx := sx) (p_iast pc) (lv, .int x :: .int i :: .ref 180 :: st, mM t I L V) = vSt (eIx i 5) (fun j => mM t (si I 180 j x) L V) lv st := by
  show Option.map _ (Option.map _ (eIx i 5)) = _
  cases eIx i 5 <;> rfl
theorem N_180 {sx : eSx} (pc : Nat) (lv st : List Value) (t : Nat × Nat × Bool) (I : Nat → Nat → Int32) (L : Nat → Nat → Int64) (V : Nat → Option Nat) : eDen (sx := sx) (p_alen pc) (lv, .ref 180 :: st, mM t I L V) = some (none, (lv, .int (nI 5) :: st, mM t I L V)) := id rfl
theorem A_181 {sx : eSx} (pc : Nat) (lv st : List Value) (t : Nat × Nat × Bool) (I : Nat → Nat → Int32) (L : Nat → Nat → Int64) (V : Nat → Option Nat) (i : Int32) : eDen (sx := sx) (p_iald pc) (lv, .int i :: .ref 181 :: st, mM t I L V) = vLd (eIx i 5) (fun j => .int (I 181 j)) lv st (mM t I L V) := by
  show Option.map _ (Option.map _ (eIx i 5)) = _
  cases eIx i 5 <;> rfl
theorem S_181 {sx : eSx} (pc : Nat) (lv st : List Value) (t : Nat × Nat × Bool) (I : Nat → Nat → Int32) (L : Nat → Nat → Int64) (V : Nat → Option Nat) (i : Int32) (x : Int32) : eDen (sx := sx) (p_iast pc) (lv, .int x :: .int i :: .ref 181 :: st, mM t I L V) = vSt (eIx i 5) (fun j => mM t (si I 181 j x) L V) lv st := by
  show Option.map _ (Option.map _ (eIx i 5)) = _
  cases eIx i 5 <;> rfl
theorem N_181 {sx : eSx} (pc : Nat) (lv st : List Value) (t : Nat × Nat × Bool) (I : Nat → Nat → Int32) (L : Nat → Nat → Int64) (V : Nat → Option Nat) : eDen (sx := sx) (p_alen pc) (lv, .ref 181 :: st, mM t I L V) = some (none, (lv, .int (nI 5) :: st, mM t I L V)) := id rfl
theorem A_182 {sx : eSx} (pc : Nat) (lv st : List Value) (t : Nat × Nat × Bool) (I : Nat → Nat → Int32) (L : Nat → Nat → Int64) (V : Nat → Option Nat) (i : Int32) : eDen (sx := sx) (p_iald pc) (lv, .int i :: .ref 182 :: st, mM t I L V) = vLd (eIx i 5) (fun j => .int (I 182 j)) lv st (mM t I L V) := by
  show Option.map _ (Option.map _ (eIx i 5)) = _
  cases eIx i 5 <;> rfl
theorem S_182 {sx : eSx} (pc : Nat) (lv st : List Value) (t : Nat × Nat × Bool) (I : Nat → Nat → Int32) (L : Nat → Nat → Int64) (V : Nat → Option Nat) (i : Int32) (x : Int32) : eDen (sx := sx) (p_iast pc) (lv, .int x :: .int i :: .ref 182 :: st, mM t I L V) = vSt (eIx i 5) (fun j => mM t (si I 182 j x) L V) lv st := by
  show Option.map _ (Option.map _ (eIx i 5)) = _
  cases eIx i 5 <;> rfl
theorem N_182 {sx : eSx} (pc : Nat) (lv st : List Value) (t : Nat × Nat × Bool) (I : Nat → Nat → Int32) (L : Nat → Nat → Int64) (V : Nat → Option Nat) : eDen (sx := sx) (p_alen pc) (lv, .ref 182 :: st, mM t I L V) = some (none, (lv, .int (nI 5) :: st, mM t I L V)) := id rfl
theorem A_183 {sx : eSx} (pc : Nat) (lv st : List Value) (t : Nat × Nat × Bool) (I : Nat → Nat → Int32) (L : Nat → Nat → Int64) (V : Nat → Option Nat) (i : Int32) : eDen (sx := sx) (p_iald pc) (lv, .int i :: .ref 183 :: st, mM t I L V) = vLd (eIx i 5) (fun j => .int (I 183 j)) lv st (mM t I L V) := by
  show Option.map _ (Option.map _ (eIx i 5)) = _
  cases eIx i 5 <;> rfl
theorem S_183 {sx : eSx} (pc : Nat) (lv st : List Value) (t : Nat × Nat × Bool) (I : Nat → Nat → Int32) (L : Nat → Nat → Int64) (V : Nat → Option Nat) (i : Int32) (x : Int32) : eDen (sx := sx) (p_iast pc) (lv, .int x :: .int i :: .ref 183 :: st, mM t I L V) = vSt (eIx i 5) (fun j => mM t (si I 183 j x) L V) lv st := by
  show Option.map _ (Option.map _ (eIx i 5)) = _
  cases eIx i 5 <;> rfl
theorem N_183 {sx : eSx} (pc : Nat) (lv st : List Value) (t : Nat × Nat × Bool) (I : Nat → Nat → Int32) (L : Nat → Nat → Int64) (V : Nat → Option Nat) : eDen (sx := sx) (p_alen pc) (lv, .ref 183 :: st, mM t I L V) = some (none, (lv, .int (nI 5) :: st, mM t I L V)) := id rfl
theorem G_184_0 {sx : eSx} (pc idx : Nat) (h : eFld sx.1 idx 9 0) (lv st : List Value) (t : Nat × Nat × Bool) (I : Nat → Nat → Int32) (L : Nat → Nat → Int64) (V : Nat → Option Nat) : eDen (sx := sx) (p_get pc idx 9 0 h) (lv, .ref 184 :: st, mM t I L V) = some (none, (lv, .int (I 184 0) :: st, mM t I L V)) := id rfl
theorem P_184_0 {sx : eSx} (pc idx : Nat) (h : eFld sx.1 idx 9 0) (h2 : ((eClT 9 0).2.2.2 = false ∨ ((eClT 9 0).2.2.2 = true ∧ sx.2.1 = true ∧ (eClT 9 0).1 = sx.1))) (lv st : List Value) (t : Nat × Nat × Bool) (I : Nat → Nat → Int32) (L : Nat → Nat → Int64) (V : Nat → Option Nat) (x : Int32) : eDen (sx := sx) (p_put pc idx 9 0 h h2) (lv, .int x :: .ref 184 :: st, mM t I L V) = some (none, (lv, st, mM t (si I 184 0 x) L V)) := id rfl
theorem G_184_1 {sx : eSx} (pc idx : Nat) (h : eFld sx.1 idx 9 1) (lv st : List Value) (t : Nat × Nat × Bool) (I : Nat → Nat → Int32) (L : Nat → Nat → Int64) (V : Nat → Option Nat) : eDen (sx := sx) (p_get pc idx 9 1 h) (lv, .ref 184 :: st, mM t I L V) = some (none, (lv, .int (I 184 1) :: st, mM t I L V)) := id rfl
theorem P_184_1 {sx : eSx} (pc idx : Nat) (h : eFld sx.1 idx 9 1) (h2 : ((eClT 9 1).2.2.2 = false ∨ ((eClT 9 1).2.2.2 = true ∧ sx.2.1 = true ∧ (eClT 9 1).1 = sx.1))) (lv st : List Value) (t : Nat × Nat × Bool) (I : Nat → Nat → Int32) (L : Nat → Nat → Int64) (V : Nat → Option Nat) (x : Int32) : eDen (sx := sx) (p_put pc idx 9 1 h h2) (lv, .int x :: .ref 184 :: st, mM t I L V) = some (none, (lv, st, mM t (si I 184 1 x) L V)) := id rfl
theorem G_184_2 {sx : eSx} (pc idx : Nat) (h : eFld sx.1 idx 9 2) (lv st : List Value) (t : Nat × Nat × Bool) (I : Nat → Nat → Int32) (L : Nat → Nat → Int64) (V : Nat → Option Nat) : eDen (sx := sx) (p_get pc idx 9 2 h) (lv, .ref 184 :: st, mM t I L V) = some (none, (lv, .ref 185 :: st, mM t I L V)) := id rfl
theorem R_184 (l : List Value) (t : Nat × Nat × Bool) (I : Nat → Nat → Int32) (L : Nat → Nat → Int64) (V : Nat → Option Nat) : eRcv 9 (.ref 184 :: l) (mM t I L V) = true := id rfl
theorem A_185 {sx : eSx} (pc : Nat) (lv st : List Value) (t : Nat × Nat × Bool) (I : Nat → Nat → Int32) (L : Nat → Nat → Int64) (V : Nat → Option Nat) (i : Int32) : eDen (sx := sx) (p_iald pc) (lv, .int i :: .ref 185 :: st, mM t I L V) = vLd (eIx i 200) (fun j => .int (I 185 j)) lv st (mM t I L V) := by
  show Option.map _ (Option.map _ (eIx i 200)) = _
  cases eIx i 200 <;> rfl
theorem S_185 {sx : eSx} (pc : Nat) (lv st : List Value) (t : Nat × Nat × Bool) (I : Nat → Nat → Int32) (L : Nat → Nat → Int64) (V : Nat → Option Nat) (i : Int32) (x : Int32) : eDen (sx := sx) (p_iast pc) (lv, .int x :: .int i :: .ref 185 :: st, mM t I L V) = vSt (eIx i 200) (fun j => mM t (si I 185 j x) L V) lv st := by
  show Option.map _ (Option.map _ (eIx i 200)) = _
  cases eIx i 200 <;> rfl
theorem N_185 {sx : eSx} (pc : Nat) (lv st : List Value) (t : Nat × Nat × Bool) (I : Nat → Nat → Int32) (L : Nat → Nat → Int64) (V : Nat → Option Nat) : eDen (sx := sx) (p_alen pc) (lv, .ref 185 :: st, mM t I L V) = some (none, (lv, .int (nI 200) :: st, mM t I L V)) := id rfl
theorem G_186_0 {sx : eSx} (pc idx : Nat) (h : eFld sx.1 idx 0 0) (lv st : List Value) (t : Nat × Nat × Bool) (I : Nat → Nat → Int32) (L : Nat → Nat → Int64) (V : Nat → Option Nat) : eDen (sx := sx) (p_get pc idx 0 0 h) (lv, .ref 186 :: st, mM t I L V) = some (none, (lv, .long (L 186 0) :: st, mM t I L V)) := id rfl
theorem P_186_0 {sx : eSx} (pc idx : Nat) (h : eFld sx.1 idx 0 0) (h2 : ((eClT 0 0).2.2.2 = false ∨ ((eClT 0 0).2.2.2 = true ∧ sx.2.1 = true ∧ (eClT 0 0).1 = sx.1))) (lv st : List Value) (t : Nat × Nat × Bool) (I : Nat → Nat → Int32) (L : Nat → Nat → Int64) (V : Nat → Option Nat) (x : Int64) : eDen (sx := sx) (p_put pc idx 0 0 h h2) (lv, .long x :: .ref 186 :: st, mM t I L V) = some (none, (lv, st, mM t I (sl L 186 0 x) V)) := id rfl
theorem G_186_1 {sx : eSx} (pc idx : Nat) (h : eFld sx.1 idx 0 1) (lv st : List Value) (t : Nat × Nat × Bool) (I : Nat → Nat → Int32) (L : Nat → Nat → Int64) (V : Nat → Option Nat) : eDen (sx := sx) (p_get pc idx 0 1 h) (lv, .ref 186 :: st, mM t I L V) = some (none, (lv, .long (L 186 1) :: st, mM t I L V)) := id rfl
theorem P_186_1 {sx : eSx} (pc idx : Nat) (h : eFld sx.1 idx 0 1) (h2 : ((eClT 0 1).2.2.2 = false ∨ ((eClT 0 1).2.2.2 = true ∧ sx.2.1 = true ∧ (eClT 0 1).1 = sx.1))) (lv st : List Value) (t : Nat × Nat × Bool) (I : Nat → Nat → Int32) (L : Nat → Nat → Int64) (V : Nat → Option Nat) (x : Int64) : eDen (sx := sx) (p_put pc idx 0 1 h h2) (lv, .long x :: .ref 186 :: st, mM t I L V) = some (none, (lv, st, mM t I (sl L 186 1 x) V)) := id rfl
theorem R_186 (l : List Value) (t : Nat × Nat × Bool) (I : Nat → Nat → Int32) (L : Nat → Nat → Int64) (V : Nat → Option Nat) : eRcv 0 (.ref 186 :: l) (mM t I L V) = true := id rfl
theorem G_187_0 {sx : eSx} (pc idx : Nat) (h : eFld sx.1 idx 0 0) (lv st : List Value) (t : Nat × Nat × Bool) (I : Nat → Nat → Int32) (L : Nat → Nat → Int64) (V : Nat → Option Nat) : eDen (sx := sx) (p_get pc idx 0 0 h) (lv, .ref 187 :: st, mM t I L V) = some (none, (lv, .long (L 187 0) :: st, mM t I L V)) := id rfl
theorem P_187_0 {sx : eSx} (pc idx : Nat) (h : eFld sx.1 idx 0 0) (h2 : ((eClT 0 0).2.2.2 = false ∨ ((eClT 0 0).2.2.2 = true ∧ sx.2.1 = true ∧ (eClT 0 0).1 = sx.1))) (lv st : List Value) (t : Nat × Nat × Bool) (I : Nat → Nat → Int32) (L : Nat → Nat → Int64) (V : Nat → Option Nat) (x : Int64) : eDen (sx := sx) (p_put pc idx 0 0 h h2) (lv, .long x :: .ref 187 :: st, mM t I L V) = some (none, (lv, st, mM t I (sl L 187 0 x) V)) := id rfl
theorem G_187_1 {sx : eSx} (pc idx : Nat) (h : eFld sx.1 idx 0 1) (lv st : List Value) (t : Nat × Nat × Bool) (I : Nat → Nat → Int32) (L : Nat → Nat → Int64) (V : Nat → Option Nat) : eDen (sx := sx) (p_get pc idx 0 1 h) (lv, .ref 187 :: st, mM t I L V) = some (none, (lv, .long (L 187 1) :: st, mM t I L V)) := id rfl
theorem P_187_1 {sx : eSx} (pc idx : Nat) (h : eFld sx.1 idx 0 1) (h2 : ((eClT 0 1).2.2.2 = false ∨ ((eClT 0 1).2.2.2 = true ∧ sx.2.1 = true ∧ (eClT 0 1).1 = sx.1))) (lv st : List Value) (t : Nat × Nat × Bool) (I : Nat → Nat → Int32) (L : Nat → Nat → Int64) (V : Nat → Option Nat) (x : Int64) : eDen (sx := sx) (p_put pc idx 0 1 h h2) (lv, .long x :: .ref 187 :: st, mM t I L V) = some (none, (lv, st, mM t I (sl L 187 1 x) V)) := id rfl
theorem R_187 (l : List Value) (t : Nat × Nat × Bool) (I : Nat → Nat → Int32) (L : Nat → Nat → Int64) (V : Nat → Option Nat) : eRcv 0 (.ref 187 :: l) (mM t I L V) = true := id rfl
theorem A_188 {sx : eSx} (pc : Nat) (lv st : List Value) (t : Nat × Nat × Bool) (I : Nat → Nat → Int32) (L : Nat → Nat → Int64) (V : Nat → Option Nat) (i : Int32) : eDen (sx := sx) (p_lald pc) (lv, .int i :: .ref 188 :: st, mM t I L V) = vLd (eIx i 7) (fun j => .long (L 188 j)) lv st (mM t I L V) := by
  show Option.map _ (Option.map _ (eIx i 7)) = _
  cases eIx i 7 <;> rfl
theorem S_188 {sx : eSx} (pc : Nat) (lv st : List Value) (t : Nat × Nat × Bool) (I : Nat → Nat → Int32) (L : Nat → Nat → Int64) (V : Nat → Option Nat) (i : Int32) (x : Int64) : eDen (sx := sx) (p_last pc) (lv, .long x :: .int i :: .ref 188 :: st, mM t I L V) = vSt (eIx i 7) (fun j => mM t I (sl L 188 j x) V) lv st := by
  show Option.map _ (Option.map _ (eIx i 7)) = _
  cases eIx i 7 <;> rfl
theorem N_188 {sx : eSx} (pc : Nat) (lv st : List Value) (t : Nat × Nat × Bool) (I : Nat → Nat → Int32) (L : Nat → Nat → Int64) (V : Nat → Option Nat) : eDen (sx := sx) (p_alen pc) (lv, .ref 188 :: st, mM t I L V) = some (none, (lv, .int (nI 7) :: st, mM t I L V)) := id rfl
theorem G_189_0 {sx : eSx} (pc idx : Nat) (h : eFld sx.1 idx 11 0) (lv st : List Value) (t : Nat × Nat × Bool) (I : Nat → Nat → Int32) (L : Nat → Nat → Int64) (V : Nat → Option Nat) : eDen (sx := sx) (p_get pc idx 11 0 h) (lv, .ref 189 :: st, mM t I L V) = some (none, (lv, .int (I 189 0) :: st, mM t I L V)) := id rfl
theorem P_189_0 {sx : eSx} (pc idx : Nat) (h : eFld sx.1 idx 11 0) (h2 : ((eClT 11 0).2.2.2 = false ∨ ((eClT 11 0).2.2.2 = true ∧ sx.2.1 = true ∧ (eClT 11 0).1 = sx.1))) (lv st : List Value) (t : Nat × Nat × Bool) (I : Nat → Nat → Int32) (L : Nat → Nat → Int64) (V : Nat → Option Nat) (x : Int32) : eDen (sx := sx) (p_put pc idx 11 0 h h2) (lv, .int x :: .ref 189 :: st, mM t I L V) = some (none, (lv, st, mM t (si I 189 0 x) L V)) := id rfl
theorem G_189_1 {sx : eSx} (pc idx : Nat) (h : eFld sx.1 idx 11 1) (lv st : List Value) (t : Nat × Nat × Bool) (I : Nat → Nat → Int32) (L : Nat → Nat → Int64) (V : Nat → Option Nat) : eDen (sx := sx) (p_get pc idx 11 1 h) (lv, .ref 189 :: st, mM t I L V) = some (none, (lv, .ref 190 :: st, mM t I L V)) := id rfl
theorem G_189_2 {sx : eSx} (pc idx : Nat) (h : eFld sx.1 idx 11 2) (lv st : List Value) (t : Nat × Nat × Bool) (I : Nat → Nat → Int32) (L : Nat → Nat → Int64) (V : Nat → Option Nat) : eDen (sx := sx) (p_get pc idx 11 2 h) (lv, .ref 189 :: st, mM t I L V) = some (none, (lv, .int (I 189 2) :: st, mM t I L V)) := id rfl
theorem P_189_2 {sx : eSx} (pc idx : Nat) (h : eFld sx.1 idx 11 2) (h2 : ((eClT 11 2).2.2.2 = false ∨ ((eClT 11 2).2.2.2 = true ∧ sx.2.1 = true ∧ (eClT 11 2).1 = sx.1))) (lv st : List Value) (t : Nat × Nat × Bool) (I : Nat → Nat → Int32) (L : Nat → Nat → Int64) (V : Nat → Option Nat) (x : Int32) : eDen (sx := sx) (p_put pc idx 11 2 h h2) (lv, .int x :: .ref 189 :: st, mM t I L V) = some (none, (lv, st, mM t (si I 189 2 x) L V)) := id rfl
theorem G_189_3 {sx : eSx} (pc idx : Nat) (h : eFld sx.1 idx 11 3) (lv st : List Value) (t : Nat × Nat × Bool) (I : Nat → Nat → Int32) (L : Nat → Nat → Int64) (V : Nat → Option Nat) : eDen (sx := sx) (p_get pc idx 11 3 h) (lv, .ref 189 :: st, mM t I L V) = some (none, (lv, .int (I 189 3) :: st, mM t I L V)) := id rfl
theorem P_189_3 {sx : eSx} (pc idx : Nat) (h : eFld sx.1 idx 11 3) (h2 : ((eClT 11 3).2.2.2 = false ∨ ((eClT 11 3).2.2.2 = true ∧ sx.2.1 = true ∧ (eClT 11 3).1 = sx.1))) (lv st : List Value) (t : Nat × Nat × Bool) (I : Nat → Nat → Int32) (L : Nat → Nat → Int64) (V : Nat → Option Nat) (x : Int32) : eDen (sx := sx) (p_put pc idx 11 3 h h2) (lv, .int x :: .ref 189 :: st, mM t I L V) = some (none, (lv, st, mM t (si I 189 3 x) L V)) := id rfl
theorem G_189_4 {sx : eSx} (pc idx : Nat) (h : eFld sx.1 idx 11 4) (lv st : List Value) (t : Nat × Nat × Bool) (I : Nat → Nat → Int32) (L : Nat → Nat → Int64) (V : Nat → Option Nat) : eDen (sx := sx) (p_get pc idx 11 4 h) (lv, .ref 189 :: st, mM t I L V) = some (none, (lv, .int (I 189 4) :: st, mM t I L V)) := id rfl
theorem P_189_4 {sx : eSx} (pc idx : Nat) (h : eFld sx.1 idx 11 4) (h2 : ((eClT 11 4).2.2.2 = false ∨ ((eClT 11 4).2.2.2 = true ∧ sx.2.1 = true ∧ (eClT 11 4).1 = sx.1))) (lv st : List Value) (t : Nat × Nat × Bool) (I : Nat → Nat → Int32) (L : Nat → Nat → Int64) (V : Nat → Option Nat) (x : Int32) : eDen (sx := sx) (p_put pc idx 11 4 h h2) (lv, .int x :: .ref 189 :: st, mM t I L V) = some (none, (lv, st, mM t (si I 189 4 x) L V)) := id rfl
theorem G_189_5 {sx : eSx} (pc idx : Nat) (h : eFld sx.1 idx 11 5) (lv st : List Value) (t : Nat × Nat × Bool) (I : Nat → Nat → Int32) (L : Nat → Nat → Int64) (V : Nat → Option Nat) : eDen (sx := sx) (p_get pc idx 11 5 h) (lv, .ref 189 :: st, mM t I L V) = some (none, (lv, .int (I 189 5) :: st, mM t I L V)) := id rfl
theorem P_189_5 {sx : eSx} (pc idx : Nat) (h : eFld sx.1 idx 11 5) (h2 : ((eClT 11 5).2.2.2 = false ∨ ((eClT 11 5).2.2.2 = true ∧ sx.2.1 = true ∧ (eClT 11 5).1 = sx.1))) (lv st : List Value) (t : Nat × Nat × Bool) (I : Nat → Nat → Int32) (L : Nat → Nat → Int64) (V : Nat → Option Nat) (x : Int32) : eDen (sx := sx) (p_put pc idx 11 5 h h2) (lv, .int x :: .ref 189 :: st, mM t I L V) = some (none, (lv, st, mM t (si I 189 5 x) L V)) := id rfl
theorem G_189_6 {sx : eSx} (pc idx : Nat) (h : eFld sx.1 idx 11 6) (lv st : List Value) (t : Nat × Nat × Bool) (I : Nat → Nat → Int32) (L : Nat → Nat → Int64) (V : Nat → Option Nat) : eDen (sx := sx) (p_get pc idx 11 6 h) (lv, .ref 189 :: st, mM t I L V) = some (none, (lv, .int (I 189 6) :: st, mM t I L V)) := id rfl
theorem P_189_6 {sx : eSx} (pc idx : Nat) (h : eFld sx.1 idx 11 6) (h2 : ((eClT 11 6).2.2.2 = false ∨ ((eClT 11 6).2.2.2 = true ∧ sx.2.1 = true ∧ (eClT 11 6).1 = sx.1))) (lv st : List Value) (t : Nat × Nat × Bool) (I : Nat → Nat → Int32) (L : Nat → Nat → Int64) (V : Nat → Option Nat) (x : Int32) : eDen (sx := sx) (p_put pc idx 11 6 h h2) (lv, .int x :: .ref 189 :: st, mM t I L V) = some (none, (lv, st, mM t (si I 189 6 x) L V)) := id rfl
theorem G_189_7 {sx : eSx} (pc idx : Nat) (h : eFld sx.1 idx 11 7) (lv st : List Value) (t : Nat × Nat × Bool) (I : Nat → Nat → Int32) (L : Nat → Nat → Int64) (V : Nat → Option Nat) : eDen (sx := sx) (p_get pc idx 11 7 h) (lv, .ref 189 :: st, mM t I L V) = some (none, (lv, .int (I 189 7) :: st, mM t I L V)) := id rfl
theorem P_189_7 {sx : eSx} (pc idx : Nat) (h : eFld sx.1 idx 11 7) (h2 : ((eClT 11 7).2.2.2 = false ∨ ((eClT 11 7).2.2.2 = true ∧ sx.2.1 = true ∧ (eClT 11 7).1 = sx.1))) (lv st : List Value) (t : Nat × Nat × Bool) (I : Nat → Nat → Int32) (L : Nat → Nat → Int64) (V : Nat → Option Nat) (x : Int32) : eDen (sx := sx) (p_put pc idx 11 7 h h2) (lv, .int x :: .ref 189 :: st, mM t I L V) = some (none, (lv, st, mM t (si I 189 7 x) L V)) := id rfl
theorem G_189_8 {sx : eSx} (pc idx : Nat) (h : eFld sx.1 idx 11 8) (lv st : List Value) (t : Nat × Nat × Bool) (I : Nat → Nat → Int32) (L : Nat → Nat → Int64) (V : Nat → Option Nat) : eDen (sx := sx) (p_get pc idx 11 8 h) (lv, .ref 189 :: st, mM t I L V) = some (none, (lv, .int (I 189 8) :: st, mM t I L V)) := id rfl
theorem P_189_8 {sx : eSx} (pc idx : Nat) (h : eFld sx.1 idx 11 8) (h2 : ((eClT 11 8).2.2.2 = false ∨ ((eClT 11 8).2.2.2 = true ∧ sx.2.1 = true ∧ (eClT 11 8).1 = sx.1))) (lv st : List Value) (t : Nat × Nat × Bool) (I : Nat → Nat → Int32) (L : Nat → Nat → Int64) (V : Nat → Option Nat) (x : Int32) : eDen (sx := sx) (p_put pc idx 11 8 h h2) (lv, .int x :: .ref 189 :: st, mM t I L V) = some (none, (lv, st, mM t (si I 189 8 x) L V)) := id rfl
theorem G_189_9 {sx : eSx} (pc idx : Nat) (h : eFld sx.1 idx 11 9) (lv st : List Value) (t : Nat × Nat × Bool) (I : Nat → Nat → Int32) (L : Nat → Nat → Int64) (V : Nat → Option Nat) : eDen (sx := sx) (p_get pc idx 11 9 h) (lv, .ref 189 :: st, mM t I L V) = some (none, (lv, .int (I 189 9) :: st, mM t I L V)) := id rfl
theorem P_189_9 {sx : eSx} (pc idx : Nat) (h : eFld sx.1 idx 11 9) (h2 : ((eClT 11 9).2.2.2 = false ∨ ((eClT 11 9).2.2.2 = true ∧ sx.2.1 = true ∧ (eClT 11 9).1 = sx.1))) (lv st : List Value) (t : Nat × Nat × Bool) (I : Nat → Nat → Int32) (L : Nat → Nat → Int64) (V : Nat → Option Nat) (x : Int32) : eDen (sx := sx) (p_put pc idx 11 9 h h2) (lv, .int x :: .ref 189 :: st, mM t I L V) = some (none, (lv, st, mM t (si I 189 9 x) L V)) := id rfl
theorem G_189_10 {sx : eSx} (pc idx : Nat) (h : eFld sx.1 idx 11 10) (lv st : List Value) (t : Nat × Nat × Bool) (I : Nat → Nat → Int32) (L : Nat → Nat → Int64) (V : Nat → Option Nat) : eDen (sx := sx) (p_get pc idx 11 10 h) (lv, .ref 189 :: st, mM t I L V) = some (none, (lv, .int (I 189 10) :: st, mM t I L V)) := id rfl
theorem P_189_10 {sx : eSx} (pc idx : Nat) (h : eFld sx.1 idx 11 10) (h2 : ((eClT 11 10).2.2.2 = false ∨ ((eClT 11 10).2.2.2 = true ∧ sx.2.1 = true ∧ (eClT 11 10).1 = sx.1))) (lv st : List Value) (t : Nat × Nat × Bool) (I : Nat → Nat → Int32) (L : Nat → Nat → Int64) (V : Nat → Option Nat) (x : Int32) : eDen (sx := sx) (p_put pc idx 11 10 h h2) (lv, .int x :: .ref 189 :: st, mM t I L V) = some (none, (lv, st, mM t (si I 189 10 x) L V)) := id rfl
theorem G_189_11 {sx : eSx} (pc idx : Nat) (h : eFld sx.1 idx 11 11) (lv st : List Value) (t : Nat × Nat × Bool) (I : Nat → Nat → Int32) (L : Nat → Nat → Int64) (V : Nat → Option Nat) : eDen (sx := sx) (p_get pc idx 11 11 h) (lv, .ref 189 :: st, mM t I L V) = some (none, (lv, .int (I 189 11) :: st, mM t I L V)) := id rfl
theorem P_189_11 {sx : eSx} (pc idx : Nat) (h : eFld sx.1 idx 11 11) (h2 : ((eClT 11 11).2.2.2 = false ∨ ((eClT 11 11).2.2.2 = true ∧ sx.2.1 = true ∧ (eClT 11 11).1 = sx.1))) (lv st : List Value) (t : Nat × Nat × Bool) (I : Nat → Nat → Int32) (L : Nat → Nat → Int64) (V : Nat → Option Nat) (x : Int32) : eDen (sx := sx) (p_put pc idx 11 11 h h2) (lv, .int x :: .ref 189 :: st, mM t I L V) = some (none, (lv, st, mM t (si I 189 11 x) L V)) := id rfl
theorem G_189_12 {sx : eSx} (pc idx : Nat) (h : eFld sx.1 idx 11 12) (lv st : List Value) (t : Nat × Nat × Bool) (I : Nat → Nat → Int32) (L : Nat → Nat → Int64) (V : Nat → Option Nat) : eDen (sx := sx) (p_get pc idx 11 12 h) (lv, .ref 189 :: st, mM t I L V) = some (none, (lv, .long (L 189 12) :: st, mM t I L V)) := id rfl
theorem P_189_12 {sx : eSx} (pc idx : Nat) (h : eFld sx.1 idx 11 12) (h2 : ((eClT 11 12).2.2.2 = false ∨ ((eClT 11 12).2.2.2 = true ∧ sx.2.1 = true ∧ (eClT 11 12).1 = sx.1))) (lv st : List Value) (t : Nat × Nat × Bool) (I : Nat → Nat → Int32) (L : Nat → Nat → Int64) (V : Nat → Option Nat) (x : Int64) : eDen (sx := sx) (p_put pc idx 11 12 h h2) (lv, .long x :: .ref 189 :: st, mM t I L V) = some (none, (lv, st, mM t I (sl L 189 12 x) V)) := id rfl
theorem G_189_13 {sx : eSx} (pc idx : Nat) (h : eFld sx.1 idx 11 13) (lv st : List Value) (t : Nat × Nat × Bool) (I : Nat → Nat → Int32) (L : Nat → Nat → Int64) (V : Nat → Option Nat) : eDen (sx := sx) (p_get pc idx 11 13 h) (lv, .ref 189 :: st, mM t I L V) = some (none, (lv, .ref 191 :: st, mM t I L V)) := id rfl
theorem G_189_14 {sx : eSx} (pc idx : Nat) (h : eFld sx.1 idx 11 14) (lv st : List Value) (t : Nat × Nat × Bool) (I : Nat → Nat → Int32) (L : Nat → Nat → Int64) (V : Nat → Option Nat) : eDen (sx := sx) (p_get pc idx 11 14 h) (lv, .ref 189 :: st, mM t I L V) = some (none, (lv, .ref 192 :: st, mM t I L V)) := id rfl
theorem G_189_15 {sx : eSx} (pc idx : Nat) (h : eFld sx.1 idx 11 15) (lv st : List Value) (t : Nat × Nat × Bool) (I : Nat → Nat → Int32) (L : Nat → Nat → Int64) (V : Nat → Option Nat) : eDen (sx := sx) (p_get pc idx 11 15 h) (lv, .ref 189 :: st, mM t I L V) = some (none, (lv, .ref 193 :: st, mM t I L V)) := id rfl
theorem G_189_16 {sx : eSx} (pc idx : Nat) (h : eFld sx.1 idx 11 16) (lv st : List Value) (t : Nat × Nat × Bool) (I : Nat → Nat → Int32) (L : Nat → Nat → Int64) (V : Nat → Option Nat) : eDen (sx := sx) (p_get pc idx 11 16 h) (lv, .ref 189 :: st, mM t I L V) = some (none, (lv, .ref 194 :: st, mM t I L V)) := id rfl
theorem G_189_17 {sx : eSx} (pc idx : Nat) (h : eFld sx.1 idx 11 17) (lv st : List Value) (t : Nat × Nat × Bool) (I : Nat → Nat → Int32) (L : Nat → Nat → Int64) (V : Nat → Option Nat) : eDen (sx := sx) (p_get pc idx 11 17 h) (lv, .ref 189 :: st, mM t I L V) = some (none, (lv, .ref 195 :: st, mM t I L V)) := id rfl
theorem G_189_18 {sx : eSx} (pc idx : Nat) (h : eFld sx.1 idx 11 18) (lv st : List Value) (t : Nat × Nat × Bool) (I : Nat → Nat → Int32) (L : Nat → Nat → Int64) (V : Nat → Option Nat) : eDen (sx := sx) (p_get pc idx 11 18 h) (lv, .ref 189 :: st, mM t I L V) = some (none, (lv, .int (I 189 18) :: st, mM t I L V)) := id rfl
theorem P_189_18 {sx : eSx} (pc idx : Nat) (h : eFld sx.1 idx 11 18) (h2 : ((eClT 11 18).2.2.2 = false ∨ ((eClT 11 18).2.2.2 = true ∧ sx.2.1 = true ∧ (eClT 11 18).1 = sx.1))) (lv st : List Value) (t : Nat × Nat × Bool) (I : Nat → Nat → Int32) (L : Nat → Nat → Int64) (V : Nat → Option Nat) (x : Int32) : eDen (sx := sx) (p_put pc idx 11 18 h h2) (lv, .int x :: .ref 189 :: st, mM t I L V) = some (none, (lv, st, mM t (si I 189 18 x) L V)) := id rfl
theorem G_189_19 {sx : eSx} (pc idx : Nat) (h : eFld sx.1 idx 11 19) (lv st : List Value) (t : Nat × Nat × Bool) (I : Nat → Nat → Int32) (L : Nat → Nat → Int64) (V : Nat → Option Nat) : eDen (sx := sx) (p_get pc idx 11 19 h) (lv, .ref 189 :: st, mM t I L V) = some (none, (lv, .int (I 189 19) :: st, mM t I L V)) := id rfl
theorem P_189_19 {sx : eSx} (pc idx : Nat) (h : eFld sx.1 idx 11 19) (h2 : ((eClT 11 19).2.2.2 = false ∨ ((eClT 11 19).2.2.2 = true ∧ sx.2.1 = true ∧ (eClT 11 19).1 = sx.1))) (lv st : List Value) (t : Nat × Nat × Bool) (I : Nat → Nat → Int32) (L : Nat → Nat → Int64) (V : Nat → Option Nat) (x : Int32) : eDen (sx := sx) (p_put pc idx 11 19 h h2) (lv, .int x :: .ref 189 :: st, mM t I L V) = if x = 0 ∨ x = 1 then some (none, (lv, st, mM t (si I 189 19 x) L V)) else none := by
  show Option.map _ (Option.map _ (if x = 0 ∨ x = 1 then _ else none)) = _
  split <;> rfl
theorem G_189_20 {sx : eSx} (pc idx : Nat) (h : eFld sx.1 idx 11 20) (lv st : List Value) (t : Nat × Nat × Bool) (I : Nat → Nat → Int32) (L : Nat → Nat → Int64) (V : Nat → Option Nat) : eDen (sx := sx) (p_get pc idx 11 20 h) (lv, .ref 189 :: st, mM t I L V) = some (none, (lv, .ref 196 :: st, mM t I L V)) := id rfl
theorem G_189_21 {sx : eSx} (pc idx : Nat) (h : eFld sx.1 idx 11 21) (lv st : List Value) (t : Nat × Nat × Bool) (I : Nat → Nat → Int32) (L : Nat → Nat → Int64) (V : Nat → Option Nat) : eDen (sx := sx) (p_get pc idx 11 21 h) (lv, .ref 189 :: st, mM t I L V) = some (none, (lv, .ref 197 :: st, mM t I L V)) := id rfl
theorem G_189_22 {sx : eSx} (pc idx : Nat) (h : eFld sx.1 idx 11 22) (lv st : List Value) (t : Nat × Nat × Bool) (I : Nat → Nat → Int32) (L : Nat → Nat → Int64) (V : Nat → Option Nat) : eDen (sx := sx) (p_get pc idx 11 22 h) (lv, .ref 189 :: st, mM t I L V) = some (none, (lv, .int (I 189 22) :: st, mM t I L V)) := id rfl
theorem P_189_22 {sx : eSx} (pc idx : Nat) (h : eFld sx.1 idx 11 22) (h2 : ((eClT 11 22).2.2.2 = false ∨ ((eClT 11 22).2.2.2 = true ∧ sx.2.1 = true ∧ (eClT 11 22).1 = sx.1))) (lv st : List Value) (t : Nat × Nat × Bool) (I : Nat → Nat → Int32) (L : Nat → Nat → Int64) (V : Nat → Option Nat) (x : Int32) : eDen (sx := sx) (p_put pc idx 11 22 h h2) (lv, .int x :: .ref 189 :: st, mM t I L V) = some (none, (lv, st, mM t (si I 189 22 x) L V)) := id rfl
theorem G_189_23 {sx : eSx} (pc idx : Nat) (h : eFld sx.1 idx 11 23) (lv st : List Value) (t : Nat × Nat × Bool) (I : Nat → Nat → Int32) (L : Nat → Nat → Int64) (V : Nat → Option Nat) : eDen (sx := sx) (p_get pc idx 11 23 h) (lv, .ref 189 :: st, mM t I L V) = some (none, (lv, .int (I 189 23) :: st, mM t I L V)) := id rfl
theorem P_189_23 {sx : eSx} (pc idx : Nat) (h : eFld sx.1 idx 11 23) (h2 : ((eClT 11 23).2.2.2 = false ∨ ((eClT 11 23).2.2.2 = true ∧ sx.2.1 = true ∧ (eClT 11 23).1 = sx.1))) (lv st : List Value) (t : Nat × Nat × Bool) (I : Nat → Nat → Int32) (L : Nat → Nat → Int64) (V : Nat → Option Nat) (x : Int32) : eDen (sx := sx) (p_put pc idx 11 23 h h2) (lv, .int x :: .ref 189 :: st, mM t I L V) = if x = 0 ∨ x = 1 then some (none, (lv, st, mM t (si I 189 23 x) L V)) else none := by
  show Option.map _ (Option.map _ (if x = 0 ∨ x = 1 then _ else none)) = _
  split <;> rfl
theorem G_189_24 {sx : eSx} (pc idx : Nat) (h : eFld sx.1 idx 11 24) (lv st : List Value) (t : Nat × Nat × Bool) (I : Nat → Nat → Int32) (L : Nat → Nat → Int64) (V : Nat → Option Nat) : eDen (sx := sx) (p_get pc idx 11 24 h) (lv, .ref 189 :: st, mM t I L V) = some (none, (lv, .long (L 189 24) :: st, mM t I L V)) := id rfl
theorem P_189_24 {sx : eSx} (pc idx : Nat) (h : eFld sx.1 idx 11 24) (h2 : ((eClT 11 24).2.2.2 = false ∨ ((eClT 11 24).2.2.2 = true ∧ sx.2.1 = true ∧ (eClT 11 24).1 = sx.1))) (lv st : List Value) (t : Nat × Nat × Bool) (I : Nat → Nat → Int32) (L : Nat → Nat → Int64) (V : Nat → Option Nat) (x : Int64) : eDen (sx := sx) (p_put pc idx 11 24 h h2) (lv, .long x :: .ref 189 :: st, mM t I L V) = some (none, (lv, st, mM t I (sl L 189 24 x) V)) := id rfl
theorem G_189_25 {sx : eSx} (pc idx : Nat) (h : eFld sx.1 idx 11 25) (lv st : List Value) (t : Nat × Nat × Bool) (I : Nat → Nat → Int32) (L : Nat → Nat → Int64) (V : Nat → Option Nat) : eDen (sx := sx) (p_get pc idx 11 25 h) (lv, .ref 189 :: st, mM t I L V) = some (none, (lv, .long (L 189 25) :: st, mM t I L V)) := id rfl
theorem P_189_25 {sx : eSx} (pc idx : Nat) (h : eFld sx.1 idx 11 25) (h2 : ((eClT 11 25).2.2.2 = false ∨ ((eClT 11 25).2.2.2 = true ∧ sx.2.1 = true ∧ (eClT 11 25).1 = sx.1))) (lv st : List Value) (t : Nat × Nat × Bool) (I : Nat → Nat → Int32) (L : Nat → Nat → Int64) (V : Nat → Option Nat) (x : Int64) : eDen (sx := sx) (p_put pc idx 11 25 h h2) (lv, .long x :: .ref 189 :: st, mM t I L V) = some (none, (lv, st, mM t I (sl L 189 25 x) V)) := id rfl
theorem G_189_26 {sx : eSx} (pc idx : Nat) (h : eFld sx.1 idx 11 26) (lv st : List Value) (t : Nat × Nat × Bool) (I : Nat → Nat → Int32) (L : Nat → Nat → Int64) (V : Nat → Option Nat) : eDen (sx := sx) (p_get pc idx 11 26 h) (lv, .ref 189 :: st, mM t I L V) = some (none, (lv, .int (I 189 26) :: st, mM t I L V)) := id rfl
theorem P_189_26 {sx : eSx} (pc idx : Nat) (h : eFld sx.1 idx 11 26) (h2 : ((eClT 11 26).2.2.2 = false ∨ ((eClT 11 26).2.2.2 = true ∧ sx.2.1 = true ∧ (eClT 11 26).1 = sx.1))) (lv st : List Value) (t : Nat × Nat × Bool) (I : Nat → Nat → Int32) (L : Nat → Nat → Int64) (V : Nat → Option Nat) (x : Int32) : eDen (sx := sx) (p_put pc idx 11 26 h h2) (lv, .int x :: .ref 189 :: st, mM t I L V) = some (none, (lv, st, mM t (si I 189 26 x) L V)) := id rfl
theorem G_189_27 {sx : eSx} (pc idx : Nat) (h : eFld sx.1 idx 11 27) (lv st : List Value) (t : Nat × Nat × Bool) (I : Nat → Nat → Int32) (L : Nat → Nat → Int64) (V : Nat → Option Nat) : eDen (sx := sx) (p_get pc idx 11 27 h) (lv, .ref 189 :: st, mM t I L V) = some (none, (lv, .ref 198 :: st, mM t I L V)) := id rfl
theorem G_189_28 {sx : eSx} (pc idx : Nat) (h : eFld sx.1 idx 11 28) (lv st : List Value) (t : Nat × Nat × Bool) (I : Nat → Nat → Int32) (L : Nat → Nat → Int64) (V : Nat → Option Nat) : eDen (sx := sx) (p_get pc idx 11 28 h) (lv, .ref 189 :: st, mM t I L V) = some (none, (lv, .ref 199 :: st, mM t I L V)) := id rfl
theorem G_189_29 {sx : eSx} (pc idx : Nat) (h : eFld sx.1 idx 11 29) (lv st : List Value) (t : Nat × Nat × Bool) (I : Nat → Nat → Int32) (L : Nat → Nat → Int64) (V : Nat → Option Nat) : eDen (sx := sx) (p_get pc idx 11 29 h) (lv, .ref 189 :: st, mM t I L V) = some (none, (lv, .ref 200 :: st, mM t I L V)) := id rfl
theorem G_189_30 {sx : eSx} (pc idx : Nat) (h : eFld sx.1 idx 11 30) (lv st : List Value) (t : Nat × Nat × Bool) (I : Nat → Nat → Int32) (L : Nat → Nat → Int64) (V : Nat → Option Nat) : eDen (sx := sx) (p_get pc idx 11 30 h) (lv, .ref 189 :: st, mM t I L V) = some (none, (lv, .ref 201 :: st, mM t I L V)) := id rfl
theorem G_189_31 {sx : eSx} (pc idx : Nat) (h : eFld sx.1 idx 11 31) (lv st : List Value) (t : Nat × Nat × Bool) (I : Nat → Nat → Int32) (L : Nat → Nat → Int64) (V : Nat → Option Nat) : eDen (sx := sx) (p_get pc idx 11 31 h) (lv, .ref 189 :: st, mM t I L V) = some (none, (lv, .ref 202 :: st, mM t I L V)) := id rfl
theorem G_189_32 {sx : eSx} (pc idx : Nat) (h : eFld sx.1 idx 11 32) (lv st : List Value) (t : Nat × Nat × Bool) (I : Nat → Nat → Int32) (L : Nat → Nat → Int64) (V : Nat → Option Nat) : eDen (sx := sx) (p_get pc idx 11 32 h) (lv, .ref 189 :: st, mM t I L V) = some (none, (lv, .int (I 189 32) :: st, mM t I L V)) := id rfl
theorem P_189_32 {sx : eSx} (pc idx : Nat) (h : eFld sx.1 idx 11 32) (h2 : ((eClT 11 32).2.2.2 = false ∨ ((eClT 11 32).2.2.2 = true ∧ sx.2.1 = true ∧ (eClT 11 32).1 = sx.1))) (lv st : List Value) (t : Nat × Nat × Bool) (I : Nat → Nat → Int32) (L : Nat → Nat → Int64) (V : Nat → Option Nat) (x : Int32) : eDen (sx := sx) (p_put pc idx 11 32 h h2) (lv, .int x :: .ref 189 :: st, mM t I L V) = some (none, (lv, st, mM t (si I 189 32 x) L V)) := id rfl
theorem G_189_33 {sx : eSx} (pc idx : Nat) (h : eFld sx.1 idx 11 33) (lv st : List Value) (t : Nat × Nat × Bool) (I : Nat → Nat → Int32) (L : Nat → Nat → Int64) (V : Nat → Option Nat) : eDen (sx := sx) (p_get pc idx 11 33 h) (lv, .ref 189 :: st, mM t I L V) = some (none, (lv, .int (I 189 33) :: st, mM t I L V)) := id rfl
theorem P_189_33 {sx : eSx} (pc idx : Nat) (h : eFld sx.1 idx 11 33) (h2 : ((eClT 11 33).2.2.2 = false ∨ ((eClT 11 33).2.2.2 = true ∧ sx.2.1 = true ∧ (eClT 11 33).1 = sx.1))) (lv st : List Value) (t : Nat × Nat × Bool) (I : Nat → Nat → Int32) (L : Nat → Nat → Int64) (V : Nat → Option Nat) (x : Int32) : eDen (sx := sx) (p_put pc idx 11 33 h h2) (lv, .int x :: .ref 189 :: st, mM t I L V) = some (none, (lv, st, mM t (si I 189 33 x) L V)) := id rfl
theorem G_189_34 {sx : eSx} (pc idx : Nat) (h : eFld sx.1 idx 11 34) (lv st : List Value) (t : Nat × Nat × Bool) (I : Nat → Nat → Int32) (L : Nat → Nat → Int64) (V : Nat → Option Nat) : eDen (sx := sx) (p_get pc idx 11 34 h) (lv, .ref 189 :: st, mM t I L V) = some (none, (lv, .int (I 189 34) :: st, mM t I L V)) := id rfl
theorem P_189_34 {sx : eSx} (pc idx : Nat) (h : eFld sx.1 idx 11 34) (h2 : ((eClT 11 34).2.2.2 = false ∨ ((eClT 11 34).2.2.2 = true ∧ sx.2.1 = true ∧ (eClT 11 34).1 = sx.1))) (lv st : List Value) (t : Nat × Nat × Bool) (I : Nat → Nat → Int32) (L : Nat → Nat → Int64) (V : Nat → Option Nat) (x : Int32) : eDen (sx := sx) (p_put pc idx 11 34 h h2) (lv, .int x :: .ref 189 :: st, mM t I L V) = some (none, (lv, st, mM t (si I 189 34 x) L V)) := id rfl
theorem G_189_35 {sx : eSx} (pc idx : Nat) (h : eFld sx.1 idx 11 35) (lv st : List Value) (t : Nat × Nat × Bool) (I : Nat → Nat → Int32) (L : Nat → Nat → Int64) (V : Nat → Option Nat) : eDen (sx := sx) (p_get pc idx 11 35 h) (lv, .ref 189 :: st, mM t I L V) = some (none, (lv, .int (I 189 35) :: st, mM t I L V)) := id rfl
theorem P_189_35 {sx : eSx} (pc idx : Nat) (h : eFld sx.1 idx 11 35) (h2 : ((eClT 11 35).2.2.2 = false ∨ ((eClT 11 35).2.2.2 = true ∧ sx.2.1 = true ∧ (eClT 11 35).1 = sx.1))) (lv st : List Value) (t : Nat × Nat × Bool) (I : Nat → Nat → Int32) (L : Nat → Nat → Int64) (V : Nat → Option Nat) (x : Int32) : eDen (sx := sx) (p_put pc idx 11 35 h h2) (lv, .int x :: .ref 189 :: st, mM t I L V) = some (none, (lv, st, mM t (si I 189 35 x) L V)) := id rfl
theorem G_189_36 {sx : eSx} (pc idx : Nat) (h : eFld sx.1 idx 11 36) (lv st : List Value) (t : Nat × Nat × Bool) (I : Nat → Nat → Int32) (L : Nat → Nat → Int64) (V : Nat → Option Nat) : eDen (sx := sx) (p_get pc idx 11 36 h) (lv, .ref 189 :: st, mM t I L V) = some (none, (lv, .int (I 189 36) :: st, mM t I L V)) := id rfl
theorem P_189_36 {sx : eSx} (pc idx : Nat) (h : eFld sx.1 idx 11 36) (h2 : ((eClT 11 36).2.2.2 = false ∨ ((eClT 11 36).2.2.2 = true ∧ sx.2.1 = true ∧ (eClT 11 36).1 = sx.1))) (lv st : List Value) (t : Nat × Nat × Bool) (I : Nat → Nat → Int32) (L : Nat → Nat → Int64) (V : Nat → Option Nat) (x : Int32) : eDen (sx := sx) (p_put pc idx 11 36 h h2) (lv, .int x :: .ref 189 :: st, mM t I L V) = some (none, (lv, st, mM t (si I 189 36 x) L V)) := id rfl
theorem G_189_37 {sx : eSx} (pc idx : Nat) (h : eFld sx.1 idx 11 37) (lv st : List Value) (t : Nat × Nat × Bool) (I : Nat → Nat → Int32) (L : Nat → Nat → Int64) (V : Nat → Option Nat) : eDen (sx := sx) (p_get pc idx 11 37 h) (lv, .ref 189 :: st, mM t I L V) = some (none, (lv, .int (I 189 37) :: st, mM t I L V)) := id rfl
theorem P_189_37 {sx : eSx} (pc idx : Nat) (h : eFld sx.1 idx 11 37) (h2 : ((eClT 11 37).2.2.2 = false ∨ ((eClT 11 37).2.2.2 = true ∧ sx.2.1 = true ∧ (eClT 11 37).1 = sx.1))) (lv st : List Value) (t : Nat × Nat × Bool) (I : Nat → Nat → Int32) (L : Nat → Nat → Int64) (V : Nat → Option Nat) (x : Int32) : eDen (sx := sx) (p_put pc idx 11 37 h h2) (lv, .int x :: .ref 189 :: st, mM t I L V) = some (none, (lv, st, mM t (si I 189 37 x) L V)) := id rfl
theorem G_189_38 {sx : eSx} (pc idx : Nat) (h : eFld sx.1 idx 11 38) (lv st : List Value) (t : Nat × Nat × Bool) (I : Nat → Nat → Int32) (L : Nat → Nat → Int64) (V : Nat → Option Nat) : eDen (sx := sx) (p_get pc idx 11 38 h) (lv, .ref 189 :: st, mM t I L V) = some (none, (lv, .ref 203 :: st, mM t I L V)) := id rfl
theorem G_189_39 {sx : eSx} (pc idx : Nat) (h : eFld sx.1 idx 11 39) (lv st : List Value) (t : Nat × Nat × Bool) (I : Nat → Nat → Int32) (L : Nat → Nat → Int64) (V : Nat → Option Nat) : eDen (sx := sx) (p_get pc idx 11 39 h) (lv, .ref 189 :: st, mM t I L V) = some (none, (lv, .long (L 189 39) :: st, mM t I L V)) := id rfl
theorem P_189_39 {sx : eSx} (pc idx : Nat) (h : eFld sx.1 idx 11 39) (h2 : ((eClT 11 39).2.2.2 = false ∨ ((eClT 11 39).2.2.2 = true ∧ sx.2.1 = true ∧ (eClT 11 39).1 = sx.1))) (lv st : List Value) (t : Nat × Nat × Bool) (I : Nat → Nat → Int32) (L : Nat → Nat → Int64) (V : Nat → Option Nat) (x : Int64) : eDen (sx := sx) (p_put pc idx 11 39 h h2) (lv, .long x :: .ref 189 :: st, mM t I L V) = some (none, (lv, st, mM t I (sl L 189 39 x) V)) := id rfl
theorem G_189_40 {sx : eSx} (pc idx : Nat) (h : eFld sx.1 idx 11 40) (lv st : List Value) (t : Nat × Nat × Bool) (I : Nat → Nat → Int32) (L : Nat → Nat → Int64) (V : Nat → Option Nat) : eDen (sx := sx) (p_get pc idx 11 40 h) (lv, .ref 189 :: st, mM t I L V) = some (none, (lv, .long (L 189 40) :: st, mM t I L V)) := id rfl
theorem P_189_40 {sx : eSx} (pc idx : Nat) (h : eFld sx.1 idx 11 40) (h2 : ((eClT 11 40).2.2.2 = false ∨ ((eClT 11 40).2.2.2 = true ∧ sx.2.1 = true ∧ (eClT 11 40).1 = sx.1))) (lv st : List Value) (t : Nat × Nat × Bool) (I : Nat → Nat → Int32) (L : Nat → Nat → Int64) (V : Nat → Option Nat) (x : Int64) : eDen (sx := sx) (p_put pc idx 11 40 h h2) (lv, .long x :: .ref 189 :: st, mM t I L V) = some (none, (lv, st, mM t I (sl L 189 40 x) V)) := id rfl
theorem G_189_41 {sx : eSx} (pc idx : Nat) (h : eFld sx.1 idx 11 41) (lv st : List Value) (t : Nat × Nat × Bool) (I : Nat → Nat → Int32) (L : Nat → Nat → Int64) (V : Nat → Option Nat) : eDen (sx := sx) (p_get pc idx 11 41 h) (lv, .ref 189 :: st, mM t I L V) = some (none, (lv, .ref 204 :: st, mM t I L V)) := id rfl
theorem G_189_42 {sx : eSx} (pc idx : Nat) (h : eFld sx.1 idx 11 42) (lv st : List Value) (t : Nat × Nat × Bool) (I : Nat → Nat → Int32) (L : Nat → Nat → Int64) (V : Nat → Option Nat) : eDen (sx := sx) (p_get pc idx 11 42 h) (lv, .ref 189 :: st, mM t I L V) = some (none, (lv, .ref 205 :: st, mM t I L V)) := id rfl
theorem G_189_43 {sx : eSx} (pc idx : Nat) (h : eFld sx.1 idx 11 43) (lv st : List Value) (t : Nat × Nat × Bool) (I : Nat → Nat → Int32) (L : Nat → Nat → Int64) (V : Nat → Option Nat) : eDen (sx := sx) (p_get pc idx 11 43 h) (lv, .ref 189 :: st, mM t I L V) = some (none, (lv, .ref 206 :: st, mM t I L V)) := id rfl
theorem G_189_44 {sx : eSx} (pc idx : Nat) (h : eFld sx.1 idx 11 44) (lv st : List Value) (t : Nat × Nat × Bool) (I : Nat → Nat → Int32) (L : Nat → Nat → Int64) (V : Nat → Option Nat) : eDen (sx := sx) (p_get pc idx 11 44 h) (lv, .ref 189 :: st, mM t I L V) = some (none, (lv, .ref 207 :: st, mM t I L V)) := id rfl
theorem G_189_45 {sx : eSx} (pc idx : Nat) (h : eFld sx.1 idx 11 45) (lv st : List Value) (t : Nat × Nat × Bool) (I : Nat → Nat → Int32) (L : Nat → Nat → Int64) (V : Nat → Option Nat) : eDen (sx := sx) (p_get pc idx 11 45 h) (lv, .ref 189 :: st, mM t I L V) = some (none, (lv, .ref 208 :: st, mM t I L V)) := id rfl
theorem G_189_46 {sx : eSx} (pc idx : Nat) (h : eFld sx.1 idx 11 46) (lv st : List Value) (t : Nat × Nat × Bool) (I : Nat → Nat → Int32) (L : Nat → Nat → Int64) (V : Nat → Option Nat) : eDen (sx := sx) (p_get pc idx 11 46 h) (lv, .ref 189 :: st, mM t I L V) = some (none, (lv, .ref 209 :: st, mM t I L V)) := id rfl
theorem G_189_47 {sx : eSx} (pc idx : Nat) (h : eFld sx.1 idx 11 47) (lv st : List Value) (t : Nat × Nat × Bool) (I : Nat → Nat → Int32) (L : Nat → Nat → Int64) (V : Nat → Option Nat) : eDen (sx := sx) (p_get pc idx 11 47 h) (lv, .ref 189 :: st, mM t I L V) = some (none, (lv, .ref 210 :: st, mM t I L V)) := id rfl
theorem G_189_48 {sx : eSx} (pc idx : Nat) (h : eFld sx.1 idx 11 48) (lv st : List Value) (t : Nat × Nat × Bool) (I : Nat → Nat → Int32) (L : Nat → Nat → Int64) (V : Nat → Option Nat) : eDen (sx := sx) (p_get pc idx 11 48 h) (lv, .ref 189 :: st, mM t I L V) = some (none, (lv, .int (I 189 48) :: st, mM t I L V)) := id rfl
theorem P_189_48 {sx : eSx} (pc idx : Nat) (h : eFld sx.1 idx 11 48) (h2 : ((eClT 11 48).2.2.2 = false ∨ ((eClT 11 48).2.2.2 = true ∧ sx.2.1 = true ∧ (eClT 11 48).1 = sx.1))) (lv st : List Value) (t : Nat × Nat × Bool) (I : Nat → Nat → Int32) (L : Nat → Nat → Int64) (V : Nat → Option Nat) (x : Int32) : eDen (sx := sx) (p_put pc idx 11 48 h h2) (lv, .int x :: .ref 189 :: st, mM t I L V) = some (none, (lv, st, mM t (si I 189 48 x) L V)) := id rfl
theorem G_189_49 {sx : eSx} (pc idx : Nat) (h : eFld sx.1 idx 11 49) (lv st : List Value) (t : Nat × Nat × Bool) (I : Nat → Nat → Int32) (L : Nat → Nat → Int64) (V : Nat → Option Nat) : eDen (sx := sx) (p_get pc idx 11 49 h) (lv, .ref 189 :: st, mM t I L V) = some (none, (lv, .int (I 189 49) :: st, mM t I L V)) := id rfl
theorem P_189_49 {sx : eSx} (pc idx : Nat) (h : eFld sx.1 idx 11 49) (h2 : ((eClT 11 49).2.2.2 = false ∨ ((eClT 11 49).2.2.2 = true ∧ sx.2.1 = true ∧ (eClT 11 49).1 = sx.1))) (lv st : List Value) (t : Nat × Nat × Bool) (I : Nat → Nat → Int32) (L : Nat → Nat → Int64) (V : Nat → Option Nat) (x : Int32) : eDen (sx := sx) (p_put pc idx 11 49 h h2) (lv, .int x :: .ref 189 :: st, mM t I L V) = some (none, (lv, st, mM t (si I 189 49 x) L V)) := id rfl
theorem G_189_50 {sx : eSx} (pc idx : Nat) (h : eFld sx.1 idx 11 50) (lv st : List Value) (t : Nat × Nat × Bool) (I : Nat → Nat → Int32) (L : Nat → Nat → Int64) (V : Nat → Option Nat) : eDen (sx := sx) (p_get pc idx 11 50 h) (lv, .ref 189 :: st, mM t I L V) = some (none, (lv, .int (I 189 50) :: st, mM t I L V)) := id rfl
theorem P_189_50 {sx : eSx} (pc idx : Nat) (h : eFld sx.1 idx 11 50) (h2 : ((eClT 11 50).2.2.2 = false ∨ ((eClT 11 50).2.2.2 = true ∧ sx.2.1 = true ∧ (eClT 11 50).1 = sx.1))) (lv st : List Value) (t : Nat × Nat × Bool) (I : Nat → Nat → Int32) (L : Nat → Nat → Int64) (V : Nat → Option Nat) (x : Int32) : eDen (sx := sx) (p_put pc idx 11 50 h h2) (lv, .int x :: .ref 189 :: st, mM t I L V) = some (none, (lv, st, mM t (si I 189 50 x) L V)) := id rfl
theorem G_189_51 {sx : eSx} (pc idx : Nat) (h : eFld sx.1 idx 11 51) (lv st : List Value) (t : Nat × Nat × Bool) (I : Nat → Nat → Int32) (L : Nat → Nat → Int64) (V : Nat → Option Nat) : eDen (sx := sx) (p_get pc idx 11 51 h) (lv, .ref 189 :: st, mM t I L V) = some (none, (lv, .int (I 189 51) :: st, mM t I L V)) := id rfl
theorem P_189_51 {sx : eSx} (pc idx : Nat) (h : eFld sx.1 idx 11 51) (h2 : ((eClT 11 51).2.2.2 = false ∨ ((eClT 11 51).2.2.2 = true ∧ sx.2.1 = true ∧ (eClT 11 51).1 = sx.1))) (lv st : List Value) (t : Nat × Nat × Bool) (I : Nat → Nat → Int32) (L : Nat → Nat → Int64) (V : Nat → Option Nat) (x : Int32) : eDen (sx := sx) (p_put pc idx 11 51 h h2) (lv, .int x :: .ref 189 :: st, mM t I L V) = some (none, (lv, st, mM t (si I 189 51 x) L V)) := id rfl
theorem G_189_52 {sx : eSx} (pc idx : Nat) (h : eFld sx.1 idx 11 52) (lv st : List Value) (t : Nat × Nat × Bool) (I : Nat → Nat → Int32) (L : Nat → Nat → Int64) (V : Nat → Option Nat) : eDen (sx := sx) (p_get pc idx 11 52 h) (lv, .ref 189 :: st, mM t I L V) = some (none, (lv, .ref 211 :: st, mM t I L V)) := id rfl
theorem G_189_53 {sx : eSx} (pc idx : Nat) (h : eFld sx.1 idx 11 53) (lv st : List Value) (t : Nat × Nat × Bool) (I : Nat → Nat → Int32) (L : Nat → Nat → Int64) (V : Nat → Option Nat) : eDen (sx := sx) (p_get pc idx 11 53 h) (lv, .ref 189 :: st, mM t I L V) = some (none, (lv, .int (I 189 53) :: st, mM t I L V)) := id rfl
theorem P_189_53 {sx : eSx} (pc idx : Nat) (h : eFld sx.1 idx 11 53) (h2 : ((eClT 11 53).2.2.2 = false ∨ ((eClT 11 53).2.2.2 = true ∧ sx.2.1 = true ∧ (eClT 11 53).1 = sx.1))) (lv st : List Value) (t : Nat × Nat × Bool) (I : Nat → Nat → Int32) (L : Nat → Nat → Int64) (V : Nat → Option Nat) (x : Int32) : eDen (sx := sx) (p_put pc idx 11 53 h h2) (lv, .int x :: .ref 189 :: st, mM t I L V) = some (none, (lv, st, mM t (si I 189 53 x) L V)) := id rfl
theorem G_189_54 {sx : eSx} (pc idx : Nat) (h : eFld sx.1 idx 11 54) (lv st : List Value) (t : Nat × Nat × Bool) (I : Nat → Nat → Int32) (L : Nat → Nat → Int64) (V : Nat → Option Nat) : eDen (sx := sx) (p_get pc idx 11 54 h) (lv, .ref 189 :: st, mM t I L V) = some (none, (lv, .int (I 189 54) :: st, mM t I L V)) := id rfl
theorem P_189_54 {sx : eSx} (pc idx : Nat) (h : eFld sx.1 idx 11 54) (h2 : ((eClT 11 54).2.2.2 = false ∨ ((eClT 11 54).2.2.2 = true ∧ sx.2.1 = true ∧ (eClT 11 54).1 = sx.1))) (lv st : List Value) (t : Nat × Nat × Bool) (I : Nat → Nat → Int32) (L : Nat → Nat → Int64) (V : Nat → Option Nat) (x : Int32) : eDen (sx := sx) (p_put pc idx 11 54 h h2) (lv, .int x :: .ref 189 :: st, mM t I L V) = if x = 0 ∨ x = 1 then some (none, (lv, st, mM t (si I 189 54 x) L V)) else none := by
  show Option.map _ (Option.map _ (if x = 0 ∨ x = 1 then _ else none)) = _
  split <;> rfl
theorem R_189 (l : List Value) (t : Nat × Nat × Bool) (I : Nat → Nat → Int32) (L : Nat → Nat → Int64) (V : Nat → Option Nat) : eRcv 11 (.ref 189 :: l) (mM t I L V) = true := id rfl
theorem A_190 {sx : eSx} (pc : Nat) (lv st : List Value) (t : Nat × Nat × Bool) (I : Nat → Nat → Int32) (L : Nat → Nat → Int64) (V : Nat → Option Nat) (i : Int32) : eDen (sx := sx) (p_iald pc) (lv, .int i :: .ref 190 :: st, mM t I L V) = vLd (eIx i 400) (fun j => .int (I 190 j)) lv st (mM t I L V) := by
  show Option.map _ (Option.map _ (eIx i 400)) = _
  cases eIx i 400 <;> rfl
theorem S_190 {sx : eSx} (pc : Nat) (lv st : List Value) (t : Nat × Nat × Bool) (I : Nat → Nat → Int32) (L : Nat → Nat → Int64) (V : Nat → Option Nat) (i : Int32) (x : Int32) : eDen (sx := sx) (p_iast pc) (lv, .int x :: .int i :: .ref 190 :: st, mM t I L V) = vSt (eIx i 400) (fun j => mM t (si I 190 j x) L V) lv st := by
  show Option.map _ (Option.map _ (eIx i 400)) = _
  cases eIx i 400 <;> rfl
theorem N_190 {sx : eSx} (pc : Nat) (lv st : List Value) (t : Nat × Nat × Bool) (I : Nat → Nat → Int32) (L : Nat → Nat → Int64) (V : Nat → Option Nat) : eDen (sx := sx) (p_alen pc) (lv, .ref 190 :: st, mM t I L V) = some (none, (lv, .int (nI 400) :: st, mM t I L V)) := id rfl
theorem A_191 {sx : eSx} (pc : Nat) (lv st : List Value) (t : Nat × Nat × Bool) (I : Nat → Nat → Int32) (L : Nat → Nat → Int64) (V : Nat → Option Nat) (i : Int32) : eDen (sx := sx) (p_iald pc) (lv, .int i :: .ref 191 :: st, mM t I L V) = vLd (eIx i 457) (fun j => .int (I 191 j)) lv st (mM t I L V) := by
  show Option.map _ (Option.map _ (eIx i 457)) = _
  cases eIx i 457 <;> rfl
theorem S_191 {sx : eSx} (pc : Nat) (lv st : List Value) (t : Nat × Nat × Bool) (I : Nat → Nat → Int32) (L : Nat → Nat → Int64) (V : Nat → Option Nat) (i : Int32) (x : Int32) : eDen (sx := sx) (p_iast pc) (lv, .int x :: .int i :: .ref 191 :: st, mM t I L V) = vSt (eIx i 457) (fun j => mM t (si I 191 j x) L V) lv st := by
  show Option.map _ (Option.map _ (eIx i 457)) = _
  cases eIx i 457 <;> rfl
theorem N_191 {sx : eSx} (pc : Nat) (lv st : List Value) (t : Nat × Nat × Bool) (I : Nat → Nat → Int32) (L : Nat → Nat → Int64) (V : Nat → Option Nat) : eDen (sx := sx) (p_alen pc) (lv, .ref 191 :: st, mM t I L V) = some (none, (lv, .int (nI 457) :: st, mM t I L V)) := id rfl
theorem A_192 {sx : eSx} (pc : Nat) (lv st : List Value) (t : Nat × Nat × Bool) (I : Nat → Nat → Int32) (L : Nat → Nat → Int64) (V : Nat → Option Nat) (i : Int32) : eDen (sx := sx) (p_iald pc) (lv, .int i :: .ref 192 :: st, mM t I L V) = vLd (eIx i 457) (fun j => .int (I 192 j)) lv st (mM t I L V) := by
  show Option.map _ (Option.map _ (eIx i 457)) = _
  cases eIx i 457 <;> rfl
theorem S_192 {sx : eSx} (pc : Nat) (lv st : List Value) (t : Nat × Nat × Bool) (I : Nat → Nat → Int32) (L : Nat → Nat → Int64) (V : Nat → Option Nat) (i : Int32) (x : Int32) : eDen (sx := sx) (p_iast pc) (lv, .int x :: .int i :: .ref 192 :: st, mM t I L V) = vSt (eIx i 457) (fun j => mM t (si I 192 j x) L V) lv st := by
  show Option.map _ (Option.map _ (eIx i 457)) = _
  cases eIx i 457 <;> rfl
theorem N_192 {sx : eSx} (pc : Nat) (lv st : List Value) (t : Nat × Nat × Bool) (I : Nat → Nat → Int32) (L : Nat → Nat → Int64) (V : Nat → Option Nat) : eDen (sx := sx) (p_alen pc) (lv, .ref 192 :: st, mM t I L V) = some (none, (lv, .int (nI 457) :: st, mM t I L V)) := id rfl
theorem A_193 {sx : eSx} (pc : Nat) (lv st : List Value) (t : Nat × Nat × Bool) (I : Nat → Nat → Int32) (L : Nat → Nat → Int64) (V : Nat → Option Nat) (i : Int32) : eDen (sx := sx) (p_iald pc) (lv, .int i :: .ref 193 :: st, mM t I L V) = vLd (eIx i 2742) (fun j => .int (I 193 j)) lv st (mM t I L V) := by
  show Option.map _ (Option.map _ (eIx i 2742)) = _
  cases eIx i 2742 <;> rfl
theorem S_193 {sx : eSx} (pc : Nat) (lv st : List Value) (t : Nat × Nat × Bool) (I : Nat → Nat → Int32) (L : Nat → Nat → Int64) (V : Nat → Option Nat) (i : Int32) (x : Int32) : eDen (sx := sx) (p_iast pc) (lv, .int x :: .int i :: .ref 193 :: st, mM t I L V) = vSt (eIx i 2742) (fun j => mM t (si I 193 j x) L V) lv st := by
  show Option.map _ (Option.map _ (eIx i 2742)) = _
  cases eIx i 2742 <;> rfl
theorem N_193 {sx : eSx} (pc : Nat) (lv st : List Value) (t : Nat × Nat × Bool) (I : Nat → Nat → Int32) (L : Nat → Nat → Int64) (V : Nat → Option Nat) : eDen (sx := sx) (p_alen pc) (lv, .ref 193 :: st, mM t I L V) = some (none, (lv, .int (nI 2742) :: st, mM t I L V)) := id rfl
theorem A_194 {sx : eSx} (pc : Nat) (lv st : List Value) (t : Nat × Nat × Bool) (I : Nat → Nat → Int32) (L : Nat → Nat → Int64) (V : Nat → Option Nat) (i : Int32) : eDen (sx := sx) (p_iald pc) (lv, .int i :: .ref 194 :: st, mM t I L V) = vLd (eIx i 457) (fun j => .int (I 194 j)) lv st (mM t I L V) := by
  show Option.map _ (Option.map _ (eIx i 457)) = _
  cases eIx i 457 <;> rfl
theorem S_194 {sx : eSx} (pc : Nat) (lv st : List Value) (t : Nat × Nat × Bool) (I : Nat → Nat → Int32) (L : Nat → Nat → Int64) (V : Nat → Option Nat) (i : Int32) (x : Int32) : eDen (sx := sx) (p_iast pc) (lv, .int x :: .int i :: .ref 194 :: st, mM t I L V) = vSt (eIx i 457) (fun j => mM t (si I 194 j x) L V) lv st := by
  show Option.map _ (Option.map _ (eIx i 457)) = _
  cases eIx i 457 <;> rfl
theorem N_194 {sx : eSx} (pc : Nat) (lv st : List Value) (t : Nat × Nat × Bool) (I : Nat → Nat → Int32) (L : Nat → Nat → Int64) (V : Nat → Option Nat) : eDen (sx := sx) (p_alen pc) (lv, .ref 194 :: st, mM t I L V) = some (none, (lv, .int (nI 457) :: st, mM t I L V)) := id rfl
theorem A_195 {sx : eSx} (pc : Nat) (lv st : List Value) (t : Nat × Nat × Bool) (I : Nat → Nat → Int32) (L : Nat → Nat → Int64) (V : Nat → Option Nat) (i : Int32) : eDen (sx := sx) (p_iald pc) (lv, .int i :: .ref 195 :: st, mM t I L V) = vLd (eIx i 457) (fun j => .int (I 195 j)) lv st (mM t I L V) := by
  show Option.map _ (Option.map _ (eIx i 457)) = _
  cases eIx i 457 <;> rfl
theorem S_195 {sx : eSx} (pc : Nat) (lv st : List Value) (t : Nat × Nat × Bool) (I : Nat → Nat → Int32) (L : Nat → Nat → Int64) (V : Nat → Option Nat) (i : Int32) (x : Int32) : eDen (sx := sx) (p_iast pc) (lv, .int x :: .int i :: .ref 195 :: st, mM t I L V) = vSt (eIx i 457) (fun j => mM t (si I 195 j x) L V) lv st := by
  show Option.map _ (Option.map _ (eIx i 457)) = _
  cases eIx i 457 <;> rfl
theorem N_195 {sx : eSx} (pc : Nat) (lv st : List Value) (t : Nat × Nat × Bool) (I : Nat → Nat → Int32) (L : Nat → Nat → Int64) (V : Nat → Option Nat) : eDen (sx := sx) (p_alen pc) (lv, .ref 195 :: st, mM t I L V) = some (none, (lv, .int (nI 457) :: st, mM t I L V)) := id rfl
theorem A_196 {sx : eSx} (pc : Nat) (lv st : List Value) (t : Nat × Nat × Bool) (I : Nat → Nat → Int32) (L : Nat → Nat → Int64) (V : Nat → Option Nat) (i : Int32) : eDen (sx := sx) (p_iald pc) (lv, .int i :: .ref 196 :: st, mM t I L V) = vLd (eIx i 6) (fun j => .int (I 196 j)) lv st (mM t I L V) := by
  show Option.map _ (Option.map _ (eIx i 6)) = _
  cases eIx i 6 <;> rfl
theorem S_196 {sx : eSx} (pc : Nat) (lv st : List Value) (t : Nat × Nat × Bool) (I : Nat → Nat → Int32) (L : Nat → Nat → Int64) (V : Nat → Option Nat) (i : Int32) (x : Int32) : eDen (sx := sx) (p_iast pc) (lv, .int x :: .int i :: .ref 196 :: st, mM t I L V) = vSt (eIx i 6) (fun j => mM t (si I 196 j x) L V) lv st := by
  show Option.map _ (Option.map _ (eIx i 6)) = _
  cases eIx i 6 <;> rfl
theorem N_196 {sx : eSx} (pc : Nat) (lv st : List Value) (t : Nat × Nat × Bool) (I : Nat → Nat → Int32) (L : Nat → Nat → Int64) (V : Nat → Option Nat) : eDen (sx := sx) (p_alen pc) (lv, .ref 196 :: st, mM t I L V) = some (none, (lv, .int (nI 6) :: st, mM t I L V)) := id rfl
theorem A_197 {sx : eSx} (pc : Nat) (lv st : List Value) (t : Nat × Nat × Bool) (I : Nat → Nat → Int32) (L : Nat → Nat → Int64) (V : Nat → Option Nat) (i : Int32) : eDen (sx := sx) (p_iald pc) (lv, .int i :: .ref 197 :: st, mM t I L V) = vLd (eIx i 6) (fun j => .int (I 197 j)) lv st (mM t I L V) := by
  show Option.map _ (Option.map _ (eIx i 6)) = _
  cases eIx i 6 <;> rfl
theorem S_197 {sx : eSx} (pc : Nat) (lv st : List Value) (t : Nat × Nat × Bool) (I : Nat → Nat → Int32) (L : Nat → Nat → Int64) (V : Nat → Option Nat) (i : Int32) (x : Int32) : eDen (sx := sx) (p_iast pc) (lv, .int x :: .int i :: .ref 197 :: st, mM t I L V) = vSt (eIx i 6) (fun j => mM t (si I 197 j x) L V) lv st := by
  show Option.map _ (Option.map _ (eIx i 6)) = _
  cases eIx i 6 <;> rfl
theorem N_197 {sx : eSx} (pc : Nat) (lv st : List Value) (t : Nat × Nat × Bool) (I : Nat → Nat → Int32) (L : Nat → Nat → Int64) (V : Nat → Option Nat) : eDen (sx := sx) (p_alen pc) (lv, .ref 197 :: st, mM t I L V) = some (none, (lv, .int (nI 6) :: st, mM t I L V)) := id rfl
theorem A_198 {sx : eSx} (pc : Nat) (lv st : List Value) (t : Nat × Nat × Bool) (I : Nat → Nat → Int32) (L : Nat → Nat → Int64) (V : Nat → Option Nat) (i : Int32) : eDen (sx := sx) (p_iald pc) (lv, .int i :: .ref 198 :: st, mM t I L V) = vLd (eIx i 7) (fun j => .int (I 198 j)) lv st (mM t I L V) := by
  show Option.map _ (Option.map _ (eIx i 7)) = _
  cases eIx i 7 <;> rfl
theorem S_198 {sx : eSx} (pc : Nat) (lv st : List Value) (t : Nat × Nat × Bool) (I : Nat → Nat → Int32) (L : Nat → Nat → Int64) (V : Nat → Option Nat) (i : Int32) (x : Int32) : eDen (sx := sx) (p_iast pc) (lv, .int x :: .int i :: .ref 198 :: st, mM t I L V) = vSt (eIx i 7) (fun j => mM t (si I 198 j x) L V) lv st := by
  show Option.map _ (Option.map _ (eIx i 7)) = _
  cases eIx i 7 <;> rfl
theorem N_198 {sx : eSx} (pc : Nat) (lv st : List Value) (t : Nat × Nat × Bool) (I : Nat → Nat → Int32) (L : Nat → Nat → Int64) (V : Nat → Option Nat) : eDen (sx := sx) (p_alen pc) (lv, .ref 198 :: st, mM t I L V) = some (none, (lv, .int (nI 7) :: st, mM t I L V)) := id rfl
theorem A_199 {sx : eSx} (pc : Nat) (lv st : List Value) (t : Nat × Nat × Bool) (I : Nat → Nat → Int32) (L : Nat → Nat → Int64) (V : Nat → Option Nat) (i : Int32) : eDen (sx := sx) (p_iald pc) (lv, .int i :: .ref 199 :: st, mM t I L V) = vLd (eIx i 7) (fun j => .int (I 199 j)) lv st (mM t I L V) := by
  show Option.map _ (Option.map _ (eIx i 7)) = _
  cases eIx i 7 <;> rfl
theorem S_199 {sx : eSx} (pc : Nat) (lv st : List Value) (t : Nat × Nat × Bool) (I : Nat → Nat → Int32) (L : Nat → Nat → Int64) (V : Nat → Option Nat) (i : Int32) (x : Int32) : eDen (sx := sx) (p_iast pc) (lv, .int x :: .int i :: .ref 199 :: st, mM t I L V) = vSt (eIx i 7) (fun j => mM t (si I 199 j x) L V) lv st := by
  show Option.map _ (Option.map _ (eIx i 7)) = _
  cases eIx i 7 <;> rfl
theorem N_199 {sx : eSx} (pc : Nat) (lv st : List Value) (t : Nat × Nat × Bool) (I : Nat → Nat → Int32) (L : Nat → Nat → Int64) (V : Nat → Option Nat) : eDen (sx := sx) (p_alen pc) (lv, .ref 199 :: st, mM t I L V) = some (none, (lv, .int (nI 7) :: st, mM t I L V)) := id rfl
theorem A_200 {sx : eSx} (pc : Nat) (lv st : List Value) (t : Nat × Nat × Bool) (I : Nat → Nat → Int32) (L : Nat → Nat → Int64) (V : Nat → Option Nat) (i : Int32) : eDen (sx := sx) (p_iald pc) (lv, .int i :: .ref 200 :: st, mM t I L V) = vLd (eIx i 7) (fun j => .int (I 200 j)) lv st (mM t I L V) := by
  show Option.map _ (Option.map _ (eIx i 7)) = _
  cases eIx i 7 <;> rfl
theorem S_200 {sx : eSx} (pc : Nat) (lv st : List Value) (t : Nat × Nat × Bool) (I : Nat → Nat → Int32) (L : Nat → Nat → Int64) (V : Nat → Option Nat) (i : Int32) (x : Int32) : eDen (sx := sx) (p_iast pc) (lv, .int x :: .int i :: .ref 200 :: st, mM t I L V) = vSt (eIx i 7) (fun j => mM t (si I 200 j x) L V) lv st := by
  show Option.map _ (Option.map _ (eIx i 7)) = _
  cases eIx i 7 <;> rfl
theorem N_200 {sx : eSx} (pc : Nat) (lv st : List Value) (t : Nat × Nat × Bool) (I : Nat → Nat → Int32) (L : Nat → Nat → Int64) (V : Nat → Option Nat) : eDen (sx := sx) (p_alen pc) (lv, .ref 200 :: st, mM t I L V) = some (none, (lv, .int (nI 7) :: st, mM t I L V)) := id rfl
theorem A_201 {sx : eSx} (pc : Nat) (lv st : List Value) (t : Nat × Nat × Bool) (I : Nat → Nat → Int32) (L : Nat → Nat → Int64) (V : Nat → Option Nat) (i : Int32) : eDen (sx := sx) (p_iald pc) (lv, .int i :: .ref 201 :: st, mM t I L V) = vLd (eIx i 6) (fun j => .int (I 201 j)) lv st (mM t I L V) := by
  show Option.map _ (Option.map _ (eIx i 6)) = _
  cases eIx i 6 <;> rfl
theorem S_201 {sx : eSx} (pc : Nat) (lv st : List Value) (t : Nat × Nat × Bool) (I : Nat → Nat → Int32) (L : Nat → Nat → Int64) (V : Nat → Option Nat) (i : Int32) (x : Int32) : eDen (sx := sx) (p_iast pc) (lv, .int x :: .int i :: .ref 201 :: st, mM t I L V) = vSt (eIx i 6) (fun j => mM t (si I 201 j x) L V) lv st := by
  show Option.map _ (Option.map _ (eIx i 6)) = _
  cases eIx i 6 <;> rfl
theorem N_201 {sx : eSx} (pc : Nat) (lv st : List Value) (t : Nat × Nat × Bool) (I : Nat → Nat → Int32) (L : Nat → Nat → Int64) (V : Nat → Option Nat) : eDen (sx := sx) (p_alen pc) (lv, .ref 201 :: st, mM t I L V) = some (none, (lv, .int (nI 6) :: st, mM t I L V)) := id rfl
theorem A_202 {sx : eSx} (pc : Nat) (lv st : List Value) (t : Nat × Nat × Bool) (I : Nat → Nat → Int32) (L : Nat → Nat → Int64) (V : Nat → Option Nat) (i : Int32) : eDen (sx := sx) (p_iald pc) (lv, .int i :: .ref 202 :: st, mM t I L V) = vLd (eIx i 6) (fun j => .int (I 202 j)) lv st (mM t I L V) := by
  show Option.map _ (Option.map _ (eIx i 6)) = _
  cases eIx i 6 <;> rfl
theorem S_202 {sx : eSx} (pc : Nat) (lv st : List Value) (t : Nat × Nat × Bool) (I : Nat → Nat → Int32) (L : Nat → Nat → Int64) (V : Nat → Option Nat) (i : Int32) (x : Int32) : eDen (sx := sx) (p_iast pc) (lv, .int x :: .int i :: .ref 202 :: st, mM t I L V) = vSt (eIx i 6) (fun j => mM t (si I 202 j x) L V) lv st := by
  show Option.map _ (Option.map _ (eIx i 6)) = _
  cases eIx i 6 <;> rfl
theorem N_202 {sx : eSx} (pc : Nat) (lv st : List Value) (t : Nat × Nat × Bool) (I : Nat → Nat → Int32) (L : Nat → Nat → Int64) (V : Nat → Option Nat) : eDen (sx := sx) (p_alen pc) (lv, .ref 202 :: st, mM t I L V) = some (none, (lv, .int (nI 6) :: st, mM t I L V)) := id rfl
theorem A_203 {sx : eSx} (pc : Nat) (lv st : List Value) (t : Nat × Nat × Bool) (I : Nat → Nat → Int32) (L : Nat → Nat → Int64) (V : Nat → Option Nat) (i : Int32) : eDen (sx := sx) (p_lald pc) (lv, .int i :: .ref 203 :: st, mM t I L V) = vLd (eIx i 9) (fun j => .long (L 203 j)) lv st (mM t I L V) := by
  show Option.map _ (Option.map _ (eIx i 9)) = _
  cases eIx i 9 <;> rfl
theorem S_203 {sx : eSx} (pc : Nat) (lv st : List Value) (t : Nat × Nat × Bool) (I : Nat → Nat → Int32) (L : Nat → Nat → Int64) (V : Nat → Option Nat) (i : Int32) (x : Int64) : eDen (sx := sx) (p_last pc) (lv, .long x :: .int i :: .ref 203 :: st, mM t I L V) = vSt (eIx i 9) (fun j => mM t I (sl L 203 j x) V) lv st := by
  show Option.map _ (Option.map _ (eIx i 9)) = _
  cases eIx i 9 <;> rfl
theorem N_203 {sx : eSx} (pc : Nat) (lv st : List Value) (t : Nat × Nat × Bool) (I : Nat → Nat → Int32) (L : Nat → Nat → Int64) (V : Nat → Option Nat) : eDen (sx := sx) (p_alen pc) (lv, .ref 203 :: st, mM t I L V) = some (none, (lv, .int (nI 9) :: st, mM t I L V)) := id rfl
theorem A_204 {sx : eSx} (pc : Nat) (lv st : List Value) (t : Nat × Nat × Bool) (I : Nat → Nat → Int32) (L : Nat → Nat → Int64) (V : Nat → Option Nat) (i : Int32) : eDen (sx := sx) (p_lald pc) (lv, .int i :: .ref 204 :: st, mM t I L V) = vLd (eIx i 9) (fun j => .long (L 204 j)) lv st (mM t I L V) := by
  show Option.map _ (Option.map _ (eIx i 9)) = _
  cases eIx i 9 <;> rfl
theorem S_204 {sx : eSx} (pc : Nat) (lv st : List Value) (t : Nat × Nat × Bool) (I : Nat → Nat → Int32) (L : Nat → Nat → Int64) (V : Nat → Option Nat) (i : Int32) (x : Int64) : eDen (sx := sx) (p_last pc) (lv, .long x :: .int i :: .ref 204 :: st, mM t I L V) = vSt (eIx i 9) (fun j => mM t I (sl L 204 j x) V) lv st := by
  show Option.map _ (Option.map _ (eIx i 9)) = _
  cases eIx i 9 <;> rfl
theorem N_204 {sx : eSx} (pc : Nat) (lv st : List Value) (t : Nat × Nat × Bool) (I : Nat → Nat → Int32) (L : Nat → Nat → Int64) (V : Nat → Option Nat) : eDen (sx := sx) (p_alen pc) (lv, .ref 204 :: st, mM t I L V) = some (none, (lv, .int (nI 9) :: st, mM t I L V)) := id rfl
theorem A_205 {sx : eSx} (pc : Nat) (lv st : List Value) (t : Nat × Nat × Bool) (I : Nat → Nat → Int32) (L : Nat → Nat → Int64) (V : Nat → Option Nat) (i : Int32) : eDen (sx := sx) (p_iald pc) (lv, .int i :: .ref 205 :: st, mM t I L V) = vLd (eIx i 60) (fun j => .int (I 205 j)) lv st (mM t I L V) := by
  show Option.map _ (Option.map _ (eIx i 60)) = _
  cases eIx i 60 <;> rfl
theorem S_205 {sx : eSx} (pc : Nat) (lv st : List Value) (t : Nat × Nat × Bool) (I : Nat → Nat → Int32) (L : Nat → Nat → Int64) (V : Nat → Option Nat) (i : Int32) (x : Int32) : eDen (sx := sx) (p_iast pc) (lv, .int x :: .int i :: .ref 205 :: st, mM t I L V) = vSt (eIx i 60) (fun j => mM t (si I 205 j x) L V) lv st := by
  show Option.map _ (Option.map _ (eIx i 60)) = _
  cases eIx i 60 <;> rfl
theorem N_205 {sx : eSx} (pc : Nat) (lv st : List Value) (t : Nat × Nat × Bool) (I : Nat → Nat → Int32) (L : Nat → Nat → Int64) (V : Nat → Option Nat) : eDen (sx := sx) (p_alen pc) (lv, .ref 205 :: st, mM t I L V) = some (none, (lv, .int (nI 60) :: st, mM t I L V)) := id rfl
theorem A_206 {sx : eSx} (pc : Nat) (lv st : List Value) (t : Nat × Nat × Bool) (I : Nat → Nat → Int32) (L : Nat → Nat → Int64) (V : Nat → Option Nat) (i : Int32) : eDen (sx := sx) (p_iald pc) (lv, .int i :: .ref 206 :: st, mM t I L V) = vLd (eIx i 60) (fun j => .int (I 206 j)) lv st (mM t I L V) := by
  show Option.map _ (Option.map _ (eIx i 60)) = _
  cases eIx i 60 <;> rfl
theorem S_206 {sx : eSx} (pc : Nat) (lv st : List Value) (t : Nat × Nat × Bool) (I : Nat → Nat → Int32) (L : Nat → Nat → Int64) (V : Nat → Option Nat) (i : Int32) (x : Int32) : eDen (sx := sx) (p_iast pc) (lv, .int x :: .int i :: .ref 206 :: st, mM t I L V) = vSt (eIx i 60) (fun j => mM t (si I 206 j x) L V) lv st := by
  show Option.map _ (Option.map _ (eIx i 60)) = _
  cases eIx i 60 <;> rfl
theorem N_206 {sx : eSx} (pc : Nat) (lv st : List Value) (t : Nat × Nat × Bool) (I : Nat → Nat → Int32) (L : Nat → Nat → Int64) (V : Nat → Option Nat) : eDen (sx := sx) (p_alen pc) (lv, .ref 206 :: st, mM t I L V) = some (none, (lv, .int (nI 60) :: st, mM t I L V)) := id rfl
theorem A_207 {sx : eSx} (pc : Nat) (lv st : List Value) (t : Nat × Nat × Bool) (I : Nat → Nat → Int32) (L : Nat → Nat → Int64) (V : Nat → Option Nat) (i : Int32) : eDen (sx := sx) (p_iald pc) (lv, .int i :: .ref 207 :: st, mM t I L V) = vLd (eIx i 60) (fun j => .int (I 207 j)) lv st (mM t I L V) := by
  show Option.map _ (Option.map _ (eIx i 60)) = _
  cases eIx i 60 <;> rfl
theorem S_207 {sx : eSx} (pc : Nat) (lv st : List Value) (t : Nat × Nat × Bool) (I : Nat → Nat → Int32) (L : Nat → Nat → Int64) (V : Nat → Option Nat) (i : Int32) (x : Int32) : eDen (sx := sx) (p_iast pc) (lv, .int x :: .int i :: .ref 207 :: st, mM t I L V) = vSt (eIx i 60) (fun j => mM t (si I 207 j x) L V) lv st := by
  show Option.map _ (Option.map _ (eIx i 60)) = _
  cases eIx i 60 <;> rfl
theorem N_207 {sx : eSx} (pc : Nat) (lv st : List Value) (t : Nat × Nat × Bool) (I : Nat → Nat → Int32) (L : Nat → Nat → Int64) (V : Nat → Option Nat) : eDen (sx := sx) (p_alen pc) (lv, .ref 207 :: st, mM t I L V) = some (none, (lv, .int (nI 60) :: st, mM t I L V)) := id rfl
theorem A_208 {sx : eSx} (pc : Nat) (lv st : List Value) (t : Nat × Nat × Bool) (I : Nat → Nat → Int32) (L : Nat → Nat → Int64) (V : Nat → Option Nat) (i : Int32) : eDen (sx := sx) (p_iald pc) (lv, .int i :: .ref 208 :: st, mM t I L V) = vLd (eIx i 60) (fun j => .int (I 208 j)) lv st (mM t I L V) := by
  show Option.map _ (Option.map _ (eIx i 60)) = _
  cases eIx i 60 <;> rfl
theorem S_208 {sx : eSx} (pc : Nat) (lv st : List Value) (t : Nat × Nat × Bool) (I : Nat → Nat → Int32) (L : Nat → Nat → Int64) (V : Nat → Option Nat) (i : Int32) (x : Int32) : eDen (sx := sx) (p_iast pc) (lv, .int x :: .int i :: .ref 208 :: st, mM t I L V) = vSt (eIx i 60) (fun j => mM t (si I 208 j x) L V) lv st := by
  show Option.map _ (Option.map _ (eIx i 60)) = _
  cases eIx i 60 <;> rfl
theorem N_208 {sx : eSx} (pc : Nat) (lv st : List Value) (t : Nat × Nat × Bool) (I : Nat → Nat → Int32) (L : Nat → Nat → Int64) (V : Nat → Option Nat) : eDen (sx := sx) (p_alen pc) (lv, .ref 208 :: st, mM t I L V) = some (none, (lv, .int (nI 60) :: st, mM t I L V)) := id rfl
theorem A_209 {sx : eSx} (pc : Nat) (lv st : List Value) (t : Nat × Nat × Bool) (I : Nat → Nat → Int32) (L : Nat → Nat → Int64) (V : Nat → Option Nat) (i : Int32) : eDen (sx := sx) (p_iald pc) (lv, .int i :: .ref 209 :: st, mM t I L V) = vLd (eIx i 2) (fun j => .int (I 209 j)) lv st (mM t I L V) := by
  show Option.map _ (Option.map _ (eIx i 2)) = _
  cases eIx i 2 <;> rfl
theorem S_209 {sx : eSx} (pc : Nat) (lv st : List Value) (t : Nat × Nat × Bool) (I : Nat → Nat → Int32) (L : Nat → Nat → Int64) (V : Nat → Option Nat) (i : Int32) (x : Int32) : eDen (sx := sx) (p_iast pc) (lv, .int x :: .int i :: .ref 209 :: st, mM t I L V) = vSt (eIx i 2) (fun j => mM t (si I 209 j x) L V) lv st := by
  show Option.map _ (Option.map _ (eIx i 2)) = _
  cases eIx i 2 <;> rfl
theorem N_209 {sx : eSx} (pc : Nat) (lv st : List Value) (t : Nat × Nat × Bool) (I : Nat → Nat → Int32) (L : Nat → Nat → Int64) (V : Nat → Option Nat) : eDen (sx := sx) (p_alen pc) (lv, .ref 209 :: st, mM t I L V) = some (none, (lv, .int (nI 2) :: st, mM t I L V)) := id rfl
theorem A_210 {sx : eSx} (pc : Nat) (lv st : List Value) (t : Nat × Nat × Bool) (I : Nat → Nat → Int32) (L : Nat → Nat → Int64) (V : Nat → Option Nat) (i : Int32) : eDen (sx := sx) (p_iald pc) (lv, .int i :: .ref 210 :: st, mM t I L V) = vLd (eIx i 2) (fun j => .int (I 210 j)) lv st (mM t I L V) := by
  show Option.map _ (Option.map _ (eIx i 2)) = _
  cases eIx i 2 <;> rfl
theorem S_210 {sx : eSx} (pc : Nat) (lv st : List Value) (t : Nat × Nat × Bool) (I : Nat → Nat → Int32) (L : Nat → Nat → Int64) (V : Nat → Option Nat) (i : Int32) (x : Int32) : eDen (sx := sx) (p_iast pc) (lv, .int x :: .int i :: .ref 210 :: st, mM t I L V) = vSt (eIx i 2) (fun j => mM t (si I 210 j x) L V) lv st := by
  show Option.map _ (Option.map _ (eIx i 2)) = _
  cases eIx i 2 <;> rfl
theorem N_210 {sx : eSx} (pc : Nat) (lv st : List Value) (t : Nat × Nat × Bool) (I : Nat → Nat → Int32) (L : Nat → Nat → Int64) (V : Nat → Option Nat) : eDen (sx := sx) (p_alen pc) (lv, .ref 210 :: st, mM t I L V) = some (none, (lv, .int (nI 2) :: st, mM t I L V)) := id rfl
theorem A_211 {sx : eSx} (pc : Nat) (lv st : List Value) (t : Nat × Nat × Bool) (I : Nat → Nat → Int32) (L : Nat → Nat → Int64) (V : Nat → Option Nat) (i : Int32) : eDen (sx := sx) (p_iald pc) (lv, .int i :: .ref 211 :: st, mM t I L V) = vLd (eIx i 200) (fun j => .int (I 211 j)) lv st (mM t I L V) := by
  show Option.map _ (Option.map _ (eIx i 200)) = _
  cases eIx i 200 <;> rfl
theorem S_211 {sx : eSx} (pc : Nat) (lv st : List Value) (t : Nat × Nat × Bool) (I : Nat → Nat → Int32) (L : Nat → Nat → Int64) (V : Nat → Option Nat) (i : Int32) (x : Int32) : eDen (sx := sx) (p_iast pc) (lv, .int x :: .int i :: .ref 211 :: st, mM t I L V) = vSt (eIx i 200) (fun j => mM t (si I 211 j x) L V) lv st := by
  show Option.map _ (Option.map _ (eIx i 200)) = _
  cases eIx i 200 <;> rfl
theorem N_211 {sx : eSx} (pc : Nat) (lv st : List Value) (t : Nat × Nat × Bool) (I : Nat → Nat → Int32) (L : Nat → Nat → Int64) (V : Nat → Option Nat) : eDen (sx := sx) (p_alen pc) (lv, .ref 211 :: st, mM t I L V) = some (none, (lv, .int (nI 200) :: st, mM t I L V)) := id rfl
theorem A_212 {sx : eSx} (pc : Nat) (lv st : List Value) (t : Nat × Nat × Bool) (I : Nat → Nat → Int32) (L : Nat → Nat → Int64) (V : Nat → Option Nat) (i : Int32) : eDen (sx := sx) (p_lald pc) (lv, .int i :: .ref 212 :: st, mM t I L V) = vLd (eIx i 1) (fun j => .long (L 212 j)) lv st (mM t I L V) := by
  show Option.map _ (Option.map _ (eIx i 1)) = _
  cases eIx i 1 <;> rfl
theorem S_212 {sx : eSx} (pc : Nat) (lv st : List Value) (t : Nat × Nat × Bool) (I : Nat → Nat → Int32) (L : Nat → Nat → Int64) (V : Nat → Option Nat) (i : Int32) (x : Int64) : eDen (sx := sx) (p_last pc) (lv, .long x :: .int i :: .ref 212 :: st, mM t I L V) = vSt (eIx i 1) (fun j => mM t I (sl L 212 j x) V) lv st := by
  show Option.map _ (Option.map _ (eIx i 1)) = _
  cases eIx i 1 <;> rfl
theorem N_212 {sx : eSx} (pc : Nat) (lv st : List Value) (t : Nat × Nat × Bool) (I : Nat → Nat → Int32) (L : Nat → Nat → Int64) (V : Nat → Option Nat) : eDen (sx := sx) (p_alen pc) (lv, .ref 212 :: st, mM t I L V) = some (none, (lv, .int (nI 1) :: st, mM t I L V)) := id rfl
theorem v_ldc2_RX7_142 {b1 b2 : Bool} {nL : Nat} (pc : Nat) (lv st : List Value) (μ : eMem) : eDen (sx := (RX7, b1, b2, nL)) (p_ldc2 pc 142 (16384) tb648) (lv, st, μ) = some (none, (lv, .long (16384) :: st, μ)) := id rfl
theorem v_ldc2_RX7_144 {b1 b2 : Bool} {nL : Nat} (pc : Nat) (lv st : List Value) (μ : eMem) : eDen (sx := (RX7, b1, b2, nL)) (p_ldc2 pc 144 (-16384) tb649) (lv, st, μ) = some (none, (lv, .long (-16384) :: st, μ)) := id rfl
theorem v_ldc2_RX7_146 {b1 b2 : Bool} {nL : Nat} (pc : Nat) (lv st : List Value) (μ : eMem) : eDen (sx := (RX7, b1, b2, nL)) (p_ldc2 pc 146 (2) tb650) (lv, st, μ) = some (none, (lv, .long (2) :: st, μ)) := id rfl
theorem v_ldc2_RX7_148 {b1 b2 : Bool} {nL : Nat} (pc : Nat) (lv st : List Value) (μ : eMem) : eDen (sx := (RX7, b1, b2, nL)) (p_ldc2 pc 148 (1099511627776) tb651) (lv, st, μ) = some (none, (lv, .long (1099511627776) :: st, μ)) := id rfl
theorem v_ldc2_RX7_154 {b1 b2 : Bool} {nL : Nat} (pc : Nat) (lv st : List Value) (μ : eMem) : eDen (sx := (RX7, b1, b2, nL)) (p_ldc2 pc 154 (64) tb655) (lv, st, μ) = some (none, (lv, .long (64) :: st, μ)) := id rfl
theorem v_ldc2_RX7_163 {b1 b2 : Bool} {nL : Nat} (pc : Nat) (lv st : List Value) (μ : eMem) : eDen (sx := (RX7, b1, b2, nL)) (p_ldc2 pc 163 (256) tb656) (lv, st, μ) = some (none, (lv, .long (256) :: st, μ)) := id rfl
theorem v_ldc2_RX3_81 {b1 b2 : Bool} {nL : Nat} (pc : Nat) (lv st : List Value) (μ : eMem) : eDen (sx := (RX3, b1, b2, nL)) (p_ldc2 pc 81 (9999) tb461) (lv, st, μ) = some (none, (lv, .long (9999) :: st, μ)) := id rfl
theorem v_ldc2_RX7_207 {b1 b2 : Bool} {nL : Nat} (pc : Nat) (lv st : List Value) (μ : eMem) : eDen (sx := (RX7, b1, b2, nL)) (p_ldc2 pc 207 (9999) tb1108) (lv, st, μ) = some (none, (lv, .long (9999) :: st, μ)) := id rfl
theorem v_ldc2_RX7_209 {b1 b2 : Bool} {nL : Nat} (pc : Nat) (lv st : List Value) (μ : eMem) : eDen (sx := (RX7, b1, b2, nL)) (p_ldc2 pc 209 (-9999) tb1109) (lv, st, μ) = some (none, (lv, .long (-9999) :: st, μ)) := id rfl
theorem v_ldc2_RX13_190 {b1 b2 : Bool} {nL : Nat} (pc : Nat) (lv st : List Value) (μ : eMem) : eDen (sx := (RX13, b1, b2, nL)) (p_ldc2 pc 190 (540057) tb1709) (lv, st, μ) = some (none, (lv, .long (540057) :: st, μ)) := id rfl
theorem v_ldc2_RX13_212 {b1 b2 : Bool} {nL : Nat} (pc : Nat) (lv st : List Value) (μ : eMem) : eDen (sx := (RX13, b1, b2, nL)) (p_ldc2 pc 212 (52) tb1734) (lv, st, μ) = some (none, (lv, .long (52) :: st, μ)) := id rfl
theorem v_ldc2_RX13_218 {b1 b2 : Bool} {nL : Nat} (pc : Nat) (lv st : List Value) (μ : eMem) : eDen (sx := (RX13, b1, b2, nL)) (p_ldc2 pc 218 (525618) tb1743) (lv, st, μ) = some (none, (lv, .long (525618) :: st, μ)) := id rfl
theorem v_ldc2_RX13_220 {b1 b2 : Bool} {nL : Nat} (pc : Nat) (lv st : List Value) (μ : eMem) : eDen (sx := (RX13, b1, b2, nL)) (p_ldc2 pc 220 (244780) tb1744) (lv, st, μ) = some (none, (lv, .long (244780) :: st, μ)) := id rfl
theorem v_ldc2_RX13_254 {b1 b2 : Bool} {nL : Nat} (pc : Nat) (lv st : List Value) (μ : eMem) : eDen (sx := (RX13, b1, b2, nL)) (p_ldc2 pc 254 (-256) tb1780) (lv, st, μ) = some (none, (lv, .long (-256) :: st, μ)) := id rfl
theorem v_ldc2_RX13_256 {b1 b2 : Bool} {nL : Nat} (pc : Nat) (lv st : List Value) (μ : eMem) : eDen (sx := (RX13, b1, b2, nL)) (p_ldc2 pc 256 (256) tb1781) (lv, st, μ) = some (none, (lv, .long (256) :: st, μ)) := id rfl
theorem v_ldc2_RX13_287 {b1 b2 : Bool} {nL : Nat} (pc : Nat) (lv st : List Value) (μ : eMem) : eDen (sx := (RX13, b1, b2, nL)) (p_ldc2 pc 287 (2) tb1827) (lv, st, μ) = some (none, (lv, .long (2) :: st, μ)) := id rfl
theorem v_ldc2_RX13_297 {b1 b2 : Bool} {nL : Nat} (pc : Nat) (lv st : List Value) (μ : eMem) : eDen (sx := (RX13, b1, b2, nL)) (p_ldc2 pc 297 (32) tb1839) (lv, st, μ) = some (none, (lv, .long (32) :: st, μ)) := id rfl
theorem v_ldc2_RX13_302 {b1 b2 : Bool} {nL : Nat} (pc : Nat) (lv st : List Value) (μ : eMem) : eDen (sx := (RX13, b1, b2, nL)) (p_ldc2 pc 302 (9999) tb1861) (lv, st, μ) = some (none, (lv, .long (9999) :: st, μ)) := id rfl
theorem v_ldc2_RX13_323 {b1 b2 : Bool} {nL : Nat} (pc : Nat) (lv st : List Value) (μ : eMem) : eDen (sx := (RX13, b1, b2, nL)) (p_ldc2 pc 323 (6) tb1848) (lv, st, μ) = some (none, (lv, .long (6) :: st, μ)) := id rfl
theorem v_ldc2_RX13_343 {b1 b2 : Bool} {nL : Nat} (pc : Nat) (lv st : List Value) (μ : eMem) : eDen (sx := (RX13, b1, b2, nL)) (p_ldc2 pc 343 (16384) tb1910) (lv, st, μ) = some (none, (lv, .long (16384) :: st, μ)) := id rfl
theorem v_ldc2_RX13_345 {b1 b2 : Bool} {nL : Nat} (pc : Nat) (lv st : List Value) (μ : eMem) : eDen (sx := (RX13, b1, b2, nL)) (p_ldc2 pc 345 (1099511627776) tb1911) (lv, st, μ) = some (none, (lv, .long (1099511627776) :: st, μ)) := id rfl
theorem v_ldc2_RX13_351 {b1 b2 : Bool} {nL : Nat} (pc : Nat) (lv st : List Value) (μ : eMem) : eDen (sx := (RX13, b1, b2, nL)) (p_ldc2 pc 351 (64) tb1915) (lv, st, μ) = some (none, (lv, .long (64) :: st, μ)) := id rfl
theorem v_ldc2_RX13_374 {b1 b2 : Bool} {nL : Nat} (pc : Nat) (lv st : List Value) (μ : eMem) : eDen (sx := (RX13, b1, b2, nL)) (p_ldc2 pc 374 (-9999) tb1967) (lv, st, μ) = some (none, (lv, .long (-9999) :: st, μ)) := id rfl
theorem v_ldc2_RX13_400 {b1 b2 : Bool} {nL : Nat} (pc : Nat) (lv st : List Value) (μ : eMem) : eDen (sx := (RX13, b1, b2, nL)) (p_ldc2 pc 400 (-8) tb1987) (lv, st, μ) = some (none, (lv, .long (-8) :: st, μ)) := id rfl
theorem v_ldc2_RX13_402 {b1 b2 : Bool} {nL : Nat} (pc : Nat) (lv st : List Value) (μ : eMem) : eDen (sx := (RX13, b1, b2, nL)) (p_ldc2 pc 402 (8) tb1988) (lv, st, μ) = some (none, (lv, .long (8) :: st, μ)) := id rfl
theorem v_ldc2_RX13_413 {b1 b2 : Bool} {nL : Nat} (pc : Nat) (lv st : List Value) (μ : eMem) : eDen (sx := (RX13, b1, b2, nL)) (p_ldc2 pc 413 (4) tb2020) (lv, st, μ) = some (none, (lv, .long (4) :: st, μ)) := id rfl
theorem v_ldc2_RX13_439 {b1 b2 : Bool} {nL : Nat} (pc : Nat) (lv st : List Value) (μ : eMem) : eDen (sx := (RX13, b1, b2, nL)) (p_ldc2 pc 439 (200) tb2037) (lv, st, μ) = some (none, (lv, .long (200) :: st, μ)) := id rfl
theorem v_ldc2_RX13_461 {b1 b2 : Bool} {nL : Nat} (pc : Nat) (lv st : List Value) (μ : eMem) : eDen (sx := (RX13, b1, b2, nL)) (p_ldc2 pc 461 (50) tb2101) (lv, st, μ) = some (none, (lv, .long (50) :: st, μ)) := id rfl
theorem v_ldc2_RX13_481 {b1 b2 : Bool} {nL : Nat} (pc : Nat) (lv st : List Value) (μ : eMem) : eDen (sx := (RX13, b1, b2, nL)) (p_ldc2 pc 481 (99) tb2170) (lv, st, μ) = some (none, (lv, .long (99) :: st, μ)) := id rfl
theorem v_ldc2_RX13_486 {b1 b2 : Bool} {nL : Nat} (pc : Nat) (lv st : List Value) (μ : eMem) : eDen (sx := (RX13, b1, b2, nL)) (p_ldc2 pc 486 (609428933) tb2187) (lv, st, μ) = some (none, (lv, .long (609428933) :: st, μ)) := id rfl
theorem v_ldc2_RX13_488 {b1 b2 : Bool} {nL : Nat} (pc : Nat) (lv st : List Value) (μ : eMem) : eDen (sx := (RX13, b1, b2, nL)) (p_ldc2 pc 488 (20681904) tb2188) (lv, st, μ) = some (none, (lv, .long (20681904) :: st, μ)) := id rfl
theorem v_ldc2_RX13_490 {b1 b2 : Bool} {nL : Nat} (pc : Nat) (lv st : List Value) (μ : eMem) : eDen (sx := (RX13, b1, b2, nL)) (p_ldc2 pc 490 (19118) tb2189) (lv, st, μ) = some (none, (lv, .long (19118) :: st, μ)) := id rfl
theorem v_ldc2_RX13_492 {b1 b2 : Bool} {nL : Nat} (pc : Nat) (lv st : List Value) (μ : eMem) : eDen (sx := (RX13, b1, b2, nL)) (p_ldc2 pc 492 (654906404) tb2190) (lv, st, μ) = some (none, (lv, .long (654906404) :: st, μ)) := id rfl
theorem v_ldc2_RX13_494 {b1 b2 : Bool} {nL : Nat} (pc : Nat) (lv st : List Value) (μ : eMem) : eDen (sx := (RX13, b1, b2, nL)) (p_ldc2 pc 494 (20579924) tb2191) (lv, st, μ) = some (none, (lv, .long (20579924) :: st, μ)) := id rfl
theorem v_ldc2_RX13_496 {b1 b2 : Bool} {nL : Nat} (pc : Nat) (lv st : List Value) (μ : eMem) : eDen (sx := (RX13, b1, b2, nL)) (p_ldc2 pc 496 (442053) tb2192) (lv, st, μ) = some (none, (lv, .long (442053) :: st, μ)) := id rfl
theorem v_ldc2_RX13_498 {b1 b2 : Bool} {nL : Nat} (pc : Nat) (lv st : List Value) (μ : eMem) : eDen (sx := (RX13, b1, b2, nL)) (p_ldc2 pc 498 (144385157) tb2193) (lv, st, μ) = some (none, (lv, .long (144385157) :: st, μ)) := id rfl
theorem v_ldc2_RX13_500 {b1 b2 : Bool} {nL : Nat} (pc : Nat) (lv st : List Value) (μ : eMem) : eDen (sx := (RX13, b1, b2, nL)) (p_ldc2 pc 500 (609752116) tb2194) (lv, st, μ) = some (none, (lv, .long (609752116) :: st, μ)) := id rfl
