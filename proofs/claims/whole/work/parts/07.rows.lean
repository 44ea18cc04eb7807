/-! ===== the engine's instructions that read: constants, locals, arithmetic ===== -/
def eAt : List Value → Nat → Value
  | [], _ => eJ
  | v :: _, 0 => v
  | _ :: vs, n + 1 => eAt vs n
theorem eAt_spec : ∀ (vs : List Value) (i : Nat), eNJ (eAt vs i) = true → vs[i]? = some (eAt vs i) := by
  intro vs
  induction vs with
  | nil => intro i h; simp [eAt, eJ, eNJ] at h
  | cons v vs ih =>
    intro i h
    cases i with
    | zero => rfl
    | succ n =>
      rw [List.getElem?_cons_succ]
      exact ih n h
def f_iadd  : eSt → Option (List Value) := fun σ => match σ.2.1 with
  | .int y :: .int x :: r => some (.int (x + y) :: r)
  | _ => none
theorem w_iadd {sx : eSx} (pc : Nat)  : eRow sx pc 1 (.iadd) (f_iadd ) := by
  intro p l e R s m args below meth c H locs cells slots Q ls w lv st μ st' hf hlv hx hown hts hK hH hS hd k
  simp only [f_iadd] at hf
  split at hf
  · cases hf
    exact lv_iadd hx rfl hd k
  · cases hf
def p_iadd {sx : eSx} (pc : Nat)  : eP sx := eRd pc 1 (.iadd) (f_iadd ) (w_iadd pc )
def f_isub  : eSt → Option (List Value) := fun σ => match σ.2.1 with
  | .int y :: .int x :: r => some (.int (x - y) :: r)
  | _ => none
theorem w_isub {sx : eSx} (pc : Nat)  : eRow sx pc 1 (.isub) (f_isub ) := by
  intro p l e R s m args below meth c H locs cells slots Q ls w lv st μ st' hf hlv hx hown hts hK hH hS hd k
  simp only [f_isub] at hf
  split at hf
  · cases hf
    exact lv_isub hx rfl hd k
  · cases hf
def p_isub {sx : eSx} (pc : Nat)  : eP sx := eRd pc 1 (.isub) (f_isub ) (w_isub pc )
def f_imul  : eSt → Option (List Value) := fun σ => match σ.2.1 with
  | .int y :: .int x :: r => some (.int (x * y) :: r)
  | _ => none
theorem w_imul {sx : eSx} (pc : Nat)  : eRow sx pc 1 (.imul) (f_imul ) := by
  intro p l e R s m args below meth c H locs cells slots Q ls w lv st μ st' hf hlv hx hown hts hK hH hS hd k
  simp only [f_imul] at hf
  split at hf
  · cases hf
    exact lv_imul hx rfl hd k
  · cases hf
def p_imul {sx : eSx} (pc : Nat)  : eP sx := eRd pc 1 (.imul) (f_imul ) (w_imul pc )
def f_iand  : eSt → Option (List Value) := fun σ => match σ.2.1 with
  | .int y :: .int x :: r => some (.int (x &&& y) :: r)
  | _ => none
theorem w_iand {sx : eSx} (pc : Nat)  : eRow sx pc 1 (.iand) (f_iand ) := by
  intro p l e R s m args below meth c H locs cells slots Q ls w lv st μ st' hf hlv hx hown hts hK hH hS hd k
  simp only [f_iand] at hf
  split at hf
  · cases hf
    exact lv_iand hx rfl hd k
  · cases hf
def p_iand {sx : eSx} (pc : Nat)  : eP sx := eRd pc 1 (.iand) (f_iand ) (w_iand pc )
def f_ior  : eSt → Option (List Value) := fun σ => match σ.2.1 with
  | .int y :: .int x :: r => some (.int (x ||| y) :: r)
  | _ => none
theorem w_ior {sx : eSx} (pc : Nat)  : eRow sx pc 1 (.ior) (f_ior ) := by
  intro p l e R s m args below meth c H locs cells slots Q ls w lv st μ st' hf hlv hx hown hts hK hH hS hd k
  simp only [f_ior] at hf
  split at hf
  · cases hf
    exact lv_ior hx rfl hd k
  · cases hf
def p_ior {sx : eSx} (pc : Nat)  : eP sx := eRd pc 1 (.ior) (f_ior ) (w_ior pc )
def f_ixor  : eSt → Option (List Value) := fun σ => match σ.2.1 with
  | .int y :: .int x :: r => some (.int (x ^^^ y) :: r)
  | _ => none
theorem w_ixor {sx : eSx} (pc : Nat)  : eRow sx pc 1 (.ixor) (f_ixor ) := by
  intro p l e R s m args below meth c H locs cells slots Q ls w lv st μ st' hf hlv hx hown hts hK hH hS hd k
  simp only [f_ixor] at hf
  split at hf
  · cases hf
    exact lv_ixor hx rfl hd k
  · cases hf
def p_ixor {sx : eSx} (pc : Nat)  : eP sx := eRd pc 1 (.ixor) (f_ixor ) (w_ixor pc )
def f_ishl  : eSt → Option (List Value) := fun σ => match σ.2.1 with
  | .int y :: .int x :: r => some (.int (x <<< (y &&& 31)) :: r)
  | _ => none
theorem w_ishl {sx : eSx} (pc : Nat)  : eRow sx pc 1 (.ishl) (f_ishl ) := by
  intro p l e R s m args below meth c H locs cells slots Q ls w lv st μ st' hf hlv hx hown hts hK hH hS hd k
  simp only [f_ishl] at hf
  split at hf
  · cases hf
    exact lv_ishl hx rfl hd k
  · cases hf
def p_ishl {sx : eSx} (pc : Nat)  : eP sx := eRd pc 1 (.ishl) (f_ishl ) (w_ishl pc )
def f_ishr  : eSt → Option (List Value) := fun σ => match σ.2.1 with
  | .int y :: .int x :: r => some (.int (x >>> (y &&& 31)) :: r)
  | _ => none
theorem w_ishr {sx : eSx} (pc : Nat)  : eRow sx pc 1 (.ishr) (f_ishr ) := by
  intro p l e R s m args below meth c H locs cells slots Q ls w lv st μ st' hf hlv hx hown hts hK hH hS hd k
  simp only [f_ishr] at hf
  split at hf
  · cases hf
    exact lv_ishr hx rfl hd k
  · cases hf
def p_ishr {sx : eSx} (pc : Nat)  : eP sx := eRd pc 1 (.ishr) (f_ishr ) (w_ishr pc )
def f_ladd  : eSt → Option (List Value) := fun σ => match σ.2.1 with
  | .long y :: .long x :: r => some (.long (x + y) :: r)
  | _ => none
theorem w_ladd {sx : eSx} (pc : Nat)  : eRow sx pc 1 (.ladd) (f_ladd ) := by
  intro p l e R s m args below meth c H locs cells slots Q ls w lv st μ st' hf hlv hx hown hts hK hH hS hd k
  simp only [f_ladd] at hf
  split at hf
  · cases hf
    exact lv_ladd hx rfl hd k
  · cases hf
def p_ladd {sx : eSx} (pc : Nat)  : eP sx := eRd pc 1 (.ladd) (f_ladd ) (w_ladd pc )
def f_lsub  : eSt → Option (List Value) := fun σ => match σ.2.1 with
  | .long y :: .long x :: r => some (.long (x - y) :: r)
  | _ => none
theorem w_lsub {sx : eSx} (pc : Nat)  : eRow sx pc 1 (.lsub) (f_lsub ) := by
  intro p l e R s m args below meth c H locs cells slots Q ls w lv st μ st' hf hlv hx hown hts hK hH hS hd k
  simp only [f_lsub] at hf
  split at hf
  · cases hf
    exact lv_lsub hx rfl hd k
  · cases hf
def p_lsub {sx : eSx} (pc : Nat)  : eP sx := eRd pc 1 (.lsub) (f_lsub ) (w_lsub pc )
def f_lmul  : eSt → Option (List Value) := fun σ => match σ.2.1 with
  | .long y :: .long x :: r => some (.long (x * y) :: r)
  | _ => none
theorem w_lmul {sx : eSx} (pc : Nat)  : eRow sx pc 1 (.lmul) (f_lmul ) := by
  intro p l e R s m args below meth c H locs cells slots Q ls w lv st μ st' hf hlv hx hown hts hK hH hS hd k
  simp only [f_lmul] at hf
  split at hf
  · cases hf
    exact lv_lmul hx rfl hd k
  · cases hf
def p_lmul {sx : eSx} (pc : Nat)  : eP sx := eRd pc 1 (.lmul) (f_lmul ) (w_lmul pc )
def f_lor  : eSt → Option (List Value) := fun σ => match σ.2.1 with
  | .long y :: .long x :: r => some (.long (x ||| y) :: r)
  | _ => none
theorem w_lor {sx : eSx} (pc : Nat)  : eRow sx pc 1 (.lor) (f_lor ) := by
  intro p l e R s m args below meth c H locs cells slots Q ls w lv st μ st' hf hlv hx hown hts hK hH hS hd k
  simp only [f_lor] at hf
  split at hf
  · cases hf
    exact lv_lor hx rfl hd k
  · cases hf
def p_lor {sx : eSx} (pc : Nat)  : eP sx := eRd pc 1 (.lor) (f_lor ) (w_lor pc )
def f_land  : eSt → Option (List Value) := fun σ => match σ.2.1 with
  | .long y :: .long x :: r => some (.long (x &&& y) :: r)
  | _ => none
theorem w_land {sx : eSx} (pc : Nat)  : eRow sx pc 1 (.land) (f_land ) := by
  intro p l e R s m args below meth c H locs cells slots Q ls w lv st μ st' hf hlv hx hown hts hK hH hS hd k
  simp only [f_land] at hf
  split at hf
  · cases hf
    exact lv_land hx rfl hd k
  · cases hf
def p_land {sx : eSx} (pc : Nat)  : eP sx := eRd pc 1 (.land) (f_land ) (w_land pc )
def f_ineg  : eSt → Option (List Value) := fun σ => match σ.2.1 with
  | .int x :: r => some (.int (-x) :: r)
  | _ => none
theorem w_ineg {sx : eSx} (pc : Nat)  : eRow sx pc 1 (.ineg) (f_ineg ) := by
  intro p l e R s m args below meth c H locs cells slots Q ls w lv st μ st' hf hlv hx hown hts hK hH hS hd k
  simp only [f_ineg] at hf
  split at hf
  · cases hf
    exact lv_ineg hx rfl hd k
  · cases hf
def p_ineg {sx : eSx} (pc : Nat)  : eP sx := eRd pc 1 (.ineg) (f_ineg ) (w_ineg pc )
def f_lneg  : eSt → Option (List Value) := fun σ => match σ.2.1 with
  | .long x :: r => some (.long (-x) :: r)
  | _ => none
theorem w_lneg {sx : eSx} (pc : Nat)  : eRow sx pc 1 (.lneg) (f_lneg ) := by
  intro p l e R s m args below meth c H locs cells slots Q ls w lv st μ st' hf hlv hx hown hts hK hH hS hd k
  simp only [f_lneg] at hf
  split at hf
  · cases hf
    exact lv_lneg hx rfl hd k
  · cases hf
def p_lneg {sx : eSx} (pc : Nat)  : eP sx := eRd pc 1 (.lneg) (f_lneg ) (w_lneg pc )
def f_lcmp  : eSt → Option (List Value) := fun σ => match σ.2.1 with
  | .long y :: .long x :: r => some (.int (lg_cmp x y) :: r)
  | _ => none
theorem w_lcmp {sx : eSx} (pc : Nat)  : eRow sx pc 1 (.lcmp) (f_lcmp ) := by
  intro p l e R s m args below meth c H locs cells slots Q ls w lv st μ st' hf hlv hx hown hts hK hH hS hd k
  simp only [f_lcmp] at hf
  split at hf
  · cases hf
    exact W.lcmp hx rfl hd k
  · cases hf
def p_lcmp {sx : eSx} (pc : Nat)  : eP sx := eRd pc 1 (.lcmp) (f_lcmp ) (w_lcmp pc )
def f_lshl  : eSt → Option (List Value) := fun σ => match σ.2.1 with
  | .int y :: .long x :: r => some (.long (x <<< (y.toInt64 &&& 63)) :: r)
  | _ => none
theorem w_lshl {sx : eSx} (pc : Nat)  : eRow sx pc 1 (.lshl) (f_lshl ) := by
  intro p l e R s m args below meth c H locs cells slots Q ls w lv st μ st' hf hlv hx hown hts hK hH hS hd k
  simp only [f_lshl] at hf
  split at hf
  · cases hf
    exact lv_lshl hx rfl hd rfl k
  · cases hf
def p_lshl {sx : eSx} (pc : Nat)  : eP sx := eRd pc 1 (.lshl) (f_lshl ) (w_lshl pc )
def f_i2l  : eSt → Option (List Value) := fun σ => match σ.2.1 with
  | .int x :: r => some (.long x.toInt64 :: r)
  | _ => none
theorem w_i2l {sx : eSx} (pc : Nat)  : eRow sx pc 1 (.i2l) (f_i2l ) := by
  intro p l e R s m args below meth c H locs cells slots Q ls w lv st μ st' hf hlv hx hown hts hK hH hS hd k
  simp only [f_i2l] at hf
  split at hf
  · cases hf
    exact lv_i2l hx rfl hd rfl k
  · cases hf
def p_i2l {sx : eSx} (pc : Nat)  : eP sx := eRd pc 1 (.i2l) (f_i2l ) (w_i2l pc )
def f_l2i  : eSt → Option (List Value) := fun σ => match σ.2.1 with
  | .long x :: r => some (.int x.toInt32 :: r)
  | _ => none
theorem w_l2i {sx : eSx} (pc : Nat)  : eRow sx pc 1 (.l2i) (f_l2i ) := by
  intro p l e R s m args below meth c H locs cells slots Q ls w lv st μ st' hf hlv hx hown hts hK hH hS hd k
  simp only [f_l2i] at hf
  split at hf
  · cases hf
    exact lv_l2i hx rfl hd rfl k
  · cases hf
def p_l2i {sx : eSx} (pc : Nat)  : eP sx := eRd pc 1 (.l2i) (f_l2i ) (w_l2i pc )
def f_i2b  : eSt → Option (List Value) := fun σ => match σ.2.1 with
  | .int x :: r => some (.int x.toInt8.toInt32 :: r)
  | _ => none
theorem w_i2b {sx : eSx} (pc : Nat)  : eRow sx pc 1 (.i2b) (f_i2b ) := by
  intro p l e R s m args below meth c H locs cells slots Q ls w lv st μ st' hf hlv hx hown hts hK hH hS hd k
  simp only [f_i2b] at hf
  split at hf
  · cases hf
    exact lv_i2b hx rfl hd rfl k
  · cases hf
def p_i2b {sx : eSx} (pc : Nat)  : eP sx := eRd pc 1 (.i2b) (f_i2b ) (w_i2b pc )
def f_i2c  : eSt → Option (List Value) := fun σ => match σ.2.1 with
  | .int x :: r => some (.int (x.toUInt32 % 65536).toInt32 :: r)
  | _ => none
theorem w_i2c {sx : eSx} (pc : Nat)  : eRow sx pc 1 (.i2c) (f_i2c ) := by
  intro p l e R s m args below meth c H locs cells slots Q ls w lv st μ st' hf hlv hx hown hts hK hH hS hd k
  simp only [f_i2c] at hf
  split at hf
  · cases hf
    exact lv_i2c hx rfl hd rfl k
  · cases hf
def p_i2c {sx : eSx} (pc : Nat)  : eP sx := eRd pc 1 (.i2c) (f_i2c ) (w_i2c pc )
def f_i2f  : eSt → Option (List Value) := fun σ => match σ.2.1 with
  | .int x :: r => some (.float (FP.i2f x) :: r)
  | _ => none
theorem w_i2f {sx : eSx} (pc : Nat)  : eRow sx pc 1 (.i2f) (f_i2f ) := by
  intro p l e R s m args below meth c H locs cells slots Q ls w lv st μ st' hf hlv hx hown hts hK hH hS hd k
  simp only [f_i2f] at hf
  split at hf
  · cases hf
    exact lv_i2f hx rfl hd k
  · cases hf
def p_i2f {sx : eSx} (pc : Nat)  : eP sx := eRd pc 1 (.i2f) (f_i2f ) (w_i2f pc )
def f_i2d  : eSt → Option (List Value) := fun σ => match σ.2.1 with
  | .int x :: r => some (.double (FP.i2d x) :: r)
  | _ => none
theorem w_i2d {sx : eSx} (pc : Nat)  : eRow sx pc 1 (.i2d) (f_i2d ) := by
  intro p l e R s m args below meth c H locs cells slots Q ls w lv st μ st' hf hlv hx hown hts hK hH hS hd k
  simp only [f_i2d] at hf
  split at hf
  · cases hf
    exact lv_i2d hx rfl hd k
  · cases hf
def p_i2d {sx : eSx} (pc : Nat)  : eP sx := eRd pc 1 (.i2d) (f_i2d ) (w_i2d pc )
def f_idiv  : eSt → Option (List Value) := fun σ => match σ.2.1 with
  | .int y :: .int x :: r => if ¬ y = 0 then some (.int (x / y) :: r) else none
  | _ => none
theorem w_idiv {sx : eSx} (pc : Nat)  : eRow sx pc 1 (.idiv) (f_idiv ) := by
  intro p l e R s m args below meth c H locs cells slots Q ls w lv st μ st' hf hlv hx hown hts hK hH hS hd k
  simp only [f_idiv] at hf
  split at hf
  · split at hf
    · rename_i h9
      cases hf
      exact lv_idiv hx rfl hd h9 k
    · cases hf
  · cases hf
def p_idiv {sx : eSx} (pc : Nat)  : eP sx := eRd pc 1 (.idiv) (f_idiv ) (w_idiv pc )
def f_irem  : eSt → Option (List Value) := fun σ => match σ.2.1 with
  | .int y :: .int x :: r => if ¬ y = 0 then some (.int (x - x / y * y) :: r) else none
  | _ => none
theorem w_irem {sx : eSx} (pc : Nat)  : eRow sx pc 1 (.irem) (f_irem ) := by
  intro p l e R s m args below meth c H locs cells slots Q ls w lv st μ st' hf hlv hx hown hts hK hH hS hd k
  simp only [f_irem] at hf
  split at hf
  · split at hf
    · rename_i h9
      cases hf
      exact lv_irem hx rfl hd h9 k
    · cases hf
  · cases hf
def p_irem {sx : eSx} (pc : Nat)  : eP sx := eRd pc 1 (.irem) (f_irem ) (w_irem pc )
def f_ldiv  : eSt → Option (List Value) := fun σ => match σ.2.1 with
  | .long y :: .long x :: r => if ¬ y = 0 then some (.long (x / y) :: r) else none
  | _ => none
theorem w_ldiv {sx : eSx} (pc : Nat)  : eRow sx pc 1 (.ldiv) (f_ldiv ) := by
  intro p l e R s m args below meth c H locs cells slots Q ls w lv st μ st' hf hlv hx hown hts hK hH hS hd k
  simp only [f_ldiv] at hf
  split at hf
  · split at hf
    · rename_i h9
      cases hf
      exact lv_ldiv hx rfl hd h9 k
    · cases hf
  · cases hf
def p_ldiv {sx : eSx} (pc : Nat)  : eP sx := eRd pc 1 (.ldiv) (f_ldiv ) (w_ldiv pc )
def f_lrem  : eSt → Option (List Value) := fun σ => match σ.2.1 with
  | .long y :: .long x :: r => if ¬ y = 0 then some (.long (x - x / y * y) :: r) else none
  | _ => none
theorem w_lrem {sx : eSx} (pc : Nat)  : eRow sx pc 1 (.lrem) (f_lrem ) := by
  intro p l e R s m args below meth c H locs cells slots Q ls w lv st μ st' hf hlv hx hown hts hK hH hS hd k
  simp only [f_lrem] at hf
  split at hf
  · split at hf
    · rename_i h9
      cases hf
      exact lv_lrem hx rfl hd h9 k
    · cases hf
  · cases hf
def p_lrem {sx : eSx} (pc : Nat)  : eP sx := eRd pc 1 (.lrem) (f_lrem ) (w_lrem pc )
def f_fdiv  : eSt → Option (List Value) := fun σ => match σ.2.1 with
  | .float y :: .float x :: r => if FP.fdiv x y &&& 0x7fffffff ≤ 0x7f800000 then some (.float (FP.fdiv x y) :: r) else none
  | _ => none
theorem w_fdiv {sx : eSx} (pc : Nat)  : eRow sx pc 1 (.fdiv) (f_fdiv ) := by
  intro p l e R s m args below meth c H locs cells slots Q ls w lv st μ st' hf hlv hx hown hts hK hH hS hd k
  simp only [f_fdiv] at hf
  split at hf
  · split at hf
    · rename_i h9
      cases hf
      exact lv_fdiv hx rfl hd h9 k
    · cases hf
  · cases hf
def p_fdiv {sx : eSx} (pc : Nat)  : eP sx := eRd pc 1 (.fdiv) (f_fdiv ) (w_fdiv pc )
def f_ddiv  : eSt → Option (List Value) := fun σ => match σ.2.1 with
  | .double y :: .double x :: r => if FP.ddiv x y &&& 0x7fffffffffffffff ≤ 0x7ff0000000000000 then some (.double (FP.ddiv x y) :: r) else none
  | _ => none
theorem w_ddiv {sx : eSx} (pc : Nat)  : eRow sx pc 1 (.ddiv) (f_ddiv ) := by
  intro p l e R s m args below meth c H locs cells slots Q ls w lv st μ st' hf hlv hx hown hts hK hH hS hd k
  simp only [f_ddiv] at hf
  split at hf
  · split at hf
    · rename_i h9
      cases hf
      exact lv_ddiv hx rfl hd h9 k
    · cases hf
  · cases hf
def p_ddiv {sx : eSx} (pc : Nat)  : eP sx := eRd pc 1 (.ddiv) (f_ddiv ) (w_ddiv pc )
def f_f2d  : eSt → Option (List Value) := fun σ => match σ.2.1 with
  | .float x :: r => if FP.f2d x &&& 0x7fffffffffffffff ≤ 0x7ff0000000000000 then some (.double (FP.f2d x) :: r) else none
  | _ => none
theorem w_f2d {sx : eSx} (pc : Nat)  : eRow sx pc 1 (.f2d) (f_f2d ) := by
  intro p l e R s m args below meth c H locs cells slots Q ls w lv st μ st' hf hlv hx hown hts hK hH hS hd k
  simp only [f_f2d] at hf
  split at hf
  · split at hf
    · rename_i h9
      cases hf
      exact lv_f2d hx rfl hd h9 k
    · cases hf
  · cases hf
def p_f2d {sx : eSx} (pc : Nat)  : eP sx := eRd pc 1 (.f2d) (f_f2d ) (w_f2d pc )
def f_dcmp (op : CmpOp) : eSt → Option (List Value) := fun σ => match σ.2.1 with
  | .double y :: .double x :: r => some (.int (Op.cmpValue (FP.dcmp x y) op) :: r)
  | _ => none
theorem w_dcmp {sx : eSx} (pc : Nat) (op : CmpOp) : eRow sx pc 1 (.dcmp op) (f_dcmp op) := by
  intro p l e R s m args below meth c H locs cells slots Q ls w lv st μ st' hf hlv hx hown hts hK hH hS hd k
  simp only [f_dcmp] at hf
  split at hf
  · cases hf
    exact lv_dcmp hx rfl hd k
  · cases hf
def p_dcmp {sx : eSx} (pc : Nat) (op : CmpOp) : eP sx := eRd pc 1 (.dcmp op) (f_dcmp op) (w_dcmp pc op)
def f_iconst (n : Int) : eSt → Option (List Value) := fun σ => match σ.2.1 with
  | r => some (.int (Int32.ofInt n) :: r)
theorem w_iconst {sx : eSx} (pc : Nat) (n : Int) : eRow sx pc 1 (.iconst n) (f_iconst n) := by
  intro p l e R s m args below meth c H locs cells slots Q ls w lv st μ st' hf hlv hx hown hts hK hH hS hd k
  simp only [f_iconst] at hf
  cases hf
  exact lv_iconst hx rfl hd rfl k
def p_iconst {sx : eSx} (pc : Nat) (n : Int) : eP sx := eRd pc 1 (.iconst n) (f_iconst n) (w_iconst pc n)
def f_bipush (n : Int) : eSt → Option (List Value) := fun σ => match σ.2.1 with
  | r => some (.int (Int8.ofInt n).toInt32 :: r)
theorem w_bipush {sx : eSx} (pc : Nat) (n : Int) : eRow sx pc 2 (.bipush n) (f_bipush n) := by
  intro p l e R s m args below meth c H locs cells slots Q ls w lv st μ st' hf hlv hx hown hts hK hH hS hd k
  simp only [f_bipush] at hf
  cases hf
  exact lv_bipush hx rfl hd rfl k
def p_bipush {sx : eSx} (pc : Nat) (n : Int) : eP sx := eRd pc 2 (.bipush n) (f_bipush n) (w_bipush pc n)
def f_sipush (n : Int) : eSt → Option (List Value) := fun σ => match σ.2.1 with
  | r => some (.int (Int16.ofInt n).toInt32 :: r)
theorem w_sipush {sx : eSx} (pc : Nat) (n : Int) : eRow sx pc 3 (.sipush n) (f_sipush n) := by
  intro p l e R s m args below meth c H locs cells slots Q ls w lv st μ st' hf hlv hx hown hts hK hH hS hd k
  simp only [f_sipush] at hf
  cases hf
  exact lv_sipush hx rfl hd rfl k
def p_sipush {sx : eSx} (pc : Nat) (n : Int) : eP sx := eRd pc 3 (.sipush n) (f_sipush n) (w_sipush pc n)
def f_lconst (n : Fin 2) : eSt → Option (List Value) := fun σ => match σ.2.1 with
  | r => some (.long (Int64.ofNat (n : Nat)) :: r)
theorem w_lconst {sx : eSx} (pc : Nat) (n : Fin 2) : eRow sx pc 1 (.lconst n) (f_lconst n) := by
  intro p l e R s m args below meth c H locs cells slots Q ls w lv st μ st' hf hlv hx hown hts hK hH hS hd k
  simp only [f_lconst] at hf
  cases hf
  exact lv_lconst hx rfl hd rfl k
def p_lconst {sx : eSx} (pc : Nat) (n : Fin 2) : eP sx := eRd pc 1 (.lconst n) (f_lconst n) (w_lconst pc n)
def f_null  : eSt → Option (List Value) := fun σ => match σ.2.1 with
  | r => some (.null :: r)
theorem w_null {sx : eSx} (pc : Nat)  : eRow sx pc 1 (.aconst_null) (f_null ) := by
  intro p l e R s m args below meth c H locs cells slots Q ls w lv st μ st' hf hlv hx hown hts hK hH hS hd k
  simp only [f_null] at hf
  cases hf
  exact lv_null hx rfl hd k
def p_null {sx : eSx} (pc : Nat)  : eP sx := eRd pc 1 (.aconst_null) (f_null ) (w_null pc )
def f_fconst0  : eSt → Option (List Value) := fun σ => match σ.2.1 with
  | r => some (.float FP.fconst0 :: r)
theorem w_fconst0 {sx : eSx} (pc : Nat)  : eRow sx pc 1 (.fconst 0) (f_fconst0 ) := by
  intro p l e R s m args below meth c H locs cells slots Q ls w lv st μ st' hf hlv hx hown hts hK hH hS hd k
  simp only [f_fconst0] at hf
  cases hf
  exact lv_fconst0 hx rfl hd k
def p_fconst0 {sx : eSx} (pc : Nat)  : eP sx := eRd pc 1 (.fconst 0) (f_fconst0 ) (w_fconst0 pc )
def f_dconst0  : eSt → Option (List Value) := fun σ => match σ.2.1 with
  | r => some (.double FP.dconst0 :: r)
theorem w_dconst0 {sx : eSx} (pc : Nat)  : eRow sx pc 1 (.dconst 0) (f_dconst0 ) := by
  intro p l e R s m args below meth c H locs cells slots Q ls w lv st μ st' hf hlv hx hown hts hK hH hS hd k
  simp only [f_dconst0] at hf
  cases hf
  exact lv_dconst0 hx rfl hd k
def p_dconst0 {sx : eSx} (pc : Nat)  : eP sx := eRd pc 1 (.dconst 0) (f_dconst0 ) (w_dconst0 pc )
def f_ldc2 (v : Int64) : eSt → Option (List Value) := fun σ => some (.long v :: σ.2.1)
theorem w_ldc2 {sx : eSx} (pc idx : Nat) (v : Int64) (hw : Cond.constantLong sx.1 idx v ∈ eTB) : eRow sx pc 3 (.ldc2_w idx) (f_ldc2 v) := by
  intro p l e R s m args below meth c H locs cells slots Q ls w lv st μ st' hf hlv hx hown hts hK hH hS hd k
  cases hf
  exact lv_ldc2 hx rfl hown (hts _ hw) hd k
def p_ldc2 {sx : eSx} (pc idx : Nat) (v : Int64) (hw : Cond.constantLong sx.1 idx v ∈ eTB) : eP sx := eRd pc 3 (.ldc2_w idx) (f_ldc2 v) (w_ldc2 pc idx v hw)
/-- a String constant -/
def f_ldcS (a : Nat) : eSt → Option (List Value) := fun σ => some (.ref a :: σ.2.1)
theorem w_ldcS {sx : eSx} (pc idx : Nat) (tx : String) (a : Nat) (hw : (sx.1, idx, tx, a) ∈ eXs) : eRow sx pc 2 (.ldc idx) (f_ldcS a) := by
  intro p l e R s m args below meth c H locs cells slots Q ls w lv st μ st' hf hlv hx hown hts hK hH hS hd k
  cases hf
  exact va_ldcS hx rfl hown (hK.2.2.2.2.2.2.2.1 _ hw) hd k
def p_ldcS {sx : eSx} (pc idx : Nat) (tx : String) (a : Nat) (hw : (sx.1, idx, tx, a) ∈ eXs) : eP sx := eRd pc 2 (.ldc idx) (f_ldcS a) (w_ldcS pc idx tx a hw)
def f_dup : eSt → Option (List Value) := fun σ => match σ.2.1 with
  | v :: r => if eC2 v = false then some (v :: v :: r) else none
  | _ => none
theorem eC2_1 {ad : Nat → Nat} {v : Value} (h : eC2 v = false) : (eV ad v).category = 1 := by
  rw [eV_cat]
  cases v <;> first | rfl | cases h
theorem eC2_2 {ad : Nat → Nat} {v : Value} (h : eC2 v = true) : (eV ad v).category = 2 := by
  rw [eV_cat]
  exact (eC2_cat v).mp h
theorem w_dup {sx : eSx} (pc : Nat) : eRow sx pc 1 .dup f_dup := by
  intro p l e R s m args below meth c H locs cells slots Q ls w lv st μ st' hf hlv hx hown hts hK hH hS hd k
  simp only [f_dup] at hf
  split at hf
  · split at hf
    · rename_i h9
      cases hf
      exact lv_dup hx rfl hd (eC2_1 h9) k
    · cases hf
  · cases hf
def p_dup {sx : eSx} (pc : Nat) : eP sx := eRd pc 1 .dup f_dup (w_dup pc)
def f_pop : eSt → Option (List Value) := fun σ => match σ.2.1 with
  | v :: r => if eC2 v = false then some r else none
  | _ => none
theorem w_pop {sx : eSx} (pc : Nat) : eRow sx pc 1 .pop f_pop := by
  intro p l e R s m args below meth c H locs cells slots Q ls w lv st μ st' hf hlv hx hown hts hK hH hS hd k
  simp only [f_pop] at hf
  split at hf
  · split at hf
    · rename_i h9
      cases hf
      exact lv_pop hx rfl hd (eC2_1 h9) k
    · cases hf
  · cases hf
def p_pop {sx : eSx} (pc : Nat) : eP sx := eRd pc 1 .pop f_pop (w_pop pc)
def f_dup2 : eSt → Option (List Value) := fun σ => match σ.2.1 with
  | v :: u :: r => if eC2 v = false ∧ eC2 u = false then some (v :: u :: v :: u :: r) else none
  | _ => none
theorem w_dup2 {sx : eSx} (pc : Nat) : eRow sx pc 1 .dup2 f_dup2 := by
  intro p l e R s m args below meth c H locs cells slots Q ls w lv st μ st' hf hlv hx hown hts hK hH hS hd k
  simp only [f_dup2] at hf
  split at hf
  · split at hf
    · rename_i h9
      cases hf
      exact lv_dup2_11 hx rfl hd (eC2_1 h9.1) (eC2_1 h9.2) k
    · cases hf
  · cases hf
def p_dup2 {sx : eSx} (pc : Nat) : eP sx := eRd pc 1 .dup2 f_dup2 (w_dup2 pc)
def f_iload (j : Nat) : eSt → Option (List Value) := fun σ => match eAt σ.1 j with
  | .int x => some (.int x :: σ.2.1)
  | _ => none
theorem w_iload_n {sx : eSx} (pc : Nat) (j : Fin 4) : eRow sx pc 1 (.iload_n j) (f_iload (j : Nat)) := by
  intro p l e R s m args below meth c H locs cells slots Q ls w lv st μ st' hf hlv hx hown hts hK hH hS hd k
  simp only [f_iload] at hf
  split at hf
  · rename_i a h9
    cases hf
    have hj := hlv (j : Nat) (.int a) (by have := eAt_spec lv (j : Nat) (by rw [h9]; rfl); rw [h9] at this; exact this) rfl
    exact lv_iload_n hx rfl hd rfl hj k
  · cases hf
def p_iload_n {sx : eSx} (pc : Nat) (j : Fin 4) : eP sx := eRd pc 1 (.iload_n j) (f_iload (j : Nat)) (w_iload_n pc j)
theorem w_iload {sx : eSx} (pc : Nat) (j : Nat) : eRow sx pc 2 (.iload j) (f_iload j) := by
  intro p l e R s m args below meth c H locs cells slots Q ls w lv st μ st' hf hlv hx hown hts hK hH hS hd k
  simp only [f_iload] at hf
  split at hf
  · rename_i a h9
    cases hf
    have hj := hlv j (.int a) (by have := eAt_spec lv j (by rw [h9]; rfl); rw [h9] at this; exact this) rfl
    exact lv_iload hx rfl hd hj k
  · cases hf
def p_iload {sx : eSx} (pc : Nat) (j : Nat) : eP sx := eRd pc 2 (.iload j) (f_iload j) (w_iload pc j)
def f_lload (j : Nat) : eSt → Option (List Value) := fun σ => match eAt σ.1 j with
  | .long x => some (.long x :: σ.2.1)
  | _ => none
theorem w_lload_n {sx : eSx} (pc : Nat) (j : Fin 4) : eRow sx pc 1 (.lload_n j) (f_lload (j : Nat)) := by
  intro p l e R s m args below meth c H locs cells slots Q ls w lv st μ st' hf hlv hx hown hts hK hH hS hd k
  simp only [f_lload] at hf
  split at hf
  · rename_i a h9
    cases hf
    have hj := hlv (j : Nat) (.long a) (by have := eAt_spec lv (j : Nat) (by rw [h9]; rfl); rw [h9] at this; exact this) rfl
    exact lv_lload_n hx rfl hd rfl hj k
  · cases hf
def p_lload_n {sx : eSx} (pc : Nat) (j : Fin 4) : eP sx := eRd pc 1 (.lload_n j) (f_lload (j : Nat)) (w_lload_n pc j)
theorem w_lload {sx : eSx} (pc : Nat) (j : Nat) : eRow sx pc 2 (.lload j) (f_lload j) := by
  intro p l e R s m args below meth c H locs cells slots Q ls w lv st μ st' hf hlv hx hown hts hK hH hS hd k
  simp only [f_lload] at hf
  split at hf
  · rename_i a h9
    cases hf
    have hj := hlv j (.long a) (by have := eAt_spec lv j (by rw [h9]; rfl); rw [h9] at this; exact this) rfl
    exact lv_lload hx rfl hd hj k
  · cases hf
def p_lload {sx : eSx} (pc : Nat) (j : Nat) : eP sx := eRd pc 2 (.lload j) (f_lload j) (w_lload pc j)
def f_aload (j : Nat) : eSt → Option (List Value) := fun σ => match eAt σ.1 j with
  | .ref x => some (.ref x :: σ.2.1)
  | .null => some (.null :: σ.2.1)
  | _ => none
theorem w_aload_n {sx : eSx} (pc : Nat) (j : Fin 4) : eRow sx pc 1 (.aload_n j) (f_aload (j : Nat)) := by
  intro p l e R s m args below meth c H locs cells slots Q ls w lv st μ st' hf hlv hx hown hts hK hH hS hd k
  simp only [f_aload] at hf
  split at hf
  · rename_i a h9
    cases hf
    have hj := hlv (j : Nat) (.ref a) (by have := eAt_spec lv (j : Nat) (by rw [h9]; rfl); rw [h9] at this; exact this) rfl
    exact lv_aload_n hx rfl hd rfl hj k
  · rename_i h9
    cases hf
    have hj := hlv (j : Nat) .null (by have := eAt_spec lv (j : Nat) (by rw [h9]; rfl); rw [h9] at this; exact this) rfl
    exact lv_aload_nN hx rfl hd rfl hj k
  · cases hf
def p_aload_n {sx : eSx} (pc : Nat) (j : Fin 4) : eP sx := eRd pc 1 (.aload_n j) (f_aload (j : Nat)) (w_aload_n pc j)
theorem w_aload {sx : eSx} (pc : Nat) (j : Nat) : eRow sx pc 2 (.aload j) (f_aload j) := by
  intro p l e R s m args below meth c H locs cells slots Q ls w lv st μ st' hf hlv hx hown hts hK hH hS hd k
  simp only [f_aload] at hf
  split at hf
  · rename_i a h9
    cases hf
    have hj := hlv j (.ref a) (by have := eAt_spec lv j (by rw [h9]; rfl); rw [h9] at this; exact this) rfl
    exact lv_aload hx rfl hd hj k
  · rename_i h9
    cases hf
    have hj := hlv j .null (by have := eAt_spec lv j (by rw [h9]; rfl); rw [h9] at this; exact this) rfl
    exact lv_aloadN hx rfl hd hj k
  · cases hf
def p_aload {sx : eSx} (pc : Nat) (j : Nat) : eP sx := eRd pc 2 (.aload j) (f_aload j) (w_aload pc j)
def f_dload (j : Nat) : eSt → Option (List Value) := fun σ => match eAt σ.1 j with
  | .double x => some (.double x :: σ.2.1)
  | _ => none
theorem w_dload_n {sx : eSx} (pc : Nat) (j : Fin 4) : eRow sx pc 1 (.dload_n j) (f_dload (j : Nat)) := by
  intro p l e R s m args below meth c H locs cells slots Q ls w lv st μ st' hf hlv hx hown hts hK hH hS hd k
  simp only [f_dload] at hf
  split at hf
  · rename_i a h9
    cases hf
    have hj := hlv (j : Nat) (.double a) (by have := eAt_spec lv (j : Nat) (by rw [h9]; rfl); rw [h9] at this; exact this) rfl
    exact lv_dload_n hx rfl hd rfl hj k
  · cases hf
def p_dload_n {sx : eSx} (pc : Nat) (j : Fin 4) : eP sx := eRd pc 1 (.dload_n j) (f_dload (j : Nat)) (w_dload_n pc j)
theorem w_dload {sx : eSx} (pc : Nat) (j : Nat) : eRow sx pc 2 (.dload j) (f_dload j) := by
  intro p l e R s m args below meth c H locs cells slots Q ls w lv st μ st' hf hlv hx hown hts hK hH hS hd k
  simp only [f_dload] at hf
  split at hf
  · rename_i a h9
    cases hf
    have hj := hlv j (.double a) (by have := eAt_spec lv j (by rw [h9]; rfl); rw [h9] at this; exact this) rfl
    exact lv_dload hx rfl hd hj k
  · cases hf
def p_dload {sx : eSx} (pc : Nat) (j : Nat) : eP sx := eRd pc 2 (.dload j) (f_dload j) (w_dload pc j)
def g_istore : eSt → Option (Value × List Value) := fun σ => match σ.2.1 with
  | .int x :: r => some (.int x, r)
  | _ => none
def p_istore_n {sx : eSx} (pc : Nat) (j : Fin 4) : eP sx := eSto pc 1 (.istore_n j) (j : Nat) g_istore (by
  intro p l e R s m args below meth c H locs cells slots Q ls w lv st μ v st' nL hf hls hx hd ho h2 hj k
  simp only [g_istore] at hf
  split at hf
  · cases hf
    exact lv_istore_n hx rfl hd rfl hls hj rfl (fun ls' hl => k ls' (eHas_sub hl (eLv_sto1 ho)))
  · cases hf)
def p_istore {sx : eSx} (pc : Nat) (j : Nat) : eP sx := eSto pc 2 (.istore j) j g_istore (by
  intro p l e R s m args below meth c H locs cells slots Q ls w lv st μ v st' nL hf hls hx hd ho h2 hj k
  simp only [g_istore] at hf
  split at hf
  · cases hf
    exact lv_istore hx rfl hd hls hj rfl (fun ls' hl => k ls' (eHas_sub hl (eLv_sto1 ho)))
  · cases hf)
def g_lstore : eSt → Option (Value × List Value) := fun σ => match σ.2.1 with
  | .long x :: r => some (.long x, r)
  | _ => none
def p_lstore_n {sx : eSx} (pc : Nat) (j : Fin 4) : eP sx := eSto pc 1 (.lstore_n j) (j : Nat) g_lstore (by
  intro p l e R s m args below meth c H locs cells slots Q ls w lv st μ v st' nL hf hls hx hd ho h2 hj k
  simp only [g_lstore] at hf
  split at hf
  · cases hf
    exact lv_lstore_n hx rfl hd rfl hls (h2 rfl) rfl (fun ls' hl => k ls' (eHas_sub hl (eLv_sto2 ho)))
  · cases hf)
def p_lstore {sx : eSx} (pc : Nat) (j : Nat) : eP sx := eSto pc 2 (.lstore j) j g_lstore (by
  intro p l e R s m args below meth c H locs cells slots Q ls w lv st μ v st' nL hf hls hx hd ho h2 hj k
  simp only [g_lstore] at hf
  split at hf
  · cases hf
    exact lv_lstore hx rfl hd hls (h2 rfl) rfl (fun ls' hl => k ls' (eHas_sub hl (eLv_sto2 ho)))
  · cases hf)
def g_astore : eSt → Option (Value × List Value) := fun σ => match σ.2.1 with
  | .ref x :: r => some (.ref x, r)
  | .null :: r => some (.null, r)
  | _ => none
def p_astore_n {sx : eSx} (pc : Nat) (j : Fin 4) : eP sx := eSto pc 1 (.astore_n j) (j : Nat) g_astore (by
  intro p l e R s m args below meth c H locs cells slots Q ls w lv st μ v st' nL hf hls hx hd ho h2 hj k
  simp only [g_astore] at hf
  split at hf
  · cases hf
    exact lv_astore_n hx rfl hd rfl hls hj rfl (fun ls' hl => k ls' (eHas_sub hl (eLv_sto1 ho)))
  · cases hf
    exact lv_astore_nN hx rfl hd rfl hls hj rfl (fun ls' hl => k ls' (eHas_sub hl (eLv_sto1 ho)))
  · cases hf)
def p_astore {sx : eSx} (pc : Nat) (j : Nat) : eP sx := eSto pc 2 (.astore j) j g_astore (by
  intro p l e R s m args below meth c H locs cells slots Q ls w lv st μ v st' nL hf hls hx hd ho h2 hj k
  simp only [g_astore] at hf
  split at hf
  · cases hf
    exact lv_astore hx rfl hd hls hj rfl (fun ls' hl => k ls' (eHas_sub hl (eLv_sto1 ho)))
  · cases hf
    exact lv_astoreN hx rfl hd hls hj rfl (fun ls' hl => k ls' (eHas_sub hl (eLv_sto1 ho)))
  · cases hf)
def g_dstore : eSt → Option (Value × List Value) := fun σ => match σ.2.1 with
  | .double x :: r => some (.double x, r)
  | _ => none
def p_dstore_n {sx : eSx} (pc : Nat) (j : Fin 4) : eP sx := eSto pc 1 (.dstore_n j) (j : Nat) g_dstore (by
  intro p l e R s m args below meth c H locs cells slots Q ls w lv st μ v st' nL hf hls hx hd ho h2 hj k
  simp only [g_dstore] at hf
  split at hf
  · cases hf
    exact lv_dstore_n hx rfl hd rfl hls (h2 rfl) rfl (fun ls' hl => k ls' (eHas_sub hl (eLv_sto2 ho)))
  · cases hf)
def p_dstore {sx : eSx} (pc : Nat) (j : Nat) : eP sx := eSto pc 2 (.dstore j) j g_dstore (by
  intro p l e R s m args below meth c H locs cells slots Q ls w lv st μ v st' nL hf hls hx hd ho h2 hj k
  simp only [g_dstore] at hf
  split at hf
  · cases hf
    exact lv_dstore hx rfl hd hls (h2 rfl) rfl (fun ls' hl => k ls' (eHas_sub hl (eLv_sto2 ho)))
  · cases hf)
def g_iinc (j : Nat) (n : Int) : eSt → Option (Value × List Value) := fun σ => match eAt σ.1 j with
  | .int x => some (.int (x + Int32.ofInt n), σ.2.1)
  | _ => none
def p_iinc {sx : eSx} (pc j : Nat) (n : Int) : eP sx := eSto pc 3 (.iinc j n) j (g_iinc j n) (by
  intro p l e R s m args below meth c H locs cells slots Q ls w lv st μ v st' nL hf hls hx hd ho h2 hj k
  simp only [g_iinc] at hf
  split at hf
  · rename_i x h9
    cases hf
    have hm : (j, Value.int x) ∈ eLv (eAd w) 0 lv := (eLv_mem (eAd w) lv 0 _).mpr ⟨j, .int x, by have := eAt_spec lv j (by rw [h9]; rfl); rw [h9] at this; exact this, rfl, by rw [Nat.zero_add]; rfl⟩
    obtain ⟨q, hq⟩ := List.getElem?_of_mem hm
    exact lv_iinc hx rfl hd hls hq rfl hj rfl (fun ls' hl => k ls' (eHas_sub hl (eLv_sto1 ho)))
  · cases hf)
def b_if_eq : eSt → Option (Bool × List Value) := fun σ => match σ.2.1 with
  | .int x :: r => some (decide (x = 0), r)
  | _ => none
def p_if_eq {sx : eSx} (pc : Nat) (off : Int) (T : Nat) (ht : (pc : Int) + off = (T : Int)) : eP sx := eBrn pc 3 T (.ifCond .eq off) b_if_eq (by
  intro p l e R s m args below meth c H locs cells slots Q ls w lv st μ b st' hf hx hK hd k
  simp only [b_if_eq] at hf
  split at hf
  · cases hf
    refine lv_if_eq hx rfl hd ht (fun z => ?_) (fun z => ?_)
    · rw [if_pos (decide_eq_true z)] at k
      exact k
    · rw [if_neg (fun q => by first | exact z (of_decide_eq_true q) | exact (of_decide_eq_true q) z)] at k
      exact k
  · cases hf)
def b_icmp_eq : eSt → Option (Bool × List Value) := fun σ => match σ.2.1 with
  | .int y :: .int x :: r => some (decide (x = y), r)
  | _ => none
def p_icmp_eq {sx : eSx} (pc : Nat) (off : Int) (T : Nat) (ht : (pc : Int) + off = (T : Int)) : eP sx := eBrn pc 3 T (.if_icmp .eq off) b_icmp_eq (by
  intro p l e R s m args below meth c H locs cells slots Q ls w lv st μ b st' hf hx hK hd k
  simp only [b_icmp_eq] at hf
  split at hf
  · cases hf
    refine lv_icmp_eq hx rfl hd ht (fun z => ?_) (fun z => ?_)
    · rw [if_pos (decide_eq_true z)] at k
      exact k
    · rw [if_neg (fun q => by first | exact z (of_decide_eq_true q) | exact (of_decide_eq_true q) z)] at k
      exact k
  · cases hf)
def b_if_ne : eSt → Option (Bool × List Value) := fun σ => match σ.2.1 with
  | .int x :: r => some (decide (¬ x = 0), r)
  | _ => none
def p_if_ne {sx : eSx} (pc : Nat) (off : Int) (T : Nat) (ht : (pc : Int) + off = (T : Int)) : eP sx := eBrn pc 3 T (.ifCond .ne off) b_if_ne (by
  intro p l e R s m args below meth c H locs cells slots Q ls w lv st μ b st' hf hx hK hd k
  simp only [b_if_ne] at hf
  split at hf
  · cases hf
    refine lv_if_ne hx rfl hd ht (fun z => ?_) (fun z => ?_)
    · rw [if_pos (decide_eq_true z)] at k
      exact k
    · rw [if_neg (fun q => by first | exact z (of_decide_eq_true q) | exact (of_decide_eq_true q) z)] at k
      exact k
  · cases hf)
def b_icmp_ne : eSt → Option (Bool × List Value) := fun σ => match σ.2.1 with
  | .int y :: .int x :: r => some (decide (¬ x = y), r)
  | _ => none
def p_icmp_ne {sx : eSx} (pc : Nat) (off : Int) (T : Nat) (ht : (pc : Int) + off = (T : Int)) : eP sx := eBrn pc 3 T (.if_icmp .ne off) b_icmp_ne (by
  intro p l e R s m args below meth c H locs cells slots Q ls w lv st μ b st' hf hx hK hd k
  simp only [b_icmp_ne] at hf
  split at hf
  · cases hf
    refine lv_icmp_ne hx rfl hd ht (fun z => ?_) (fun z => ?_)
    · rw [if_pos (decide_eq_true z)] at k
      exact k
    · rw [if_neg (fun q => by first | exact z (of_decide_eq_true q) | exact (of_decide_eq_true q) z)] at k
      exact k
  · cases hf)
def b_if_lt : eSt → Option (Bool × List Value) := fun σ => match σ.2.1 with
  | .int x :: r => some (decide (x < 0), r)
  | _ => none
def p_if_lt {sx : eSx} (pc : Nat) (off : Int) (T : Nat) (ht : (pc : Int) + off = (T : Int)) : eP sx := eBrn pc 3 T (.ifCond .lt off) b_if_lt (by
  intro p l e R s m args below meth c H locs cells slots Q ls w lv st μ b st' hf hx hK hd k
  simp only [b_if_lt] at hf
  split at hf
  · cases hf
    refine lv_if_lt hx rfl hd ht (fun z => ?_) (fun z => ?_)
    · rw [if_pos (decide_eq_true z)] at k
      exact k
    · rw [if_neg (fun q => by first | exact z (of_decide_eq_true q) | exact (of_decide_eq_true q) z)] at k
      exact k
  · cases hf)
def b_icmp_lt : eSt → Option (Bool × List Value) := fun σ => match σ.2.1 with
  | .int y :: .int x :: r => some (decide (x < y), r)
  | _ => none
def p_icmp_lt {sx : eSx} (pc : Nat) (off : Int) (T : Nat) (ht : (pc : Int) + off = (T : Int)) : eP sx := eBrn pc 3 T (.if_icmp .lt off) b_icmp_lt (by
  intro p l e R s m args below meth c H locs cells slots Q ls w lv st μ b st' hf hx hK hd k
  simp only [b_icmp_lt] at hf
  split at hf
  · cases hf
    refine lv_icmp_lt hx rfl hd ht (fun z => ?_) (fun z => ?_)
    · rw [if_pos (decide_eq_true z)] at k
      exact k
    · rw [if_neg (fun q => by first | exact z (of_decide_eq_true q) | exact (of_decide_eq_true q) z)] at k
      exact k
  · cases hf)
def b_if_ge : eSt → Option (Bool × List Value) := fun σ => match σ.2.1 with
  | .int x :: r => some (decide (0 ≤ x), r)
  | _ => none
def p_if_ge {sx : eSx} (pc : Nat) (off : Int) (T : Nat) (ht : (pc : Int) + off = (T : Int)) : eP sx := eBrn pc 3 T (.ifCond .ge off) b_if_ge (by
  intro p l e R s m args below meth c H locs cells slots Q ls w lv st μ b st' hf hx hK hd k
  simp only [b_if_ge] at hf
  split at hf
  · cases hf
    refine lv_if_ge hx rfl hd ht (fun z => ?_) (fun z => ?_)
    · rw [if_pos (decide_eq_true z)] at k
      exact k
    · rw [if_neg (fun q => by first | exact z (of_decide_eq_true q) | exact (of_decide_eq_true q) z)] at k
      exact k
  · cases hf)
def b_icmp_ge : eSt → Option (Bool × List Value) := fun σ => match σ.2.1 with
  | .int y :: .int x :: r => some (decide (y ≤ x), r)
  | _ => none
def p_icmp_ge {sx : eSx} (pc : Nat) (off : Int) (T : Nat) (ht : (pc : Int) + off = (T : Int)) : eP sx := eBrn pc 3 T (.if_icmp .ge off) b_icmp_ge (by
  intro p l e R s m args below meth c H locs cells slots Q ls w lv st μ b st' hf hx hK hd k
  simp only [b_icmp_ge] at hf
  split at hf
  · cases hf
    refine lv_icmp_ge hx rfl hd ht (fun z => ?_) (fun z => ?_)
    · rw [if_pos (decide_eq_true z)] at k
      exact k
    · rw [if_neg (fun q => by first | exact z (of_decide_eq_true q) | exact (of_decide_eq_true q) z)] at k
      exact k
  · cases hf)
def b_if_gt : eSt → Option (Bool × List Value) := fun σ => match σ.2.1 with
  | .int x :: r => some (decide (0 < x), r)
  | _ => none
def p_if_gt {sx : eSx} (pc : Nat) (off : Int) (T : Nat) (ht : (pc : Int) + off = (T : Int)) : eP sx := eBrn pc 3 T (.ifCond .gt off) b_if_gt (by
  intro p l e R s m args below meth c H locs cells slots Q ls w lv st μ b st' hf hx hK hd k
  simp only [b_if_gt] at hf
  split at hf
  · cases hf
    refine lv_if_gt hx rfl hd ht (fun z => ?_) (fun z => ?_)
    · rw [if_pos (decide_eq_true z)] at k
      exact k
    · rw [if_neg (fun q => by first | exact z (of_decide_eq_true q) | exact (of_decide_eq_true q) z)] at k
      exact k
  · cases hf)
def b_icmp_gt : eSt → Option (Bool × List Value) := fun σ => match σ.2.1 with
  | .int y :: .int x :: r => some (decide (y < x), r)
  | _ => none
def p_icmp_gt {sx : eSx} (pc : Nat) (off : Int) (T : Nat) (ht : (pc : Int) + off = (T : Int)) : eP sx := eBrn pc 3 T (.if_icmp .gt off) b_icmp_gt (by
  intro p l e R s m args below meth c H locs cells slots Q ls w lv st μ b st' hf hx hK hd k
  simp only [b_icmp_gt] at hf
  split at hf
  · cases hf
    refine lv_icmp_gt hx rfl hd ht (fun z => ?_) (fun z => ?_)
    · rw [if_pos (decide_eq_true z)] at k
      exact k
    · rw [if_neg (fun q => by first | exact z (of_decide_eq_true q) | exact (of_decide_eq_true q) z)] at k
      exact k
  · cases hf)
def b_if_le : eSt → Option (Bool × List Value) := fun σ => match σ.2.1 with
  | .int x :: r => some (decide (x ≤ 0), r)
  | _ => none
def p_if_le {sx : eSx} (pc : Nat) (off : Int) (T : Nat) (ht : (pc : Int) + off = (T : Int)) : eP sx := eBrn pc 3 T (.ifCond .le off) b_if_le (by
  intro p l e R s m args below meth c H locs cells slots Q ls w lv st μ b st' hf hx hK hd k
  simp only [b_if_le] at hf
  split at hf
  · cases hf
    refine lv_if_le hx rfl hd ht (fun z => ?_) (fun z => ?_)
    · rw [if_pos (decide_eq_true z)] at k
      exact k
    · rw [if_neg (fun q => by first | exact z (of_decide_eq_true q) | exact (of_decide_eq_true q) z)] at k
      exact k
  · cases hf)
def b_icmp_le : eSt → Option (Bool × List Value) := fun σ => match σ.2.1 with
  | .int y :: .int x :: r => some (decide (x ≤ y), r)
  | _ => none
def p_icmp_le {sx : eSx} (pc : Nat) (off : Int) (T : Nat) (ht : (pc : Int) + off = (T : Int)) : eP sx := eBrn pc 3 T (.if_icmp .le off) b_icmp_le (by
  intro p l e R s m args below meth c H locs cells slots Q ls w lv st μ b st' hf hx hK hd k
  simp only [b_icmp_le] at hf
  split at hf
  · cases hf
    refine lv_icmp_le hx rfl hd ht (fun z => ?_) (fun z => ?_)
    · rw [if_pos (decide_eq_true z)] at k
      exact k
    · rw [if_neg (fun q => by first | exact z (of_decide_eq_true q) | exact (of_decide_eq_true q) z)] at k
      exact k
  · cases hf)
def b_null : eSt → Option (Bool × List Value) := fun σ => match σ.2.1 with
  | .null :: r => some (true, r)
  | .ref _ :: r => some (false, r)
  | _ => none
def p_ifnull {sx : eSx} (pc : Nat) (off : Int) (T : Nat) (ht : (pc : Int) + off = (T : Int)) : eP sx := eBrn pc 3 T (.ifnull off) b_null (by
  intro p l e R s m args below meth c H locs cells slots Q ls w lv st μ b st' hf hx hK hd k
  simp only [b_null] at hf
  split at hf
  · cases hf
    exact lv_ifnullN hx rfl hd ht k
  · cases hf
    exact lv_ifnull hx rfl hd k
  · cases hf)
def b_nonnull : eSt → Option (Bool × List Value) := fun σ => match σ.2.1 with
  | .null :: r => some (false, r)
  | .ref _ :: r => some (true, r)
  | _ => none
def p_ifnonnull {sx : eSx} (pc : Nat) (off : Int) (T : Nat) (ht : (pc : Int) + off = (T : Int)) : eP sx := eBrn pc 3 T (.ifnonnull off) b_nonnull (by
  intro p l e R s m args below meth c H locs cells slots Q ls w lv st μ b st' hf hx hK hd k
  simp only [b_nonnull] at hf
  split at hf
  · cases hf
    exact lv_ifnonnullN hx rfl hd k
  · cases hf
    exact lv_ifnonnull hx rfl hd ht k
  · cases hf)
/-- two constants of an enum, or null, compared -/
def eEq : Value → Value → Option Bool
  | .null, .null => some true
  | .null, .ref _ => some false
  | .ref _, .null => some false
  | .ref a, .ref b => if 1000 ≤ a ∧ a < 1009 ∧ 1000 ≤ b ∧ b < 1009 then some (decide (a = b)) else none
  | _, _ => none
def b_acmpne : eSt → Option (Bool × List Value) := fun σ => match σ.2.1 with
  | y :: x :: r => (eEq x y).map fun q => (!q, r)
  | _ => none
theorem eEq_spec {ad : Nat → Nat} (hin : ∀ i j, 1000 ≤ i → i < 1009 → 1000 ≤ j → j < 1009 → ad i = ad j → i = j) {x y : Value} {q : Bool} (h : eEq x y = some q) : ∃ rx ry : Option Nat, eV ad x = va_rf rx ∧ eV ad y = va_rf ry ∧ (rx = ry ↔ q = true) := by
  unfold eEq at h
  split at h
  · cases h; exact ⟨none, none, rfl, rfl, by simp⟩
  · rename_i b; cases h; exact ⟨none, some (ad b), rfl, rfl, by simp⟩
  · rename_i a; cases h; exact ⟨some (ad a), none, rfl, rfl, by simp⟩
  · rename_i a b
    split at h
    · rename_i h9
      cases h
      refine ⟨some (ad a), some (ad b), rfl, rfl, ?_⟩
      simp only [Option.some.injEq, decide_eq_true_eq]
      exact ⟨fun z => hin a b h9.1 h9.2.1 h9.2.2.1 h9.2.2.2 z, fun z => by rw [z]⟩
    · cases h
  · cases h
def p_acmpne {sx : eSx} (pc : Nat) (off : Int) (T : Nat) (ht : (pc : Int) + off = (T : Int)) : eP sx := eBrn pc 3 T (.if_acmp .ne off) b_acmpne (by
  intro p l e R s m args below meth c H locs cells slots Q ls w lv st μ b st' hf hx hK hd k
  simp only [b_acmpne] at hf
  split at hf
  · rename_i y x r
    cases hq : eEq x y with
    | none => rw [hq] at hf; cases hf
    | some q =>
      rw [hq] at hf
      cases hf
      obtain ⟨rx, ry, e1, e2, e3⟩ := eEq_spec hK.2.2.1 hq
      rw [List.map_cons, List.map_cons, e1, e2]
      refine lv_acmp_ne hx rfl hd ht (fun z => ?_) (fun z => ?_)
      · have : q = false := by
          cases q with
          | true => exact absurd (e3.mpr rfl) z
          | false => rfl
        subst this
        exact k
      · have := e3.mp z
        subst this
        exact k
  · cases hf)
def p_goto {sx : eSx} (pc : Nat) (off : Int) (T : Nat) (ht : (pc : Int) + off = (T : Int)) : eP sx := eBrn pc 3 T (.goto off) (fun σ => some (true, σ.2.1)) (by
  intro p l e R s m args below meth c H locs cells slots Q ls w lv st μ b st' hf hx hK hd k
  cases hf
  exact lv_goto hx rfl hd ht k)
def r_ireturn : eSt → Option (Option Value) := fun σ => match σ.2.1 with
  | [.int x] => some (some (.int x))
  | _ => none
def p_ireturn {sx : eSx} (pc stop : Nat) : eP sx := eRet pc stop (.ireturn) r_ireturn (by
  intro cc σ v hf hd
  obtain ⟨lv, st, μ⟩ := σ
  simp only [r_ireturn] at hf
  split at hf
  · cases hf
    exact ⟨hd, rfl⟩
  · cases hf)
def r_lreturn : eSt → Option (Option Value) := fun σ => match σ.2.1 with
  | [.long x] => some (some (.long x))
  | _ => none
def p_lreturn {sx : eSx} (pc stop : Nat) : eP sx := eRet pc stop (.lreturn) r_lreturn (by
  intro cc σ v hf hd
  obtain ⟨lv, st, μ⟩ := σ
  simp only [r_lreturn] at hf
  split at hf
  · cases hf
    exact ⟨hd, rfl⟩
  · cases hf)
def r_freturn : eSt → Option (Option Value) := fun σ => match σ.2.1 with
  | [.float x] => some (some (.float x))
  | _ => none
def p_freturn {sx : eSx} (pc stop : Nat) : eP sx := eRet pc stop (.freturn) r_freturn (by
  intro cc σ v hf hd
  obtain ⟨lv, st, μ⟩ := σ
  simp only [r_freturn] at hf
  split at hf
  · cases hf
    exact ⟨hd, rfl⟩
  · cases hf)
def r_dreturn : eSt → Option (Option Value) := fun σ => match σ.2.1 with
  | [.double x] => some (some (.double x))
  | _ => none
def p_dreturn {sx : eSx} (pc stop : Nat) : eP sx := eRet pc stop (.dreturn) r_dreturn (by
  intro cc σ v hf hd
  obtain ⟨lv, st, μ⟩ := σ
  simp only [r_dreturn] at hf
  split at hf
  · cases hf
    exact ⟨hd, rfl⟩
  · cases hf)
def r_areturn : eSt → Option (Option Value) := fun σ => match σ.2.1 with
  | [.ref x] => some (some (.ref x))
  | [.null] => some (some .null)
  | _ => none
def p_areturn {sx : eSx} (pc stop : Nat) : eP sx := eRet pc stop (.areturn) r_areturn (by
  intro cc σ v hf hd
  obtain ⟨lv, st, μ⟩ := σ
  simp only [r_areturn] at hf
  split at hf
  · cases hf
    exact ⟨hd, rfl⟩
  · cases hf
    exact ⟨hd, rfl⟩
  · cases hf)
def r_return : eSt → Option (Option Value) := fun σ => match σ.2.1 with
  | [] => some none
  | _ => none
def p_return {sx : eSx} (pc stop : Nat) : eP sx := eRet pc stop (.return_) r_return (by
  intro cc σ v hf hd
  obtain ⟨lv, st, μ⟩ := σ
  simp only [r_return] at hf
  split at hf
  · cases hf
    exact ⟨hd, rfl⟩
  · cases hf)
