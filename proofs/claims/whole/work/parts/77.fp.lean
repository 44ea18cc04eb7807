/-! ===== quotients that are numbers: debtShare, meanRadiusBehind ===== -/
theorem fp_n32 {a : UInt32} (h : Jvm.FP.Core.fIsNaN a = false) : a &&& 0x7fffffff ≤ 0x7f800000 := by
  have h1 := (Jvm.FP.Core.ne_nan32 a).mp ((Jvm.FP.Core.notNaN_iff32 a).mp h)
  rw [UInt32.le_iff_toNat_le, UInt32.toNat_and]
  show a.toNat &&& (2 ^ 31 - 1) ≤ 2139095040
  rw [Nat.and_two_pow_sub_one_eq_mod]
  exact h1
theorem fp_n64 {a : UInt64} (h : Jvm.FP.Core.dIsNaN a = false) : a &&& 0x7fffffffffffffff ≤ 0x7ff0000000000000 := by
  have h1 := (Jvm.FP.Core.ne_nan a).mp ((Jvm.FP.Core.notNaN_iff a).mp h)
  rw [UInt64.le_iff_toNat_le, UInt64.toNat_and]
  show a.toNat &&& (2 ^ 63 - 1) ≤ 9218868437227405312
  rw [Nat.and_two_pow_sub_one_eq_mod]
  exact h1
theorem fp_nz {x : Int32} (h : ¬ x = nI 0) : ¬ x.toInt = 0 := fun z => h (Int32.toInt_inj.mp (z.trans (show (0 : Int) = (nI 0).toInt by decide)))
theorem fq_nn {x y : Int32} (h : ¬ y = nI 0) : Jvm.FP.Core.fIsNaN (FP.fdiv (FP.i2f x) (FP.i2f y)) = false := by
  refine Jvm.FP.Core.fdiv_out (Jvm.FP.Core.FFin.notNaN (Jvm.FP.Core.i2f_fin x)) (Jvm.FP.Core.i2f_fin y) (fun z => ?_)
  have h1 := (Jvm.FP.Core.zero_bits232 _).mp z
  have h2 := Jvm.FP.Core.i2f_big (fp_nz h)
  omega
theorem dq_nn {x y : Int32} (h : ¬ y = nI 0) : Jvm.FP.Core.dIsNaN (FP.ddiv (FP.i2d x) (FP.i2d y)) = false := by
  refine Jvm.FP.Core.ddiv_out (Jvm.FP.Core.DFin.notNaN (Jvm.FP.Core.i2d_fin x)) (Jvm.FP.Core.i2d_fin y) (fun z => ?_)
  have h1 := (Jvm.FP.Core.zero_bits2 _).mp z
  have h2 := Jvm.FP.Core.i2d_big (fp_nz h)
  omega
theorem fd_nn {a : UInt32} (h : Jvm.FP.Core.fIsNaN a = false) : Jvm.FP.Core.dIsNaN (FP.f2d a) = false := by
  have e : FP.f2d a = Jvm.FP.Core.f2d a := by
    unfold FP.f2d
    rw [h]
    rfl
  rw [e]
  exact Jvm.FP.Core.f2d_out h
theorem v_fdiv {sx : eSx} (pc : Nat) (lv st : List Value) (μ : eMem) {x y : Int32} (h : ¬ y = nI 0) : eDen (sx := sx) (p_fdiv pc) (lv, .float (FP.i2f y) :: .float (FP.i2f x) :: st, μ) = some (none, (lv, .float (FP.fdiv (FP.i2f x) (FP.i2f y)) :: st, μ)) := by
  show Option.map _ (if FP.fdiv (FP.i2f x) (FP.i2f y) &&& 0x7fffffff ≤ 0x7f800000 then _ else none) = _
  rw [if_pos (fp_n32 (fq_nn h))]
  rfl
theorem v_ddiv {sx : eSx} (pc : Nat) (lv st : List Value) (μ : eMem) {x y : Int32} (h : ¬ y = nI 0) : eDen (sx := sx) (p_ddiv pc) (lv, .double (FP.i2d y) :: .double (FP.i2d x) :: st, μ) = some (none, (lv, .double (FP.ddiv (FP.i2d x) (FP.i2d y)) :: st, μ)) := by
  show Option.map _ (if FP.ddiv (FP.i2d x) (FP.i2d y) &&& 0x7fffffffffffffff ≤ 0x7ff0000000000000 then _ else none) = _
  rw [if_pos (fp_n64 (dq_nn h))]
  rfl
theorem v_f2d {sx : eSx} (pc : Nat) (lv st : List Value) (μ : eMem) {a : UInt32} (h : Jvm.FP.Core.fIsNaN a = false) : eDen (sx := sx) (p_f2d pc) (lv, .float a :: st, μ) = some (none, (lv, .double (FP.f2d a) :: st, μ)) := by
  show Option.map _ (if FP.f2d a &&& 0x7fffffffffffffff ≤ 0x7ff0000000000000 then _ else none) = _
  rw [if_pos (fp_n64 (fd_nn h))]
  rfl
theorem v_freturn {sx : eSx} (pc stop : Nat) (lv : List Value) (μ : eMem) (x : UInt32) : eDen (sx := sx) (p_freturn pc stop) (lv, [.float x], μ) = some (some (.inr (.inl (some (.float x)))), (lv, [.float x], μ)) := id rfl
theorem v_dreturn {sx : eSx} (pc stop : Nat) (lv : List Value) (μ : eMem) (x : UInt64) : eDen (sx := sx) (p_dreturn pc stop) (lv, [.double x], μ) = some (some (.inr (.inl (some (.double x)))), (lv, [.double x], μ)) := id rfl
theorem v_rof (x : UInt32) : eRetOK (some .float) (some (.float x)) = true := id rfl
theorem v_rod (x : UInt64) : eRetOK (some .double) (some (.double x)) = true := id rfl
theorem dcmp_eq {a : UInt64} (h : Jvm.FP.Core.dIsNaN a = false) : FP.dcmp a a = some .eq := Jvm.FP.Core.dcmp_self ((Jvm.FP.Core.notNaN_iff a).mp h)
