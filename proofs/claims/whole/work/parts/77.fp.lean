/-! ===== quotients that are numbers: debtShare, meanRadiusBehind ===== -/
def fgd (f : FP.Core.Fmt) (d : FP.Core.Datum) : Prop := match d with
  | .nan => False
  | .inf _ => True
  | .fin _ c q => c < 2 ^ f.p ∧ q ≤ f.qmax
theorem fgd_rr {f : FP.Core.Fmt} (h1 : f.tails < 2 ^ f.p) (h2 : f.qmin ≤ f.qmax) (s : Bool) (A B : Nat) (e : Int) : fgd f (FP.Core.roundRatio f s A B e) := by
  have hb : ∀ s c q, c < 2 ^ f.p → fgd f (FP.Core.bound f s c q) := fun s c q hc => by
    unfold FP.Core.bound
    by_cases g : q ≤ f.qmax
    · rw [if_pos g]; exact ⟨hc, g⟩
    · rw [if_neg g]; exact trivial
  unfold FP.Core.roundRatio
  by_cases g : A = 0
  · rw [if_pos g]; exact ⟨Nat.two_pow_pos _, h2⟩
  · rw [if_neg g]
    unfold FP.Core.roundAt FP.Core.settle
    split
    · rename_i hc; exact hb _ _ _ hc
    · exact hb _ _ _ h1
theorem fgd_32 (s : Bool) (A B : Nat) (e : Int) : fgd FP.Core.b32 (FP.Core.roundRatio FP.Core.b32 s A B e) := fgd_rr (by decide) (by decide) s A B e
theorem fgd_64 (s : Bool) (A B : Nat) (e : Int) : fgd FP.Core.b64 (FP.Core.roundRatio FP.Core.b64 s A B e) := fgd_rr (by decide) (by decide) s A B e
theorem enc_32 {d : FP.Core.Datum} (h : fgd FP.Core.b32 d) : FP.Core.encode FP.Core.b32 d < 2 ^ 32 ∧ FP.Core.encode FP.Core.b32 d % 2 ^ 31 ≤ 2139095040 := by
  have e1 : FP.Core.b32.exps = 256 := by decide
  have e2 : FP.Core.b32.tails = 8388608 := by decide
  have e3 : FP.Core.b32.qmin = -149 := by decide
  have e4 : FP.Core.b32.qmax = 104 := by decide
  cases d with
  | nan => exact absurd h (fun z => z)
  | inf s =>
    unfold FP.Core.encode FP.Core.assemble
    rw [e1, e2]
    cases s <;> decide
  | fin s c q =>
    obtain ⟨h1, h2⟩ := h
    have h1 : c < 16777216 := h1
    rw [e4] at h2
    unfold FP.Core.encode FP.Core.assemble
    dsimp only
    rw [e1, e2, e3]
    have hs : s.toNat = 0 ∨ s.toNat = 1 := by cases s <;> decide
    generalize s.toNat = z at *
    split
    · omega
    · have : (q - -149).toNat ≤ 253 := by omega
      generalize (q - -149).toNat = u at *
      omega
theorem enc_64 {d : FP.Core.Datum} (h : fgd FP.Core.b64 d) : FP.Core.encode FP.Core.b64 d < 2 ^ 64 ∧ FP.Core.encode FP.Core.b64 d % 2 ^ 63 ≤ 9218868437227405312 := by
  have e1 : FP.Core.b64.exps = 2048 := by decide
  have e2 : FP.Core.b64.tails = 4503599627370496 := by decide
  have e3 : FP.Core.b64.qmin = -1074 := by decide
  have e4 : FP.Core.b64.qmax = 971 := by decide
  cases d with
  | nan => exact absurd h (fun z => z)
  | inf s =>
    unfold FP.Core.encode FP.Core.assemble
    rw [e1, e2]
    cases s <;> decide
  | fin s c q =>
    obtain ⟨h1, h2⟩ := h
    have h1 : c < 9007199254740992 := h1
    rw [e4] at h2
    unfold FP.Core.encode FP.Core.assemble
    dsimp only
    rw [e1, e2, e3]
    have hs : s.toNat = 0 ∨ s.toNat = 1 := by cases s <;> decide
    generalize s.toNat = z at *
    split
    · omega
    · have : (q - -1074).toNat ≤ 2045 := by omega
      generalize (q - -1074).toNat = u at *
      omega
def nn32 (a : UInt32) : Prop := a.toNat % 2 ^ 31 ≤ 2139095040
def nn64 (a : UInt64) : Prop := a.toNat % 2 ^ 63 ≤ 9218868437227405312
theorem nn32_enc {d : FP.Core.Datum} (h : fgd FP.Core.b32 d) : nn32 (UInt32.ofNat (FP.Core.encode FP.Core.b32 d)) := by
  obtain ⟨h1, h2⟩ := enc_32 h
  unfold nn32
  rw [UInt32.toNat_ofNat', Nat.mod_eq_of_lt h1]
  exact h2
theorem nn64_enc {d : FP.Core.Datum} (h : fgd FP.Core.b64 d) : nn64 (UInt64.ofNat (FP.Core.encode FP.Core.b64 d)) := by
  obtain ⟨h1, h2⟩ := enc_64 h
  unfold nn64
  rw [UInt64.toNat_ofNat', Nat.mod_eq_of_lt h1]
  exact h2
theorem fp_n32 {a : UInt32} (h : nn32 a) : a &&& 0x7fffffff ≤ 0x7f800000 := by
  rw [UInt32.le_iff_toNat_le, UInt32.toNat_and]
  show a.toNat &&& (2 ^ 31 - 1) ≤ 2139095040
  rw [Nat.and_two_pow_sub_one_eq_mod]
  exact h
theorem fp_n64 {a : UInt64} (h : nn64 a) : a &&& 0x7fffffffffffffff ≤ 0x7ff0000000000000 := by
  rw [UInt64.le_iff_toNat_le, UInt64.toNat_and]
  show a.toNat &&& (2 ^ 63 - 1) ≤ 9218868437227405312
  rw [Nat.and_two_pow_sub_one_eq_mod]
  exact h
theorem dec_32 {a : UInt32} (h : nn32 a) : FP.Core.decode FP.Core.b32 a.toNat ≠ .nan := by
  have e1 : FP.Core.b32.exps = 256 := by decide
  have e2 : FP.Core.b32.tails = 8388608 := by decide
  unfold nn32 at h
  unfold FP.Core.decode FP.Core.fieldE FP.Core.fieldT
  rw [e1, e2]
  generalize a.toNat = n at *
  by_cases g : n / 8388608 % 256 = 256 - 1
  · rw [if_pos g, if_pos (by omega)]
    exact FP.Core.Datum.noConfusion
  · rw [if_neg g]
    split <;> exact FP.Core.Datum.noConfusion
theorem dec_64 {a : UInt64} (h : nn64 a) : FP.Core.decode FP.Core.b64 a.toNat ≠ .nan := by
  have e1 : FP.Core.b64.exps = 2048 := by decide
  have e2 : FP.Core.b64.tails = 4503599627370496 := by decide
  unfold nn64 at h
  unfold FP.Core.decode FP.Core.fieldE FP.Core.fieldT
  rw [e1, e2]
  generalize a.toNat = n at *
  by_cases g : n / 4503599627370496 % 2048 = 2048 - 1
  · rw [if_pos g, if_pos (by omega)]
    exact FP.Core.Datum.noConfusion
  · rw [if_neg g]
    split <;> exact FP.Core.Datum.noConfusion
/-- finite and not zero -/
def fnz (d : FP.Core.Datum) : Bool := match d with
  | .fin _ c _ => !(c == 0)
  | _ => false
theorem fgd_quo {f : FP.Core.Fmt} (h1 : f.tails < 2 ^ f.p) (h2 : f.qmin ≤ f.qmax) {x y : FP.Core.Datum} (hx : x ≠ .nan) (hy : fnz y = true) : fgd f (FP.Core.quotient f x y) := by
  cases y with
  | nan => cases hy
  | inf s => cases hy
  | fin t d r =>
    have hd : ¬ d = 0 := fun z => by subst z; cases hy
    cases x with
    | nan => exact absurd rfl hx
    | inf s => exact trivial
    | fin s c q =>
      unfold FP.Core.quotient
      dsimp only
      rw [if_neg hd]
      exact fgd_rr h1 h2 _ _ _ _
theorem i2f_nn (x : Int32) : nn32 (FP.i2f x) := nn32_enc (fgd_32 _ _ _ _)
theorem i2d_nn (x : Int32) : nn64 (FP.i2d x) := nn64_enc (fgd_64 _ _ _ _)
theorem i2f_nz : ∀ m, m < 700 → 0 < m → fnz (FP.Core.decode FP.Core.b32 (FP.i2f (nI m)).toNat) = true := by decide +kernel
theorem i2d_nz : ∀ m, m < 7 → 0 < m → fnz (FP.Core.decode FP.Core.b64 (FP.i2d (nI m)).toNat) = true := by decide +kernel
theorem fq_nn (x : Int32) {m : Nat} (h : m < 700) (h0 : 0 < m) : nn32 (FP.fdiv (FP.i2f x) (FP.i2f (nI m))) := nn32_enc (fgd_quo (by decide) (by decide) (dec_32 (i2f_nn x)) (i2f_nz m h h0))
theorem dq_nn (x : Int32) {m : Nat} (h : m < 7) (h0 : 0 < m) : nn64 (FP.ddiv (FP.i2d x) (FP.i2d (nI m))) := nn64_enc (fgd_quo (by decide) (by decide) (dec_64 (i2d_nn x)) (i2d_nz m h h0))
theorem fd_nn {a : UInt32} (h : nn32 a) : nn64 (FP.f2d a) := by
  have hn := dec_32 h
  have e : FP.f2d a = FP.Core.f2d a := by
    unfold FP.f2d
    rw [show FP.Core.fIsNaN a = false from decide_eq_false hn]
    rfl
  rw [e]
  refine nn64_enc ?_
  cases hd : FP.Core.decode FP.Core.b32 a.toNat with
  | nan => exact absurd hd hn
  | inf s => exact trivial
  | fin s c q => exact fgd_64 _ _ _ _
theorem ord_self {d : FP.Core.Datum} (h : d ≠ .nan) : FP.Core.order d d = some .eq := by
  have cs : ∀ a : Int, compare a a = Ordering.eq := fun a => by
    show (if a < a then Ordering.lt else if a = a then Ordering.eq else Ordering.gt) = _
    rw [if_neg (Int.lt_irrefl a), if_pos rfl]
  cases d with
  | nan => exact absurd rfl h
  | inf s => exact congrArg some (cs _)
  | fin s c q => exact congrArg some (cs _)
theorem dcmp_eq {a : UInt64} (h : nn64 a) : FP.dcmp a a = some .eq := ord_self (dec_64 h)
theorem v_fdiv {sx : eSx} (pc : Nat) (lv st : List Value) (μ : eMem) (x : Int32) {m : Nat} (h : m < 700) (h0 : 0 < m) : eDen (sx := sx) (p_fdiv pc) (lv, .float (FP.i2f (nI m)) :: .float (FP.i2f x) :: st, μ) = some (none, (lv, .float (FP.fdiv (FP.i2f x) (FP.i2f (nI m))) :: st, μ)) := by
  show Option.map _ (if FP.fdiv (FP.i2f x) (FP.i2f (nI m)) &&& 0x7fffffff ≤ 0x7f800000 then _ else none) = _
  rw [if_pos (fp_n32 (fq_nn x h h0))]
  rfl
theorem v_ddiv {sx : eSx} (pc : Nat) (lv st : List Value) (μ : eMem) (x : Int32) {m : Nat} (h : m < 7) (h0 : 0 < m) : eDen (sx := sx) (p_ddiv pc) (lv, .double (FP.i2d (nI m)) :: .double (FP.i2d x) :: st, μ) = some (none, (lv, .double (FP.ddiv (FP.i2d x) (FP.i2d (nI m))) :: st, μ)) := by
  show Option.map _ (if FP.ddiv (FP.i2d x) (FP.i2d (nI m)) &&& 0x7fffffffffffffff ≤ 0x7ff0000000000000 then _ else none) = _
  rw [if_pos (fp_n64 (dq_nn x h h0))]
  rfl
theorem v_f2d {sx : eSx} (pc : Nat) (lv st : List Value) (μ : eMem) {a : UInt32} (h : nn32 a) : eDen (sx := sx) (p_f2d pc) (lv, .float a :: st, μ) = some (none, (lv, .double (FP.f2d a) :: st, μ)) := by
  show Option.map _ (if FP.f2d a &&& 0x7fffffffffffffff ≤ 0x7ff0000000000000 then _ else none) = _
  rw [if_pos (fp_n64 (fd_nn h))]
  rfl
theorem v_freturn {sx : eSx} (pc stop : Nat) (lv : List Value) (μ : eMem) (x : UInt32) : eDen (sx := sx) (p_freturn pc stop) (lv, [.float x], μ) = some (some (.inr (.inl (some (.float x)))), (lv, [.float x], μ)) := id rfl
theorem v_dreturn {sx : eSx} (pc stop : Nat) (lv : List Value) (μ : eMem) (x : UInt64) : eDen (sx := sx) (p_dreturn pc stop) (lv, [.double x], μ) = some (some (.inr (.inl (some (.double x)))), (lv, [.double x], μ)) := id rfl
theorem v_rof (x : UInt32) : eRetOK (some .float) (some (.float x)) = true := id rfl
theorem v_rod (x : UInt64) : eRetOK (some .double) (some (.double x)) = true := id rfl
