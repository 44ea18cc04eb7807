/-! ===== the world is made ===== -/
def mu0 : eMem := ((0, 0, 0, true), fun _ _ => 0, fun _ _ => 0, fun _ _ => none)
def lvE : List Value := [.ref 3000, eJ, eJ, eJ, eJ, eJ, eJ, eJ, eJ]
def szO (k : Nat) : Nat := if (eShp k).1 < 50 then eClN (eShp k).1 else (eShp k).2
/-- the ints of a new world -/
def iT : Nat → Nat → Int32 := fun k i => match k, i with
  | 1, 5 => nI 2
  | 2, 0 => nI 2
  | 3, 0 => -nI 1
  | 3, 2 => nI 1
  | 4, 0 => nI 2
  | 5, 0 => -nI 1
  | 5, 2 => nI 1
  | 6, 0 => nI 2
  | 7, 0 => nI 64
  | 7, 1 => -nI 64
  | 15, 0 => nI 2
  | 15, 1 => nI 2
  | 16, 0 => nI 65536
  | 16, 1 => -nI 65536
  | 65, 5 => -nI 1
  | 189, 9 => -nI 1
  | 189, 11 => -nI 1
  | 189, 22 => nI 2
  | 191, 0 => nI 2
  | 191, 1 => nI 2
  | 191, 2 => nI 2
  | 191, 4 => nI 2
  | 191, 5 => -nI 1
  | 191, 7 => nI 1
  | 191, 12 => -nI 1
  | 191, 14 => nI 1
  | 191, 19 => nI 64
  | 191, 20 => -nI 64
  | 191, 31 => -nI 1
  | 191, 32 => -nI 1
  | 191, 33 => -nI 1
  | 191, 34 => -nI 1
  | 191, 35 => -nI 1
  | 191, 36 => -nI 1
  | 191, 57 => nI 64
  | 191, 59 => -nI 64
  | _, _ => nI 0
def mu1 : eMem := mM (213, 8885, true) iT (fun _ _ => 0) (fun _ => none)
def ckH (μ : eMem) : Bool := Nat.beq μ.1.1 213 && (Nat.beq μ.1.2.1 213 && (Nat.beq μ.1.2.2.1 8885 && μ.1.2.2.2))
def ckC (k lo n : Nat) (μ : eMem) : Bool := (List.range n).all fun i => decide (eI μ k (lo + i) = iT k (lo + i)) && (decide (eL μ k (lo + i) = 0) && decide (eA μ k (lo + i) = eA0 k (lo + i)))
def ckG (lo n : Nat) (μ : eMem) : Bool := (List.range n).all fun k => ckC (lo + k) 0 (szO (lo + k)) μ
def ckR (r : eRes) : Bool := match r with
  | some (none, ([.ref a, .ref b, .ref c, .ref d, .int i, .retAddr e, .retAddr f, .retAddr g, .retAddr h], [], μ)) => (Nat.beq a 3000 && (Nat.beq b 0 && (Nat.beq c 189 && (Nat.beq d 212 && (decide (i = nI 0) && (Nat.beq e 0 && (Nat.beq f 0 && (Nat.beq g 0 && Nat.beq h 0)))))))) && ckH μ
  | _ => false
def ckF (f : eMem → Bool) (r : eRes) : Bool := match r with
  | some (_, (_, _, μ)) => f μ
  | _ => false
theorem ckR_spec {r : eRes} (h : ckR r = true) : ∃ μ, r = some (none, (lv0 0, [], μ)) ∧ ckH μ = true := by
  unfold ckR at h
  split at h
  · rename_i a b c d i e f g h2 μ
    simp only [Bool.and_eq_true, decide_eq_true_eq] at h
    obtain ⟨⟨h1, h2, h3, h4, h5, h6, h7, h8, h9⟩, hm⟩ := h
    refine ⟨μ, ?_, hm⟩
    rw [Nat.eq_of_beq_eq_true h1, Nat.eq_of_beq_eq_true h2, Nat.eq_of_beq_eq_true h3, Nat.eq_of_beq_eq_true h4, h5, Nat.eq_of_beq_eq_true h6, Nat.eq_of_beq_eq_true h7, Nat.eq_of_beq_eq_true h8, Nat.eq_of_beq_eq_true h9]
    rfl
  · cases h
theorem beg_h : ckR (eDen lwP (lvE, [], mu0)) = true := by decide +kernel
theorem beg_0 : ckF (ckG 0 20) (eDen lwP (lvE, [], mu0)) = true := by decide +kernel
theorem beg_1 : ckF (ckG 20 19) (eDen lwP (lvE, [], mu0)) = true := by decide +kernel
theorem beg_2 : ckF (ckG 39 19) (eDen lwP (lvE, [], mu0)) = true := by decide +kernel
theorem beg_3 : ckF (ckG 58 8) (eDen lwP (lvE, [], mu0)) = true := by decide +kernel
theorem beg_4 : ckF (ckG 66 1) (eDen lwP (lvE, [], mu0)) = true := by decide +kernel
theorem beg_5 : ckF (ckG 67 8) (eDen lwP (lvE, [], mu0)) = true := by decide +kernel
theorem beg_6 : ckF (ckG 75 38) (eDen lwP (lvE, [], mu0)) = true := by decide +kernel
theorem beg_7 : ckF (ckG 113 38) (eDen lwP (lvE, [], mu0)) = true := by decide +kernel
theorem beg_8 : ckF (ckG 151 38) (eDen lwP (lvE, [], mu0)) = true := by decide +kernel
theorem beg_9 : ckF (ckG 189 2) (eDen lwP (lvE, [], mu0)) = true := by decide +kernel
theorem beg_10 : ckF (ckG 191 1) (eDen lwP (lvE, [], mu0)) = true := by decide +kernel
theorem beg_11 : ckF (ckG 192 1) (eDen lwP (lvE, [], mu0)) = true := by decide +kernel
theorem beg_12 : ckF (ckC 193 0 700) (eDen lwP (lvE, [], mu0)) = true := by decide +kernel
theorem beg_13 : ckF (ckC 193 700 700) (eDen lwP (lvE, [], mu0)) = true := by decide +kernel
theorem beg_14 : ckF (ckC 193 1400 700) (eDen lwP (lvE, [], mu0)) = true := by decide +kernel
theorem beg_15 : ckF (ckC 193 2100 642) (eDen lwP (lvE, [], mu0)) = true := by decide +kernel
theorem beg_16 : ckF (ckG 194 8) (eDen lwP (lvE, [], mu0)) = true := by decide +kernel
theorem beg_17 : ckF (ckG 202 11) (eDen lwP (lvE, [], mu0)) = true := by decide +kernel
