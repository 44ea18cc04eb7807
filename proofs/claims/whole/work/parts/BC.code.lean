/-! ===== the law's code, case by case, is what the pieces say ===== -/
def sKey {S : eCtx → Prop} {sx : eSx} (a : sP S sx) : Nat × Nat × (Nat × Nat) × (ByteArray → Bool) := (a.1.1, a.1.2.1, a.1.2.2.1, a.1.2.2.2.1)
def eKey {sx : eSx} (a : eP sx) : Nat × Nat × (Nat × Nat) × (ByteArray → Bool) := (a.1.1, a.1.2.1, a.1.2.2.1, a.1.2.2.2.1)
def kSeq (a b : Nat × Nat × (Nat × Nat) × (ByteArray → Bool)) : Nat × Nat × (Nat × Nat) × (ByteArray → Bool) := (a.1, b.2.1, (max a.2.2.1.1 b.2.2.1.1, max a.2.2.1.2 b.2.2.1.2), fun cc => a.2.2.2 cc && (b.2.2.2 cc && Nat.beq a.2.1 b.1))
def kBlk (T : Nat) (a : Nat × Nat × (Nat × Nat) × (ByteArray → Bool)) : Nat × Nat × (Nat × Nat) × (ByteArray → Bool) := (a.1, T, a.2.2.1, fun cc => a.2.2.2 cc && Nat.beq a.2.1 T)
theorem sk_seq {S : eCtx → Prop} {sx : eSx} (a b : sP S sx) : sKey (sSeq a b) = kSeq (sKey a) (sKey b) := id rfl
theorem sk_blk {S : eCtx → Prop} {sx : eSx} (T : Nat) (a : sP S sx) : sKey (sBlk T a) = kBlk T (sKey a) := id rfl
theorem sk_E {S : eCtx → Prop} {sx : eSx} (a : eP sx) : sKey (S := S) (sE a) = eKey a := id rfl
theorem sk_lift {S S' : eCtx → Prop} {sx : eSx} (h : ∀ x, S' x → S x) (a : sP S sx) : sKey (sLift h a) = sKey a := id rfl
theorem sk_sld {b L : Nat} {xs : Nat → Int32} {sx : eSx} (pc : Nat) : sKey (p_sld (b := b) (L := L) (xs := xs) (sx := sx) pc) = (pc, pc + 1, (0, 0), fun cc => decide (decode cc pc = .ok (.iaload, 1))) := id rfl
def kCall (pc idx : Nat) (M : eMd) : Nat × Nat × (Nat × Nat) × (ByteArray → Bool) := (pc, pc + 3, (M.2.2.2.2.1.1 + 1, 8 + (M.2.2.1 + 11) + M.2.2.2.2.1.2), fun cc => decide (decode cc pc = .ok (.invokestatic idx, 3)))
theorem sk_callH {S : eCtx → Prop} (hS : ∀ x, S x → sNc x) {hh : List (Nat × Nat × Nat × Nat)} {sx : eSx} (pc n idx : Nat) (M : eHt hh) (q1 q2 q3) : sKey (p_callH hS (sx := sx) pc n idx M q1 q2 q3) = kCall pc idx M.1 := id rfl
def cOK (T E : Nat) {S : eCtx → Prop} {sx : eSx} (a : sP S sx) : Prop := a.1.1 = T ∧ a.1.2.1 = E ∧ a.1.2.2.2.1 code = true ∧ a.1.2.2.1.1 ≤ 2048 ∧ a.1.2.2.1.2 ≤ 84000
theorem cOK_of {T E : Nat} {S S' : eCtx → Prop} {sx : eSx} {a : sP S sx} {a0 : sP S' sx} (h : sKey a = sKey a0) (hc : (Nat.beq a0.1.1 T && (Nat.beq a0.1.2.1 E && (a0.1.2.2.2.1 code && (Nat.ble a0.1.2.2.1.1 2048 && Nat.ble a0.1.2.2.1.2 84000)))) = true) : cOK T E a := by
  simp only [Bool.and_eq_true] at hc
  obtain ⟨h1, h2, h3, h4, h5⟩ := hc
  have e1 : a.1.1 = a0.1.1 := congrArg (fun q : Nat × Nat × (Nat × Nat) × (ByteArray → Bool) => q.1) h
  have e2 : a.1.2.1 = a0.1.2.1 := congrArg (fun q : Nat × Nat × (Nat × Nat) × (ByteArray → Bool) => q.2.1) h
  have e3 : a.1.2.2.1 = a0.1.2.2.1 := congrArg (fun q : Nat × Nat × (Nat × Nat) × (ByteArray → Bool) => q.2.2.1) h
  have e4 : a.1.2.2.2.1 = a0.1.2.2.2.1 := congrArg (fun q : Nat × Nat × (Nat × Nat) × (ByteArray → Bool) => q.2.2.2) h
  unfold cOK
  rw [e1, e2, e3, e4]
  exact ⟨Nat.eq_of_beq_eq_true h1, Nat.eq_of_beq_eq_true h2, h3, Nat.le_of_ble_eq_true h4, Nat.le_of_ble_eq_true h5⟩
theorem cOK_seq {T M E : Nat} {S : eCtx → Prop} {sx : eSx} {a b : sP S sx} (ha : cOK T M a) (hb : cOK M E b) : cOK T E (sSeq a b) := by
  obtain ⟨a1, a2, a3, a4, a5⟩ := ha
  obtain ⟨b1, b2, b3, b4, b5⟩ := hb
  refine ⟨a1, b2, ?_, Nat.max_le.mpr ⟨a4, b4⟩, Nat.max_le.mpr ⟨a5, b5⟩⟩
  show (a.1.2.2.2.1 code && (b.1.2.2.2.1 code && Nat.beq a.1.2.1 b.1.1)) = true
  rw [a3, b3, a2, b1, Nat.beq_refl]
  rfl
theorem cOK_blk {T E : Nat} {S : eCtx → Prop} {sx : eSx} {a : sP S sx} (ha : cOK T E a) : cOK T E (sBlk E a) := by
  obtain ⟨a1, a2, a3, a4, a5⟩ := ha
  refine ⟨a1, rfl, ?_, a4, a5⟩
  show (a.1.2.2.2.1 code && Nat.beq a.1.2.1 E) = true
  rw [a3, a2, Nat.beq_refl]
  rfl
theorem cOK_lop {T E : Nat} {S : eCtx → Prop} {sx : eSx} {a : sP S sx} (ha : cOK T E a) : cOK T E (sLop T a) := by
  obtain ⟨a1, a2, a3, a4, a5⟩ := ha
  refine ⟨rfl, a2, ?_, a4, a5⟩
  show (a.1.2.2.2.1 code && Nat.beq a.1.1 T) = true
  rw [a3, a1, Nat.beq_refl]
  rfl
theorem cOK_E {T E : Nat} {S : eCtx → Prop} {sx : eSx} {a : eP sx} (hc : (Nat.beq a.1.1 T && (Nat.beq a.1.2.1 E && (a.1.2.2.2.1 code && (Nat.ble a.1.2.2.1.1 2048 && Nat.ble a.1.2.2.1.2 84000)))) = true) : cOK T E (sE (S := S) a) := cOK_of (a0 := sE (S := S) a) rfl hc
def nest_ck (S : eCtx → Prop) (sx : eSx) : Nat → List (Nat × sP S sx) → Nat → Prop
  | t, [], e => t = e
  | t, (T, c) :: r, e => t = T ∧ ∃ t2, cOK T t2 c ∧ nest_ck S sx t2 r e
theorem cOK_nest {S : eCtx → Prop} {sx : eSx} : ∀ (cs : List (Nat × sP S sx)) (a : sP S sx) (T t e : Nat), cOK T t a → nest_ck S sx t cs e → cOK T e (sNest cs a) := by
  intro cs
  induction cs with
  | nil => intro a T t e h h2; cases h2; exact h
  | cons q r ih =>
    obtain ⟨T0, c⟩ := q
    intro a T t e h h2
    obtain ⟨rfl, t2, h3, h4⟩ := h2
    exact ih _ T t2 e (cOK_seq (cOK_blk h) h3) h4
theorem ky_0 (b L : Nat) (xs : Nat → Int32) : sKey (cL_0 (b := b) (L := L) (xs := xs)) = sKey (cL_0 (b := 0) (L := 0) (xs := fun _ => 0)) := by simp only [cL_0, sk_seq, sk_blk, sk_E, sk_lift, sk_sld, sk_callH, aArg, aBol, aThr, aTI, aTJ, aTZ, aTD]
theorem ok_0 (b L : Nat) (xs : Nat → Int32) : cOK 284 388 (cL_0 (b := b) (L := L) (xs := xs)) := cOK_of (ky_0 b L xs) (by decide +kernel)
theorem ky_1 (b L : Nat) (xs : Nat → Int32) : sKey (cL_1 (b := b) (L := L) (xs := xs)) = sKey (cL_1 (b := 0) (L := 0) (xs := fun _ => 0)) := by simp only [cL_1, sk_seq, sk_blk, sk_E, sk_lift, sk_sld, sk_callH, aArg, aBol, aThr, aTI, aTJ, aTZ, aTD]
theorem ok_1 (b L : Nat) (xs : Nat → Int32) : cOK 388 444 (cL_1 (b := b) (L := L) (xs := xs)) := cOK_of (ky_1 b L xs) (by decide +kernel)
theorem ky_2 (b L : Nat) (xs : Nat → Int32) : sKey (cL_2 (b := b) (L := L) (xs := xs)) = sKey (cL_2 (b := 0) (L := 0) (xs := fun _ => 0)) := by simp only [cL_2, sk_seq, sk_blk, sk_E, sk_lift, sk_sld, sk_callH, aArg, aBol, aThr, aTI, aTJ, aTZ, aTD]
theorem ok_2 (b L : Nat) (xs : Nat → Int32) : cOK 444 488 (cL_2 (b := b) (L := L) (xs := xs)) := cOK_of (ky_2 b L xs) (by decide +kernel)
theorem ky_3 (b L : Nat) (xs : Nat → Int32) : sKey (cL_3 (b := b) (L := L) (xs := xs)) = sKey (cL_3 (b := 0) (L := 0) (xs := fun _ => 0)) := by simp only [cL_3, sk_seq, sk_blk, sk_E, sk_lift, sk_sld, sk_callH, aArg, aBol, aThr, aTI, aTJ, aTZ, aTD]
theorem ok_3 (b L : Nat) (xs : Nat → Int32) : cOK 488 532 (cL_3 (b := b) (L := L) (xs := xs)) := cOK_of (ky_3 b L xs) (by decide +kernel)
theorem ky_4 (b L : Nat) (xs : Nat → Int32) : sKey (cL_4 (b := b) (L := L) (xs := xs)) = sKey (cL_4 (b := 0) (L := 0) (xs := fun _ => 0)) := by simp only [cL_4, sk_seq, sk_blk, sk_E, sk_lift, sk_sld, sk_callH, aArg, aBol, aThr, aTI, aTJ, aTZ, aTD]
theorem ok_4 (b L : Nat) (xs : Nat → Int32) : cOK 532 545 (cL_4 (b := b) (L := L) (xs := xs)) := cOK_of (ky_4 b L xs) (by decide +kernel)
theorem ky_5 (b L : Nat) (xs : Nat → Int32) : sKey (cL_5 (b := b) (L := L) (xs := xs)) = sKey (cL_5 (b := 0) (L := 0) (xs := fun _ => 0)) := by simp only [cL_5, sk_seq, sk_blk, sk_E, sk_lift, sk_sld, sk_callH, aArg, aBol, aThr, aTI, aTJ, aTZ, aTD]
theorem ok_5 (b L : Nat) (xs : Nat → Int32) : cOK 545 558 (cL_5 (b := b) (L := L) (xs := xs)) := cOK_of (ky_5 b L xs) (by decide +kernel)
theorem ky_6 (b L : Nat) (xs : Nat → Int32) : sKey (cL_6 (b := b) (L := L) (xs := xs)) = sKey (cL_6 (b := 0) (L := 0) (xs := fun _ => 0)) := by simp only [cL_6, sk_seq, sk_blk, sk_E, sk_lift, sk_sld, sk_callH, aArg, aBol, aThr, aTI, aTJ, aTZ, aTD]
theorem ok_6 (b L : Nat) (xs : Nat → Int32) : cOK 558 571 (cL_6 (b := b) (L := L) (xs := xs)) := cOK_of (ky_6 b L xs) (by decide +kernel)
theorem ky_7 (b L : Nat) (xs : Nat → Int32) : sKey (cL_7 (b := b) (L := L) (xs := xs)) = sKey (cL_7 (b := 0) (L := 0) (xs := fun _ => 0)) := by simp only [cL_7, sk_seq, sk_blk, sk_E, sk_lift, sk_sld, sk_callH, aArg, aBol, aThr, aTI, aTJ, aTZ, aTD]
theorem ok_7 (b L : Nat) (xs : Nat → Int32) : cOK 571 627 (cL_7 (b := b) (L := L) (xs := xs)) := cOK_of (ky_7 b L xs) (by decide +kernel)
theorem ky_8 (b L : Nat) (xs : Nat → Int32) : sKey (cL_8 (b := b) (L := L) (xs := xs)) = sKey (cL_8 (b := 0) (L := 0) (xs := fun _ => 0)) := by simp only [cL_8, sk_seq, sk_blk, sk_E, sk_lift, sk_sld, sk_callH, aArg, aBol, aThr, aTI, aTJ, aTZ, aTD]
theorem ok_8 (b L : Nat) (xs : Nat → Int32) : cOK 627 640 (cL_8 (b := b) (L := L) (xs := xs)) := cOK_of (ky_8 b L xs) (by decide +kernel)
theorem ky_9 (b L : Nat) (xs : Nat → Int32) : sKey (cL_9 (b := b) (L := L) (xs := xs)) = sKey (cL_9 (b := 0) (L := 0) (xs := fun _ => 0)) := by simp only [cL_9, sk_seq, sk_blk, sk_E, sk_lift, sk_sld, sk_callH, aArg, aBol, aThr, aTI, aTJ, aTZ, aTD]
theorem ok_9 (b L : Nat) (xs : Nat → Int32) : cOK 640 696 (cL_9 (b := b) (L := L) (xs := xs)) := cOK_of (ky_9 b L xs) (by decide +kernel)
theorem ky_10 (b L : Nat) (xs : Nat → Int32) : sKey (cL_10 (b := b) (L := L) (xs := xs)) = sKey (cL_10 (b := 0) (L := 0) (xs := fun _ => 0)) := by simp only [cL_10, sk_seq, sk_blk, sk_E, sk_lift, sk_sld, sk_callH, aArg, aBol, aThr, aTI, aTJ, aTZ, aTD]
theorem ok_10 (b L : Nat) (xs : Nat → Int32) : cOK 696 791 (cL_10 (b := b) (L := L) (xs := xs)) := cOK_of (ky_10 b L xs) (by decide +kernel)
theorem ky_11 (b L : Nat) (xs : Nat → Int32) : sKey (cL_11 (b := b) (L := L) (xs := xs)) = sKey (cL_11 (b := 0) (L := 0) (xs := fun _ => 0)) := by simp only [cL_11, sk_seq, sk_blk, sk_E, sk_lift, sk_sld, sk_callH, aArg, aBol, aThr, aTI, aTJ, aTZ, aTD]
theorem ok_11 (b L : Nat) (xs : Nat → Int32) : cOK 791 886 (cL_11 (b := b) (L := L) (xs := xs)) := cOK_of (ky_11 b L xs) (by decide +kernel)
theorem ky_12 (b L : Nat) (xs : Nat → Int32) : sKey (cL_12 (b := b) (L := L) (xs := xs)) = sKey (cL_12 (b := 0) (L := 0) (xs := fun _ => 0)) := by simp only [cL_12, sk_seq, sk_blk, sk_E, sk_lift, sk_sld, sk_callH, aArg, aBol, aThr, aTI, aTJ, aTZ, aTD]
theorem ok_12 (b L : Nat) (xs : Nat → Int32) : cOK 886 899 (cL_12 (b := b) (L := L) (xs := xs)) := cOK_of (ky_12 b L xs) (by decide +kernel)
theorem ky_13 (b L : Nat) (xs : Nat → Int32) : sKey (cL_13 (b := b) (L := L) (xs := xs)) = sKey (cL_13 (b := 0) (L := 0) (xs := fun _ => 0)) := by simp only [cL_13, sk_seq, sk_blk, sk_E, sk_lift, sk_sld, sk_callH, aArg, aBol, aThr, aTI, aTJ, aTZ, aTD]
theorem ok_13 (b L : Nat) (xs : Nat → Int32) : cOK 899 967 (cL_13 (b := b) (L := L) (xs := xs)) := cOK_of (ky_13 b L xs) (by decide +kernel)
theorem ky_14 (b L : Nat) (xs : Nat → Int32) : sKey (cL_14 (b := b) (L := L) (xs := xs)) = sKey (cL_14 (b := 0) (L := 0) (xs := fun _ => 0)) := by simp only [cL_14, sk_seq, sk_blk, sk_E, sk_lift, sk_sld, sk_callH, aArg, aBol, aThr, aTI, aTJ, aTZ, aTD]
theorem ok_14 (b L : Nat) (xs : Nat → Int32) : cOK 967 980 (cL_14 (b := b) (L := L) (xs := xs)) := cOK_of (ky_14 b L xs) (by decide +kernel)
theorem ky_15 (b L : Nat) (xs : Nat → Int32) : sKey (cL_15 (b := b) (L := L) (xs := xs)) = sKey (cL_15 (b := 0) (L := 0) (xs := fun _ => 0)) := by simp only [cL_15, sk_seq, sk_blk, sk_E, sk_lift, sk_sld, sk_callH, aArg, aBol, aThr, aTI, aTJ, aTZ, aTD]
theorem ok_15 (b L : Nat) (xs : Nat → Int32) : cOK 980 1048 (cL_15 (b := b) (L := L) (xs := xs)) := cOK_of (ky_15 b L xs) (by decide +kernel)
theorem ky_16 (b L : Nat) (xs : Nat → Int32) : sKey (cL_16 (b := b) (L := L) (xs := xs)) = sKey (cL_16 (b := 0) (L := 0) (xs := fun _ => 0)) := by simp only [cL_16, sk_seq, sk_blk, sk_E, sk_lift, sk_sld, sk_callH, aArg, aBol, aThr, aTI, aTJ, aTZ, aTD]
theorem ok_16 (b L : Nat) (xs : Nat → Int32) : cOK 1048 1131 (cL_16 (b := b) (L := L) (xs := xs)) := cOK_of (ky_16 b L xs) (by decide +kernel)
theorem ky_17 (b L : Nat) (xs : Nat → Int32) : sKey (cL_17 (b := b) (L := L) (xs := xs)) = sKey (cL_17 (b := 0) (L := 0) (xs := fun _ => 0)) := by simp only [cL_17, sk_seq, sk_blk, sk_E, sk_lift, sk_sld, sk_callH, aArg, aBol, aThr, aTI, aTJ, aTZ, aTD]
theorem ok_17 (b L : Nat) (xs : Nat → Int32) : cOK 1131 1214 (cL_17 (b := b) (L := L) (xs := xs)) := cOK_of (ky_17 b L xs) (by decide +kernel)
theorem ky_18 (b L : Nat) (xs : Nat → Int32) : sKey (cL_18 (b := b) (L := L) (xs := xs)) = sKey (cL_18 (b := 0) (L := 0) (xs := fun _ => 0)) := by simp only [cL_18, sk_seq, sk_blk, sk_E, sk_lift, sk_sld, sk_callH, aArg, aBol, aThr, aTI, aTJ, aTZ, aTD]
theorem ok_18 (b L : Nat) (xs : Nat → Int32) : cOK 1214 1269 (cL_18 (b := b) (L := L) (xs := xs)) := cOK_of (ky_18 b L xs) (by decide +kernel)
theorem ky_19 (b L : Nat) (xs : Nat → Int32) : sKey (cL_19 (b := b) (L := L) (xs := xs)) = sKey (cL_19 (b := 0) (L := 0) (xs := fun _ => 0)) := by simp only [cL_19, sk_seq, sk_blk, sk_E, sk_lift, sk_sld, sk_callH, aArg, aBol, aThr, aTI, aTJ, aTZ, aTD]
theorem ok_19 (b L : Nat) (xs : Nat → Int32) : cOK 1269 1353 (cL_19 (b := b) (L := L) (xs := xs)) := cOK_of (ky_19 b L xs) (by decide +kernel)
theorem ky_20 (b L : Nat) (xs : Nat → Int32) : sKey (cL_20 (b := b) (L := L) (xs := xs)) = sKey (cL_20 (b := 0) (L := 0) (xs := fun _ => 0)) := by simp only [cL_20, sk_seq, sk_blk, sk_E, sk_lift, sk_sld, sk_callH, aArg, aBol, aThr, aTI, aTJ, aTZ, aTD]
theorem ok_20 (b L : Nat) (xs : Nat → Int32) : cOK 1353 1428 (cL_20 (b := b) (L := L) (xs := xs)) := cOK_of (ky_20 b L xs) (by decide +kernel)
theorem ky_21 (b L : Nat) (xs : Nat → Int32) : sKey (cL_21 (b := b) (L := L) (xs := xs)) = sKey (cL_21 (b := 0) (L := 0) (xs := fun _ => 0)) := by simp only [cL_21, sk_seq, sk_blk, sk_E, sk_lift, sk_sld, sk_callH, aArg, aBol, aThr, aTI, aTJ, aTZ, aTD]
theorem ok_21 (b L : Nat) (xs : Nat → Int32) : cOK 1428 1484 (cL_21 (b := b) (L := L) (xs := xs)) := cOK_of (ky_21 b L xs) (by decide +kernel)
theorem ky_22 (b L : Nat) (xs : Nat → Int32) : sKey (cL_22 (b := b) (L := L) (xs := xs)) = sKey (cL_22 (b := 0) (L := 0) (xs := fun _ => 0)) := by simp only [cL_22, sk_seq, sk_blk, sk_E, sk_lift, sk_sld, sk_callH, aArg, aBol, aThr, aTI, aTJ, aTZ, aTD]
theorem ok_22 (b L : Nat) (xs : Nat → Int32) : cOK 1484 1497 (cL_22 (b := b) (L := L) (xs := xs)) := cOK_of (ky_22 b L xs) (by decide +kernel)
theorem ky_23 (b L : Nat) (xs : Nat → Int32) : sKey (cL_23 (b := b) (L := L) (xs := xs)) = sKey (cL_23 (b := 0) (L := 0) (xs := fun _ => 0)) := by simp only [cL_23, sk_seq, sk_blk, sk_E, sk_lift, sk_sld, sk_callH, aArg, aBol, aThr, aTI, aTJ, aTZ, aTD]
theorem ok_23 (b L : Nat) (xs : Nat → Int32) : cOK 1497 1510 (cL_23 (b := b) (L := L) (xs := xs)) := cOK_of (ky_23 b L xs) (by decide +kernel)
theorem ky_24 (b L : Nat) (xs : Nat → Int32) : sKey (cL_24 (b := b) (L := L) (xs := xs)) = sKey (cL_24 (b := 0) (L := 0) (xs := fun _ => 0)) := by simp only [cL_24, sk_seq, sk_blk, sk_E, sk_lift, sk_sld, sk_callH, aArg, aBol, aThr, aTI, aTJ, aTZ, aTD]
theorem ok_24 (b L : Nat) (xs : Nat → Int32) : cOK 1510 1523 (cL_24 (b := b) (L := L) (xs := xs)) := cOK_of (ky_24 b L xs) (by decide +kernel)
theorem ky_25 (b L : Nat) (xs : Nat → Int32) : sKey (cL_25 (b := b) (L := L) (xs := xs)) = sKey (cL_25 (b := 0) (L := 0) (xs := fun _ => 0)) := by simp only [cL_25, sk_seq, sk_blk, sk_E, sk_lift, sk_sld, sk_callH, aArg, aBol, aThr, aTI, aTJ, aTZ, aTD]
theorem ok_25 (b L : Nat) (xs : Nat → Int32) : cOK 1523 1560 (cL_25 (b := b) (L := L) (xs := xs)) := cOK_of (ky_25 b L xs) (by decide +kernel)
theorem ky_26 (b L : Nat) (xs : Nat → Int32) : sKey (cL_26 (b := b) (L := L) (xs := xs)) = sKey (cL_26 (b := 0) (L := 0) (xs := fun _ => 0)) := by simp only [cL_26, sk_seq, sk_blk, sk_E, sk_lift, sk_sld, sk_callH, aArg, aBol, aThr, aTI, aTJ, aTZ, aTD]
theorem ok_26 (b L : Nat) (xs : Nat → Int32) : cOK 1560 1573 (cL_26 (b := b) (L := L) (xs := xs)) := cOK_of (ky_26 b L xs) (by decide +kernel)
theorem ky_27 (b L : Nat) (xs : Nat → Int32) : sKey (cL_27 (b := b) (L := L) (xs := xs)) = sKey (cL_27 (b := 0) (L := 0) (xs := fun _ => 0)) := by simp only [cL_27, sk_seq, sk_blk, sk_E, sk_lift, sk_sld, sk_callH, aArg, aBol, aThr, aTI, aTJ, aTZ, aTD]
theorem ok_27 (b L : Nat) (xs : Nat → Int32) : cOK 1573 1598 (cL_27 (b := b) (L := L) (xs := xs)) := cOK_of (ky_27 b L xs) (by decide +kernel)
theorem ky_28 (b L : Nat) (xs : Nat → Int32) : sKey (cL_28 (b := b) (L := L) (xs := xs)) = sKey (cL_28 (b := 0) (L := 0) (xs := fun _ => 0)) := by simp only [cL_28, sk_seq, sk_blk, sk_E, sk_lift, sk_sld, sk_callH, aArg, aBol, aThr, aTI, aTJ, aTZ, aTD]
theorem ok_28 (b L : Nat) (xs : Nat → Int32) : cOK 1598 1611 (cL_28 (b := b) (L := L) (xs := xs)) := cOK_of (ky_28 b L xs) (by decide +kernel)
theorem ky_29 (b L : Nat) (xs : Nat → Int32) : sKey (cL_29 (b := b) (L := L) (xs := xs)) = sKey (cL_29 (b := 0) (L := 0) (xs := fun _ => 0)) := by simp only [cL_29, sk_seq, sk_blk, sk_E, sk_lift, sk_sld, sk_callH, aArg, aBol, aThr, aTI, aTJ, aTZ, aTD]
theorem ok_29 (b L : Nat) (xs : Nat → Int32) : cOK 1611 1731 (cL_29 (b := b) (L := L) (xs := xs)) := cOK_of (ky_29 b L xs) (by decide +kernel)
