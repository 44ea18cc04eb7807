/-! ===== what is reckoned, in numbers ===== -/
def pw : Nat → Int64
  | 0 => 1
  | m + 1 => 32 * pw m
def vW (sl : Bool) (k : Nat) : Int64 := if sl = true then (nI k).toInt64 else 1
/-- the value (or slope) by Horner's scheme, behind j steps from the top -/
def vH (sl : Bool) (c : Nat → Int32) (n : Nat) (x y : Int64) : Nat → Int64 × Int64
  | 0 => (vW sl n * (c n).toInt64, 0)
  | j + 1 => ((vH sl c n x y j).1 * x - (vH sl c n x y j).2 * y + vW sl (n - (j + 1)) * (c (n - (j + 1))).toInt64 * pw (j + 1), (vH sl c n x y j).1 * y + (vH sl c n x y j).2 * x)
theorem sh_pw : ∀ m, m ≤ 6 → ∀ x : Int64, x <<< ((nI (5 * m)).toInt64 &&& 63) = x * pw m := by
  intro m hm x
  have key : ∀ k : Nat, k < 64 → ∀ s p : Int64, s.toBitVec = BitVec.ofNat 64 k → p.toBitVec = BitVec.twoPow 64 k → x <<< s = x * p := by
    intro k hk s p hs hp
    apply Int64.toBitVec.inj
    rw [Int64.toBitVec_shiftLeft, Int64.toBitVec_mul, hs, hp, ← BitVec.shiftLeft_eq_mul_twoPow]
    rw [show (BitVec.ofNat 64 k).smod 64 = BitVec.ofNat 64 k from ?_]
    · show x.toBitVec <<< (BitVec.ofNat 64 k).toNat = _
      rw [BitVec.toNat_ofNat, Nat.mod_eq_of_lt (by omega)]
    · have : ∀ k : Nat, k < 64 → (BitVec.ofNat 64 k).smod 64 = BitVec.ofNat 64 k := by decide
      exact this k hk
  match m, hm with
  | 0, _ => exact key 0 (by decide) _ _ (by decide) (by decide)
  | 1, _ => exact key 5 (by decide) _ _ (by decide) (by decide)
  | 2, _ => exact key 10 (by decide) _ _ (by decide) (by decide)
  | 3, _ => exact key 15 (by decide) _ _ (by decide) (by decide)
  | 4, _ => exact key 20 (by decide) _ _ (by decide) (by decide)
  | 5, _ => exact key 25 (by decide) _ _ (by decide) (by decide)
  | 6, _ => exact key 30 (by decide) _ _ (by decide) (by decide)
  | m + 7, h => omega
/-- the product of a point over the first q others -/
def vP (X Y : Nat → Int32) (lead : Int64) (p : Nat) : Nat → Int64 × Int64
  | 0 => (lead, 0)
  | q + 1 => if q = p then vP X Y lead p q else ((vP X Y lead p q).1 * (X p - X q).toInt64 - (vP X Y lead p q).2 * (Y p - Y q).toInt64, (vP X Y lead p q).1 * (Y p - Y q).toInt64 + (vP X Y lead p q).2 * (X p - X q).toInt64)
/-- how far two numbers are apart -/
def dI (a b : Int32) : Int32 := if b < a then a - b else b - a
def mxI (a b : Int32) : Int32 := if b < a then a else b
def abL (x : Int64) : Int64 := if x < 0 then -x else x
def abI (x : Int32) : Int32 := if x < nI 0 then -x else x
def vS (X Y : Nat → Int32) (lead : Int64) (p : Nat) : Nat → Int64
  | 0 => lead
  | q + 1 => if q = p then vS X Y lead p q else vS X Y lead p q * (mxI (dI (X p) (X q)) (dI (Y p) (Y q))).toInt64
