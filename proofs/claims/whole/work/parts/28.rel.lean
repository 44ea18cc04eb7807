/-! ===== rows; what a State of the class holds of a row ===== -/
abbrev Row : Type := Nat → Int32
def wR (I : Nat → Nat → Int32) (s : Row) : Nat → Nat → Int32 := va_up I 191 s
theorem w_191 (I : Nat → Nat → Int32) (s : Row) : wR I s 191 = s := va_up_self _ _ _
theorem w_n {I : Nat → Nat → Int32} {s : Row} {k : Nat} (h : k ≠ 191) : wR I s k = I k := va_up_ne _ _ h
theorem w_si (I : Nat → Nat → Int32) (s : Row) (j : Nat) (x : Int32) : si (wR I s) 191 j x = wR I (upd s j x) := by
  funext k i
  unfold wR si
  by_cases h : k = 191
  · subst h; simp [va_up]
  · simp [va_up, h]
theorem w_sn {I : Nat → Nat → Int32} {s : Row} {k j : Nat} {x : Int32} (h : k ≠ 191) : si (wR I s) k j x = wR (si I k j x) s := by
  funext a i
  unfold wR si
  by_cases h2 : a = 191
  · subst h2; simp [va_up, Ne.symm h]
  · by_cases h3 : a = k
    · subst h3; simp [va_up, h]
    · simp [va_up, h2, h3]
theorem w_self (I : Nat → Nat → Int32) : wR I (I 191) = I := by
  funext k i
  unfold wR
  by_cases h : k = 191
  · subst h; simp [va_up]
  · simp [va_up, h]
theorem w_w (I : Nat → Nat → Int32) (s s' : Row) : wR (wR I s) s' = wR I s' := by
  funext k i
  unfold wR
  by_cases h : k = 191
  · subst h; simp [va_up]
  · simp [va_up, h]
theorem upd_at (f : Row) (k : Nat) (x : Int32) (j : Nat) : upd f k x j = if j = k then x else f j := rfl
theorem upd_self {f : Row} {k : Nat} {x : Int32} (h : f k = x) : upd f k x = f := by
  funext j
  rw [upd_at]
  by_cases hj : j = k
  · subst hj; simp [h]
  · simp [hj]
theorem upd_comm {f : Row} {k j : Nat} {x y : Int32} (h : k ≠ j) : upd (upd f k x) j y = upd (upd f j y) k x := by
  funext i
  simp only [upd_at]
  by_cases h1 : i = j <;> by_cases h2 : i = k <;> simp [h1, h2]
  · subst h1; exact absurd h2.symm h
  · subst h1; simp [Ne.symm h]
  · subst h2; simp [h]
/-- a visit -/
def vis (s : Row) (v : Nat) (x y : Int32) : Row := upd (upd (upd s (57 + 2 * (v % 200)) x) (57 + 2 * (v % 200) + 1) y) 4 (nI (v + 1))
theorem vis_lo {s : Row} {v : Nat} {x y : Int32} {j : Nat} (h : j < 57) (h4 : j ≠ 4) : vis s v x y j = s j := by
  unfold vis
  rw [pk_un h4, pk_un (by omega), pk_un (by omega)]
theorem vis_4 (s : Row) (v : Nat) (x y : Int32) : vis s v x y 4 = nI (v + 1) := pk_us
theorem vis_x (s : Row) (v : Nat) (x y : Int32) (i : Nat) : vis s v x y (57 + 2 * i) = if i = v % 200 then x else s (57 + 2 * i) := by
  unfold vis
  rw [pk_un (by omega), pk_un (by omega), upd_at]
  by_cases h : i = v % 200
  · rw [if_pos h, if_pos (by omega)]
  · rw [if_neg h, if_neg (by omega)]
theorem vis_y (s : Row) (v : Nat) (x y : Int32) (i : Nat) : vis s v x y (58 + 2 * i) = if i = v % 200 then y else s (58 + 2 * i) := by
  unfold vis
  rw [pk_un (by omega), upd_at, pk_un (by omega)]
  by_cases h : i = v % 200
  · rw [if_pos h, if_pos (by omega)]
  · rw [if_neg h, if_neg (by omega)]
theorem vis_upd {s : Row} {v : Nat} {x y z : Int32} {j : Nat} (h : j < 57) (h4 : j ≠ 4) : upd (vis s v x y) j z = vis (upd s j z) v x y := by
  unfold vis
  rw [upd_comm (Ne.symm h4), upd_comm (show 57 + 2 * (v % 200) + 1 ≠ j by omega), upd_comm (show 57 + 2 * (v % 200) ≠ j by omega)]
/-- a point is laid -/
def lay1 (s : Row) (p : Nat) (x y : Int32) : Row := upd (upd s (19 + p) x) (25 + p) y
theorem lay1_vis {s : Row} {v p : Nat} {x y a b : Int32} (h : p < 6) : lay1 (vis s v x y) p a b = vis (lay1 s p a b) v x y := by
  unfold lay1
  rw [vis_upd (by omega) (by omega), vis_upd (by omega) (by omega)]
theorem lay1_same {s : Row} {p : Nat} {x y : Int32} (hx : s (19 + p) = x) (hy : s (25 + p) = y) : lay1 s p x y = s := by
  unfold lay1
  rw [upd_self hx, upd_self hy]
theorem lay1_o {s : Row} {p : Nat} {x y : Int32} {j : Nat} (h1 : j ≠ 19 + p) (h2 : j ≠ 25 + p) : lay1 s p x y j = s j := by
  unfold lay1
  rw [pk_un h2, pk_un h1]
theorem lay1_x {s : Row} {p : Nat} {x y : Int32} (q : Nat) (h : p < 6) (hq : q < 6) : lay1 s p x y (19 + q) = if q = p then x else s (19 + q) := by
  unfold lay1
  rw [pk_un (by omega), upd_at]
  by_cases h : q = p
  · rw [if_pos h, if_pos (by omega)]
  · rw [if_neg h, if_neg (by omega)]
theorem lay1_y {s : Row} {p : Nat} {x y : Int32} (q : Nat) (h : p < 6) (hq : q < 6) : lay1 s p x y (25 + q) = if q = p then y else s (25 + q) := by
  unfold lay1
  rw [upd_at, pk_un (by omega)]
  by_cases h : q = p
  · rw [if_pos h, if_pos (by omega)]
  · rw [if_neg h, if_neg (by omega)]
/-- a point that was laid is visited if it has moved -/
def movd (s : Row) (p : Nat) (x y : Int32) : Prop := ¬ (s (19 + p) = x ∧ s (25 + p) = y)
def plS (s : Row) (v p : Nat) (x y : Int32) : Row × Nat × Nat := if s (19 + p) = x ∧ s (25 + p) = y then (s, v, 0) else (vis (lay1 s p x y) v x y, v + 1, 1)
/-! what the class holds -/
def CPo (I : Nat → Nat → Int32) (o c0 d0 : Nat) (s : Row) : Prop := I o 0 = s d0 ∧ ∀ k, k < 7 → I (o + 1) k = s (c0 + k)
def rol (s : Row) (p : Nat) : Int32 := if s (31 + p) = -nI 1 then nI 0 else if s (31 + p) = nI (p + 1) then nI 1 else nI 2
def CPt (I : Nat → Nat → Int32) (o m : Nat) (s : Row) : Prop := I o 0 = nI m ∧ ∀ p, p < m → I (o + 1) p = s (19 + p) ∧ I (o + 2) p = s (25 + p) ∧ I (o + 3) p = rol s p
def CDe (I : Nat → Nat → Int32) (o d : Nat) (s : Row) : Prop := I o 0 = nI d ∧ ∀ k, k < d → I (o + 1) k = s (37 + 4 * k) ∧ I (o + 2) k = s (38 + 4 * k) ∧ I (o + 3) k = s (39 + 4 * k) ∧ I (o + 4) k = s (40 + 4 * k)
def CVi (I : Nat → Nat → Int32) (o v : Nat) (s : Row) : Prop := I o 0 = nI (min v 200) ∧ I o 1 = nI (v % 200) ∧ ∀ i, i < min v 200 → I (o + 1) i = s (57 + 2 * i) * nI 1024 + s (58 + 2 * i)
def CS (I : Nat → Nat → Int32) (b m d v : Nat) (s : Row) : Prop := CPo I (b + 1) 12 1 s ∧ CPo I (b + 3) 5 0 s ∧ CPt I (b + 5) m s ∧ CDe I (b + 9) d s ∧ CVi I (b + 14) v s ∧ I b 5 = s 2
theorem CPo.keep {I I' : Nat → Nat → Int32} {o c0 d0 : Nat} {s s' : Row} (h : CPo I o c0 d0 s) (h1 : I' o 0 = I o 0) (h2 : I' (o + 1) = I (o + 1)) (h3 : s' d0 = s d0) (h4 : ∀ k, k < 7 → s' (c0 + k) = s (c0 + k)) : CPo I' o c0 d0 s' :=
  ⟨by rw [h1, h3]; exact h.1, fun k hk => by rw [h2, h4 k hk]; exact h.2 k hk⟩
theorem CPt.keep {I I' : Nat → Nat → Int32} {o m : Nat} {s s' : Row} (h : CPt I o m s) (h1 : I' o 0 = I o 0) (h2 : I' (o + 1) = I (o + 1)) (h3 : I' (o + 2) = I (o + 2)) (h4 : I' (o + 3) = I (o + 3)) (hm : m ≤ 6) (h5 : ∀ j, 19 ≤ j → j < 37 → s' j = s j) : CPt I' o m s' :=
  ⟨by rw [h1]; exact h.1, fun p hp => by
    obtain ⟨a, b, c⟩ := h.2 p hp
    rw [h2, h3, h4, h5 _ (by omega) (by omega), h5 _ (by omega) (by omega)]
    refine ⟨a, b, ?_⟩
    unfold rol
    rw [h5 _ (by omega) (by omega)]
    exact c⟩
theorem CDe.keep {I I' : Nat → Nat → Int32} {o d : Nat} {s s' : Row} (h : CDe I o d s) (h1 : I' o 0 = I o 0) (h2 : I' (o + 1) = I (o + 1)) (h3 : I' (o + 2) = I (o + 2)) (h4 : I' (o + 3) = I (o + 3)) (h5 : I' (o + 4) = I (o + 4)) (hd : d ≤ 5) (h6 : ∀ j, 37 ≤ j → j < 57 → s' j = s j) : CDe I' o d s' :=
  ⟨by rw [h1]; exact h.1, fun p hp => by
    obtain ⟨a, b, c, e⟩ := h.2 p hp
    rw [h2, h3, h4, h5, h6 _ (by omega) (by omega), h6 _ (by omega) (by omega), h6 _ (by omega) (by omega), h6 _ (by omega) (by omega)]
    exact ⟨a, b, c, e⟩⟩
theorem CVi.keep {I I' : Nat → Nat → Int32} {o v : Nat} {s s' : Row} (h : CVi I o v s) (h1 : I' o = I o) (h2 : I' (o + 1) = I (o + 1)) (h6 : ∀ j, 57 ≤ j → s' j = s j) : CVi I' o v s' :=
  ⟨by rw [h1]; exact h.1, by rw [h1]; exact h.2.1, fun i hi => by rw [h2, h6 _ (by omega), h6 _ (by omega)]; exact h.2.2 i hi⟩
/-- the objects of a State but its scratch -/
theorem CS.keep {I I' : Nat → Nat → Int32} {b m d v : Nat} {s : Row} (h : CS I b m d v s) (h1 : ∀ k, b < k → k < b + 16 → I' k = I k) (h2 : I' b 5 = I b 5) (hm : m ≤ 6) (hd : d ≤ 5) : CS I' b m d v s := by
  obtain ⟨a1, a2, a3, a4, a5, a6⟩ := h
  refine ⟨a1.keep (by rw [h1 _ (by omega) (by omega)]) (h1 _ (by omega) (by omega)) rfl (fun _ _ => rfl), a2.keep (by rw [h1 _ (by omega) (by omega)]) (h1 _ (by omega) (by omega)) rfl (fun _ _ => rfl), a3.keep (by rw [h1 _ (by omega) (by omega)]) (h1 _ (by omega) (by omega)) (h1 _ (by omega) (by omega)) (h1 _ (by omega) (by omega)) hm (fun _ _ _ => rfl), a4.keep (by rw [h1 _ (by omega) (by omega)]) (h1 _ (by omega) (by omega)) (h1 _ (by omega) (by omega)) (h1 _ (by omega) (by omega)) (h1 _ (by omega) (by omega)) hd (fun _ _ _ => rfl), a5.keep (h1 _ (by omega) (by omega)) (h1 _ (by omega) (by omega)) (fun _ _ => rfl), by rw [h2]; exact a6⟩
/-- outside of a State nothing has changed -/
def Fr (b : Nat) (I I' : Nat → Nat → Int32) : Prop := ∀ k, k < b ∨ b + 16 ≤ k → I' k = I k
theorem Fr.rf (b : Nat) (I : Nat → Nat → Int32) : Fr b I I := fun _ _ => rfl
theorem Fr.trans {b : Nat} {I I' I'' : Nat → Nat → Int32} (h1 : Fr b I I') (h2 : Fr b I' I'') : Fr b I I'' := fun k hk => (h2 k hk).trans (h1 k hk)
