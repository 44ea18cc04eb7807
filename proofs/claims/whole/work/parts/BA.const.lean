/-! ===== the constants of the start ===== -/
def zVb : List String := ["REFINE", "SWEEP", "RUN", "SPREAD", "START", "MOVE", "DIVIDE", "GOAL", "REPEAT"]
def zSt (k : Nat) : Term := match eXs.find? (fun q => Nat.beq q.2.2.2 k) with
  | some q => .string q.1 q.2.1
  | none => .arg 0
/-- the term of a constant's number -/
def zTm (k : Nat) : Term := if k < 1009 then .static "RootDiscs$Verb" (zVb.getD (k - 1000) "") "LRootDiscs$Verb;" else if k = 1020 then .static "RootDiscs$Verb" "ALL" "[LRootDiscs$Verb;" else if k = 1021 then .static "RootDiscs$1" "$SwitchMap$RootDiscs$Verb" "[I" else if k % 2 = 0 then zSt k else .field (zSt (k - 1)) "java/lang/String" "value" "[B"
def zV : Value → Term
  | .int x => .int x
  | .ref r => zTm r
  | _ => .arg 0
def zF (q : Nat × String × String × String × Value) : Cond := .eq (.field (zTm q.1) q.2.1 q.2.2.1 q.2.2.2.1) (zV q.2.2.2.2)
def zO : List (Nat × String) := [(1000, "RootDiscs$Verb"), (1001, "RootDiscs$Verb"), (1002, "RootDiscs$Verb"), (1003, "RootDiscs$Verb"), (1004, "RootDiscs$Verb"), (1005, "RootDiscs$Verb"), (1006, "RootDiscs$Verb"), (1007, "RootDiscs$Verb"), (1008, "RootDiscs$Verb")] ++ eXs.map (fun q => (q.2.2.2, "java/lang/String"))
abbrev gvn : Cond := Jvm.Cond.and given_1 narrow_1
def FL : List Cond := flatC gvn
theorem FL_in {α : Type} {l : List α} {f : α → Cond} {is : List Nat} {big : List Cond} (h : l.map f = is.filterMap (fun i => big[i]?)) : ∀ q ∈ l, f q ∈ big := by
  intro q hq
  have h2 : f q ∈ l.map f := List.mem_map_of_mem hq
  rw [h] at h2
  obtain ⟨i, -, hi⟩ := List.mem_filterMap.mp h2
  exact List.mem_of_getElem? hi
theorem FL_o : zO.map (fun q => Cond.exactly (zTm q.1) q.2) = ([48, 55, 63, 72, 82, 93, 30, 105, 25, 163, 200, 218, 226, 232, 240, 248, 273, 282, 309, 332, 349, 365, 394, 411, 440, 458, 476, 492, 520, 537, 565, 621, 654, 681, 717, 733, 749, 770, 780, 790, 800, 809, 816, 826, 835, 843] : List Nat).filterMap (fun i => FL[i]?) := by decide +kernel
def zXfW : List (Nat × String × String × String × Value) := eXf.filter (fun q => !(q.2.2.1 == "value"))
theorem FL_f : zXfW.map zF = ([49, 50, 51, 52, 56, 57, 58, 59, 64, 65, 66, 67, 73, 74, 75, 76, 83, 84, 85, 86, 94, 95, 96, 97, 31, 32, 33, 34, 106, 107, 108, 109, 26, 27, 28, 29, 219, 227, 233, 241, 274, 771, 781, 791, 801, 810, 817, 827, 836, 844] : List Nat).filterMap (fun i => FL[i]?) := by decide +kernel
theorem eXf_v : (eXf.filter (fun q => q.2.2.1 == "value")).all (fun q => match q.2.2.2.2 with | .ref r => decide (zTm r = .field (zTm q.1) q.2.1 q.2.2.1 q.2.2.2.1) | _ => false) = true := by decide +kernel
theorem FL_a1 : eXa.map (fun q => Cond.arrayOf (zTm q.1) q.2.1) = ([220, 228, 234, 242, 275, 772, 782, 792, 802, 811, 818, 828, 837, 845, 37, 13] : List Nat).filterMap (fun i => FL[i]?) := by decide +kernel
theorem FL_a2 : eXa.map (fun q => Cond.eq (.length (zTm q.1)) (.int (Int32.ofNat q.2.2.length))) = ([221, 229, 235, 243, 276, 773, 783, 793, 803, 812, 819, 829, 838, 846, 38, 14] : List Nat).filterMap (fun i => FL[i]?) := by decide +kernel
def zEl : List (Nat × Nat × Value) := eXa.flatMap (fun q => (List.range q.2.2.length).map fun j => (q.1, j, q.2.2.getD j .null))
theorem FL_a3 : zEl.map (fun q => Cond.eq (.elem (zTm q.1) (.int (Int32.ofNat q.2.1))) (zV q.2.2)) = ([222, 223, 224, 225, 230, 231, 236, 237, 238, 239, 244, 245, 246, 247, 277, 278, 279, 280, 774, 775, 776, 777, 778, 779, 784, 785, 786, 787, 788, 789, 794, 795, 796, 797, 798, 799, 804, 805, 806, 807, 808, 813, 814, 815, 820, 821, 822, 823, 824, 825, 830, 831, 832, 833, 834, 839, 840, 841, 842, 847, 848, 849, 850, 39, 40, 41, 42, 43, 44, 45, 46, 47, 16, 17, 18, 19, 20, 21, 22, 23, 24] : List Nat).filterMap (fun i => FL[i]?) := by decide +kernel
def zNe : List (Nat × Nat) := [(0, 1), (0, 2), (0, 3), (0, 4), (0, 5), (0, 7), (1, 2), (1, 3), (1, 4), (1, 5), (1, 7), (2, 3), (2, 4), (2, 5), (2, 7), (3, 4), (3, 5), (3, 7), (4, 5), (4, 7), (5, 7), (6, 0), (6, 1), (6, 2), (6, 3), (6, 4), (6, 5), (6, 7), (8, 0), (8, 1), (8, 2), (8, 3), (8, 4), (8, 5), (8, 6), (8, 7)]
theorem FL_n : zNe.map (fun q => Cond.not (.eq (zTm (1000 + q.1)) (zTm (1000 + q.2)))) = ([62, 70, 79, 89, 100, 112, 71, 80, 90, 101, 113, 81, 91, 102, 114, 92, 103, 115, 104, 116, 117, 54, 61, 69, 78, 88, 99, 111, 53, 60, 68, 77, 87, 98, 35, 110] : List Nat).filterMap (fun i => FL[i]?) := by decide +kernel
theorem zNe_all : ∀ i, i < 9 → ∀ j, j < 9 → i = j ∨ (i, j) ∈ zNe ∨ (j, i) ∈ zNe := by decide +kernel
theorem FL_c : eNcs.map (fun q => Cond.not (.castable q.1 q.2)) = ([160, 145, 130, 161, 132, 147] : List Nat).filterMap (fun i => FL[i]?) := by decide +kernel
theorem FL_cs : Cond.eq (.static "java/lang/String" "COMPACT_STRINGS" "Z") (.int 1) ∈ FL := List.mem_of_getElem? (i := 6) (by decide +kernel)
theorem FL_ru : Cond.isRef (.static "java/lang/Throwable" "UNASSIGNED_STACK" "[Ljava/lang/StackTraceElement;") ∈ FL := List.mem_of_getElem? (i := 4) (by decide +kernel)
theorem FL_rs : Cond.isRef (.static "java/lang/Throwable" "SUPPRESSED_SENTINEL" "Ljava/util/List;") ∈ FL := List.mem_of_getElem? (i := 5) (by decide +kernel)
theorem FL_rp : Cond.isRef (.static "jdk/internal/util/Preconditions" "SIOOBE_FORMATTER" "Ljava/util/function/BiFunction;") ∈ FL := List.mem_of_getElem? (i := 7) (by decide +kernel)
theorem tW_s0 : Cond.laysStatic "java/lang/String" "COMPACT_STRINGS" "Z" ∈ lw_tbl := List.mem_of_getElem? (i := 995) (by decide +kernel)
theorem tW_s1 : Cond.laysStatic "RootDiscs$Verb" "ALL" "[LRootDiscs$Verb;" ∈ lw_tbl := List.mem_of_getElem? (i := 1095) (by decide +kernel)
theorem tW_s2 : Cond.laysStatic "RootDiscs$1" "$SwitchMap$RootDiscs$Verb" "[I" ∈ lw_tbl := List.mem_of_getElem? (i := 1159) (by decide +kernel)
theorem tW_s3 : Cond.laysStatic "RootDiscs$Verb" "REPEAT" "LRootDiscs$Verb;" ∈ lw_tbl := List.mem_of_getElem? (i := 1099) (by decide +kernel)
theorem tW_s4 : Cond.laysStatic "RootDiscs$Verb" "DIVIDE" "LRootDiscs$Verb;" ∈ lw_tbl := List.mem_of_getElem? (i := 1115) (by decide +kernel)
theorem tW_s5 : Cond.laysStatic "java/lang/Throwable" "UNASSIGNED_STACK" "[Ljava/lang/StackTraceElement;" ∈ lw_tbl := List.mem_of_getElem? (i := 876) (by decide +kernel)
theorem tW_s6 : Cond.laysStatic "java/lang/Throwable" "SUPPRESSED_SENTINEL" "Ljava/util/List;" ∈ lw_tbl := List.mem_of_getElem? (i := 878) (by decide +kernel)
theorem tW_s7 : Cond.laysStatic "jdk/internal/util/Preconditions" "SIOOBE_FORMATTER" "Ljava/util/function/BiFunction;" ∈ lw_tbl := List.mem_of_getElem? (i := 1011) (by decide +kernel)
theorem tW_i0 : Cond.initialized "RootDiscs$1" ∈ lw_tbl := List.mem_of_getElem? (i := 134) (by decide +kernel)
theorem tW_i1 : Cond.initialized "RootDiscs$Verb" ∈ lw_tbl := List.mem_of_getElem? (i := 132) (by decide +kernel)
theorem tW_i2 : Cond.initialized "java/lang/String" ∈ lw_tbl := List.mem_of_getElem? (i := 127) (by decide +kernel)
theorem tW_i3 : Cond.initialized "java/lang/Throwable" ∈ lw_tbl := List.mem_of_getElem? (i := 122) (by decide +kernel)
theorem tW_i4 : Cond.initialized "jdk/internal/util/Preconditions" ∈ lw_tbl := List.mem_of_getElem? (i := 129) (by decide +kernel)
theorem tW_a0 : Cond.arrayClass Jvm.ClassFile.FieldType.int ∈ lw_tbl := List.mem_of_getElem? (i := 167) (by decide +kernel)
theorem tW_a1 : Cond.arrayClass Jvm.ClassFile.FieldType.byte ∈ lw_tbl := List.mem_of_getElem? (i := 365) (by decide +kernel)
theorem tW_a2 : Cond.arrayClass Jvm.ClassFile.FieldType.long ∈ lw_tbl := List.mem_of_getElem? (i := 302) (by decide +kernel)
theorem tW_a3 : Cond.arrayOver (Jvm.ClassFile.FieldType.object "RootDiscs$State") ∈ lw_tbl := List.mem_of_getElem? (i := 303) (by decide +kernel)
theorem tW_a4 : Cond.arrayOver (Jvm.ClassFile.FieldType.object "RootDiscs$Verb") ∈ lw_tbl := List.mem_of_getElem? (i := 383) (by decide +kernel)
theorem tW_str : eXs.map (fun q => Cond.stringRef q.1 q.2.1 q.2.2.1) = ([890, 937, 981, 1054, 1060, 1061, 1066, 1116, 1117, 1268, 1289, 1305, 1312, 1320, 1321, 1379, 1395, 1411, 1412, 1438, 1453, 1468, 1480, 1492, 1502, 1517, 1525, 1533, 2350, 2351, 2352, 2353, 2354, 2355, 2356, 2357, 2358] : List Nat).filterMap (fun i => lw_tbl[i]?) := by decide +kernel
theorem tW_inst : (List.range 12).map (fun ci => Cond.instantiable (eClC ci) (eClN ci)) = ([235, 195, 305, 169, 151, 377, 145, 328, 367, 219, 137, 1535] : List Nat).filterMap (fun i => lw_tbl[i]?) := by decide +kernel
theorem zO_rng : ∀ q ∈ zO, 1000 ≤ q.1 ∧ q.1 ≠ 3000 := by decide +kernel
theorem eXo_zO : ∀ q ∈ eXo, q ∈ zO := by decide +kernel
def zOK : Value → Bool
  | .int _ => true
  | .ref r => zO.any fun q => Nat.beq q.1 r
  | _ => false
theorem zVb_ok0 : ∀ i, i < 9 → zOK (.ref (1000 + i)) = true := by decide +kernel
theorem zVb_ok (i : Nat) (h1 : 1000 ≤ i) (h2 : i < 1009) : zOK (.ref i) = true := by
  have := zVb_ok0 (i - 1000) (Nat.sub_lt_left_of_lt_add h1 h2)
  rw [Nat.add_sub_cancel' h1] at this
  exact this
theorem zEl_ok : zEl.all (fun q => zOK q.2.2) = true := by decide +kernel
theorem zXf_ok : zXfW.all (fun q => zOK q.2.2.2.2) = true := by decide +kernel
theorem zXf_k : eXf.all (fun q => zOK (.ref q.1)) = true := by decide +kernel
theorem eXa_rng : ∀ q ∈ eXa, 1000 ≤ q.1 ∧ q.1 ≠ 3000 ∧ q.2.2.length < 2147483648 := by decide +kernel
def zXv (q : Nat × String × String × String × Value) : Bool := match q.2.2.2.2 with
  | .ref r => decide (zTm r = .field (zTm q.1) q.2.1 q.2.2.1 q.2.2.2.1) && eXa.any (fun x => Nat.beq x.1 r)
  | _ => false
theorem zXv_all : (eXf.filter (fun q => q.2.2.1 == "value")).all zXv = true := by decide +kernel
theorem zS_tm : eXs.all (fun q => decide (zTm q.2.2.2 = .string q.1 q.2.1)) = true := by decide +kernel
theorem zS_in : eXs.all (fun q => zOK (.ref q.2.2.2)) = true := by decide +kernel
def zAd (args : Array Value) (s : State) (b k : Nat) : Nat := if k < 1000 then s.heap.size + k else if k = 3000 then b else match (zTm k).eval args s none [] s with
  | some (.ref a) => a
  | _ => 0
theorem zAd_of {args : Array Value} {s : State} {b k a : Nat} (h1 : 1000 ≤ k) (h2 : k ≠ 3000) (h : (zTm k).eval args s none [] s = some (.ref a)) : zAd args s b k = a := by
  unfold zAd
  rw [if_neg (by omega), if_neg h2, h]
theorem ex_ev {args : Array Value} {s : State} {t : Term} {nm : String} (h : (Cond.exactly t nm).before args s = true) : ∃ a, t.eval args s none [] s = some (.ref a) := by
  obtain ⟨a, c, cell, k, q1, -⟩ := Cond.exactly_spec h
  exact ⟨a, q1⟩
theorem zO_ev {args : Array Value} {s : State} {b : Nat} (hs : ∀ c ∈ FL, c.before args s = true) : ∀ q ∈ zO, (zTm q.1).eval args s none [] s = some (.ref (zAd args s b q.1)) := by
  intro q hq
  obtain ⟨a, ha⟩ := ex_ev (hs _ (FL_in FL_o q hq))
  obtain ⟨h1, h2⟩ := zO_rng q hq
  rw [zAd_of h1 h2 ha]
  exact ha
theorem zOK_ev {args : Array Value} {s : State} {b : Nat} (hs : ∀ c ∈ FL, c.before args s = true) {r : Nat} (h : zOK (.ref r) = true) : (zTm r).eval args s none [] s = some (.ref (zAd args s b r)) := by
  obtain ⟨q, hq, e⟩ := List.any_eq_true.mp (show (zO.any fun q => Nat.beq q.1 r) = true from h)
  have e2 := Nat.eq_of_beq_eq_true e
  have := zO_ev (b := b) hs q hq
  rw [e2] at this
  exact this
theorem zV_ev {args : Array Value} {s : State} {b : Nat} (hs : ∀ c ∈ FL, c.before args s = true) {v : Value} (h : zOK v = true) : (zV v).eval args s none [] s = some (eV (zAd args s b) v) := by
  cases v with
  | int x => rfl
  | ref r => exact zOK_ev hs h
  | _ => cases h
theorem zA_T {args : Array Value} {s : State} {b : Nat} (hs : ∀ c ∈ FL, c.before args s = true) {A : Nat → Prop} (hA : ∀ a : Nat, a < s.heap.size → ¬ A a) : ∀ q ∈ eXa, (zTm q.1).eval args s none [] s = some (.ref (zAd args s b q.1)) ∧ va_T q.2.1 (zAd args s b q.1) q.2.2.length (fun j => eV (zAd args s b) (q.2.2.getD j .null)) A s s.heap := by
  intro q hq
  obtain ⟨r1, r2, r3⟩ := eXa_rng q hq
  obtain ⟨t, ht, hT⟩ := va_Tof (tm := zTm q.1) (ty := q.2.1) (N := q.2.2.length) (f := fun j => eV (zAd args s b) (q.2.2.getD j .null)) (A := A) r3 (hs _ (FL_in FL_a1 q hq)) (va_eqt (hs _ (FL_in FL_a2 q hq))) (fun j hj => by
    have hm : (q.1, j, q.2.2.getD j .null) ∈ zEl := List.mem_flatMap.mpr ⟨q, hq, List.mem_map.mpr ⟨j, List.mem_range.mpr hj, rfl⟩⟩
    exact va_eqv (hs _ (FL_in FL_a3 _ hm)) (zV_ev hs (List.all_eq_true.mp zEl_ok _ hm))) hA
  have e := zAd_of (b := b) r1 r2 ht
  rw [e]
  exact ⟨ht, hT⟩
theorem zA_ev {args : Array Value} {s : State} {b : Nat} (hs : ∀ c ∈ FL, c.before args s = true) : ∀ r, (eXa.any (fun x => Nat.beq x.1 r)) = true → (zTm r).eval args s none [] s = some (.ref (zAd args s b r)) := by
  intro r h
  obtain ⟨q, hq, e⟩ := List.any_eq_true.mp h
  have e2 := Nat.eq_of_beq_eq_true e
  have := (zA_T (b := b) hs (A := fun q => s.heap.size ≤ q) (fun a h z => Nat.lt_irrefl _ (Nat.lt_of_lt_of_le h z)) q hq).1
  rw [e2] at this
  exact this
theorem zX_f {args : Array Value} {s : State} {b : Nat} (hs : ∀ c ∈ FL, c.before args s = true) {A : Nat → Prop} (hA : ∀ a : Nat, a < s.heap.size → ¬ A a) : ∀ q ∈ eXf, va_OF q.2.1 q.2.2.1 q.2.2.2.1 (eV (zAd args s b) q.2.2.2.2) (zAd args s b q.1) A s s.heap := by
  intro q hq
  refine vk_OFof (t := zTm q.1) (zOK_ev hs (List.all_eq_true.mp zXf_k q hq)) ?_ hA
  cases hv : (q.2.2.1 == "value") with
  | true =>
    have h1 := List.all_eq_true.mp zXv_all q (List.mem_filter.mpr ⟨hq, hv⟩)
    unfold zXv at h1
    split at h1
    · rename_i r hr
      simp only [Bool.and_eq_true, decide_eq_true_eq] at h1
      rw [hr, ← h1.1]
      exact zA_ev hs r h1.2
    · cases h1
  | false =>
    have hm : q ∈ zXfW := List.mem_filter.mpr ⟨hq, by rw [hv]; rfl⟩
    exact va_eqv (hs _ (FL_in FL_f q hm)) (zV_ev hs (List.all_eq_true.mp zXf_ok q hm))
theorem zX_n {s : State} {args : Array Value} (hts : ∀ w ∈ lw_tbl, w.before args s = true) : ∀ x ∈ eXn, va_Nw x s := by
  intro x hx
  obtain ⟨h1, h2⟩ := List.mem_filter.mp hx
  have h := hts x h1
  cases x with
  | fieldLinkNest a i b n d h9 => exact va_Nw.of rfl h
  | methodLinkNest a i x h9 => exact va_Nw.of rfl h
  | castable C T => exact va_Nw.of rfl h
  | declares y => exact va_Nw.of rfl h
  | arrayOver ty => cases ty with
    | object C => exact h
    | _ => cases h2
  | _ => cases h2
theorem zAr {args : Array Value} {s : State} {ty : FieldType} (h : (Cond.arrayClass ty).before args s = true) : ∃ cA, ArrOfT s cA ty ∧ s.vm.findClass ("[" ++ ty.toString) = some cA := by
  obtain ⟨c, k, comp, h1, h2, h3⟩ := Cond.arrayClass_spec h
  exact ⟨c, fun n z => ⟨fun k h => (by cases h), k, h2, comp, h3⟩, h1⟩
theorem zArO {args : Array Value} {s : State} {C : String} (h : (Cond.arrayOver (.object C)).before args s = true) : ∃ cA, ArrOfT s cA (.object C) ∧ va_RA s cA (.object C) := by
  obtain ⟨comp, c, k, h1, h2, h3, h4, h5⟩ := Cond.arrayOver_spec h
  exact ⟨c, fun n z => ⟨fun k h => (by cases h), k, h3, comp, h4⟩, k, comp, h3, h4, h1, h5⟩
theorem st_world {s : State} {b : Nat} {args : Array Value} (hts : ∀ w ∈ lw_tbl, w.before args s = true) (hg : gvn.before args s = true) : ∃ w : eWd, eB w = s.heap.size ∧ eAd w 3000 = b ∧ eK w s s.heap ∧ ∀ q ∈ eNcs, va_Nc q.1 q.2 s := by
  have hs : ∀ c ∈ FL, c.before args s = true := flat_of_before _ hg
  have hA : ∀ a : Nat, a < s.heap.size → ¬ s.heap.size ≤ a := fun a h z => Nat.lt_irrefl _ (Nat.lt_of_lt_of_le h z)
  have hK1 : ∀ c : Nat, ∃ q : ClassId × (Nat → Nat), c < 12 → u_Kn s (eClC c) (eClT c) (eClN c) q.1 q.2 := by
    intro c
    by_cases hc : c < 12
    · obtain ⟨cC, iS, h⟩ := u_known (ws := eTB) (eTB_before hts) (eClOKs c hc).2.1 (hts _ (FL_in tW_inst c (List.mem_range.mpr hc)))
      exact ⟨(cC, iS), fun _ => h⟩
    · exact ⟨(0, fun _ => 0), fun h => absurd h hc⟩
  obtain ⟨fD, hD⟩ := Classical.axiomOfChoice hK1
  obtain ⟨a0, b0, c0⟩ := zAr (hts _ tW_a0)
  obtain ⟨a1, b1, c1⟩ := zAr (hts _ tW_a1)
  obtain ⟨a2, b2, c2⟩ := zAr (hts _ tW_a2)
  obtain ⟨a3, b3, c3⟩ := zArO (hts _ tW_a3)
  obtain ⟨a4, b4, c4⟩ := zArO (hts _ tW_a4)
  refine ⟨(s.heap.size, (fun c => (fD c).1, fun c => (fD c).2), (fun k => match k with | 0 => a0 | 1 => a1 | 2 => a2 | 3 => a3 | _ => a4), zAd args s b), rfl, rfl, ⟨⟨fun c q hq => ?_, fun k q hq => ?_⟩, fun k hk => ?_, fun i j i1 i2 j1 j2 e => ?_, ?_⟩, fun q hq => va_Nc.of (hs _ (FL_in FL_c q hq))⟩
  · have hc : c < 12 := (List.getElem?_eq_some_iff.mp hq).1
    rw [(eClOKs c hc).1] at hq
    cases hq
    exact hD c hc
  · match k, hq with
    | 0, hq => cases hq; exact ⟨b0, c0⟩
    | 1, hq => cases hq; exact ⟨b1, c1⟩
    | 2, hq => cases hq; exact ⟨b2, c2⟩
    | 3, hq => cases hq; exact ⟨b3, c3⟩
    | 4, hq => cases hq; exact ⟨b4, c4⟩
    | k + 5, hq => exact absurd hq (by simp [eTys])
  · show zAd args s b k = _
    unfold zAd
    rw [if_pos hk]
    rfl
  · have e : zAd args s b i = zAd args s b j := e
    by_cases hij : i = j
    · exact hij
    · have hi : (zTm i).eval args s none [] s = some (.ref (zAd args s b i)) := zOK_ev hs (zVb_ok i i1 i2)
      have hj : (zTm j).eval args s none [] s = some (.ref (zAd args s b j)) := zOK_ev hs (zVb_ok j j1 j2)
      have ei : 1000 + (i - 1000) = i := Nat.add_sub_cancel' i1
      have ej : 1000 + (j - 1000) = j := Nat.add_sub_cancel' j1
      rcases zNe_all (i - 1000) (Nat.sub_lt_left_of_lt_add i1 i2) (j - 1000) (Nat.sub_lt_left_of_lt_add j1 j2) with z | z | z
      · rw [← ei, ← ej, z]
      · have := hs _ (FL_in FL_n _ z)
        dsimp only at this
        rw [ei, ej] at this
        exact absurd e (va_neR this hi hj)
      · have := hs _ (FL_in FL_n _ z)
        dsimp only at this
        rw [ei, ej] at this
        exact absurd e.symm (va_neR this hj hi)
  · refine ⟨?_, zX_f hs hA, fun q hq => (zA_T hs hA q hq).2, fun q hq => va_Oof (hs _ (FL_in FL_o q (eXo_zO q hq))) (zO_ev hs q (eXo_zO q hq)) hA, fun q hq => vk_R.of (A := args) (hts _ (FL_in tW_str q hq)) ?_, vx_Zqof (hts _ tW_s5) (hts _ tW_i3) (hs _ FL_ru) hA, ⟨vx_Zqof (hts _ tW_s6) (hts _ tW_i3) (hs _ FL_rs) hA, va_Zqof (hts _ tW_s7) (hts _ tW_i4) (hs _ FL_rp) hA⟩, zX_n hts⟩
    · intro q hq
      simp only [eXst, List.mem_cons, List.not_mem_nil, or_false] at hq
      rcases hq with rfl | rfl | rfl | rfl | rfl
      · exact va_Zof (hts _ tW_s0) (hts _ tW_i2) (va_eqi (hs _ FL_cs)) hA
      · exact va_Zof (hts _ tW_s1) (hts _ tW_i1) (zA_ev (b := b) hs 1020 (by decide +kernel)) hA
      · exact va_Zof (hts _ tW_s2) (hts _ tW_i0) (zA_ev (b := b) hs 1021 (by decide +kernel)) hA
      · exact va_Zof (hts _ tW_s3) (hts _ tW_i1) (zOK_ev (b := b) hs (r := 1008) (by decide +kernel)) hA
      · exact va_Zof (hts _ tW_s4) (hts _ tW_i1) (zOK_ev (b := b) hs (r := 1006) (by decide +kernel)) hA
    · have h1 := of_decide_eq_true (List.all_eq_true.mp zS_tm q hq)
      have h2 := zOK_ev (b := b) hs (List.all_eq_true.mp zS_in q hq)
      rw [h1] at h2
      exact h2
