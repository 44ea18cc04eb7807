/-! ===== the constants of the start ===== -/
def cVb : List String := ["REFINE", "SWEEP", "RUN", "SPREAD", "START", "MOVE", "DIVIDE", "GOAL", "REPEAT"]
def cSt (k : Nat) : Term := match eXs.find? (fun q => Nat.beq q.2.2.2 k) with
  | some q => .string q.1 q.2.1
  | none => .arg 0
/-- the term of a constant's number -/
def cTm (k : Nat) : Term := if k < 1009 then .static "RootDiscs$Verb" (cVb.getD (k - 1000) "") "LRootDiscs$Verb;" else if k = 1020 then .static "RootDiscs$Verb" "ALL" "[LRootDiscs$Verb;" else if k = 1021 then .static "RootDiscs$1" "$SwitchMap$RootDiscs$Verb" "[I" else if k % 2 = 0 then cSt k else .field (cSt (k - 1)) "java/lang/String" "value" "[B"
def cV : Value → Term
  | .int x => .int x
  | .ref r => cTm r
  | _ => .arg 0
def cF (q : Nat × String × String × String × Value) : Cond := .eq (.field (cTm q.1) q.2.1 q.2.2.1 q.2.2.2.1) (cV q.2.2.2.2)
def cO : List (Nat × String) := [(1000, "RootDiscs$Verb"), (1001, "RootDiscs$Verb"), (1002, "RootDiscs$Verb"), (1003, "RootDiscs$Verb"), (1004, "RootDiscs$Verb"), (1005, "RootDiscs$Verb"), (1006, "RootDiscs$Verb"), (1007, "RootDiscs$Verb"), (1008, "RootDiscs$Verb")] ++ eXs.map (fun q => (q.2.2.2, "java/lang/String"))
abbrev gvn : Cond := Jvm.Cond.and given_1 narrow_1
def FL : List Cond := flatC gvn
theorem FL_in {α : Type} {l : List α} {f : α → Cond} {is : List Nat} {big : List Cond} (h : l.map f = is.filterMap (fun i => big[i]?)) : ∀ q ∈ l, f q ∈ big := by
  intro q hq
  have h2 : f q ∈ l.map f := List.mem_map_of_mem hq
  rw [h] at h2
  obtain ⟨i, -, hi⟩ := List.mem_filterMap.mp h2
  exact List.mem_of_getElem? hi
theorem FL_o : cO.map (fun q => Cond.exactly (cTm q.1) q.2) = ([48, 55, 63, 72, 82, 93, 30, 105, 25, 163, 200, 218, 226, 232, 240, 248, 273, 282, 309, 332, 349, 365, 394, 411, 440, 458, 476, 492, 520, 537, 565, 621, 654, 681, 717, 733, 749, 770, 780, 790, 800, 809, 816, 826, 835, 843] : List Nat).filterMap (fun i => FL[i]?) := by decide +kernel
def eXfW : List (Nat × String × String × String × Value) := eXf.filter (fun q => !(q.2.2.1 == "value"))
theorem FL_f : eXfW.map cF = ([49, 50, 51, 52, 56, 57, 58, 59, 64, 65, 66, 67, 73, 74, 75, 76, 83, 84, 85, 86, 94, 95, 96, 97, 31, 32, 33, 34, 106, 107, 108, 109, 26, 27, 28, 29, 219, 227, 233, 241, 274, 771, 781, 791, 801, 810, 817, 827, 836, 844] : List Nat).filterMap (fun i => FL[i]?) := by decide +kernel
theorem eXf_v : (eXf.filter (fun q => q.2.2.1 == "value")).all (fun q => match q.2.2.2.2 with | .ref r => decide (cTm r = .field (cTm q.1) q.2.1 q.2.2.1 q.2.2.2.1) | _ => false) = true := by decide +kernel
theorem FL_a1 : eXa.map (fun q => Cond.arrayOf (cTm q.1) q.2.1) = ([220, 228, 234, 242, 275, 772, 782, 792, 802, 811, 818, 828, 837, 845, 37, 13] : List Nat).filterMap (fun i => FL[i]?) := by decide +kernel
theorem FL_a2 : eXa.map (fun q => Cond.eq (.length (cTm q.1)) (.int (Int32.ofNat q.2.2.length))) = ([221, 229, 235, 243, 276, 773, 783, 793, 803, 812, 819, 829, 838, 846, 38, 14] : List Nat).filterMap (fun i => FL[i]?) := by decide +kernel
def cEl : List (Nat × Nat × Value) := eXa.flatMap (fun q => (List.range q.2.2.length).map fun j => (q.1, j, q.2.2.getD j .null))
theorem FL_a3 : cEl.map (fun q => Cond.eq (.elem (cTm q.1) (.int (Int32.ofNat q.2.1))) (cV q.2.2)) = ([222, 223, 224, 225, 230, 231, 236, 237, 238, 239, 244, 245, 246, 247, 277, 278, 279, 280, 774, 775, 776, 777, 778, 779, 784, 785, 786, 787, 788, 789, 794, 795, 796, 797, 798, 799, 804, 805, 806, 807, 808, 813, 814, 815, 820, 821, 822, 823, 824, 825, 830, 831, 832, 833, 834, 839, 840, 841, 842, 847, 848, 849, 850, 39, 40, 41, 42, 43, 44, 45, 46, 47, 16, 17, 18, 19, 20, 21, 22, 23, 24] : List Nat).filterMap (fun i => FL[i]?) := by decide +kernel
def cNe : List (Nat × Nat) := [(0, 1), (0, 2), (0, 3), (0, 4), (0, 5), (0, 7), (1, 2), (1, 3), (1, 4), (1, 5), (1, 7), (2, 3), (2, 4), (2, 5), (2, 7), (3, 4), (3, 5), (3, 7), (4, 5), (4, 7), (5, 7), (6, 0), (6, 1), (6, 2), (6, 3), (6, 4), (6, 5), (6, 7), (8, 0), (8, 1), (8, 2), (8, 3), (8, 4), (8, 5), (8, 6), (8, 7)]
theorem FL_n : cNe.map (fun q => Cond.not (.eq (cTm (1000 + q.1)) (cTm (1000 + q.2)))) = ([62, 70, 79, 89, 100, 112, 71, 80, 90, 101, 113, 81, 91, 102, 114, 92, 103, 115, 104, 116, 117, 54, 61, 69, 78, 88, 99, 111, 53, 60, 68, 77, 87, 98, 35, 110] : List Nat).filterMap (fun i => FL[i]?) := by decide +kernel
theorem cNe_all : ∀ i, i < 9 → ∀ j, j < 9 → i ≠ j → (i, j) ∈ cNe ∨ (j, i) ∈ cNe := by decide +kernel
theorem FL_c : eNcs.map (fun q => Cond.not (.castable q.1 q.2)) = ([160, 145, 130, 161, 132, 147] : List Nat).filterMap (fun i => FL[i]?) := by decide +kernel
theorem FL_cs : Cond.eq (.static "java/lang/String" "COMPACT_STRINGS" "Z") (.int 1) ∈ FL := List.mem_of_getElem? (i := 6) (by decide +kernel)
theorem FL_ru : Cond.isRef (.static "java/lang/Throwable" "UNASSIGNED_STACK" "[Ljava/lang/StackTraceElement;") ∈ FL := List.mem_of_getElem? (i := 4) (by decide +kernel)
theorem FL_rs : Cond.isRef (.static "java/lang/Throwable" "SUPPRESSED_SENTINEL" "Ljava/util/List;") ∈ FL := List.mem_of_getElem? (i := 5) (by decide +kernel)
theorem FL_rp : Cond.isRef (.static "jdk/internal/util/Preconditions" "SIOOBE_FORMATTER" "Ljava/util/function/BiFunction;") ∈ FL := List.mem_of_getElem? (i := 7) (by decide +kernel)
theorem tW_s0 : Cond.laysStatic "java/lang/String" "COMPACT_STRINGS" "Z" ∈ lw_tbl := List.mem_of_getElem? (i := 995) (by decide +kernel)
theorem tW_s1 : Cond.laysStatic "RootDiscs$Verb" "ALL" "[LRootDiscs$Verb;" ∈ lw_tbl := List.mem_of_getElem? (i := 1095) (by decide +kernel)
theorem tW_s2 : Cond.laysStatic "RootDiscs$1" "$SwitchMap$RootDiscs$Verb" "[I" ∈ lw_tbl := List.mem_of_getElem? (i := 1159) (by decide +kernel)
theorem tW_s3 : Cond.laysStatic "RootDiscs$Verb" "REPEAT" "LRootDiscs$Verb;" ∈ lw_tbl := List.mem_of_getElem? (i := 1099) (by decide +kernel)
theorem tW_s4 : Cond.laysStatic "RootDiscs$Verb" "DIVIDE" "LRootDiscs$Verb;" ∈ lw_tbl := List.mem_of_getElem? (i := 1115) (by decide +kernel)
theorem tW_s5 : Cond.laysStatic "java/lang/Throwable" "UNASSIGNED_STACK" "[Ljava/lang/StackTraceElement;" ∈ lw_tbl := List.mem_of_getElem? (i := 876) (by decide +kernel)
theorem tW_s6 : Cond.laysStatic "java/lang/Throwable" "SUPPRESSED_SENTINEL" "Ljava/util/List;" ∈ lw_tbl := List.mem_of_getElem? (i := 878) (by decide +kernel)
theorem tW_s7 : Cond.laysStatic "jdk/internal/util/Preconditions" "SIOOBE_FORMATTER" "Ljava/util/function/BiFunction;" ∈ lw_tbl := List.mem_of_getElem? (i := 1011) (by decide +kernel)
theorem tW_i0 : Cond.initialized "RootDiscs$1" ∈ lw_tbl := List.mem_of_getElem? (i := 134) (by decide +kernel)
theorem tW_i1 : Cond.initialized "RootDiscs$Verb" ∈ lw_tbl := List.mem_of_getElem? (i := 132) (by decide +kernel)
theorem tW_i2 : Cond.initialized "java/lang/String" ∈ lw_tbl := List.mem_of_getElem? (i := 127) (by decide +kernel)
theorem tW_i3 : Cond.initialized "java/lang/Throwable" ∈ lw_tbl := List.mem_of_getElem? (i := 122) (by decide +kernel)
theorem tW_i4 : Cond.initialized "jdk/internal/util/Preconditions" ∈ lw_tbl := List.mem_of_getElem? (i := 129) (by decide +kernel)
theorem tW_a0 : Cond.arrayClass Jvm.ClassFile.FieldType.int ∈ lw_tbl := List.mem_of_getElem? (i := 167) (by decide +kernel)
theorem tW_a1 : Cond.arrayClass Jvm.ClassFile.FieldType.byte ∈ lw_tbl := List.mem_of_getElem? (i := 365) (by decide +kernel)
theorem tW_a2 : Cond.arrayClass Jvm.ClassFile.FieldType.long ∈ lw_tbl := List.mem_of_getElem? (i := 302) (by decide +kernel)
theorem tW_a3 : Cond.arrayOver (Jvm.ClassFile.FieldType.object "RootDiscs$State") ∈ lw_tbl := List.mem_of_getElem? (i := 303) (by decide +kernel)
theorem tW_a4 : Cond.arrayOver (Jvm.ClassFile.FieldType.object "RootDiscs$Verb") ∈ lw_tbl := List.mem_of_getElem? (i := 383) (by decide +kernel)
theorem tW_str : eXs.map (fun q => Cond.stringRef q.1 q.2.1 q.2.2.1) = ([890, 937, 981, 1054, 1060, 1061, 1066, 1116, 1117, 1268, 1289, 1305, 1312, 1320, 1321, 1379, 1395, 1411, 1412, 1438, 1453, 1468, 1480, 1492, 1502, 1517, 1525, 1533, 2350, 2351, 2352, 2353, 2354, 2355, 2356, 2357, 2358] : List Nat).filterMap (fun i => lw_tbl[i]?) := by decide +kernel
theorem tW_inst : (List.range 12).map (fun ci => Cond.instantiable (eClC ci) (eClN ci)) = ([235, 195, 305, 169, 151, 377, 145, 328, 367, 219, 137, 1535] : List Nat).filterMap (fun i => lw_tbl[i]?) := by decide +kernel
