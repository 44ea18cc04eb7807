/-! ===== the engine's world: classes, shapes, constants ===== -/
def eTB : List Cond := lw_tbl.filter goodWord
theorem eTB_good : GoodIn eTB eTB := fun w h => ⟨h, good_of_word (List.mem_filter.mp h).2⟩
theorem eTB_of {w : Cond} (h : w ∈ lw_tbl) (g : goodWord w = true) : w ∈ eTB := List.mem_filter.mpr ⟨h, g⟩
theorem eTBi (i : Nat) {w : Cond} (h : lw_tbl[i]? = some w) (g : goodWord w = true) : w ∈ eTB := eTB_of (List.mem_of_getElem? h) g
theorem eTB_before {args : Array Value} {s : State} (h : ∀ w ∈ lw_tbl, w.before args s = true) : ∀ w ∈ eTB, w.before args s = true := fun w hw => h w (List.mem_filter.mp hw).1

def eClN : Nat → Nat := fun ci => match ci with
  | 0 => 2
  | 1 => 5
  | 2 => 4
  | 3 => 4
  | 4 => 2
  | 5 => 8
  | 6 => 11
  | 7 => 8
  | 8 => 1
  | 9 => 3
  | 10 => 15
  | 11 => 55
  | _ => 0
def eClC : Nat → String := fun ci => match ci with
  | 0 => RX1
  | 1 => RX2
  | 2 => RX3
  | 3 => RX4
  | 4 => RX5
  | 5 => RX6
  | 6 => RX7
  | 7 => RX8
  | 8 => RX9
  | 9 => RX11
  | 10 => RX12
  | 11 => RX13
  | _ => ""
def eClT : Nat → u_T := fun ci => match ci with
  | 0 => TX1
  | 1 => TX2
  | 2 => TX3
  | 3 => TX4
  | 4 => TX5
  | 5 => TX6
  | 6 => TX7
  | 7 => TX8
  | 8 => TX9
  | 9 => TX11
  | 10 => TX12
  | 11 => TX13
  | _ => TX0
def eTy : Nat → Nat → FieldType := fun ci => match ci with
  | 0 => tyX1
  | 1 => tyX2
  | 2 => tyX3
  | 3 => tyX4
  | 4 => tyX5
  | 5 => tyX6
  | 6 => tyX7
  | 7 => tyX8
  | 8 => tyX9
  | 9 => tyX11
  | 10 => tyX12
  | 11 => tyX13
  | _ => tyX0
def eClOK (ci : Nat) : Prop := vwCl[ci]? = some (eClC ci, eClT ci, eClN ci) ∧ (∀ w ∈ u_ws (eClC ci) (eClT ci) (eClN ci), w ∈ eTB) ∧ (∀ k, k < eClN ci → parseFieldDescriptor (eClT ci k).2.2.1 = some (eTy ci k)) ∧ (∀ a, a < eClN ci → ∀ b, b < eClN ci → a ≠ b → (eClT ci a).2.1 ≠ (eClT ci b).2.1)
theorem eClW0 : ∀ w ∈ u_ws RX1 TX1 2, w ∈ eTB := by
  have h : u_ws RX1 TX1 2 = ([250, 252] : List Nat).filterMap (fun i => lw_tbl[i]?) := by decide +kernel
  intro w hw
  have g : goodWord w = true := List.all_eq_true.mp (show (u_ws RX1 TX1 2).all goodWord = true by decide +kernel) w hw
  rw [h] at hw
  obtain ⟨i, -, hi⟩ := List.mem_filterMap.mp hw
  exact eTBi i hi g
theorem eClW1 : ∀ w ∈ u_ws RX2 TX2 5, w ∈ eTB := by
  have h : u_ws RX2 TX2 5 = ([207, 209, 211, 213, 215] : List Nat).filterMap (fun i => lw_tbl[i]?) := by decide +kernel
  intro w hw
  have g : goodWord w = true := List.all_eq_true.mp (show (u_ws RX2 TX2 5).all goodWord = true by decide +kernel) w hw
  rw [h] at hw
  obtain ⟨i, -, hi⟩ := List.mem_filterMap.mp hw
  exact eTBi i hi g
theorem eClW2 : ∀ w ∈ u_ws RX3 TX3 4, w ∈ eTB := by
  have h : u_ws RX3 TX3 4 = ([316, 318, 320, 322] : List Nat).filterMap (fun i => lw_tbl[i]?) := by decide +kernel
  intro w hw
  have g : goodWord w = true := List.all_eq_true.mp (show (u_ws RX3 TX3 4).all goodWord = true by decide +kernel) w hw
  rw [h] at hw
  obtain ⟨i, -, hi⟩ := List.mem_filterMap.mp hw
  exact eTBi i hi g
theorem eClW3 : ∀ w ∈ u_ws RX4 TX4 4, w ∈ eTB := by
  have h : u_ws RX4 TX4 4 = ([185, 187, 189, 191] : List Nat).filterMap (fun i => lw_tbl[i]?) := by decide +kernel
  intro w hw
  have g : goodWord w = true := List.all_eq_true.mp (show (u_ws RX4 TX4 4).all goodWord = true by decide +kernel) w hw
  rw [h] at hw
  obtain ⟨i, -, hi⟩ := List.mem_filterMap.mp hw
  exact eTBi i hi g
theorem eClW4 : ∀ w ∈ u_ws RX5 TX5 2, w ∈ eTB := by
  have h : u_ws RX5 TX5 2 = ([162, 164] : List Nat).filterMap (fun i => lw_tbl[i]?) := by decide +kernel
  intro w hw
  have g : goodWord w = true := List.all_eq_true.mp (show (u_ws RX5 TX5 2).all goodWord = true by decide +kernel) w hw
  rw [h] at hw
  obtain ⟨i, -, hi⟩ := List.mem_filterMap.mp hw
  exact eTBi i hi g
theorem eClW5 : ∀ w ∈ u_ws RX6 TX6 8, w ∈ eTB := by
  have h : u_ws RX6 TX6 8 = ([395, 397, 399, 401, 403, 405, 407, 409] : List Nat).filterMap (fun i => lw_tbl[i]?) := by decide +kernel
  intro w hw
  have g : goodWord w = true := List.all_eq_true.mp (show (u_ws RX6 TX6 8).all goodWord = true by decide +kernel) w hw
  rw [h] at hw
  obtain ⟨i, -, hi⟩ := List.mem_filterMap.mp hw
  exact eTBi i hi g
theorem eClW6 : ∀ w ∈ u_ws RX7 TX7 11, w ∈ eTB := by
  have h : u_ws RX7 TX7 11 = ([279, 281, 283, 285, 287, 289, 291, 293, 295, 297, 299] : List Nat).filterMap (fun i => lw_tbl[i]?) := by decide +kernel
  intro w hw
  have g : goodWord w = true := List.all_eq_true.mp (show (u_ws RX7 TX7 11).all goodWord = true by decide +kernel) w hw
  rw [h] at hw
  obtain ⟨i, -, hi⟩ := List.mem_filterMap.mp hw
  exact eTBi i hi g
theorem eClW7 : ∀ w ∈ u_ws RX8 TX8 8, w ∈ eTB := by
  have h : u_ws RX8 TX8 8 = ([348, 350, 352, 354, 356, 358, 360, 362] : List Nat).filterMap (fun i => lw_tbl[i]?) := by decide +kernel
  intro w hw
  have g : goodWord w = true := List.all_eq_true.mp (show (u_ws RX8 TX8 8).all goodWord = true by decide +kernel) w hw
  rw [h] at hw
  obtain ⟨i, -, hi⟩ := List.mem_filterMap.mp hw
  exact eTBi i hi g
theorem eClW8 : ∀ w ∈ u_ws RX9 TX9 1, w ∈ eTB := by
  have h : u_ws RX9 TX9 1 = ([373] : List Nat).filterMap (fun i => lw_tbl[i]?) := by decide +kernel
  intro w hw
  have g : goodWord w = true := List.all_eq_true.mp (show (u_ws RX9 TX9 1).all goodWord = true by decide +kernel) w hw
  rw [h] at hw
  obtain ⟨i, -, hi⟩ := List.mem_filterMap.mp hw
  exact eTBi i hi g
theorem eClW9 : ∀ w ∈ u_ws RX11 TX11 3, w ∈ eTB := by
  have h : u_ws RX11 TX11 3 = ([227, 229, 231] : List Nat).filterMap (fun i => lw_tbl[i]?) := by decide +kernel
  intro w hw
  have g : goodWord w = true := List.all_eq_true.mp (show (u_ws RX11 TX11 3).all goodWord = true by decide +kernel) w hw
  rw [h] at hw
  obtain ⟨i, -, hi⟩ := List.mem_filterMap.mp hw
  exact eTBi i hi g
theorem eClW10 : ∀ w ∈ u_ws RX12 TX12 15, w ∈ eTB := by
  have h : u_ws RX12 TX12 15 = ([459, 461, 463, 465, 467, 469, 471, 473, 475, 477, 479, 481, 483, 485, 487] : List Nat).filterMap (fun i => lw_tbl[i]?) := by decide +kernel
  intro w hw
  have g : goodWord w = true := List.all_eq_true.mp (show (u_ws RX12 TX12 15).all goodWord = true by decide +kernel) w hw
  rw [h] at hw
  obtain ⟨i, -, hi⟩ := List.mem_filterMap.mp hw
  exact eTBi i hi g
theorem eClW11 : ∀ w ∈ u_ws RX13 TX13 55, w ∈ eTB := by
  have h : u_ws RX13 TX13 55 = ([1611, 1613, 1615, 1617, 1619, 1621, 1623, 1625, 1627, 1629, 1631, 1633, 1635, 1637, 1639, 1641, 1643, 1645, 1647, 1649, 1651, 1653, 1655, 1657, 1659, 1661, 1663, 1665, 1667, 1669, 1671, 1673, 1675, 1677, 1679, 1681, 1683, 1685, 1687, 1689, 1691, 1693, 1695, 1697, 1699, 1701, 1703, 1705, 1707, 1709, 1711, 1713, 1715, 1717, 1719] : List Nat).filterMap (fun i => lw_tbl[i]?) := by decide +kernel
  intro w hw
  have g : goodWord w = true := List.all_eq_true.mp (show (u_ws RX13 TX13 55).all goodWord = true by decide +kernel) w hw
  rw [h] at hw
  obtain ⟨i, -, hi⟩ := List.mem_filterMap.mp hw
  exact eTBi i hi g
theorem eClOKs : ∀ ci, ci < 12 → eClOK ci := by
  intro ci h
  match ci, h with
  | 0, _ => exact ⟨rfl, eClW0, tyX1_ok, nmX1⟩
  | 1, _ => exact ⟨rfl, eClW1, tyX2_ok, nmX2⟩
  | 2, _ => exact ⟨rfl, eClW2, tyX3_ok, nmX3⟩
  | 3, _ => exact ⟨rfl, eClW3, tyX4_ok, nmX4⟩
  | 4, _ => exact ⟨rfl, eClW4, tyX5_ok, nmX5⟩
  | 5, _ => exact ⟨rfl, eClW5, tyX6_ok, nmX6⟩
  | 6, _ => exact ⟨rfl, eClW6, tyX7_ok, nmX7⟩
  | 7, _ => exact ⟨rfl, eClW7, tyX8_ok, nmX8⟩
  | 8, _ => exact ⟨rfl, eClW8, tyX9_ok, nmX9⟩
  | 9, _ => exact ⟨rfl, eClW9, tyX11_ok, nmX11⟩
  | 10, _ => exact ⟨rfl, eClW10, tyX12_ok, nmX12⟩
  | 11, _ => exact ⟨rfl, eClW11, tyX13_ok, nmX13⟩
  | n + 12, h => exact absurd h (by omega)
/-- what an object of a State is, by its place in the state -/
def eShpS : Nat → Nat × Nat := fun j => match j with
  | 0 => (6, 0)
  | 1 => (4, 0)
  | 2 => (50, 7)
  | 3 => (4, 0)
  | 4 => (50, 7)
  | 5 => (3, 0)
  | 6 => (50, 6)
  | 7 => (50, 6)
  | 8 => (50, 6)
  | 9 => (1, 0)
  | 10 => (50, 5)
  | 11 => (50, 5)
  | 12 => (50, 5)
  | 13 => (50, 5)
  | 14 => (9, 0)
  | 15 => (50, 200)
  | 16 => (0, 0)
  | 17 => (0, 0)
  | 18 => (52, 7)
  | _ => (99, 0)
/-- what each object of the world is: the place of its class, or 50 int[], 51 byte[], 52 long[], 53 State[], 54 Verb[] and the length -/
def eShp : Nat → Nat × Nat := fun k => if 1 ≤ k ∧ k < 58 then eShpS ((k - 1) % 19) else if 75 ≤ k ∧ k < 189 then eShpS ((k - 75) % 19) else match k with
  | 0 => (10, 0)
  | 58 => (53, 6)
  | 59 => (2, 0)
  | 60 => (50, 6)
  | 61 => (50, 6)
  | 62 => (0, 0)
  | 63 => (0, 0)
  | 64 => (52, 6)
  | 65 => (7, 0)
  | 66 => (51, 400)
  | 67 => (8, 0)
  | 68 => (5, 0)
  | 69 => (54, 30)
  | 70 => (50, 30)
  | 71 => (50, 30)
  | 72 => (50, 30)
  | 73 => (50, 30)
  | 74 => (51, 128)
  | 189 => (11, 0)
  | 190 => (50, 400)
  | 191 => (50, 457)
  | 192 => (50, 457)
  | 193 => (50, 2742)
  | 194 => (50, 457)
  | 195 => (50, 457)
  | 196 => (50, 6)
  | 197 => (50, 6)
  | 198 => (50, 7)
  | 199 => (50, 7)
  | 200 => (50, 7)
  | 201 => (50, 6)
  | 202 => (50, 6)
  | 203 => (52, 9)
  | 204 => (52, 9)
  | 205 => (50, 60)
  | 206 => (50, 60)
  | 207 => (50, 60)
  | 208 => (50, 60)
  | 209 => (50, 2)
  | 210 => (50, 2)
  | 211 => (50, 200)
  | 212 => (52, 1)
  | _ => (99, 0)
def eXs : List (String × Nat × String × Nat) := [("RootDiscs", 78, "the buffer would exceed 400 bytes", 1100), ("RootDiscs", 93, "no such length", 1102), ("RootDiscs$TextReader", 58, "poly", 1104), ("RootDiscs$TextReader", 84, "at", 1106), ("RootDiscs$TextReader", 90, "pair", 1108), ("RootDiscs$TextReader", 92, "goal", 1110), ("RootDiscs", 100, "the text has an error", 1112), ("RootDiscs$Script", 102, "pair", 1114), ("RootDiscs", 121, "the script has an error", 1116), ("RootDiscs", 147, "no such coefficient", 1118), ("RootDiscs", 161, "no such place", 1120), ("RootDiscs", 178, "no such edge", 1122), ("RootDiscs", 189, "no such number of an edge", 1124), ("RootDiscs", 201, "no such point", 1126), ("RootDiscs", 203, "no such number of a point", 1128), ("RootDiscs", 281, "no such bounds", 1130), ("RootDiscs", 304, "no such factor", 1132), ("RootDiscs", 320, "no such debt", 1134), ("RootDiscs", 322, "no such number of a debt", 1136), ("RootDiscs", 334, "no such limit", 1138), ("RootDiscs", 348, "no such number of sweeps", 1140), ("RootDiscs", 366, "a pair lies off the real axis, its first point above", 1142), ("RootDiscs", 374, "these points cannot be a pair", 1144), ("RootDiscs", 379, "the point is in no pair", 1146), ("RootDiscs", 387, "the factor cannot be divided out", 1148), ("RootDiscs", 395, "no such goal", 1150), ("RootDiscs", 406, "no such byte", 1152), ("RootDiscs", 418, "nothing was saved", 1154), ("RootDiscs$Verb", 89, "repeat", 1156), ("RootDiscs$Verb", 83, "divide", 1158), ("RootDiscs$Verb", 62, "refine", 1160), ("RootDiscs$Verb", 68, "sweep", 1162), ("RootDiscs$Verb", 71, "run", 1164), ("RootDiscs$Verb", 74, "spread", 1166), ("RootDiscs$Verb", 77, "start", 1168), ("RootDiscs$Verb", 80, "move", 1170), ("RootDiscs$Verb", 86, "goal", 1172)]
def eXst : List (String × String × String × Value) := [("java/lang/String", "COMPACT_STRINGS", "Z", .int 1), ("RootDiscs$Verb", "ALL", "[LRootDiscs$Verb;", .ref 1020), ("RootDiscs$1", "$SwitchMap$RootDiscs$Verb", "[I", .ref 1021), ("RootDiscs$Verb", "REPEAT", "LRootDiscs$Verb;", .ref 1008), ("RootDiscs$Verb", "DIVIDE", "LRootDiscs$Verb;", .ref 1006)]
def eXf : List (Nat × String × String × String × Value) := [(1000, "java/lang/Enum", "ordinal", "I", .int 0), (1000, "RootDiscs$Verb", "word", "Ljava/lang/String;", .ref 1160), (1000, "RootDiscs$Verb", "numbers", "I", .int 1), (1000, "RootDiscs$Verb", "signed", "I", .int 0), (1001, "java/lang/Enum", "ordinal", "I", .int 1), (1001, "RootDiscs$Verb", "word", "Ljava/lang/String;", .ref 1162), (1001, "RootDiscs$Verb", "numbers", "I", .int 0), (1001, "RootDiscs$Verb", "signed", "I", .int 0), (1002, "java/lang/Enum", "ordinal", "I", .int 2), (1002, "RootDiscs$Verb", "word", "Ljava/lang/String;", .ref 1164), (1002, "RootDiscs$Verb", "numbers", "I", .int 1), (1002, "RootDiscs$Verb", "signed", "I", .int 0), (1003, "java/lang/Enum", "ordinal", "I", .int 3), (1003, "RootDiscs$Verb", "word", "Ljava/lang/String;", .ref 1166), (1003, "RootDiscs$Verb", "numbers", "I", .int 1), (1003, "RootDiscs$Verb", "signed", "I", .int 0), (1004, "java/lang/Enum", "ordinal", "I", .int 4), (1004, "RootDiscs$Verb", "word", "Ljava/lang/String;", .ref 1168), (1004, "RootDiscs$Verb", "numbers", "I", .int 0), (1004, "RootDiscs$Verb", "signed", "I", .int 0), (1005, "java/lang/Enum", "ordinal", "I", .int 5), (1005, "RootDiscs$Verb", "word", "Ljava/lang/String;", .ref 1170), (1005, "RootDiscs$Verb", "numbers", "I", .int 1), (1005, "RootDiscs$Verb", "signed", "I", .int 2), (1006, "java/lang/Enum", "ordinal", "I", .int 6), (1006, "RootDiscs$Verb", "word", "Ljava/lang/String;", .ref 1158), (1006, "RootDiscs$Verb", "numbers", "I", .int 0), (1006, "RootDiscs$Verb", "signed", "I", .int 1), (1007, "java/lang/Enum", "ordinal", "I", .int 7), (1007, "RootDiscs$Verb", "word", "Ljava/lang/String;", .ref 1172), (1007, "RootDiscs$Verb", "numbers", "I", .int 1), (1007, "RootDiscs$Verb", "signed", "I", .int 0), (1008, "java/lang/Enum", "ordinal", "I", .int 8), (1008, "RootDiscs$Verb", "word", "Ljava/lang/String;", .ref 1156), (1008, "RootDiscs$Verb", "numbers", "I", .int 1), (1008, "RootDiscs$Verb", "signed", "I", .int 0), (1104, "java/lang/String", "value", "[B", .ref 1105), (1104, "java/lang/String", "coder", "B", .int 0), (1106, "java/lang/String", "value", "[B", .ref 1107), (1106, "java/lang/String", "coder", "B", .int 0), (1108, "java/lang/String", "value", "[B", .ref 1109), (1108, "java/lang/String", "coder", "B", .int 0), (1110, "java/lang/String", "value", "[B", .ref 1111), (1110, "java/lang/String", "coder", "B", .int 0), (1114, "java/lang/String", "value", "[B", .ref 1115), (1114, "java/lang/String", "coder", "B", .int 0), (1156, "java/lang/String", "value", "[B", .ref 1157), (1156, "java/lang/String", "coder", "B", .int 0), (1158, "java/lang/String", "value", "[B", .ref 1159), (1158, "java/lang/String", "coder", "B", .int 0), (1160, "java/lang/String", "value", "[B", .ref 1161), (1160, "java/lang/String", "coder", "B", .int 0), (1162, "java/lang/String", "value", "[B", .ref 1163), (1162, "java/lang/String", "coder", "B", .int 0), (1164, "java/lang/String", "value", "[B", .ref 1165), (1164, "java/lang/String", "coder", "B", .int 0), (1166, "java/lang/String", "value", "[B", .ref 1167), (1166, "java/lang/String", "coder", "B", .int 0), (1168, "java/lang/String", "value", "[B", .ref 1169), (1168, "java/lang/String", "coder", "B", .int 0), (1170, "java/lang/String", "value", "[B", .ref 1171), (1170, "java/lang/String", "coder", "B", .int 0), (1172, "java/lang/String", "value", "[B", .ref 1173), (1172, "java/lang/String", "coder", "B", .int 0)]
def eXa : List (Nat × FieldType × List Value) := [(1105, .byte, [.int 112, .int 111, .int 108, .int 121]), (1107, .byte, [.int 97, .int 116]), (1109, .byte, [.int 112, .int 97, .int 105, .int 114]), (1111, .byte, [.int 103, .int 111, .int 97, .int 108]), (1115, .byte, [.int 112, .int 97, .int 105, .int 114]), (1157, .byte, [.int 114, .int 101, .int 112, .int 101, .int 97, .int 116]), (1159, .byte, [.int 100, .int 105, .int 118, .int 105, .int 100, .int 101]), (1161, .byte, [.int 114, .int 101, .int 102, .int 105, .int 110, .int 101]), (1163, .byte, [.int 115, .int 119, .int 101, .int 101, .int 112]), (1165, .byte, [.int 114, .int 117, .int 110]), (1167, .byte, [.int 115, .int 112, .int 114, .int 101, .int 97, .int 100]), (1169, .byte, [.int 115, .int 116, .int 97, .int 114, .int 116]), (1171, .byte, [.int 109, .int 111, .int 118, .int 101]), (1173, .byte, [.int 103, .int 111, .int 97, .int 108]), (1021, .int, [.int 1, .int 2, .int 3, .int 4, .int 5, .int 6, .int 7, .int 8, .int 0]), (1020, .object "RootDiscs$Verb", [.ref 1000, .ref 1001, .ref 1002, .ref 1003, .ref 1004, .ref 1005, .ref 1006, .ref 1007, .ref 1008])]
def eXo : List (Nat × String) := [(1000, "RootDiscs$Verb"), (1001, "RootDiscs$Verb"), (1002, "RootDiscs$Verb"), (1003, "RootDiscs$Verb"), (1004, "RootDiscs$Verb"), (1005, "RootDiscs$Verb"), (1006, "RootDiscs$Verb"), (1007, "RootDiscs$Verb"), (1008, "RootDiscs$Verb"), (1104, "java/lang/String"), (1106, "java/lang/String"), (1108, "java/lang/String"), (1110, "java/lang/String"), (1114, "java/lang/String"), (1156, "java/lang/String"), (1158, "java/lang/String"), (1160, "java/lang/String"), (1162, "java/lang/String"), (1164, "java/lang/String"), (1166, "java/lang/String"), (1168, "java/lang/String"), (1170, "java/lang/String"), (1172, "java/lang/String")]


abbrev eWd : Type := Nat × va_G × (Nat → ClassId) × (Nat → Nat)
def eB (w : eWd) : Nat := w.1
def eD (w : eWd) : va_G := w.2.1
def eAd (w : eWd) : Nat → Nat := w.2.2.2
def eTys (w : eWd) : List (ClassId × FieldType) := [(w.2.2.1 0, .int), (w.2.2.1 1, .byte), (w.2.2.1 2, .long), (w.2.2.1 3, .object "RootDiscs$State"), (w.2.2.1 4, .object "RootDiscs$Verb")]
abbrev eAr (w : eWd) : Nat → Prop := fun q => eB w ≤ q
/-- which kind of a slot a field is: 0 int, 1 boolean, 2 long, 3 reference -/
def eFk : FieldType → Nat
  | .int => 0
  | .boolean => 1
  | .long => 2
  | .object _ => 3
  | .array _ => 3
  | _ => 9
/-- a field's value, of an object k of the class ci -/
def eFv (ci : Nat) (μ : eMem) (k i : Nat) : Value := match eFk (eTy ci i) with
  | 0 => .int (eI μ k i)
  | 1 => .int (eI μ k i)
  | 2 => .long (eL μ k i)
  | _ => eRf (eA μ k i)
def eFs (ad : Nat → Nat) (ci : Nat) (μ : eMem) (k : Nat) : List Value := (List.range (eClN ci)).map fun i => eV ad (eFv ci μ k i)
def eEn (w : eWd) (μ : eMem) (k : Nat) : va_E := match (eShp k).1 with
  | 50 => .inl (w.2.2.1 0, (eShp k).2, .inl (eI μ k))
  | 51 => .inl (w.2.2.1 1, (eShp k).2, .inl (eI μ k))
  | 52 => .inl (w.2.2.1 2, (eShp k).2, .inr (.inl (eL μ k)))
  | 53 => .inl (w.2.2.1 3, (eShp k).2, .inr (.inr (.inr (.inr fun i => (eA μ k i).map (eAd w)))))
  | 54 => .inl (w.2.2.1 4, (eShp k).2, .inr (.inr (.inr (.inr fun i => (eA μ k i).map (eAd w)))))
  | ci => .inr (ci, eFs (eAd w) ci μ k)
def eWl (w : eWd) (μ : eMem) : va_W := (List.range (eN μ)).map fun k => (eB w + k, eEn w μ k)
/-- the heap holds the memory -/
def eH (w : eWd) (μ : eMem) (H : Heap) : Prop := va_P (eD w) vwCl (eWl w μ) H ∧ eN μ ≤ 1000 ∧ eB w + eN μ ≤ H.size ∧ (eO μ = true → H.size = eB w + eN μ)
theorem eWl_at {w : eWd} {μ : eMem} {k : Nat} (h : k < eN μ) : (eWl w μ)[k]? = some (eB w + k, eEn w μ k) := by
  unfold eWl
  rw [List.getElem?_map, List.getElem?_range h]
  rfl
theorem eWl_len (w : eWd) (μ : eMem) : (eWl w μ).length = eN μ := by simp [eWl]
theorem eWl_D (w : eWd) (μ : eMem) : va_D (eAr w) (eWl w μ) := by
  refine ⟨fun i j p q hi hj hpq => ?_, fun k q hk => ?_⟩
  · have hi' : i < eN μ := by
      have := (List.getElem?_eq_some_iff.mp hi).1
      rw [eWl_len] at this; exact this
    have hj' : j < eN μ := by
      have := (List.getElem?_eq_some_iff.mp hj).1
      rw [eWl_len] at this; exact this
    rw [eWl_at hi'] at hi
    rw [eWl_at hj'] at hj
    cases hi
    cases hj
    dsimp only at hpq
    omega
  · have hk' : k < eN μ := by
      have := (List.getElem?_eq_some_iff.mp hk).1
      rw [eWl_len] at this; exact this
    rw [eWl_at hk'] at hk
    cases hk
    exact Nat.le_add_right _ _
theorem eWl_set {w : eWd} {μ μ' : eMem} {o : Nat} (hn : eN μ' = eN μ) (ho : o < eN μ) (he : ∀ k, k ≠ o → eEn w μ' k = eEn w μ k) : (eWl w μ).set o (eB w + o, eEn w μ' o) = eWl w μ' := by
  apply List.ext_getElem?
  intro k
  by_cases hk : k < eN μ
  · rw [eWl_at (μ := μ') (by rw [hn]; exact hk)]
    by_cases hko : k = o
    · subst hko
      rw [List.getElem?_set_self (by rw [eWl_len]; exact hk)]
    · rw [List.getElem?_set_ne (fun z => hko z.symm), eWl_at hk, he k hko]
  · rw [List.getElem?_eq_none (by rw [List.length_set, eWl_len]; omega), List.getElem?_eq_none (by rw [eWl_len, hn]; omega)]
/-- words that stay otherwise than the tables' good ones -/
def eNk : Cond → Bool
  | .fieldLinkNest .. => true
  | .methodLinkNest .. => true
  | .castable .. => true
  | .declares _ => true
  | .arrayOver (.object _) => true
  | _ => false
def eXn : List Cond := lw_tbl.filter eNk
theorem eXni (i : Nat) {w : Cond} (h : lw_tbl[i]? = some w) (g : eNk w = true) : w ∈ eXn := List.mem_filter.mpr ⟨List.mem_of_getElem? h, g⟩
theorem eNk_warm {w : Cond} (hw : eNk w = true) {s U : State} (hW : s.WarmedH U.vm) (h : va_Nw w s) : va_Nw w U := by
  cases w with
  | fieldLinkNest a i b n d h9 => exact va_Nw.warmF hW h
  | methodLinkNest a i x h9 => exact va_Nw.warmM hW h
  | castable C T => exact va_Nw.warmC hW h
  | declares y => exact va_Nw.warmD hW h
  | arrayOver ty => cases ty with
    | object C => exact va_AO.moved hW.alike h
    | _ => cases hw
  | _ => cases hw
theorem eNk_same {w : Cond} (hw : eNk w = true) {s U : State} (hv : s.vm = U.vm) (h : va_Nw w s) : va_Nw w U := by
  cases w with
  | fieldLinkNest a i b n d h9 => exact va_Nw.same rfl hv h
  | methodLinkNest a i x h9 => exact va_Nw.same rfl hv h
  | castable C T => exact va_Nw.same rfl hv h
  | declares y => exact va_Nw.same rfl hv h
  | arrayOver ty => cases ty with
    | object C => exact va_AO.moved (show s.vm.Alike U.vm from hv ▸ Vm.Alike.refl _) h
    | _ => cases hw
  | _ => cases hw
/-- the constants that the world uses: they lie below it -/
def eX (w : eWd) (U : State) (H : Heap) : Prop :=
  (∀ q ∈ eXst, va_Z q.1 q.2.1 q.2.2.1 (eV (eAd w) q.2.2.2) (eAr w) U H) ∧
  (∀ q ∈ eXf, va_OF q.2.1 q.2.2.1 q.2.2.2.1 (eV (eAd w) q.2.2.2.2) (eAd w q.1) (eAr w) U H) ∧
  (∀ q ∈ eXa, va_T q.2.1 (eAd w q.1) q.2.2.length (fun j => eV (eAd w) (q.2.2.getD j .null)) (eAr w) U H) ∧
  (∀ q ∈ eXo, va_O q.2 (eAd w q.1) (eAr w) U H) ∧
  (∀ q ∈ eXs, vk_R q.1 q.2.1 q.2.2.1 (eAd w q.2.2.2) U) ∧
  vx_Zq Bundle.tN "UNASSIGNED_STACK" Bundle.steD (eAr w) U H ∧ (vx_Zq Bundle.tN "SUPPRESSED_SENTINEL" Bundle.listD (eAr w) U H ∧ va_Zq "jdk/internal/util/Preconditions" "SIOOBE_FORMATTER" "Ljava/util/function/BiFunction;" (eAr w) U H) ∧ ∀ x ∈ eXn, va_Nw x U
theorem eX_go {w : eWd} {s U : State} {H H1 : Heap} (hW : s.WarmedH U.vm) (hq : ∀ a : Nat, a < H.size → ¬ eAr w a → H1[a]? = H[a]?) (h : eX w s H) : eX w U H1 := by
  obtain ⟨h1, h2, h3, h4, h5, h6, h7, h8⟩ := h
  have ha := hW.alike
  exact ⟨fun q hm => va_Z.kept (va_Z.moved ha (h1 q hm)) hq, fun q hm => va_OF.kept (va_OF.moved ha (h2 q hm)) hq, fun q hm => va_T.kept (va_T.moved ha (h3 q hm)) hq, fun q hm => va_O.kept (va_O.moved ha (h4 q hm)) hq, fun q hm => vk_R.warm hW (h5 q hm), vx_Zq.kept (vx_Zq.moved ha h6) hq, ⟨vx_Zq.kept (vx_Zq.moved ha h7.1) hq, va_Zq.kept (va_Zq.moved ha h7.2) hq⟩, fun x hm => eNk_warm (List.mem_filter.mp hm).2 hW (h8 x hm)⟩
/-- what is known of the tables and the constants, at a state and its heap -/
def eK (w : eWd) (U : State) (H : Heap) : Prop :=
  va_K (eD w) vwCl (eTys w) U ∧ (∀ k, k < 1000 → eAd w k = eB w + k) ∧ (∀ i j, 1000 ≤ i → i < 1009 → 1000 ≤ j → j < 1009 → eAd w i = eAd w j → i = j) ∧ eX w U H
theorem eK_go {w : eWd} {s U : State} {H H1 : Heap} (hW : s.WarmedH U.vm) (hq : ∀ a : Nat, a < H.size → ¬ eAr w a → H1[a]? = H[a]?) (h : eK w s H) : eK w U H1 :=
  ⟨va_K.moved hW.alike h.1, h.2.1, h.2.2.1, eX_go hW hq h.2.2.2⟩
theorem eK_blind {w : eWd} {U : State} {g : JFrame} {mk : MethodId} {a : Array Value} (h : eK w U U.heap) : eK w (U.calling g mk a) (U.calling g mk a).heap := by
  obtain ⟨h1, h2, h3, g1, g2, g3, g4, g5, g6, g7, g8⟩ := h
  have ha : U.vm.Alike (U.calling g mk a).vm := Vm.Alike.refl U.vm
  exact ⟨va_K.moved ha h1, h2, h3, fun q hm => va_Z.moved ha (g1 q hm), fun q hm => va_OF.moved ha (g2 q hm), fun q hm => va_T.moved ha (g3 q hm), fun q hm => va_O.moved ha (g4 q hm), fun q hm => vk_R.same rfl (g5 q hm), vx_Zq.moved ha g6, ⟨vx_Zq.moved ha g7.1, va_Zq.moved ha g7.2⟩, fun x hm => eNk_same (List.mem_filter.mp hm).2 (show U.vm = (U.calling g mk a).vm from rfl) (g8 x hm)⟩

