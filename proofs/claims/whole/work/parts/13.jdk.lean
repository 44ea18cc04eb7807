/-! ===== the JDK's methods that the world calls ===== -/
theorem tb539 : (Cond.code ⟨"java/lang/Math", "abs", "(J)J"⟩ prog_21_method_61_code 2 (Option.some Jvm.ClassFile.FieldType.long)) ∈ eTB := eTBi 648 (by decide +kernel) rfl
theorem tb24 : (Cond.initialized "java/lang/Math") ∈ eTB := eTBi 133 (by decide +kernel) rfl
theorem tb1036 : (Cond.code ⟨"java/lang/Math", "max", "(II)I"⟩ prog_21_method_65_code 2 (Option.some Jvm.ClassFile.FieldType.int)) ∈ eTB := eTBi 1145 (by decide +kernel) rfl
theorem tb696 : (Cond.code ⟨"java/lang/Math", "floorDiv", "(II)I"⟩ prog_21_method_47_code 3 (Option.some Jvm.ClassFile.FieldType.int)) ∈ eTB := eTBi 805 (by decide +kernel) rfl
theorem tb2233 : (Cond.fieldLink "java/lang/Enum" 7 "java/lang/Enum" "ordinal" "I") ∈ eTB := eTBi 2342 (by decide +kernel) rfl
theorem tb1056 : (Cond.code ⟨"java/lang/Enum", "ordinal", "()I"⟩ prog_16_method_2_code 1 (Option.some Jvm.ClassFile.FieldType.int)) ∈ eTB := eTBi 1165 (by decide +kernel) rfl
theorem tb22 : (Cond.initialized "java/lang/Enum") ∈ eTB := eTBi 131 (by decide +kernel) rfl
theorem tb1051 : (Cond.methodLink "RootDiscs" 466 ⟨"RootDiscs$Verb", "ordinal", "()I"⟩) ∈ eTB := eTBi 1160 (by decide +kernel) rfl
theorem tb1052 : (Cond.sameMethod "RootDiscs$Verb" "java/lang/Enum" "ordinal" "()I") ∈ eTB := eTBi 1161 (by decide +kernel) rfl
theorem tb1054 : (Cond.selects "RootDiscs$Verb" ⟨"RootDiscs$Verb", "ordinal", "()I"⟩ ⟨"java/lang/Enum", "ordinal", "()I"⟩) ∈ eTB := eTBi 1163 (by decide +kernel) rfl
theorem tb1055 : (Cond.instanceMethod ⟨"java/lang/Enum", "ordinal", "()I"⟩) ∈ eTB := eTBi 1164 (by decide +kernel) rfl
theorem xb1053 : (Cond.declares ⟨"java/lang/Enum", "ordinal", "()I"⟩) ∈ eXn := eXni 1162 (by decide +kernel) rfl
theorem tb885 : (Cond.fieldLink "java/lang/String" 38 "java/lang/String" "COMPACT_STRINGS" "Z") ∈ eTB := eTBi 994 (by decide +kernel) rfl
theorem tb2229 : (Cond.fieldLink "java/lang/String" 15 "java/lang/String" "coder" "B") ∈ eTB := eTBi 2338 (by decide +kernel) rfl
theorem tb884 : (Cond.code ⟨"java/lang/String", "coder", "()B"⟩ prog_23_method_152_code 1 (Option.some Jvm.ClassFile.FieldType.byte)) ∈ eTB := eTBi 993 (by decide +kernel) rfl
theorem tb18 : (Cond.initialized "java/lang/String") ∈ eTB := eTBi 127 (by decide +kernel) rfl
theorem tb894 : (Cond.code ⟨"java/lang/String", "isLatin1", "()Z"⟩ prog_23_method_154_code 1 (Option.some Jvm.ClassFile.FieldType.boolean)) ∈ eTB := eTBi 1003 (by decide +kernel) rfl
theorem tb2228 : (Cond.fieldLink "java/lang/String" 9 "java/lang/String" "value" "[B") ∈ eTB := eTBi 2337 (by decide +kernel) rfl
theorem tb881 : (Cond.methodLink "java/lang/String" 335 ⟨"java/lang/String", "coder", "()B"⟩) ∈ eTB := eTBi 990 (by decide +kernel) rfl
theorem tb882 : (Cond.instanceMethod ⟨"java/lang/String", "coder", "()B"⟩) ∈ eTB := eTBi 991 (by decide +kernel) rfl
theorem tb883 : (Cond.selects "java/lang/String" ⟨"java/lang/String", "coder", "()B"⟩ ⟨"java/lang/String", "coder", "()B"⟩) ∈ eTB := eTBi 992 (by decide +kernel) rfl
theorem tb880 : (Cond.code ⟨"java/lang/String", "length", "()I"⟩ prog_23_method_54_code 1 (Option.some Jvm.ClassFile.FieldType.int)) ∈ eTB := eTBi 989 (by decide +kernel) rfl
theorem tb901 : (Cond.fieldLink "java/lang/String" 1053 "jdk/internal/util/Preconditions" "SIOOBE_FORMATTER" "Ljava/util/function/BiFunction;") ∈ eTB := eTBi 1010 (by decide +kernel) rfl
theorem tb903 : (Cond.methodLink "java/lang/String" 1059 ⟨"jdk/internal/util/Preconditions", "checkIndex", "(IILjava/util/function/BiFunction;)I"⟩) ∈ eTB := eTBi 1012 (by decide +kernel) rfl
theorem tb904 : (Cond.static ⟨"jdk/internal/util/Preconditions", "checkIndex", "(IILjava/util/function/BiFunction;)I"⟩) ∈ eTB := eTBi 1013 (by decide +kernel) rfl
theorem tb20 : (Cond.initialized "jdk/internal/util/Preconditions") ∈ eTB := eTBi 129 (by decide +kernel) rfl
theorem tb905 : (Cond.code ⟨"jdk/internal/util/Preconditions", "checkIndex", "(IILjava/util/function/BiFunction;)I"⟩ prog_27_method_11_code 3 (Option.some Jvm.ClassFile.FieldType.int)) ∈ eTB := eTBi 1014 (by decide +kernel) rfl
theorem tb900 : (Cond.code ⟨"java/lang/String", "checkIndex", "(II)V"⟩ prog_23_method_155_code 2 none) ∈ eTB := eTBi 1009 (by decide +kernel) rfl
theorem tb898 : (Cond.methodLink "java/lang/StringLatin1" 9 ⟨"java/lang/String", "checkIndex", "(II)V"⟩) ∈ eTB := eTBi 1007 (by decide +kernel) rfl
theorem tb899 : (Cond.static ⟨"java/lang/String", "checkIndex", "(II)V"⟩) ∈ eTB := eTBi 1008 (by decide +kernel) rfl
theorem tb897 : (Cond.code ⟨"java/lang/StringLatin1", "charAt", "([BI)C"⟩ prog_24_method_2_code 2 (Option.some Jvm.ClassFile.FieldType.char)) ∈ eTB := eTBi 1006 (by decide +kernel) rfl
theorem tb19 : (Cond.initialized "java/lang/StringLatin1") ∈ eTB := eTBi 128 (by decide +kernel) rfl
theorem tb908 : (Cond.code ⟨"java/lang/StringUTF16", "charAt", "([BI)C"⟩ prog_25_method_83_code 2 (Option.some Jvm.ClassFile.FieldType.char)) ∈ eTB := eTBi 1017 (by decide +kernel) rfl
theorem tb21 : (Cond.initialized "java/lang/StringUTF16") ∈ eTB := eTBi 130 (by decide +kernel) rfl
theorem tb891 : (Cond.methodLink "java/lang/String" 492 ⟨"java/lang/String", "isLatin1", "()Z"⟩) ∈ eTB := eTBi 1000 (by decide +kernel) rfl
theorem tb892 : (Cond.instanceMethod ⟨"java/lang/String", "isLatin1", "()Z"⟩) ∈ eTB := eTBi 1001 (by decide +kernel) rfl
theorem tb893 : (Cond.selects "java/lang/String" ⟨"java/lang/String", "isLatin1", "()Z"⟩ ⟨"java/lang/String", "isLatin1", "()Z"⟩) ∈ eTB := eTBi 1002 (by decide +kernel) rfl
theorem tb895 : (Cond.methodLink "java/lang/String" 495 ⟨"java/lang/StringLatin1", "charAt", "([BI)C"⟩) ∈ eTB := eTBi 1004 (by decide +kernel) rfl
theorem tb896 : (Cond.static ⟨"java/lang/StringLatin1", "charAt", "([BI)C"⟩) ∈ eTB := eTBi 1005 (by decide +kernel) rfl
theorem tb906 : (Cond.methodLink "java/lang/String" 498 ⟨"java/lang/StringUTF16", "charAt", "([BI)C"⟩) ∈ eTB := eTBi 1015 (by decide +kernel) rfl
theorem tb907 : (Cond.static ⟨"java/lang/StringUTF16", "charAt", "([BI)C"⟩) ∈ eTB := eTBi 1016 (by decide +kernel) rfl
theorem tb890 : (Cond.code ⟨"java/lang/String", "charAt", "(I)C"⟩ prog_23_method_56_code 2 (Option.some Jvm.ClassFile.FieldType.char)) ∈ eTB := eTBi 999 (by decide +kernel) rfl
def gJ9_abs_067f4 : eP (RJ9, false, false, 2) := (eSeq (p_lload_n 0 0)
(eSeq (p_lconst 1 0)
(eSeq (p_lcmp 2)
(eSeq (eBlk 12 (eSeq (eBlk 11 (eSeq (p_if_ge 3 (8) 11 (by decide))
(eSeq (p_lload_n 6 0)
(eSeq (p_lneg 7)
(p_goto 8 (4) 12 (by decide))))))
(p_lload_n 11 0)))
(p_lreturn 12 13)))))
def mJ9_abs_067f4 : eMt := eMake (ini := false) yJ9_abs_067f4 cJ9_abs_067f4 2 (some .long) gJ9_abs_067f4 tb539 tb24 (by decide +kernel) (fun h => by cases h) (by decide +kernel)
theorem mJ9_abs_067f4_c : eCall mJ9_abs_067f4 = eGo (some .long) gJ9_abs_067f4 := rfl

def gJ9_max_7cf53 : eP (RJ9, false, false, 2) := (eSeq (p_iload_n 0 0)
(eSeq (p_iload_n 1 1)
(eSeq (eBlk 10 (eSeq (eBlk 9 (eSeq (p_icmp_lt 2 (7) 9 (by decide))
(eSeq (p_iload_n 5 0)
(p_goto 6 (4) 10 (by decide)))))
(p_iload_n 9 1)))
(p_ireturn 10 11))))
def mJ9_max_7cf53 : eMt := eMake (ini := false) yJ9_max_7cf53 cJ9_max_7cf53 2 (some .int) gJ9_max_7cf53 tb1036 tb24 (by decide +kernel) (fun h => by cases h) (by decide +kernel)
theorem mJ9_max_7cf53_c : eCall mJ9_max_7cf53 = eGo (some .int) gJ9_max_7cf53 := rfl

def gJ9_floorDiv_7cf53 : eP (RJ9, false, false, 3) := (eSeq (p_iload_n 0 0)
(eSeq (p_iload_n 1 1)
(eSeq (p_idiv 2)
(eSeq (p_istore_n 3 2)
(eSeq (p_iload_n 4 0)
(eSeq (p_iload_n 5 1)
(eSeq (p_ixor 6)
(eSeq (eBlk 21 (eSeq (p_if_ge 7 (14) 21 (by decide))
(eSeq (p_iload_n 10 2)
(eSeq (p_iload_n 11 1)
(eSeq (p_imul 12)
(eSeq (p_iload_n 13 0)
(eSeq (p_icmp_eq 14 (7) 21 (by decide))
(eSeq (p_iload_n 17 2)
(eSeq (p_iconst 18 (1))
(eSeq (p_isub 19)
(p_ireturn 20 21)))))))))))
(eSeq (p_iload_n 21 2)
(p_ireturn 22 23))))))))))
def mJ9_floorDiv_7cf53 : eMt := eMake (ini := false) yJ9_floorDiv_7cf53 cJ9_floorDiv_7cf53 3 (some .int) gJ9_floorDiv_7cf53 tb696 tb24 (by decide +kernel) (fun h => by cases h) (by decide +kernel)
theorem mJ9_floorDiv_7cf53_c : eCall mJ9_floorDiv_7cf53 = eGo (some .int) gJ9_floorDiv_7cf53 := rfl

def gJx29ce0_ordinal_8abf5 : eP (RJx29ce0, false, false, 1) := (eSeq (p_aload_n 0 0)
(eSeq (p_getX 1 7 "java/lang/Enum" "ordinal" "I" xtOrd xtOrd_ok tb2233)
(p_ireturn 4 5)))
def mJx29ce0_ordinal_8abf5 : eMt := eMake (ini := false) yJx29ce0_ordinal_8abf5 cJx29ce0_ordinal_8abf5 1 (some .int) gJx29ce0_ordinal_8abf5 tb1056 tb22 (by decide +kernel) (fun h => by cases h) (by decide +kernel)
theorem mJx29ce0_ordinal_8abf5_c : eCall mJx29ce0_ordinal_8abf5 = eGo (some .int) gJx29ce0_ordinal_8abf5 := rfl

theorem eLnkOrd {pc : Nat} : eLnk (RX12, false, false, 5) mJx29ce0_ordinal_8abf5.1 pc 1 (.invokevirtual 466) (eRcvX "RootDiscs$Verb") := eLnkU (x := ⟨"RootDiscs$Verb", "ordinal", "()I"⟩) tb1051 tb1052 tb1054 tb1055 xb1053 (by decide +kernel)

def gJ0_coder_7d493 : eP (RJ0, false, false, 1) := (eSeq (p_gets 0 38 "java/lang/String" "COMPACT_STRINGS" "Z" (.int 1) (by decide +kernel) tb885)
(eSeq (eBlk 14 (eSeq (eBlk 13 (eSeq (p_if_eq 3 (10) 13 (by decide))
(eSeq (p_aload_n 6 0)
(eSeq (p_getX 7 15 "java/lang/String" "coder" "B" xtCod xtCod_ok tb2229)
(p_goto 10 (4) 14 (by decide))))))
(p_iconst 13 (1))))
(p_ireturn 14 15)))
def mJ0_coder_7d493 : eMt := eMake (ini := false) yJ0_coder_7d493 cJ0_coder_7d493 1 (some .byte) gJ0_coder_7d493 tb884 tb18 (by decide +kernel) (fun h => by cases h) (by decide +kernel)
theorem mJ0_coder_7d493_c : eCall mJ0_coder_7d493 = eGo (some .byte) gJ0_coder_7d493 := rfl

def gJ0_isLatin1_aae02 : eP (RJ0, false, false, 1) := (eSeq (p_gets 0 38 "java/lang/String" "COMPACT_STRINGS" "Z" (.int 1) (by decide +kernel) tb885)
(eSeq (eBlk 18 (eSeq (eBlk 17 (eSeq (p_if_eq 3 (14) 17 (by decide))
(eSeq (p_aload_n 6 0)
(eSeq (p_getX 7 15 "java/lang/String" "coder" "B" xtCod xtCod_ok tb2229)
(eSeq (p_if_ne 10 (7) 17 (by decide))
(eSeq (p_iconst 13 (1))
(p_goto 14 (4) 18 (by decide))))))))
(p_iconst 17 (0))))
(p_ireturn 18 19)))
def mJ0_isLatin1_aae02 : eMt := eMake (ini := false) yJ0_isLatin1_aae02 cJ0_isLatin1_aae02 1 (some .boolean) gJ0_isLatin1_aae02 tb894 tb18 (by decide +kernel) (fun h => by cases h) (by decide +kernel)
theorem mJ0_isLatin1_aae02_c : eCall mJ0_isLatin1_aae02 = eGo (some .boolean) gJ0_isLatin1_aae02 := rfl

def gJ0_length_8abf5 : eP (RJ0, false, false, 1) := (eSeq (p_aload_n 0 0)
(eSeq (p_getX 1 9 "java/lang/String" "value" "[B" xtVal xtVal_ok tb2228)
(eSeq (p_xlen 4)
(eSeq (p_aload_n 5 0)
(eSeq (p_call 6 1 (.invokevirtual 335) _ mJ0_coder_7d493 (eLnkVX tb881 tb882 tb883 (by decide +kernel)))
(eSeq (p_ishr 9)
(p_ireturn 10 11)))))))
def mJ0_length_8abf5 : eMt := eMake (ini := false) yJ0_length_8abf5 cJ0_length_8abf5 1 (some .int) gJ0_length_8abf5 tb880 tb18 (by decide +kernel) (fun h => by cases h) (by decide +kernel)
theorem mJ0_length_8abf5_c : eCall mJ0_length_8abf5 = eGo (some .int) gJ0_length_8abf5 := rfl

set_option maxRecDepth 100000 in
theorem eChkP (l : Launch) (i n : Int32) (v : Value) (hv : v.category = 1) (h0 : ¬ i < 0) (h1 : i < n) : Met l yJ3_checkIndex_8e157 (.code yJ3_checkIndex_8e157 cJ3_checkIndex_8e157 3 (some .int) :: eTB) { frames := 0, cells := 0, slots := 0, locals := 0 } (va_Pc [.int i, .int n, v] (fun _ => True)) (fun _ st oc t => oc = .returned (some (.int i)) ∧ t.heap = st.heap) 0 0 (fun _ => False) := by
  refine Met.ofW (cc := cJ3_checkIndex_8e157) (maxL := 3) (ret := some .int) (by decide +kernel) rfl ?_
  intro p e s m args below meth c s₁ B hml hP
  obtain ⟨rfl, -⟩ := hP
  have hx := B.exec
  have hb := B.bytes
  have hr := B.returns
  have hlocks := B.notSynchronized
  have hl := lv_entry ([.int i, .int n, v]) (n := 3) (by cases v <;> first | exact Nat.le_refl 3 | cases hv)
  rw [lg_entry_eq]
  generalize (lg_sl ([.int i, .int n, v]) ++ List.replicate (3 - (lg_sl ([.int i, .int n, v])).length) Slot.unset).toArray = ls at hl ⊢
  have hl : lv_has ls 3 [(0, .int i), (1, .int n), (2, v)] := hl
  refine lv_iload_n hx hb (show decode _ 0 = .ok (.iload_n 0, 1) by decide +kernel) rfl (lv_at hl 0 rfl) ?_
  refine lv_if_lt (tgt := 9) hx hb (show decode _ 1 = .ok (.ifCond .lt 8, 3) by decide +kernel) (by decide) (fun z => absurd z h0) (fun _ => ?_)
  refine lv_iload_n hx hb (show decode _ 4 = .ok (.iload_n 0, 1) by decide +kernel) rfl (lv_at hl 0 rfl) ?_
  refine lv_iload_n hx hb (show decode _ 5 = .ok (.iload_n 1, 1) by decide +kernel) rfl (lv_at hl 1 rfl) ?_
  refine lv_icmp_lt (tgt := 16) hx hb (show decode _ 6 = .ok (.if_icmp .lt 10, 3) by decide +kernel) (by decide) (fun _ => ?_) (fun z => absurd h1 z)
  refine lv_iload_n hx hb (show decode _ 16 = .ok (.iload_n 0, 1) by decide +kernel) rfl (lv_at hl 0 rfl) ?_
  exact W.iret hx hb hr (fun t ht hW => ⟨rfl, ht⟩) (fun q hq => absurd hq List.not_mem_nil) (show decode _ 17 = .ok (.ireturn, 1) by decide +kernel) hlocks
def eChkD : List Value → eMem → Option ((Option Value ⊕ String) × eMem) := fun av μ => match av with
  | [.int i, .int n] => if ¬ i < 0 ∧ i < n then some (.inl none, μ) else none
  | _ => none
set_option maxRecDepth 100000 in
theorem eChkS (l : Launch) (w : eWd) (i n : Int32) (μ : eMem) (h0 : ¬ i < 0) (h1 : i < n) : vx_Met l yJ0_checkIndex_df160 (.code yJ0_checkIndex_df160 cJ0_checkIndex_df160 2 none :: eTB) { frames := 1, cells := eC μ - eC μ, slots := eZ μ - eZ μ, locals := 22 } (va_Pc [.int i, .int n] (ePre w μ)) (eQc w (.inl none) μ) (eXc w (.inl none) μ) (eC μ - eC μ) (eZ μ - eZ μ) (eAr w) := by
  rw [Nat.sub_self, Nat.sub_self]
  refine vx_ofW (cc := cJ0_checkIndex_df160) (maxL := 2) (ret := none) (by decide +kernel) rfl ?_
  intro p e s m args below meth c s₁ B hml hno hP
  obtain ⟨rfl, hH, hK⟩ := hP
  have hx := B.exec
  have hb := B.bytes
  have hr := B.returns
  have hts0 := atoms_spec (ws := Cond.code yJ0_checkIndex_df160 cJ0_checkIndex_df160 2 none :: eTB) B.pre
  have hts : ∀ x ∈ eTB, x.before _ s = true := fun x hx => hts0 x (List.mem_cons_of_mem _ hx)
  have hown : s.vm.findClass RJ0 = some m.cls := findClass_of_methodNamed B.named
  have hlocks := B.notSynchronized
  have hS : va_S (eAr w) s.heap s.heap [] := va_S.rf
  have hl := lv_entry ([.int i, .int n]) (n := 2) (Nat.le_of_ble_eq_true rfl)
  rw [lg_entry_eq]
  generalize (lg_sl ([.int i, .int n]) ++ List.replicate (2 - (lg_sl ([.int i, .int n])).length) Slot.unset).toArray = ls at hl ⊢
  have hl : lv_has ls 2 [(0, .int i), (1, .int n)] := hl
  refine vx_ret ?_
  refine lv_iload_n hx hb (show decode _ 0 = .ok (.iload_n 0, 1) by decide +kernel) rfl (lv_at hl 0 rfl) ?_
  refine lv_iload_n hx hb (show decode _ 1 = .ok (.iload_n 1, 1) by decide +kernel) rfl (lv_at hl 1 rfl) ?_
  have key : ∀ v : Value, v.category = 1 → va_Z "jdk/internal/util/Preconditions" "SIOOBE_FORMATTER" "Ljava/util/function/BiFunction;" v (eAr w) s s.heap → W p l e { frames := 1, cells := 0, slots := 0, locals := 22 } s m [Value.int i, .int n].toArray below meth c s.heap [] 0 0 (MQ below (eQc w (.inl none) μ) [Value.int i, .int n].toArray s 0 0 (eAr w)) (F0 m 2 ls [.int n, .int i]) := by
    intro v hv hZ
    refine va_gets hx hb hZ hS hown (hts _ tb901) (fun x h => h) (show decode _ 2 = .ok (.getstatic 1053, 3) by decide +kernel) ?_
    have hcw := va_cwS (R := { frames := 1, cells := 0, slots := 0, locals := 22 }) (own := RJ0) (index := 1059) (y := yJ3_checkIndex_8e157) (bytes := cJ3_checkIndex_8e157) (maxL := 3) (ret := some .int) (ws := .code yJ3_checkIndex_8e157 cJ3_checkIndex_8e157 3 (some .int) :: eTB) (rm := { frames := 0, cells := 0, slots := 0, locals := 0 }) (mc := 0) (ms := 0) 3 hts (fun x hx => by
      unfold va_wsS at hx
      simp only [List.cons_append, List.nil_append, List.mem_cons] at hx
      rcases hx with rfl | rfl | rfl | rfl | hx
      · exact eTB_good _ tb903
      · exact eTB_good _ tb904
      · exact eTB_good _ tb20
      · exact eTB_good _ tb905
      · exact eTB_good _ hx) rfl rfl rfl (by decide +kernel) ⟨Nat.le_refl _, Nat.le_refl _⟩
    have hrun := va_runS (As := [.int i, .int n, v]) (rest := []) ⟨hx, hb, rfl, hown, hts⟩ (eChkP l i n v hv h0 h1) hcw ⟨fun a U g mk q => q, fun U hU hW => ⟨rfl, trivial⟩⟩ (H := s.heap) (locs := []) (cells := 0) (slots := 0) (g := F0 m 5 ls [v, .int n, .int i]) (below := below) (e := e) (meth := meth) rfl rfl (hl.1.trans hml.symm) rfl (lv_room (by decide)) (show decode _ 5 = .ok (.invokestatic 1059, 3) by decide +kernel) ⟨Nat.le_refl _, Nat.le_refl _⟩
    intro T hT X
    obtain ⟨v', st₀, t, T', L, y0, X', hL, y1, y2, ⟨z1, z3⟩, stp⟩ := hrun T hT X
    cases z1
    have hLn : L = [] := by
      cases L with
      | nil => rfl
      | cons q L => exact (hL q List.mem_cons_self).elim
    subst hLn
    have fin : W p l e { frames := 1, cells := 0, slots := 0, locals := 22 } s m [Value.int i, .int n].toArray below meth c s.heap [] 0 0 (MQ below (eQc w (.inl none) μ) [Value.int i, .int n].toArray s 0 0 (eAr w)) (F0 m 8 ls [.int i]) := by
      refine lv_pop hx hb (show decode _ 8 = .ok (.pop, 1) by decide +kernel) rfl ?_
      exact W.vret hx hb hr (fun t ht hW => ⟨⟨none, rfl, rfl, by rw [ht]; exact hH⟩, hS.F ht⟩) hS.2.2 (show decode _ 9 = .ok (.return_, 1) by decide +kernel) hlocks
    obtain ⟨t2, a1, b1⟩ := fin T' (by rw [y1, z3, y0]) X'
    exact ⟨t2, stp t2 a1, b1⟩
  rcases hK.2.2.2.2.2.2.2.2.2.1.2 with hZ | ⟨a, hZ⟩
  · exact key .null rfl hZ
  · exact key (.ref a) rfl hZ
def mJ0_checkIndex_df160 : eMt := ⟨(yJ0_checkIndex_df160, cJ0_checkIndex_df160, 2, none, (1, 22), eChkD), tb900, tb18, by decide +kernel, (fun av μ r μ' h => by
    dsimp only [eChkD] at h
    split at h
    · split at h
      · cases h; exact ⟨Nat.le_refl _, Nat.le_refl _⟩
      · cases h
    · cases h), by
  intro l hl w av μ r μ' h
  dsimp only [eChkD] at h
  split at h
  · rename_i i n
    split at h
    · rename_i h9
      cases h
      exact eChkS l w i n μ h9.1 h9.2
    · cases h
  · cases h⟩
theorem mJ0_checkIndex_df160_c : eCall mJ0_checkIndex_df160 = eChkD := rfl

def gJ1_charAt_3b067 : eP (RJ1, false, false, 2) := (eSeq (p_iload_n 0 1)
(eSeq (p_aload_n 1 0)
(eSeq (p_xlen 2)
(eSeq (p_call 3 2 (.invokestatic 9) _ mJ0_checkIndex_df160 (eLnkS tb898 tb899 (by decide +kernel)))
(eSeq (p_aload_n 6 0)
(eSeq (p_iload_n 7 1)
(eSeq (p_xbald 8)
(eSeq (p_sipush 9 (255))
(eSeq (p_iand 12)
(eSeq (p_i2c 13)
(p_ireturn 14 15)))))))))))
def mJ1_charAt_3b067 : eMt := eMake (ini := false) yJ1_charAt_3b067 cJ1_charAt_3b067 2 (some .char) gJ1_charAt_3b067 tb897 tb19 (by decide +kernel) (fun h => by cases h) (by decide +kernel)
theorem mJ1_charAt_3b067_c : eCall mJ1_charAt_3b067 = eGo (some .char) gJ1_charAt_3b067 := rfl

def mJ2_charAt_3b067 : eMt := eBot yJ2_charAt_3b067 cJ2_charAt_3b067 2 (some .char) tb908 tb21 (by decide +kernel)

def gJ0_charAt_5068e : eP (RJ0, false, false, 2) := (eSeq (p_aload_n 0 0)
(eSeq (p_call 1 1 (.invokevirtual 492) _ mJ0_isLatin1_aae02 (eLnkVX tb891 tb892 tb893 (by decide +kernel)))
(eSeq (eBlk 16 (eSeq (p_if_eq 4 (12) 16 (by decide))
(eSeq (p_aload_n 7 0)
(eSeq (p_getX 8 9 "java/lang/String" "value" "[B" xtVal xtVal_ok tb2228)
(eSeq (p_iload_n 11 1)
(eSeq (p_call 12 2 (.invokestatic 495) _ mJ1_charAt_3b067 (eLnkS tb895 tb896 (by decide +kernel)))
(p_ireturn 15 16)))))))
(eSeq (p_aload_n 16 0)
(eSeq (p_getX 17 9 "java/lang/String" "value" "[B" xtVal xtVal_ok tb2228)
(eSeq (p_iload_n 20 1)
(eSeq (p_call 21 2 (.invokestatic 498) _ mJ2_charAt_3b067 (eLnkS tb906 tb907 (by decide +kernel)))
(p_ireturn 24 25))))))))
def mJ0_charAt_5068e : eMt := eMake (ini := false) yJ0_charAt_5068e cJ0_charAt_5068e 2 (some .char) gJ0_charAt_5068e tb890 tb18 (by decide +kernel) (fun h => by cases h) (by decide +kernel)
theorem mJ0_charAt_5068e_c : eCall mJ0_charAt_5068e = eGo (some .char) gJ0_charAt_5068e := rfl
