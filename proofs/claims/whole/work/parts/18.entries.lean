/-! ===== the methods, from their entries ===== -/
theorem kJ9_abs_067f4 (a0 : Int64) (μ : eMem) : eCall mJ9_abs_067f4 [.long a0] μ = eFin (some .long) (eDen gJ9_abs_067f4 ([.long a0, eJ], [], μ)) := rfl
theorem kJ9_max_7cf53 (a0 : Int32) (a1 : Int32) (μ : eMem) : eCall mJ9_max_7cf53 [.int a0, .int a1] μ = eFin (some .int) (eDen gJ9_max_7cf53 ([.int a0, .int a1], [], μ)) := rfl
theorem kJ9_floorDiv_7cf53 (a0 : Int32) (a1 : Int32) (μ : eMem) : eCall mJ9_floorDiv_7cf53 [.int a0, .int a1] μ = eFin (some .int) (eDen gJ9_floorDiv_7cf53 ([.int a0, .int a1, eJ], [], μ)) := rfl
theorem kJx29ce0_ordinal_8abf5 (a0 : Nat) (μ : eMem) : eCall mJx29ce0_ordinal_8abf5 [.ref a0] μ = eFin (some .int) (eDen gJx29ce0_ordinal_8abf5 ([.ref a0], [], μ)) := rfl
theorem kJ0_coder_7d493 (a0 : Nat) (μ : eMem) : eCall mJ0_coder_7d493 [.ref a0] μ = eFin (some .byte) (eDen gJ0_coder_7d493 ([.ref a0], [], μ)) := rfl
theorem kJ0_isLatin1_aae02 (a0 : Nat) (μ : eMem) : eCall mJ0_isLatin1_aae02 [.ref a0] μ = eFin (some .boolean) (eDen gJ0_isLatin1_aae02 ([.ref a0], [], μ)) := rfl
theorem kJ0_length_8abf5 (a0 : Nat) (μ : eMem) : eCall mJ0_length_8abf5 [.ref a0] μ = eFin (some .int) (eDen gJ0_length_8abf5 ([.ref a0], [], μ)) := rfl
theorem kJ1_charAt_3b067 (a0 : Nat) (a1 : Int32) (μ : eMem) : eCall mJ1_charAt_3b067 [.ref a0, .int a1] μ = eFin (some .char) (eDen gJ1_charAt_3b067 ([.ref a0, .int a1], [], μ)) := rfl
theorem kJ0_charAt_5068e (a0 : Nat) (a1 : Int32) (μ : eMem) : eCall mJ0_charAt_5068e [.ref a0, .int a1] μ = eFin (some .char) (eDen gJ0_charAt_5068e ([.ref a0, .int a1], [], μ)) := rfl
theorem kX5_init (a0 : Nat) (μ : eMem) : eCall mX5_init [.ref a0] μ = eFin none (eDen gX5_init ([.ref a0], [], μ)) := rfl
theorem kX4_init (a0 : Nat) (μ : eMem) : eCall mX4_init [.ref a0] μ = eFin none (eDen gX4_init ([.ref a0], [], μ)) := rfl
theorem kX2_init (a0 : Nat) (μ : eMem) : eCall mX2_init [.ref a0] μ = eFin none (eDen gX2_init ([.ref a0], [], μ)) := rfl
theorem kX11_init (a0 : Nat) (μ : eMem) : eCall mX11_init [.ref a0] μ = eFin none (eDen gX11_init ([.ref a0], [], μ)) := rfl
theorem kX1_init (a0 : Nat) (μ : eMem) : eCall mX1_init [.ref a0] μ = eFin none (eDen gX1_init ([.ref a0], [], μ)) := rfl
theorem kX7_init (a0 : Nat) (μ : eMem) : eCall mX7_init [.ref a0] μ = eFin none (eDen gX7_init ([.ref a0], [], μ)) := rfl
theorem kX3_init (a0 : Nat) (μ : eMem) : eCall mX3_init [.ref a0] μ = eFin none (eDen gX3_init ([.ref a0], [], μ)) := rfl
theorem kX8_init (a0 : Nat) (μ : eMem) : eCall mX8_init [.ref a0] μ = eFin none (eDen gX8_init ([.ref a0], [], μ)) := rfl
theorem kX9_init (a0 : Nat) (μ : eMem) : eCall mX9_init [.ref a0] μ = eFin none (eDen gX9_init ([.ref a0], [], μ)) := rfl
theorem kX6_init (a0 : Nat) (μ : eMem) : eCall mX6_init [.ref a0] μ = eFin none (eDen gX6_init ([.ref a0], [], μ)) := rfl
theorem kX5_clear (a0 : Nat) (μ : eMem) : eCall mX5_clear [.ref a0] μ = eFin none (eDen gX5_clear ([.ref a0, eJ], [], μ)) := rfl
theorem kX11_clear (a0 : Nat) (μ : eMem) : eCall mX11_clear [.ref a0] μ = eFin none (eDen gX11_clear ([.ref a0], [], μ)) := rfl
theorem kX7_clear (a0 : Nat) (μ : eMem) : eCall mX7_clear [.ref a0] μ = eFin none (eDen gX7_clear ([.ref a0], [], μ)) := rfl
theorem kX5_tell (a0 : Nat) (a1 : Int32) (a2 : Int32) (μ : eMem) : eCall mX5_tell [.ref a0, .int a1, .int a2] μ = eFin none (eDen gX5_tell ([.ref a0, .int a1, .int a2], [], μ)) := rfl
theorem kX7_tellCoefficient (a0 : Nat) (a1 : Int32) (a2 : Int32) (μ : eMem) : eCall mX7_tellCoefficient [.ref a0, .int a1, .int a2] μ = eFin none (eDen gX7_tellCoefficient ([.ref a0, .int a1, .int a2], [], μ)) := rfl
theorem kX11_add (a0 : Nat) (a1 : Int32) (a2 : Int32) (μ : eMem) : eCall mX11_add [.ref a0, .int a1, .int a2] μ = eFin none (eDen gX11_add ([.ref a0, .int a1, .int a2], [], μ)) := rfl
theorem kX7_tellPoint (a0 : Nat) (a1 : Int32) (a2 : Int32) (a3 : Int32) (μ : eMem) : eCall mX7_tellPoint [.ref a0, .int a1, .int a2, .int a3] μ = eFin none (eDen gX7_tellPoint ([.ref a0, .int a1, .int a2, .int a3, eJ], [], μ)) := rfl
theorem kX7_beginAsNew (a0 : Nat) (μ : eMem) : eCall mX7_beginAsNew [.ref a0] μ = eFin none (eDen gX7_beginAsNew ([.ref a0], [], μ)) := rfl
theorem kX12_init (a0 : Nat) (μ : eMem) : eCall mX12_init [.ref a0] μ = eFin none (eDen gX12_init ([.ref a0, eJ], [], μ)) := rfl
theorem kX8_hasRoomFor (a0 : Nat) (a1 : Int32) (μ : eMem) : eCall mX8_hasRoomFor [.ref a0, .int a1] μ = eFin (some .boolean) (eDen gX8_hasRoomFor ([.ref a0, .int a1], [], μ)) := rfl
theorem kX8_append (a0 : Nat) (a1 : Int32) (μ : eMem) : eCall mX8_append [.ref a0, .int a1] μ = eFin none (eDen gX8_append ([.ref a0, .int a1, eJ], [], μ)) := rfl
theorem kX12_feed (a0 : Nat) (a1 : Int32) (a2 : Int32) (a3 : Int32) (a4 : Int32) (a5 : Int32) (μ : eMem) : eCall mX12_feed [.ref a0, .int a1, .int a2, .int a3, .int a4, .int a5] μ = eFin (some .int) (eDen gX12_feed ([.ref a0, .int a1, .int a2, .int a3, .int a4, .int a5], [], μ)) := rfl
theorem kX12_truncate (a0 : Nat) (a1 : Int32) (μ : eMem) : eCall mX12_truncate [.ref a0, .int a1] μ = eFin (some .int) (eDen gX12_truncate ([.ref a0, .int a1], [], μ)) := rfl
theorem kX8_byteAt (a0 : Nat) (a1 : Int32) (μ : eMem) : eCall mX8_byteAt [.ref a0, .int a1] μ = eFin (some .int) (eDen gX8_byteAt ([.ref a0, .int a1], [], μ)) := rfl
theorem kX8_isBlank (a0 : Int32) (μ : eMem) : eCall mX8_isBlank [.int a0] μ = eFin (some .boolean) (eDen gX8_isBlank ([.int a0], [], μ)) := rfl
theorem kX8_isLetter (a0 : Int32) (μ : eMem) : eCall mX8_isLetter [.int a0] μ = eFin (some .boolean) (eDen gX8_isLetter ([.int a0], [], μ)) := rfl
theorem kX8_isDigit (a0 : Int32) (μ : eMem) : eCall mX8_isDigit [.int a0] μ = eFin (some .boolean) (eDen gX8_isDigit ([.int a0], [], μ)) := rfl
theorem kX8_advance (a0 : Nat) (μ : eMem) : eCall mX8_advance [.ref a0] μ = eFin none (eDen gX8_advance ([.ref a0, eJ], [], μ)) := rfl
theorem kX8_begin (a0 : Nat) (μ : eMem) : eCall mX8_begin [.ref a0] μ = eFin none (eDen gX8_begin ([.ref a0], [], μ)) := rfl
theorem kX8_isWord (a0 : Nat) (a1 : Nat) (μ : eMem) : eCall mX8_isWord [.ref a0, .ref a1] μ = eFin (some .boolean) (eDen gX8_isWord ([.ref a0, .ref a1, eJ], [], μ)) := rfl
theorem kX8_fail (a0 : Nat) (a1 : Int32) (μ : eMem) : eCall mX8_fail [.ref a0, .int a1] μ = eFin (some .boolean) (eDen gX8_fail ([.ref a0, .int a1], [], μ)) := rfl
theorem kX8_readsNumber (a0 : Nat) (a1 : Int32) (a2 : Int32) (a3 : Int32) (μ : eMem) : eCall mX8_readsNumber [.ref a0, .int a1, .int a2, .int a3] μ = eFin (some .boolean) (eDen gX8_readsNumber ([.ref a0, .int a1, .int a2, .int a3, eJ, eJ, eJ], [], μ)) := rfl
theorem kX5_leading (a0 : Nat) (μ : eMem) : eCall mX5_leading [.ref a0] μ = eFin (some .int) (eDen gX5_leading ([.ref a0], [], μ)) := rfl
theorem kX8_readsSign (a0 : Nat) (a1 : Int32) (μ : eMem) : eCall mX8_readsSign [.ref a0, .int a1] μ = eFin (some .boolean) (eDen gX8_readsSign ([.ref a0, .int a1], [], μ)) := rfl
theorem kX9_readsPoly (a0 : Nat) (a1 : Nat) (a2 : Nat) (μ : eMem) : eCall mX9_readsPoly [.ref a0, .ref a1, .ref a2] μ = eFin (some .boolean) (eDen gX9_readsPoly ([.ref a0, .ref a1, .ref a2, eJ], [], μ)) := rfl
theorem kX9_readsPoints (a0 : Nat) (a1 : Nat) (a2 : Nat) (a3 : Int32) (μ : eMem) : eCall mX9_readsPoints [.ref a0, .ref a1, .ref a2, .int a3] μ = eFin (some .boolean) (eDen gX9_readsPoints ([.ref a0, .ref a1, .ref a2, .int a3, eJ, eJ], [], μ)) := rfl
theorem kX9_readsGoal (a0 : Nat) (a1 : Nat) (a2 : Nat) (μ : eMem) : eCall mX9_readsGoal [.ref a0, .ref a1, .ref a2] μ = eFin (some .boolean) (eDen gX9_readsGoal ([.ref a0, .ref a1, .ref a2], [], μ)) := rfl
theorem kX9_readsStatement (a0 : Nat) (a1 : Nat) (a2 : Nat) (μ : eMem) : eCall mX9_readsStatement [.ref a0, .ref a1, .ref a2] μ = eFin (some .boolean) (eDen gX9_readsStatement ([.ref a0, .ref a1, .ref a2], [], μ)) := rfl
theorem kX9_reads (a0 : Nat) (a1 : Nat) (a2 : Nat) (μ : eMem) : eCall mX9_reads [.ref a0, .ref a1, .ref a2] μ = eFin (some .boolean) (eDen gX9_reads ([.ref a0, .ref a1, .ref a2, eJ], [], μ)) := rfl
theorem kX12_copy (a0 : Nat) (a1 : Nat) (μ : eMem) : eCall mX12_copy [.ref a0, .ref a1] μ = eFin none (eDen gX12_copy ([.ref a0, .ref a1, eJ], [], μ)) := rfl
theorem kX5_copyFrom (a0 : Nat) (a1 : Nat) (μ : eMem) : eCall mX5_copyFrom [.ref a0, .ref a1] μ = eFin none (eDen gX5_copyFrom ([.ref a0, .ref a1], [], μ)) := rfl
theorem kX4_copyFrom (a0 : Nat) (a1 : Nat) (μ : eMem) : eCall mX4_copyFrom [.ref a0, .ref a1] μ = eFin none (eDen gX4_copyFrom ([.ref a0, .ref a1], [], μ)) := rfl
theorem kX2_copyFrom (a0 : Nat) (a1 : Nat) (μ : eMem) : eCall mX2_copyFrom [.ref a0, .ref a1] μ = eFin none (eDen gX2_copyFrom ([.ref a0, .ref a1], [], μ)) := rfl
theorem kX11_copyFrom (a0 : Nat) (a1 : Nat) (μ : eMem) : eCall mX11_copyFrom [.ref a0, .ref a1] μ = eFin none (eDen gX11_copyFrom ([.ref a0, .ref a1], [], μ)) := rfl
theorem kX7_copyFrom (a0 : Nat) (a1 : Nat) (μ : eMem) : eCall mX7_copyFrom [.ref a0, .ref a1] μ = eFin none (eDen gX7_copyFrom ([.ref a0, .ref a1], [], μ)) := rfl
theorem kX12_forgetUndos (a0 : Nat) (μ : eMem) : eCall mX12_forgetUndos [.ref a0] μ = eFin none (eDen gX12_forgetUndos ([.ref a0], [], μ)) := rfl
theorem kX12_readText (a0 : Nat) (μ : eMem) : eCall mX12_readText [.ref a0] μ = eFin (some .int) (eDen gX12_readText ([.ref a0, eJ], [], μ)) := rfl
theorem kX6_verbAt (a0 : Nat) (μ : eMem) : eCall mX6_verbAt [.ref a0] μ = eFin (some (.object "RootDiscs$Verb")) (eDen gX6_verbAt ([.ref a0, eJ, eJ], [], μ)) := rfl
theorem kX6_put (a0 : Nat) (a1 : Int32) (a2 : Int32) (μ : eMem) : eCall mX6_put [.ref a0, .int a1, .int a2] μ = eFin none (eDen gX6_put ([.ref a0, .int a1, .int a2], [], μ)) := rfl
theorem kX6_readsArguments (a0 : Nat) (a1 : Nat) (a2 : Nat) (a3 : Int32) (μ : eMem) : eCall mX6_readsArguments [.ref a0, .ref a1, .ref a2, .int a3] μ = eFin (some .boolean) (eDen gX6_readsArguments ([.ref a0, .ref a1, .ref a2, .int a3, eJ, eJ], [], μ)) := rfl
theorem kX6_readsCommand_2 (a0 : Nat) (a1 : Nat) (a2 : Int32) (μ : eMem) : eCall mX6_readsCommand_2 [.ref a0, .ref a1, .int a2] μ = eFin (some .boolean) (eDen gX6_readsCommand_2 ([.ref a0, .ref a1, .int a2, eJ, eJ], [], μ)) := rfl
theorem kX6_readsBlock_2 (a0 : Nat) (a1 : Nat) (a2 : Int32) (a3 : Int32) (μ : eMem) : eCall mX6_readsBlock_2 [.ref a0, .ref a1, .int a2, .int a3] μ = eFin (some .boolean) (eDen gX6_readsBlock_2 ([.ref a0, .ref a1, .int a2, .int a3, eJ], [], μ)) := rfl
theorem kX6_readsRepeat_1 (a0 : Nat) (a1 : Nat) (a2 : Int32) (a3 : Int32) (μ : eMem) : eCall mX6_readsRepeat_1 [.ref a0, .ref a1, .int a2, .int a3] μ = eFin (some .boolean) (eDen gX6_readsRepeat_1 ([.ref a0, .ref a1, .int a2, .int a3], [], μ)) := rfl
theorem kX6_readsCommand_1 (a0 : Nat) (a1 : Nat) (a2 : Int32) (μ : eMem) : eCall mX6_readsCommand_1 [.ref a0, .ref a1, .int a2] μ = eFin (some .boolean) (eDen gX6_readsCommand_1 ([.ref a0, .ref a1, .int a2, eJ, eJ], [], μ)) := rfl
theorem kX6_readsBlock_1 (a0 : Nat) (a1 : Nat) (a2 : Int32) (a3 : Int32) (μ : eMem) : eCall mX6_readsBlock_1 [.ref a0, .ref a1, .int a2, .int a3] μ = eFin (some .boolean) (eDen gX6_readsBlock_1 ([.ref a0, .ref a1, .int a2, .int a3, eJ], [], μ)) := rfl
theorem kX6_readsRepeat_0 (a0 : Nat) (a1 : Nat) (a2 : Int32) (a3 : Int32) (μ : eMem) : eCall mX6_readsRepeat_0 [.ref a0, .ref a1, .int a2, .int a3] μ = eFin (some .boolean) (eDen gX6_readsRepeat_0 ([.ref a0, .ref a1, .int a2, .int a3], [], μ)) := rfl
theorem kX6_readsCommand_0 (a0 : Nat) (a1 : Nat) (a2 : Int32) (μ : eMem) : eCall mX6_readsCommand_0 [.ref a0, .ref a1, .int a2] μ = eFin (some .boolean) (eDen gX6_readsCommand_0 ([.ref a0, .ref a1, .int a2, eJ, eJ], [], μ)) := rfl
theorem kX6_readsBlock_0 (a0 : Nat) (a1 : Nat) (a2 : Int32) (a3 : Int32) (μ : eMem) : eCall mX6_readsBlock_0 [.ref a0, .ref a1, .int a2, .int a3] μ = eFin (some .boolean) (eDen gX6_readsBlock_0 ([.ref a0, .ref a1, .int a2, .int a3, eJ], [], μ)) := rfl
theorem kX6_reads (a0 : Nat) (a1 : Nat) (μ : eMem) : eCall mX6_reads [.ref a0, .ref a1] μ = eFin (some .boolean) (eDen gX6_reads ([.ref a0, .ref a1], [], μ)) := rfl
theorem kX12_keepForUndo (a0 : Nat) (μ : eMem) : eCall mX12_keepForUndo [.ref a0] μ = eFin none (eDen gX12_keepForUndo ([.ref a0], [], μ)) := rfl
theorem kX6_verbOf (a0 : Nat) (a1 : Int32) (μ : eMem) : eCall mX6_verbOf [.ref a0, .int a1] μ = eFin (some (.object "RootDiscs$Verb")) (eDen gX6_verbOf ([.ref a0, .int a1], [], μ)) := rfl
theorem kX6_get (a0 : Nat) (a1 : Nat) (a2 : Int32) (μ : eMem) : eCall mX6_get [.ref a0, .ref a1, .int a2] μ = eFin (some .int) (eDen gX6_get ([.ref a0, .ref a1, .int a2], [], μ)) := rfl
theorem kX6_endOf (a0 : Nat) (a1 : Int32) (μ : eMem) : eCall mX6_endOf [.ref a0, .int a1] μ = eFin (some .int) (eDen gX6_endOf ([.ref a0, .int a1], [], μ)) := rfl
theorem kX6_aOf (a0 : Nat) (a1 : Int32) (μ : eMem) : eCall mX6_aOf [.ref a0, .int a1] μ = eFin (some .int) (eDen gX6_aOf ([.ref a0, .int a1], [], μ)) := rfl
theorem kX6_bOf (a0 : Nat) (a1 : Int32) (μ : eMem) : eCall mX6_bOf [.ref a0, .int a1] μ = eFin (some .int) (eDen gX6_bOf ([.ref a0, .int a1], [], μ)) := rfl
theorem kX6_cOf (a0 : Nat) (a1 : Int32) (μ : eMem) : eCall mX6_cOf [.ref a0, .int a1] μ = eFin (some .int) (eDen gX6_cOf ([.ref a0, .int a1], [], μ)) := rfl
theorem kX4_has (a0 : Nat) (a1 : Int32) (μ : eMem) : eCall mX4_has [.ref a0, .int a1] μ = eFin (some .boolean) (eDen gX4_has ([.ref a0, .int a1], [], μ)) := rfl
theorem kX4_roleOf (a0 : Nat) (a1 : Int32) (μ : eMem) : eCall mX4_roleOf [.ref a0, .int a1] μ = eFin (some .int) (eDen gX4_roleOf ([.ref a0, .int a1], [], μ)) := rfl
theorem kX4_firstOf (a0 : Nat) (a1 : Int32) (μ : eMem) : eCall mX4_firstOf [.ref a0, .int a1] μ = eFin (some .int) (eDen gX4_firstOf ([.ref a0, .int a1], [], μ)) := rfl
theorem kX4_reckonProduct (a0 : Nat) (a1 : Int32) (a2 : Int32) (a3 : Nat) (μ : eMem) : eCall mX4_reckonProduct [.ref a0, .int a1, .int a2, .ref a3] μ = eFin none (eDen gX4_reckonProduct ([.ref a0, .int a1, .int a2, .ref a3, eJ, eJ, eJ, eJ, eJ, eJ, eJ, eJ, eJ, eJ, eJ], [], μ)) := rfl
theorem kX4_xOf (a0 : Nat) (a1 : Int32) (μ : eMem) : eCall mX4_xOf [.ref a0, .int a1] μ = eFin (some .int) (eDen gX4_xOf ([.ref a0, .int a1], [], μ)) := rfl
theorem kX4_yOf (a0 : Nat) (a1 : Int32) (μ : eMem) : eCall mX4_yOf [.ref a0, .int a1] μ = eFin (some .int) (eDen gX4_yOf ([.ref a0, .int a1], [], μ)) := rfl
theorem kX5_reckonAt (a0 : Nat) (a1 : Int32) (a2 : Int32) (a3 : Int32) (a4 : Nat) (μ : eMem) : eCall mX5_reckonAt [.ref a0, .int a1, .int a2, .int a3, .ref a4] μ = eFin none (eDen gX5_reckonAt ([.ref a0, .int a1, .int a2, .int a3, .ref a4, eJ, eJ, eJ, eJ, eJ, eJ, eJ, eJ, eJ, eJ], [], μ)) := rfl
theorem kX12_limit (a0 : Int64) (a1 : Int64) (μ : eMem) : eCall mX12_limit [.long a0, .long a1] μ = eFin (some .long) (eDen gX12_limit ([.long a0, eJ, .long a1, eJ], [], μ)) := rfl
theorem kX7_reckonStep (a0 : Nat) (a1 : Int32) (μ : eMem) : eCall mX7_reckonStep [.ref a0, .int a1] μ = eFin none (eDen gX7_reckonStep ([.ref a0, .int a1, eJ, eJ, eJ, eJ, eJ, eJ, eJ, eJ, eJ, eJ], [], μ)) := rfl
theorem kX7_place (a0 : Nat) (a1 : Int32) (a2 : Int32) (a3 : Int32) (μ : eMem) : eCall mX7_place [.ref a0, .int a1, .int a2, .int a3] μ = eFin (some .int) (eDen gX7_place ([.ref a0, .int a1, .int a2, .int a3], [], μ)) := rfl
theorem kX4_setRole (a0 : Nat) (a1 : Int32) (a2 : Int32) (μ : eMem) : eCall mX4_setRole [.ref a0, .int a1, .int a2] μ = eFin none (eDen gX4_setRole ([.ref a0, .int a1, .int a2], [], μ)) := rfl
theorem kX4_partAt (a0 : Nat) (a1 : Int32) (μ : eMem) : eCall mX4_partAt [.ref a0, .int a1] μ = eFin none (eDen gX4_partAt ([.ref a0, .int a1], [], μ)) := rfl
theorem kX7_refineAt (a0 : Nat) (a1 : Int32) (μ : eMem) : eCall mX7_refineAt [.ref a0, .int a1] μ = eFin (some .int) (eDen gX7_refineAt ([.ref a0, .int a1, eJ, eJ, eJ], [], μ)) := rfl
theorem kX7_sweepOnce (a0 : Nat) (μ : eMem) : eCall mX7_sweepOnce [.ref a0] μ = eFin (some .int) (eDen gX7_sweepOnce ([.ref a0, eJ, eJ, eJ], [], μ)) := rfl
theorem kX12_isRunLength (a0 : Int32) (μ : eMem) : eCall mX12_isRunLength [.int a0] μ = eFin (some .boolean) (eDen gX12_isRunLength ([.int a0], [], μ)) := rfl
theorem kX4_spanOf (a0 : Nat) (a1 : Int32) (a2 : Int32) (μ : eMem) : eCall mX4_spanOf [.ref a0, .int a1, .int a2] μ = eFin (some .long) (eDen gX4_spanOf ([.ref a0, .int a1, .int a2, eJ, eJ, eJ, eJ, eJ], [], μ)) := rfl
theorem kX3_reckonRadius (a0 : Nat) (a1 : Nat) (a2 : Int32) (μ : eMem) : eCall mX3_reckonRadius [.ref a0, .ref a1, .int a2] μ = eFin (some .int) (eDen gX3_reckonRadius ([.ref a0, .ref a1, .int a2, eJ, eJ, eJ, eJ, eJ, eJ], [], μ)) := rfl
theorem kX3_radiusOf (a0 : Nat) (a1 : Int32) (μ : eMem) : eCall mX3_radiusOf [.ref a0, .int a1] μ = eFin (some .int) (eDen gX3_radiusOf ([.ref a0, .int a1], [], μ)) := rfl
theorem kX3_areTouching (a0 : Nat) (a1 : Nat) (a2 : Int32) (a3 : Int32) (a4 : Int32) (μ : eMem) : eCall mX3_areTouching [.ref a0, .ref a1, .int a2, .int a3, .int a4] μ = eFin (some .boolean) (eDen gX3_areTouching ([.ref a0, .ref a1, .int a2, .int a3, .int a4, eJ, eJ, eJ, eJ, eJ], [], μ)) := rfl
theorem kX3_reckon (a0 : Nat) (a1 : Nat) (μ : eMem) : eCall mX3_reckon [.ref a0, .ref a1] μ = eFin none (eDen gX3_reckon ([.ref a0, .ref a1, eJ, eJ, eJ], [], μ)) := rfl
theorem kX3_clusterOf (a0 : Nat) (a1 : Int32) (μ : eMem) : eCall mX3_clusterOf [.ref a0, .int a1] μ = eFin (some .int) (eDen gX3_clusterOf ([.ref a0, .int a1], [], μ)) := rfl
theorem kX3_isByItself (a0 : Nat) (a1 : Int32) (μ : eMem) : eCall mX3_isByItself [.ref a0, .int a1] μ = eFin (some .boolean) (eDen gX3_isByItself ([.ref a0, .int a1], [], μ)) := rfl
theorem kX3_isSettled (a0 : Nat) (a1 : Int32) (a2 : Int32) (μ : eMem) : eCall mX3_isSettled [.ref a0, .int a1, .int a2] μ = eFin (some .boolean) (eDen gX3_isSettled ([.ref a0, .int a1, .int a2, eJ], [], μ)) := rfl
theorem kX3_settledSet (a0 : Nat) (a1 : Int32) (μ : eMem) : eCall mX3_settledSet [.ref a0, .int a1] μ = eFin (some .int) (eDen gX3_settledSet ([.ref a0, .int a1, eJ, eJ], [], μ)) := rfl
theorem kX4_all (a0 : Nat) (μ : eMem) : eCall mX4_all [.ref a0] μ = eFin (some .int) (eDen gX4_all ([.ref a0], [], μ)) := rfl
theorem kX12_sweepUpTo (a0 : Nat) (a1 : Int32) (μ : eMem) : eCall mX12_sweepUpTo [.ref a0, .int a1] μ = eFin (some .int) (eDen gX12_sweepUpTo ([.ref a0, .int a1, eJ], [], μ)) := rfl
theorem kX12_isLength (a0 : Int32) (μ : eMem) : eCall mX12_isLength [.int a0] μ = eFin (some .boolean) (eDen gX12_isLength ([.int a0], [], μ)) := rfl
theorem kX4_joinAt (a0 : Nat) (a1 : Int32) (μ : eMem) : eCall mX4_joinAt [.ref a0, .int a1] μ = eFin none (eDen gX4_joinAt ([.ref a0, .int a1], [], μ)) := rfl
theorem kX7_lay (a0 : Nat) (a1 : Int32) (a2 : Int32) (a3 : Int32) (μ : eMem) : eCall mX7_lay [.ref a0, .int a1, .int a2, .int a3] μ = eFin (some .int) (eDen gX7_lay ([.ref a0, .int a1, .int a2, .int a3, eJ, eJ, eJ, eJ, eJ], [], μ)) := rfl
theorem kX5_at (a0 : Nat) (a1 : Int32) (μ : eMem) : eCall mX5_at [.ref a0, .int a1] μ = eFin (some .int) (eDen gX5_at ([.ref a0, .int a1], [], μ)) := rfl
theorem kX5_binaryDigits (a0 : Int32) (μ : eMem) : eCall mX5_binaryDigits [.int a0] μ = eFin (some .int) (eDen gX5_binaryDigits ([.int a0, eJ, eJ, eJ], [], μ)) := rfl
theorem kX5_isSteeper (a0 : Nat) (a1 : Int32) (a2 : Int32) (a3 : Int32) (μ : eMem) : eCall mX5_isSteeper [.ref a0, .int a1, .int a2, .int a3] μ = eFin (some .boolean) (eDen gX5_isSteeper ([.ref a0, .int a1, .int a2, .int a3, eJ, eJ], [], μ)) := rfl
theorem kX5_edgeEnd (a0 : Nat) (a1 : Int32) (μ : eMem) : eCall mX5_edgeEnd [.ref a0, .int a1] μ = eFin (some .int) (eDen gX5_edgeEnd ([.ref a0, .int a1, eJ, eJ], [], μ)) := rfl
theorem kX5_edgeLength (a0 : Nat) (a1 : Int32) (μ : eMem) : eCall mX5_edgeLength [.ref a0, .int a1] μ = eFin (some .int) (eDen gX5_edgeLength ([.ref a0, .int a1, eJ, eJ], [], μ)) := rfl
theorem kX7_layByEdges (a0 : Nat) (μ : eMem) : eCall mX7_layByEdges [.ref a0] μ = eFin (some .int) (eDen gX7_layByEdges ([.ref a0, eJ, eJ, eJ, eJ], [], μ)) := rfl
theorem kX12_isPlace (a0 : Int32) (a1 : Int32) (μ : eMem) : eCall mX12_isPlace [.int a0, .int a1] μ = eFin (some .boolean) (eDen gX12_isPlace ([.int a0, .int a1], [], μ)) := rfl
theorem kX7_canMove (a0 : Nat) (a1 : Int32) (a2 : Int32) (μ : eMem) : eCall mX7_canMove [.ref a0, .int a1, .int a2] μ = eFin (some .boolean) (eDen gX7_canMove ([.ref a0, .int a1, .int a2, eJ], [], μ)) := rfl
theorem kX7_moveTo (a0 : Nat) (a1 : Int32) (a2 : Int32) (a3 : Int32) (μ : eMem) : eCall mX7_moveTo [.ref a0, .int a1, .int a2, .int a3] μ = eFin (some .int) (eDen gX7_moveTo ([.ref a0, .int a1, .int a2, .int a3, eJ], [], μ)) := rfl
theorem kX12_isFactor (a0 : Int32) (μ : eMem) : eCall mX12_isFactor [.int a0] μ = eFin (some .boolean) (eDen gX12_isFactor ([.int a0], [], μ)) := rfl
theorem kX12_isPairFactor (a0 : Int32) (a1 : Int32) (μ : eMem) : eCall mX12_isPairFactor [.int a0, .int a1] μ = eFin (some .boolean) (eDen gX12_isPairFactor ([.int a0, .int a1], [], μ)) := rfl
theorem kX4_nearest (a0 : Nat) (a1 : Int32) (a2 : Int32) (a3 : Int32) (μ : eMem) : eCall mX4_nearest [.ref a0, .int a1, .int a2, .int a3] μ = eFin (some .int) (eDen gX4_nearest ([.ref a0, .int a1, .int a2, .int a3, eJ, eJ, eJ, eJ, eJ, eJ], [], μ)) := rfl
theorem kX7_nearestFor (a0 : Nat) (a1 : Int32) (a2 : Int32) (μ : eMem) : eCall mX7_nearestFor [.ref a0, .int a1, .int a2] μ = eFin (some .int) (eDen gX7_nearestFor ([.ref a0, .int a1, .int a2], [], μ)) := rfl
theorem kX5_reckonQuotient (a0 : Nat) (a1 : Int32) (a2 : Int32) (a3 : Nat) (μ : eMem) : eCall mX5_reckonQuotient [.ref a0, .int a1, .int a2, .ref a3] μ = eFin none (eDen gX5_reckonQuotient ([.ref a0, .int a1, .int a2, .ref a3, eJ, eJ, eJ, eJ, eJ, eJ, eJ, eJ], [], μ)) := rfl
theorem kX7_reasonAgainst (a0 : Nat) (a1 : Int32) (a2 : Int32) (μ : eMem) : eCall mX7_reasonAgainst [.ref a0, .int a1, .int a2] μ = eFin (some .int) (eDen gX7_reasonAgainst ([.ref a0, .int a1, .int a2, eJ, eJ], [], μ)) := rfl
theorem kX2_add (a0 : Nat) (a1 : Int32) (a2 : Int32) (a3 : Int32) (a4 : Int32) (μ : eMem) : eCall mX2_add [.ref a0, .int a1, .int a2, .int a3, .int a4] μ = eFin none (eDen gX2_add ([.ref a0, .int a1, .int a2, .int a3, .int a4], [], μ)) := rfl
theorem kX4_remove (a0 : Nat) (a1 : Int32) (a2 : Int32) (μ : eMem) : eCall mX4_remove [.ref a0, .int a1, .int a2] μ = eFin none (eDen gX4_remove ([.ref a0, .int a1, .int a2, eJ], [], μ)) := rfl
theorem kX5_takeQuotient (a0 : Nat) (a1 : Nat) (a2 : Int32) (μ : eMem) : eCall mX5_takeQuotient [.ref a0, .ref a1, .int a2] μ = eFin none (eDen gX5_takeQuotient ([.ref a0, .ref a1, .int a2, eJ, eJ], [], μ)) := rfl
theorem kX2_has (a0 : Nat) (a1 : Int32) (μ : eMem) : eCall mX2_has [.ref a0, .int a1] μ = eFin (some .boolean) (eDen gX2_has ([.ref a0, .int a1], [], μ)) := rfl
theorem kX2_numberOf (a0 : Nat) (a1 : Int32) (a2 : Int32) (μ : eMem) : eCall mX2_numberOf [.ref a0, .int a1, .int a2] μ = eFin (some .int) (eDen gX2_numberOf ([.ref a0, .int a1, .int a2], [], μ)) := rfl
theorem kX2_sizeOf (a0 : Nat) (a1 : Int32) (μ : eMem) : eCall mX2_sizeOf [.ref a0, .int a1] μ = eFin (some .int) (eDen gX2_sizeOf ([.ref a0, .int a1], [], μ)) := rfl
theorem kX7_divideBy (a0 : Nat) (a1 : Int32) (a2 : Int32) (μ : eMem) : eCall mX7_divideBy [.ref a0, .int a1, .int a2] μ = eFin (some .int) (eDen gX7_divideBy ([.ref a0, .int a1, .int a2, eJ, eJ, eJ], [], μ)) := rfl
theorem kX12_obeyDivide (a0 : Nat) (a1 : Int32) (a2 : Int32) (μ : eMem) : eCall mX12_obeyDivide [.ref a0, .int a1, .int a2] μ = eFin (some .boolean) (eDen gX12_obeyDivide ([.ref a0, .int a1, .int a2, eJ, eJ], [], μ)) := rfl
theorem kX12_isGoal (a0 : Int32) (μ : eMem) : eCall mX12_isGoal [.int a0] μ = eFin (some .boolean) (eDen gX12_isGoal ([.int a0], [], μ)) := rfl
theorem kX12_obeyGoal (a0 : Nat) (a1 : Int32) (μ : eMem) : eCall mX12_obeyGoal [.ref a0, .int a1] μ = eFin (some .boolean) (eDen gX12_obeyGoal ([.ref a0, .int a1], [], μ)) := rfl
theorem kX12_obey (a0 : Nat) (a1 : Nat) (a2 : Int32) (a3 : Int32) (a4 : Int32) (μ : eMem) : eCall mX12_obey [.ref a0, .ref a1, .int a2, .int a3, .int a4] μ = eFin (some .boolean) (eDen gX12_obey ([.ref a0, .ref a1, .int a2, .int a3, .int a4], [], μ)) := rfl
theorem kX6_tally (a0 : Nat) (a1 : Int32) (μ : eMem) : eCall mX6_tally [.ref a0, .int a1] μ = eFin none (eDen gX6_tally ([.ref a0, .int a1], [], μ)) := rfl
theorem kX12_runBlock_3 (a0 : Nat) (a1 : Int32) (a2 : Int32) (a3 : Int32) (μ : eMem) : eCall mX12_runBlock_3 [.ref a0, .int a1, .int a2, .int a3] μ = eFin none (eDen gX12_runBlock_3 ([.ref a0, .int a1, .int a2, .int a3, eJ], [], μ)) := rfl
theorem kX12_runRepeat_2 (a0 : Nat) (a1 : Int32) (a2 : Int32) (μ : eMem) : eCall mX12_runRepeat_2 [.ref a0, .int a1, .int a2] μ = eFin none (eDen gX12_runRepeat_2 ([.ref a0, .int a1, .int a2, eJ], [], μ)) := rfl
theorem kX12_runBlock_2 (a0 : Nat) (a1 : Int32) (a2 : Int32) (a3 : Int32) (μ : eMem) : eCall mX12_runBlock_2 [.ref a0, .int a1, .int a2, .int a3] μ = eFin none (eDen gX12_runBlock_2 ([.ref a0, .int a1, .int a2, .int a3, eJ], [], μ)) := rfl
theorem kX12_runRepeat_1 (a0 : Nat) (a1 : Int32) (a2 : Int32) (μ : eMem) : eCall mX12_runRepeat_1 [.ref a0, .int a1, .int a2] μ = eFin none (eDen gX12_runRepeat_1 ([.ref a0, .int a1, .int a2, eJ], [], μ)) := rfl
theorem kX12_runBlock_1 (a0 : Nat) (a1 : Int32) (a2 : Int32) (a3 : Int32) (μ : eMem) : eCall mX12_runBlock_1 [.ref a0, .int a1, .int a2, .int a3] μ = eFin none (eDen gX12_runBlock_1 ([.ref a0, .int a1, .int a2, .int a3, eJ], [], μ)) := rfl
theorem kX12_runRepeat_0 (a0 : Nat) (a1 : Int32) (a2 : Int32) (μ : eMem) : eCall mX12_runRepeat_0 [.ref a0, .int a1, .int a2] μ = eFin none (eDen gX12_runRepeat_0 ([.ref a0, .int a1, .int a2, eJ], [], μ)) := rfl
theorem kX12_runBlock_0 (a0 : Nat) (a1 : Int32) (a2 : Int32) (a3 : Int32) (μ : eMem) : eCall mX12_runBlock_0 [.ref a0, .int a1, .int a2, .int a3] μ = eFin none (eDen gX12_runBlock_0 ([.ref a0, .int a1, .int a2, .int a3, eJ], [], μ)) := rfl
theorem kX12_runScript (a0 : Nat) (μ : eMem) : eCall mX12_runScript [.ref a0] μ = eFin (some .int) (eDen gX12_runScript ([.ref a0, eJ], [], μ)) := rfl
theorem kX12_errorCode (a0 : Nat) (μ : eMem) : eCall mX12_errorCode [.ref a0] μ = eFin (some .int) (eDen gX12_errorCode ([.ref a0], [], μ)) := rfl
theorem kX12_errorPosition (a0 : Nat) (μ : eMem) : eCall mX12_errorPosition [.ref a0] μ = eFin (some .int) (eDen gX12_errorPosition ([.ref a0], [], μ)) := rfl
theorem kX12_degree (a0 : Nat) (μ : eMem) : eCall mX12_degree [.ref a0] μ = eFin (some .int) (eDen gX12_degree ([.ref a0], [], μ)) := rfl
theorem kX5_has (a0 : Nat) (a1 : Int32) (μ : eMem) : eCall mX5_has [.ref a0, .int a1] μ = eFin (some .boolean) (eDen gX5_has ([.ref a0, .int a1], [], μ)) := rfl
theorem kX12_coefficient (a0 : Nat) (a1 : Int32) (μ : eMem) : eCall mX12_coefficient [.ref a0, .int a1] μ = eFin (some .int) (eDen gX12_coefficient ([.ref a0, .int a1], [], μ)) := rfl
theorem kX12_firstDegree (a0 : Nat) (μ : eMem) : eCall mX12_firstDegree [.ref a0] μ = eFin (some .int) (eDen gX12_firstDegree ([.ref a0], [], μ)) := rfl
theorem kX12_firstCoefficient (a0 : Nat) (a1 : Int32) (μ : eMem) : eCall mX12_firstCoefficient [.ref a0, .int a1] μ = eFin (some .int) (eDen gX12_firstCoefficient ([.ref a0, .int a1], [], μ)) := rfl
theorem kX12_valueAt (a0 : Nat) (a1 : Int32) (a2 : Int32) (a3 : Int32) (μ : eMem) : eCall mX12_valueAt [.ref a0, .int a1, .int a2, .int a3] μ = eFin (some .long) (eDen gX12_valueAt ([.ref a0, .int a1, .int a2, .int a3], [], μ)) := rfl
theorem kX12_slopeAt (a0 : Nat) (a1 : Int32) (a2 : Int32) (a3 : Int32) (μ : eMem) : eCall mX12_slopeAt [.ref a0, .int a1, .int a2, .int a3] μ = eFin (some .long) (eDen gX12_slopeAt ([.ref a0, .int a1, .int a2, .int a3], [], μ)) := rfl
theorem kX5_countEdges (a0 : Nat) (μ : eMem) : eCall mX5_countEdges [.ref a0] μ = eFin (some .int) (eDen gX5_countEdges ([.ref a0, eJ, eJ, eJ], [], μ)) := rfl
theorem kX12_edges (a0 : Nat) (μ : eMem) : eCall mX12_edges [.ref a0] μ = eFin (some .int) (eDen gX12_edges ([.ref a0], [], μ)) := rfl
theorem kX5_edgeStart (a0 : Nat) (a1 : Int32) (μ : eMem) : eCall mX5_edgeStart [.ref a0, .int a1] μ = eFin (some .int) (eDen gX5_edgeStart ([.ref a0, .int a1, eJ, eJ], [], μ)) := rfl
theorem kX12_edge (a0 : Nat) (a1 : Int32) (a2 : Int32) (μ : eMem) : eCall mX12_edge [.ref a0, .int a1, .int a2] μ = eFin (some .int) (eDen gX12_edge ([.ref a0, .int a1, .int a2, eJ], [], μ)) := rfl
theorem kX5_farthestRoot (a0 : Nat) (μ : eMem) : eCall mX5_farthestRoot [.ref a0] μ = eFin (some .int) (eDen gX5_farthestRoot ([.ref a0, eJ, eJ, eJ], [], μ)) := rfl
theorem kX12_bound (a0 : Nat) (μ : eMem) : eCall mX12_bound [.ref a0] μ = eFin (some .int) (eDen gX12_bound ([.ref a0], [], μ)) := rfl
theorem kX4_otherOf (a0 : Nat) (a1 : Int32) (μ : eMem) : eCall mX4_otherOf [.ref a0, .int a1] μ = eFin (some .int) (eDen gX4_otherOf ([.ref a0, .int a1, eJ], [], μ)) := rfl
theorem kX3_lowestOf (a0 : Nat) (a1 : Int32) (μ : eMem) : eCall mX3_lowestOf [.ref a0, .int a1] μ = eFin (some .int) (eDen gX3_lowestOf ([.ref a0, .int a1, eJ, eJ], [], μ)) := rfl
theorem kX3_isReal (a0 : Nat) (a1 : Int32) (a2 : Nat) (μ : eMem) : eCall mX3_isReal [.ref a0, .int a1, .ref a2] μ = eFin (some .boolean) (eDen gX3_isReal ([.ref a0, .int a1, .ref a2, eJ, eJ, eJ], [], μ)) := rfl
theorem kX12_point (a0 : Nat) (a1 : Int32) (a2 : Int32) (μ : eMem) : eCall mX12_point [.ref a0, .int a1, .int a2] μ = eFin (some .int) (eDen gX12_point ([.ref a0, .int a1, .int a2], [], μ)) := rfl
theorem kX12_value (a0 : Nat) (a1 : Int32) (a2 : Int32) (μ : eMem) : eCall mX12_value [.ref a0, .int a1, .int a2] μ = eFin (some .long) (eDen gX12_value ([.ref a0, .int a1, .int a2], [], μ)) := rfl
theorem kX12_product (a0 : Nat) (a1 : Int32) (a2 : Int32) (μ : eMem) : eCall mX12_product [.ref a0, .int a1, .int a2] μ = eFin (some .long) (eDen gX12_product ([.ref a0, .int a1, .int a2], [], μ)) := rfl
theorem kX12_span (a0 : Nat) (a1 : Int32) (μ : eMem) : eCall mX12_span [.ref a0, .int a1] μ = eFin (some .long) (eDen gX12_span ([.ref a0, .int a1], [], μ)) := rfl
theorem kX12_step (a0 : Nat) (a1 : Int32) (a2 : Int32) (μ : eMem) : eCall mX12_step [.ref a0, .int a1, .int a2] μ = eFin (some .int) (eDen gX12_step ([.ref a0, .int a1, .int a2], [], μ)) := rfl
theorem kX12_touch (a0 : Nat) (a1 : Int32) (a2 : Int32) (μ : eMem) : eCall mX12_touch [.ref a0, .int a1, .int a2] μ = eFin (some .boolean) (eDen gX12_touch ([.ref a0, .int a1, .int a2], [], μ)) := rfl
theorem kX12_cluster (a0 : Nat) (a1 : Int32) (μ : eMem) : eCall mX12_cluster [.ref a0, .int a1] μ = eFin (some .int) (eDen gX12_cluster ([.ref a0, .int a1], [], μ)) := rfl
theorem kX12_clusters (a0 : Nat) (μ : eMem) : eCall mX12_clusters [.ref a0] μ = eFin (some .int) (eDen gX12_clusters ([.ref a0, eJ, eJ], [], μ)) := rfl
theorem kX12_settled (a0 : Nat) (μ : eMem) : eCall mX12_settled [.ref a0] μ = eFin (some .int) (eDen gX12_settled ([.ref a0], [], μ)) := rfl
theorem kX12_real (a0 : Nat) (μ : eMem) : eCall mX12_real [.ref a0] μ = eFin (some .int) (eDen gX12_real ([.ref a0, eJ, eJ], [], μ)) := rfl
theorem kX3_holds (a0 : Nat) (a1 : Int32) (a2 : Int64) (a3 : Int64) (μ : eMem) : eCall mX3_holds [.ref a0, .int a1, .long a2, .long a3] μ = eFin (some .boolean) (eDen gX3_holds ([.ref a0, .int a1, .long a2, eJ, .long a3, eJ, eJ], [], μ)) := rfl
theorem kX12_holding (a0 : Nat) (a1 : Int32) (a2 : Int32) (μ : eMem) : eCall mX12_holding [.ref a0, .int a1, .int a2] μ = eFin (some .int) (eDen gX12_holding ([.ref a0, .int a1, .int a2, eJ, eJ], [], μ)) := rfl
theorem kX3_radiusOr (a0 : Nat) (a1 : Int32) (a2 : Int32) (μ : eMem) : eCall mX3_radiusOr [.ref a0, .int a1, .int a2] μ = eFin (some .int) (eDen gX3_radiusOr ([.ref a0, .int a1, .int a2, eJ], [], μ)) := rfl
theorem kX12_worst (a0 : Nat) (μ : eMem) : eCall mX12_worst [.ref a0] μ = eFin (some .int) (eDen gX12_worst ([.ref a0, eJ, eJ], [], μ)) := rfl
theorem kX12_byProduct (a0 : Nat) (a1 : Int32) (μ : eMem) : eCall mX12_byProduct [.ref a0, .int a1] μ = eFin (some .int) (eDen gX12_byProduct ([.ref a0, .int a1, eJ, eJ, eJ, eJ], [], μ)) := rfl
theorem kX12_goal (a0 : Nat) (μ : eMem) : eCall mX12_goal [.ref a0] μ = eFin (some .int) (eDen gX12_goal ([.ref a0], [], μ)) := rfl
theorem kX12_isBound (a0 : Int32) (μ : eMem) : eCall mX12_isBound [.int a0] μ = eFin (some .boolean) (eDen gX12_isBound ([.int a0], [], μ)) := rfl
theorem kX3_countClustersWithAny (a0 : Nat) (a1 : Int32) (μ : eMem) : eCall mX3_countClustersWithAny [.ref a0, .int a1] μ = eFin (some .int) (eDen gX3_countClustersWithAny ([.ref a0, .int a1, eJ, eJ], [], μ)) := rfl
theorem kX3_countClustersOfOnly (a0 : Nat) (a1 : Int32) (μ : eMem) : eCall mX3_countClustersOfOnly [.ref a0, .int a1] μ = eFin (some .int) (eDen gX3_countClustersOfOnly ([.ref a0, .int a1, eJ, eJ], [], μ)) := rfl
theorem kX12_rootsIn (a0 : Nat) (a1 : Int32) (a2 : Int32) (a3 : Int32) (a4 : Int32) (a5 : Int32) (μ : eMem) : eCall mX12_rootsIn [.ref a0, .int a1, .int a2, .int a3, .int a4, .int a5] μ = eFin (some .int) (eDen gX12_rootsIn ([.ref a0, .int a1, .int a2, .int a3, .int a4, .int a5, eJ, eJ, eJ, eJ, eJ, eJ], [], μ)) := rfl
theorem kX12_sumError (a0 : Nat) (μ : eMem) : eCall mX12_sumError [.ref a0] μ = eFin (some .int) (eDen gX12_sumError ([.ref a0, eJ, eJ], [], μ)) := rfl
theorem kX11_countOf (a0 : Nat) (a1 : Int32) (a2 : Int32) (μ : eMem) : eCall mX11_countOf [.ref a0, .int a1, .int a2] μ = eFin (some .int) (eDen gX11_countOf ([.ref a0, .int a1, .int a2, eJ, eJ, eJ], [], μ)) := rfl
theorem kX12_visits (a0 : Nat) (a1 : Int32) (a2 : Int32) (μ : eMem) : eCall mX12_visits [.ref a0, .int a1, .int a2] μ = eFin (some .int) (eDen gX12_visits ([.ref a0, .int a1, .int a2], [], μ)) := rfl
theorem kX11_countPlaces (a0 : Nat) (μ : eMem) : eCall mX11_countPlaces [.ref a0] μ = eFin (some .int) (eDen gX11_countPlaces ([.ref a0, eJ, eJ, eJ], [], μ)) := rfl
theorem kX12_places (a0 : Nat) (μ : eMem) : eCall mX12_places [.ref a0] μ = eFin (some .int) (eDen gX12_places ([.ref a0], [], μ)) := rfl
theorem kX12_whyNotDivide (a0 : Nat) (a1 : Int32) (μ : eMem) : eCall mX12_whyNotDivide [.ref a0, .int a1] μ = eFin (some .int) (eDen gX12_whyNotDivide ([.ref a0, .int a1], [], μ)) := rfl
theorem kX12_whyNotDividePair (a0 : Nat) (a1 : Int32) (a2 : Int32) (μ : eMem) : eCall mX12_whyNotDividePair [.ref a0, .int a1, .int a2] μ = eFin (some .int) (eDen gX12_whyNotDividePair ([.ref a0, .int a1, .int a2], [], μ)) := rfl
theorem kX12_debts (a0 : Nat) (μ : eMem) : eCall mX12_debts [.ref a0] μ = eFin (some .int) (eDen gX12_debts ([.ref a0], [], μ)) := rfl
theorem kX12_debt (a0 : Nat) (a1 : Int32) (a2 : Int32) (μ : eMem) : eCall mX12_debt [.ref a0, .int a1, .int a2] μ = eFin (some .int) (eDen gX12_debt ([.ref a0, .int a1, .int a2], [], μ)) := rfl
theorem kX7_multiplyRow (a0 : Nat) (a1 : Int32) (a2 : Int32) (μ : eMem) : eCall mX7_multiplyRow [.ref a0, .int a1, .int a2] μ = eFin none (eDen gX7_multiplyRow ([.ref a0, .int a1, .int a2, eJ, eJ, eJ, eJ, eJ], [], μ)) := rfl
theorem kX7_recombine (a0 : Nat) (a1 : Int32) (μ : eMem) : eCall mX7_recombine [.ref a0, .int a1] μ = eFin (some .int) (eDen gX7_recombine ([.ref a0, .int a1, eJ, eJ], [], μ)) := rfl
theorem kX12_recombined (a0 : Nat) (a1 : Int32) (μ : eMem) : eCall mX12_recombined [.ref a0, .int a1] μ = eFin (some .int) (eDen gX12_recombined ([.ref a0, .int a1], [], μ)) := rfl
theorem kX5_sumOfSizes (a0 : Nat) (μ : eMem) : eCall mX5_sumOfSizes [.ref a0] μ = eFin (some .int) (eDen gX5_sumOfSizes ([.ref a0, eJ, eJ], [], μ)) := rfl
theorem kX2_sumOfSizes (a0 : Nat) (μ : eMem) : eCall mX2_sumOfSizes [.ref a0] μ = eFin (some .int) (eDen gX2_sumOfSizes ([.ref a0, eJ, eJ], [], μ)) := rfl
theorem kX12_debtShare (a0 : Nat) (μ : eMem) : eCall mX12_debtShare [.ref a0] μ = eFin (some .float) (eDen gX12_debtShare ([.ref a0, eJ], [], μ)) := rfl
theorem kX12_sweepsToSettle (a0 : Nat) (a1 : Int32) (μ : eMem) : eCall mX12_sweepsToSettle [.ref a0, .int a1] μ = eFin (some .int) (eDen gX12_sweepsToSettle ([.ref a0, .int a1, eJ], [], μ)) := rfl
theorem kX12_meanRadiusBehind (a0 : Nat) (μ : eMem) : eCall mX12_meanRadiusBehind [.ref a0] μ = eFin (some .double) (eDen gX12_meanRadiusBehind ([.ref a0, eJ, eJ, eJ], [], μ)) := rfl
theorem kX12_refine (a0 : Nat) (a1 : Int32) (μ : eMem) : eCall mX12_refine [.ref a0, .int a1] μ = eFin (some .int) (eDen gX12_refine ([.ref a0, .int a1], [], μ)) := rfl
theorem kX12_sweep (a0 : Nat) (μ : eMem) : eCall mX12_sweep [.ref a0] μ = eFin (some .int) (eDen gX12_sweep ([.ref a0], [], μ)) := rfl
theorem kX12_run (a0 : Nat) (a1 : Int32) (μ : eMem) : eCall mX12_run [.ref a0, .int a1] μ = eFin (some .int) (eDen gX12_run ([.ref a0, .int a1], [], μ)) := rfl
theorem kX12_spread (a0 : Nat) (a1 : Int32) (μ : eMem) : eCall mX12_spread [.ref a0, .int a1] μ = eFin (some .int) (eDen gX12_spread ([.ref a0, .int a1], [], μ)) := rfl
theorem kX12_start (a0 : Nat) (μ : eMem) : eCall mX12_start [.ref a0] μ = eFin (some .int) (eDen gX12_start ([.ref a0], [], μ)) := rfl
theorem kX12_move (a0 : Nat) (a1 : Int32) (a2 : Int32) (a3 : Int32) (μ : eMem) : eCall mX12_move [.ref a0, .int a1, .int a2, .int a3] μ = eFin (some .int) (eDen gX12_move ([.ref a0, .int a1, .int a2, .int a3], [], μ)) := rfl
theorem kX7_canJoin (a0 : Nat) (a1 : Int32) (μ : eMem) : eCall mX7_canJoin [.ref a0, .int a1] μ = eFin (some .boolean) (eDen gX7_canJoin ([.ref a0, .int a1], [], μ)) := rfl
theorem kX7_joinAt (a0 : Nat) (a1 : Int32) (μ : eMem) : eCall mX7_joinAt [.ref a0, .int a1] μ = eFin (some .int) (eDen gX7_joinAt ([.ref a0, .int a1], [], μ)) := rfl
theorem kX12_join (a0 : Nat) (a1 : Int32) (μ : eMem) : eCall mX12_join [.ref a0, .int a1] μ = eFin (some .int) (eDen gX12_join ([.ref a0, .int a1], [], μ)) := rfl
theorem kX12_part (a0 : Nat) (a1 : Int32) (μ : eMem) : eCall mX12_part [.ref a0, .int a1] μ = eFin (some .int) (eDen gX12_part ([.ref a0, .int a1, eJ], [], μ)) := rfl
theorem kX12_divide (a0 : Nat) (a1 : Int32) (μ : eMem) : eCall mX12_divide [.ref a0, .int a1] μ = eFin (some .int) (eDen gX12_divide ([.ref a0, .int a1], [], μ)) := rfl
theorem kX12_dividePair (a0 : Nat) (a1 : Int32) (a2 : Int32) (μ : eMem) : eCall mX12_dividePair [.ref a0, .int a1, .int a2] μ = eFin (some .int) (eDen gX12_dividePair ([.ref a0, .int a1, .int a2], [], μ)) := rfl
theorem kX12_setGoal (a0 : Nat) (a1 : Int32) (μ : eMem) : eCall mX12_setGoal [.ref a0, .int a1] μ = eFin (some .int) (eDen gX12_setGoal ([.ref a0, .int a1, eJ], [], μ)) := rfl
theorem kX12_write (a0 : Nat) (a1 : Int32) (μ : eMem) : eCall mX12_write [.ref a0, .int a1] μ = eFin none (eDen gX12_write ([.ref a0, .int a1], [], μ)) := rfl
theorem kX12_writeNumber (a0 : Nat) (a1 : Int32) (μ : eMem) : eCall mX12_writeNumber [.ref a0, .int a1] μ = eFin none (eDen gX12_writeNumber ([.ref a0, .int a1, eJ, eJ], [], μ)) := rfl
theorem kX12_report (a0 : Nat) (μ : eMem) : eCall mX12_report [.ref a0] μ = eFin (some .int) (eDen gX12_report ([.ref a0, eJ], [], μ)) := rfl
theorem kX12_reportByte (a0 : Nat) (a1 : Int32) (μ : eMem) : eCall mX12_reportByte [.ref a0, .int a1] μ = eFin (some .int) (eDen gX12_reportByte ([.ref a0, .int a1], [], μ)) := rfl
theorem kX12_undo (a0 : Nat) (μ : eMem) : eCall mX12_undo [.ref a0] μ = eFin (some .int) (eDen gX12_undo ([.ref a0], [], μ)) := rfl
theorem kX12_save (a0 : Nat) (μ : eMem) : eCall mX12_save [.ref a0] μ = eFin (some .int) (eDen gX12_save ([.ref a0], [], μ)) := rfl
theorem kX12_restore (a0 : Nat) (μ : eMem) : eCall mX12_restore [.ref a0] μ = eFin (some .int) (eDen gX12_restore ([.ref a0], [], μ)) := rfl
theorem kX13_clears (a0 : Nat) (μ : eMem) : eCall mX13_clears [.ref a0] μ = eFin none (eDen gX13_clears ([.ref a0, eJ], [], μ)) := rfl
theorem kX13_lays (a0 : Nat) (a1 : Int32) (a2 : Int32) (a3 : Int32) (μ : eMem) : eCall mX13_lays [.ref a0, .int a1, .int a2, .int a3] μ = eFin none (eDen gX13_lays ([.ref a0, .int a1, .int a2, .int a3], [], μ)) := rfl
theorem kX13_visited (a0 : Nat) (a1 : Int32) (a2 : Int32) (μ : eMem) : eCall mX13_visited [.ref a0, .int a1, .int a2] μ = eFin none (eDen gX13_visited ([.ref a0, .int a1, .int a2, eJ], [], μ)) := rfl
theorem kX13_tells (a0 : Nat) (a1 : Int32) (a2 : Int32) (μ : eMem) : eCall mX13_tells [.ref a0, .int a1, .int a2] μ = eFin none (eDen gX13_tells ([.ref a0, .int a1, .int a2], [], μ)) := rfl
theorem kX13_init (a0 : Nat) (μ : eMem) : eCall mX13_init [.ref a0] μ = eFin none (eDen gX13_init ([.ref a0], [], μ)) := rfl
theorem kX13_thrown (a0 : Nat) (μ : eMem) : eCall mX13_thrown [.ref a0] μ = eFin (some .int) (eDen gX13_thrown ([.ref a0], [], μ)) := rfl
theorem kX13_isIn (a0 : Int64) (a1 : Int64) (a2 : Int64) (μ : eMem) : eCall mX13_isIn [.long a0, .long a1, .long a2] μ = eFin (some .boolean) (eDen gX13_isIn ([.long a0, eJ, .long a1, eJ, .long a2, eJ], [], μ)) := rfl
theorem kX13_truth (a0 : Int32) (μ : eMem) : eCall mX13_truth [.int a0] μ = eFin (some .int) (eDen gX13_truth ([.int a0], [], μ)) := rfl
theorem kX13_limited (a0 : Int32) (a1 : Int32) (μ : eMem) : eCall mX13_limited [.int a0, .int a1] μ = eFin (some .int) (eDen gX13_limited ([.int a0, .int a1], [], μ)) := rfl
theorem kX13_limitedLong (a0 : Int64) (a1 : Int64) (μ : eMem) : eCall mX13_limitedLong [.long a0, .long a1] μ = eFin (some .long) (eDen gX13_limitedLong ([.long a0, eJ, .long a1, eJ], [], μ)) := rfl
theorem kX13_size (a0 : Int64) (μ : eMem) : eCall mX13_size [.long a0] μ = eFin (some .long) (eDen gX13_size ([.long a0, eJ], [], μ)) := rfl
theorem kX13_goes (a0 : Nat) (a1 : Int32) (μ : eMem) : eCall mX13_goes [.ref a0, .int a1] μ = eFin (some .boolean) (eDen gX13_goes ([.ref a0, .int a1], [], μ)) := rfl
theorem kX13_goesBoth (a0 : Nat) (a1 : Int32) (a2 : Int32) (μ : eMem) : eCall mX13_goesBoth [.ref a0, .int a1, .int a2] μ = eFin (some .boolean) (eDen gX13_goesBoth ([.ref a0, .int a1, .int a2], [], μ)) := rfl
theorem kX13_four (a0 : Nat) (a1 : Int32) (μ : eMem) : eCall mX13_four [.ref a0, .int a1] μ = eFin none (eDen gX13_four ([.ref a0, .int a1, eJ], [], μ)) := rfl
theorem kX13_feed (a0 : Nat) (a1 : Int32) (a2 : Int32) (a3 : Int32) (a4 : Int32) (a5 : Int32) (μ : eMem) : eCall mX13_feed [.ref a0, .int a1, .int a2, .int a3, .int a4, .int a5] μ = eFin (some .int) (eDen gX13_feed ([.ref a0, .int a1, .int a2, .int a3, .int a4, .int a5], [], μ)) := rfl
theorem kX13_truncate (a0 : Nat) (a1 : Int32) (μ : eMem) : eCall mX13_truncate [.ref a0, .int a1] μ = eFin (some .int) (eDen gX13_truncate ([.ref a0, .int a1], [], μ)) := rfl
theorem kX13_here (a0 : Nat) (a1 : Int32) (μ : eMem) : eCall mX13_here [.ref a0, .int a1] μ = eFin (some .int) (eDen gX13_here ([.ref a0, .int a1], [], μ)) := rfl
theorem kX13_isLetter (a0 : Int32) (μ : eMem) : eCall mX13_isLetter [.int a0] μ = eFin (some .boolean) (eDen gX13_isLetter ([.int a0], [], μ)) := rfl
theorem kX13_isDigit (a0 : Int32) (μ : eMem) : eCall mX13_isDigit [.int a0] μ = eFin (some .boolean) (eDen gX13_isDigit ([.int a0], [], μ)) := rfl
theorem kX13_goOn (a0 : Nat) (μ : eMem) : eCall mX13_goOn [.ref a0] μ = eFin none (eDen gX13_goOn ([.ref a0, eJ, eJ], [], μ)) := rfl
theorem kX13_wrong (a0 : Nat) (a1 : Int32) (μ : eMem) : eCall mX13_wrong [.ref a0, .int a1] μ = eFin none (eDen gX13_wrong ([.ref a0, .int a1], [], μ)) := rfl
theorem kX13_isGood (a0 : Nat) (μ : eMem) : eCall mX13_isGood [.ref a0] μ = eFin (some .boolean) (eDen gX13_isGood ([.ref a0], [], μ)) := rfl
theorem kX13_isWord (a0 : Nat) (a1 : Int64) (μ : eMem) : eCall mX13_isWord [.ref a0, .long a1] μ = eFin (some .boolean) (eDen gX13_isWord ([.ref a0, .long a1, eJ], [], μ)) := rfl
theorem kX13_isSign (a0 : Nat) (a1 : Int32) (μ : eMem) : eCall mX13_isSign [.ref a0, .int a1] μ = eFin (some .boolean) (eDen gX13_isSign ([.ref a0, .int a1], [], μ)) := rfl
theorem kX13_mustSign (a0 : Nat) (a1 : Int32) (μ : eMem) : eCall mX13_mustSign [.ref a0, .int a1] μ = eFin none (eDen gX13_mustSign ([.ref a0, .int a1], [], μ)) := rfl
theorem kX13_number (a0 : Nat) (a1 : Int32) (a2 : Int32) (μ : eMem) : eCall mX13_number [.ref a0, .int a1, .int a2] μ = eFin (some .int) (eDen gX13_number ([.ref a0, .int a1, .int a2, eJ], [], μ)) := rfl
theorem kX13_signed (a0 : Nat) (a1 : Int32) (a2 : Int32) (μ : eMem) : eCall mX13_signed [.ref a0, .int a1, .int a2] μ = eFin (some .int) (eDen gX13_signed ([.ref a0, .int a1, .int a2, eJ, eJ], [], μ)) := rfl
theorem kX13_beginsText (a0 : Nat) (μ : eMem) : eCall mX13_beginsText [.ref a0] μ = eFin none (eDen gX13_beginsText ([.ref a0], [], μ)) := rfl
theorem kX13_endsText (a0 : Nat) (μ : eMem) : eCall mX13_endsText [.ref a0] μ = eFin (some .boolean) (eDen gX13_endsText ([.ref a0], [], μ)) := rfl
theorem kX13_errorCode (a0 : Nat) (μ : eMem) : eCall mX13_errorCode [.ref a0] μ = eFin (some .int) (eDen gX13_errorCode ([.ref a0], [], μ)) := rfl
theorem kX13_errorPosition (a0 : Nat) (μ : eMem) : eCall mX13_errorPosition [.ref a0] μ = eFin (some .int) (eDen gX13_errorPosition ([.ref a0], [], μ)) := rfl
theorem kX13_laysAside (a0 : Nat) (μ : eMem) : eCall mX13_laysAside [.ref a0] μ = eFin none (eDen gX13_laysAside ([.ref a0, eJ], [], μ)) := rfl
theorem kX13_thinks (a0 : Nat) (μ : eMem) : eCall mX13_thinks [.ref a0] μ = eFin none (eDen gX13_thinks ([.ref a0, eJ], [], μ)) := rfl
theorem kX13_thinksNoMore (a0 : Nat) (μ : eMem) : eCall mX13_thinksNoMore [.ref a0] μ = eFin none (eDen gX13_thinksNoMore ([.ref a0, eJ], [], μ)) := rfl
theorem kX13_keeps (a0 : Nat) (μ : eMem) : eCall mX13_keeps [.ref a0] μ = eFin none (eDen gX13_keeps ([.ref a0, eJ], [], μ)) := rfl
theorem kX13_undo (a0 : Nat) (μ : eMem) : eCall mX13_undo [.ref a0] μ = eFin (some .int) (eDen gX13_undo ([.ref a0, eJ], [], μ)) := rfl
theorem kX13_save (a0 : Nat) (μ : eMem) : eCall mX13_save [.ref a0] μ = eFin (some .int) (eDen gX13_save ([.ref a0, eJ], [], μ)) := rfl
theorem kX13_restore (a0 : Nat) (μ : eMem) : eCall mX13_restore [.ref a0] μ = eFin (some .int) (eDen gX13_restore ([.ref a0, eJ], [], μ)) := rfl
theorem kX13_isPoint (a0 : Nat) (a1 : Int32) (μ : eMem) : eCall mX13_isPoint [.ref a0, .int a1] μ = eFin (some .boolean) (eDen gX13_isPoint ([.ref a0, .int a1], [], μ)) := rfl
theorem kX13_keptVisits (a0 : Nat) (μ : eMem) : eCall mX13_keptVisits [.ref a0] μ = eFin (some .int) (eDen gX13_keptVisits ([.ref a0], [], μ)) := rfl
theorem kX13_visitsOf (a0 : Nat) (a1 : Int32) (a2 : Int32) (a3 : Int32) (μ : eMem) : eCall mX13_visitsOf [.ref a0, .int a1, .int a2, .int a3] μ = eFin (some .int) (eDen gX13_visitsOf ([.ref a0, .int a1, .int a2, .int a3, eJ, eJ], [], μ)) := rfl
theorem kX13_visits (a0 : Nat) (a1 : Int32) (a2 : Int32) (μ : eMem) : eCall mX13_visits [.ref a0, .int a1, .int a2] μ = eFin (some .int) (eDen gX13_visits ([.ref a0, .int a1, .int a2], [], μ)) := rfl
theorem kX13_places (a0 : Nat) (μ : eMem) : eCall mX13_places [.ref a0] μ = eFin (some .int) (eDen gX13_places ([.ref a0, eJ, eJ], [], μ)) := rfl
theorem kX13_marks (a0 : Nat) (μ : eMem) : eCall mX13_marks [.ref a0] μ = eFin none (eDen gX13_marks ([.ref a0, eJ], [], μ)) := rfl
theorem kX13_hasMoved (a0 : Nat) (a1 : Int32) (μ : eMem) : eCall mX13_hasMoved [.ref a0, .int a1] μ = eFin (some .boolean) (eDen gX13_hasMoved ([.ref a0, .int a1], [], μ)) := rfl
theorem kX13_comes (a0 : Nat) (μ : eMem) : eCall mX13_comes [.ref a0] μ = eFin (some .int) (eDen gX13_comes ([.ref a0, eJ, eJ], [], μ)) := rfl
theorem kX13_readsPoly (a0 : Nat) (μ : eMem) : eCall mX13_readsPoly [.ref a0] μ = eFin none (eDen gX13_readsPoly ([.ref a0, eJ, eJ, eJ], [], μ)) := rfl
theorem kX13_joins (a0 : Nat) (a1 : Int32) (μ : eMem) : eCall mX13_joins [.ref a0, .int a1] μ = eFin none (eDen gX13_joins ([.ref a0, .int a1], [], μ)) := rfl
theorem kX13_readsPoint (a0 : Nat) (a1 : Int32) (μ : eMem) : eCall mX13_readsPoint [.ref a0, .int a1] μ = eFin none (eDen gX13_readsPoint ([.ref a0, .int a1, eJ, eJ], [], μ)) := rfl
theorem kX13_readsGoal (a0 : Nat) (μ : eMem) : eCall mX13_readsGoal [.ref a0] μ = eFin none (eDen gX13_readsGoal ([.ref a0, eJ], [], μ)) := rfl
theorem kX13_statement (a0 : Nat) (μ : eMem) : eCall mX13_statement [.ref a0] μ = eFin none (eDen gX13_statement ([.ref a0], [], μ)) := rfl
theorem kX13_readText (a0 : Nat) (μ : eMem) : eCall mX13_readText [.ref a0] μ = eFin (some .int) (eDen gX13_readText ([.ref a0, eJ], [], μ)) := rfl
theorem kX13_degree (a0 : Nat) (μ : eMem) : eCall mX13_degree [.ref a0] μ = eFin (some .int) (eDen gX13_degree ([.ref a0], [], μ)) := rfl
theorem kX13_coefficient (a0 : Nat) (a1 : Int32) (μ : eMem) : eCall mX13_coefficient [.ref a0, .int a1] μ = eFin (some .int) (eDen gX13_coefficient ([.ref a0, .int a1], [], μ)) := rfl
theorem kX13_firstDegree (a0 : Nat) (μ : eMem) : eCall mX13_firstDegree [.ref a0] μ = eFin (some .int) (eDen gX13_firstDegree ([.ref a0], [], μ)) := rfl
theorem kX13_firstCoefficient (a0 : Nat) (a1 : Int32) (μ : eMem) : eCall mX13_firstCoefficient [.ref a0, .int a1] μ = eFin (some .int) (eDen gX13_firstCoefficient ([.ref a0, .int a1], [], μ)) := rfl
theorem kX13_times (a0 : Nat) (a1 : Int64) (a2 : Int64) (μ : eMem) : eCall mX13_times [.ref a0, .long a1, .long a2] μ = eFin none (eDen gX13_times ([.ref a0, .long a1, eJ, .long a2, eJ, eJ, eJ], [], μ)) := rfl
theorem kX13_power (a0 : Int32) (μ : eMem) : eCall mX13_power [.int a0] μ = eFin (some .long) (eDen gX13_power ([.int a0], [], μ)) := rfl
theorem kX13_values (a0 : Nat) (a1 : Int32) (a2 : Int32) (a3 : Int32) (μ : eMem) : eCall mX13_values [.ref a0, .int a1, .int a2, .int a3] μ = eFin none (eDen gX13_values ([.ref a0, .int a1, .int a2, .int a3, eJ, eJ], [], μ)) := rfl
theorem kX13_isPlace (a0 : Int32) (a1 : Int32) (μ : eMem) : eCall mX13_isPlace [.int a0, .int a1] μ = eFin (some .boolean) (eDen gX13_isPlace ([.int a0, .int a1], [], μ)) := rfl
theorem kX13_valueAt (a0 : Nat) (a1 : Int32) (a2 : Int32) (a3 : Int32) (μ : eMem) : eCall mX13_valueAt [.ref a0, .int a1, .int a2, .int a3] μ = eFin (some .long) (eDen gX13_valueAt ([.ref a0, .int a1, .int a2, .int a3], [], μ)) := rfl
theorem kX13_slopeAt (a0 : Nat) (a1 : Int32) (a2 : Int32) (a3 : Int32) (μ : eMem) : eCall mX13_slopeAt [.ref a0, .int a1, .int a2, .int a3] μ = eFin (some .long) (eDen gX13_slopeAt ([.ref a0, .int a1, .int a2, .int a3], [], μ)) := rfl
theorem kX13_digits (a0 : Nat) (a1 : Int32) (μ : eMem) : eCall mX13_digits [.ref a0, .int a1] μ = eFin (some .int) (eDen gX13_digits ([.ref a0, .int a1, eJ, eJ], [], μ)) := rfl
theorem kX13_edgeOf (a0 : Nat) (a1 : Int32) (a2 : Int32) (a3 : Int32) (μ : eMem) : eCall mX13_edgeOf [.ref a0, .int a1, .int a2, .int a3] μ = eFin none (eDen gX13_edgeOf ([.ref a0, .int a1, .int a2, .int a3], [], μ)) := rfl
theorem kX13_floored (a0 : Int32) (a1 : Int32) (μ : eMem) : eCall mX13_floored [.int a0, .int a1] μ = eFin (some .int) (eDen gX13_floored ([.int a0, .int a1], [], μ)) := rfl
theorem kX13_lengthBy (a0 : Int32) (μ : eMem) : eCall mX13_lengthBy [.int a0] μ = eFin (some .int) (eDen gX13_lengthBy ([.int a0, eJ], [], μ)) := rfl
theorem kX13_nextCorner (a0 : Nat) (a1 : Int32) (μ : eMem) : eCall mX13_nextCorner [.ref a0, .int a1] μ = eFin (some .int) (eDen gX13_nextCorner ([.ref a0, .int a1, eJ, eJ], [], μ)) := rfl
theorem kX13_laysEdges (a0 : Nat) (μ : eMem) : eCall mX13_laysEdges [.ref a0] μ = eFin none (eDen gX13_laysEdges ([.ref a0, eJ, eJ], [], μ)) := rfl
theorem kX13_edges (a0 : Nat) (μ : eMem) : eCall mX13_edges [.ref a0] μ = eFin (some .int) (eDen gX13_edges ([.ref a0], [], μ)) := rfl
theorem kX13_edge (a0 : Nat) (a1 : Int32) (a2 : Int32) (μ : eMem) : eCall mX13_edge [.ref a0, .int a1, .int a2] μ = eFin (some .int) (eDen gX13_edge ([.ref a0, .int a1, .int a2], [], μ)) := rfl
theorem kX13_bound (a0 : Nat) (μ : eMem) : eCall mX13_bound [.ref a0] μ = eFin (some .int) (eDen gX13_bound ([.ref a0, eJ, eJ, eJ, eJ], [], μ)) := rfl
theorem kX13_products (a0 : Nat) (a1 : Int32) (μ : eMem) : eCall mX13_products [.ref a0, .int a1] μ = eFin none (eDen gX13_products ([.ref a0, .int a1, eJ], [], μ)) := rfl
theorem kX13_spanOf (a0 : Nat) (a1 : Int32) (μ : eMem) : eCall mX13_spanOf [.ref a0, .int a1] μ = eFin (some .long) (eDen gX13_spanOf ([.ref a0, .int a1, eJ, eJ, eJ, eJ, eJ, eJ, eJ], [], μ)) := rfl
theorem kX13_radiusOf (a0 : Nat) (a1 : Int32) (μ : eMem) : eCall mX13_radiusOf [.ref a0, .int a1] μ = eFin (some .int) (eDen gX13_radiusOf ([.ref a0, .int a1, eJ, eJ, eJ, eJ, eJ, eJ], [], μ)) := rfl
theorem kX13_near (a0 : Nat) (a1 : Int32) (a2 : Int32) (a3 : Int32) (a4 : Int32) (μ : eMem) : eCall mX13_near [.ref a0, .int a1, .int a2, .int a3, .int a4] μ = eFin (some .boolean) (eDen gX13_near ([.ref a0, .int a1, .int a2, .int a3, .int a4, eJ, eJ, eJ, eJ, eJ, eJ], [], μ)) := rfl
theorem kX13_touching (a0 : Nat) (a1 : Int32) (a2 : Int32) (μ : eMem) : eCall mX13_touching [.ref a0, .int a1, .int a2] μ = eFin (some .boolean) (eDen gX13_touching ([.ref a0, .int a1, .int a2], [], μ)) := rfl
theorem kX13_laysDiscs (a0 : Nat) (μ : eMem) : eCall mX13_laysDiscs [.ref a0] μ = eFin none (eDen gX13_laysDiscs ([.ref a0, eJ, eJ, eJ], [], μ)) := rfl
theorem kX13_members (a0 : Nat) (a1 : Int32) (μ : eMem) : eCall mX13_members [.ref a0, .int a1] μ = eFin (some .int) (eDen gX13_members ([.ref a0, .int a1, eJ, eJ], [], μ)) := rfl
theorem kX13_isAlone (a0 : Nat) (a1 : Int32) (μ : eMem) : eCall mX13_isAlone [.ref a0, .int a1] μ = eFin (some .boolean) (eDen gX13_isAlone ([.ref a0, .int a1], [], μ)) := rfl
theorem kX13_isSettled (a0 : Nat) (a1 : Int32) (μ : eMem) : eCall mX13_isSettled [.ref a0, .int a1] μ = eFin (some .boolean) (eDen gX13_isSettled ([.ref a0, .int a1], [], μ)) := rfl
theorem kX13_isReal (a0 : Nat) (a1 : Int32) (μ : eMem) : eCall mX13_isReal [.ref a0, .int a1] μ = eFin (some .boolean) (eDen gX13_isReal ([.ref a0, .int a1, eJ, eJ], [], μ)) := rfl
theorem kX13_point (a0 : Nat) (a1 : Int32) (a2 : Int32) (μ : eMem) : eCall mX13_point [.ref a0, .int a1, .int a2] μ = eFin (some .int) (eDen gX13_point ([.ref a0, .int a1, .int a2], [], μ)) := rfl
theorem kX13_value (a0 : Nat) (a1 : Int32) (a2 : Int32) (μ : eMem) : eCall mX13_value [.ref a0, .int a1, .int a2] μ = eFin (some .long) (eDen gX13_value ([.ref a0, .int a1, .int a2], [], μ)) := rfl
theorem kX13_product (a0 : Nat) (a1 : Int32) (a2 : Int32) (μ : eMem) : eCall mX13_product [.ref a0, .int a1, .int a2] μ = eFin (some .long) (eDen gX13_product ([.ref a0, .int a1, .int a2], [], μ)) := rfl
theorem kX13_span (a0 : Nat) (a1 : Int32) (μ : eMem) : eCall mX13_span [.ref a0, .int a1] μ = eFin (some .long) (eDen gX13_span ([.ref a0, .int a1], [], μ)) := rfl
theorem kX13_steps (a0 : Nat) (a1 : Int32) (μ : eMem) : eCall mX13_steps [.ref a0, .int a1] μ = eFin none (eDen gX13_steps ([.ref a0, .int a1, eJ, eJ, eJ, eJ, eJ, eJ, eJ, eJ, eJ, eJ], [], μ)) := rfl
theorem kX13_step (a0 : Nat) (a1 : Int32) (a2 : Int32) (μ : eMem) : eCall mX13_step [.ref a0, .int a1, .int a2] μ = eFin (some .int) (eDen gX13_step ([.ref a0, .int a1, .int a2], [], μ)) := rfl
theorem kX13_touch (a0 : Nat) (a1 : Int32) (a2 : Int32) (μ : eMem) : eCall mX13_touch [.ref a0, .int a1, .int a2] μ = eFin (some .boolean) (eDen gX13_touch ([.ref a0, .int a1, .int a2], [], μ)) := rfl
theorem kX13_cluster (a0 : Nat) (a1 : Int32) (μ : eMem) : eCall mX13_cluster [.ref a0, .int a1] μ = eFin (some .int) (eDen gX13_cluster ([.ref a0, .int a1], [], μ)) := rfl
theorem kX13_clusters (a0 : Nat) (μ : eMem) : eCall mX13_clusters [.ref a0] μ = eFin (some .int) (eDen gX13_clusters ([.ref a0, eJ, eJ], [], μ)) := rfl
theorem kX13_settledSet (a0 : Nat) (μ : eMem) : eCall mX13_settledSet [.ref a0] μ = eFin (some .int) (eDen gX13_settledSet ([.ref a0, eJ, eJ], [], μ)) := rfl
theorem kX13_isAllSettled (a0 : Nat) (μ : eMem) : eCall mX13_isAllSettled [.ref a0] μ = eFin (some .boolean) (eDen gX13_isAllSettled ([.ref a0], [], μ)) := rfl
theorem kX13_settled (a0 : Nat) (μ : eMem) : eCall mX13_settled [.ref a0] μ = eFin (some .int) (eDen gX13_settled ([.ref a0], [], μ)) := rfl
theorem kX13_real (a0 : Nat) (μ : eMem) : eCall mX13_real [.ref a0] μ = eFin (some .int) (eDen gX13_real ([.ref a0, eJ, eJ], [], μ)) := rfl
theorem kX13_holding (a0 : Nat) (a1 : Int32) (a2 : Int32) (μ : eMem) : eCall mX13_holding [.ref a0, .int a1, .int a2] μ = eFin (some .int) (eDen gX13_holding ([.ref a0, .int a1, .int a2, eJ, eJ, eJ, eJ, eJ, eJ, eJ], [], μ)) := rfl
theorem kX13_worst (a0 : Nat) (μ : eMem) : eCall mX13_worst [.ref a0] μ = eFin (some .int) (eDen gX13_worst ([.ref a0, eJ, eJ], [], μ)) := rfl
theorem kX13_productSize (a0 : Nat) (a1 : Int32) (μ : eMem) : eCall mX13_productSize [.ref a0, .int a1] μ = eFin (some .long) (eDen gX13_productSize ([.ref a0, .int a1], [], μ)) := rfl
theorem kX13_byProduct (a0 : Nat) (a1 : Int32) (μ : eMem) : eCall mX13_byProduct [.ref a0, .int a1] μ = eFin (some .int) (eDen gX13_byProduct ([.ref a0, .int a1, eJ, eJ, eJ, eJ, eJ, eJ, eJ], [], μ)) := rfl
theorem kX13_goal (a0 : Nat) (μ : eMem) : eCall mX13_goal [.ref a0] μ = eFin (some .int) (eDen gX13_goal ([.ref a0], [], μ)) := rfl
theorem kX13_isWithin (a0 : Nat) (a1 : Int32) (μ : eMem) : eCall mX13_isWithin [.ref a0, .int a1] μ = eFin (some .boolean) (eDen gX13_isWithin ([.ref a0, .int a1], [], μ)) := rfl
theorem kX13_meets (a0 : Nat) (a1 : Int32) (μ : eMem) : eCall mX13_meets [.ref a0, .int a1] μ = eFin (some .boolean) (eDen gX13_meets ([.ref a0, .int a1], [], μ)) := rfl
theorem kX13_isSide (a0 : Int32) (μ : eMem) : eCall mX13_isSide [.int a0] μ = eFin (some .boolean) (eDen gX13_isSide ([.int a0], [], μ)) := rfl
theorem kX13_rootsIn (a0 : Nat) (a1 : Int32) (a2 : Int32) (a3 : Int32) (a4 : Int32) (a5 : Int32) (μ : eMem) : eCall mX13_rootsIn [.ref a0, .int a1, .int a2, .int a3, .int a4, .int a5] μ = eFin (some .int) (eDen gX13_rootsIn ([.ref a0, .int a1, .int a2, .int a3, .int a4, .int a5, eJ, eJ, eJ, eJ, eJ], [], μ)) := rfl
theorem kX13_sumError (a0 : Nat) (μ : eMem) : eCall mX13_sumError [.ref a0] μ = eFin (some .int) (eDen gX13_sumError ([.ref a0, eJ, eJ], [], μ)) := rfl
theorem kX13_divides (a0 : Nat) (a1 : Int32) (a2 : Int32) (μ : eMem) : eCall mX13_divides [.ref a0, .int a1, .int a2] μ = eFin (some .boolean) (eDen gX13_divides ([.ref a0, .int a1, .int a2, eJ, eJ, eJ, eJ, eJ, eJ, eJ], [], μ)) := rfl
theorem kX13_isFirst (a0 : Nat) (a1 : Int32) (μ : eMem) : eCall mX13_isFirst [.ref a0, .int a1] μ = eFin (some .boolean) (eDen gX13_isFirst ([.ref a0, .int a1], [], μ)) := rfl
theorem kX13_nearest (a0 : Nat) (a1 : Int32) (a2 : Int32) (μ : eMem) : eCall mX13_nearest [.ref a0, .int a1, .int a2] μ = eFin (some .int) (eDen gX13_nearest ([.ref a0, .int a1, .int a2, eJ, eJ, eJ, eJ, eJ, eJ, eJ, eJ, eJ, eJ], [], μ)) := rfl
theorem kX13_whyDivide (a0 : Nat) (a1 : Int32) (a2 : Int32) (μ : eMem) : eCall mX13_whyDivide [.ref a0, .int a1, .int a2] μ = eFin (some .int) (eDen gX13_whyDivide ([.ref a0, .int a1, .int a2], [], μ)) := rfl
theorem kX13_isA (a0 : Int32) (μ : eMem) : eCall mX13_isA [.int a0] μ = eFin (some .boolean) (eDen gX13_isA ([.int a0], [], μ)) := rfl
theorem kX13_isB (a0 : Int32) (μ : eMem) : eCall mX13_isB [.int a0] μ = eFin (some .boolean) (eDen gX13_isB ([.int a0], [], μ)) := rfl
theorem kX13_whyNotDivide (a0 : Nat) (a1 : Int32) (μ : eMem) : eCall mX13_whyNotDivide [.ref a0, .int a1] μ = eFin (some .int) (eDen gX13_whyNotDivide ([.ref a0, .int a1], [], μ)) := rfl
theorem kX13_whyNotDividePair (a0 : Nat) (a1 : Int32) (a2 : Int32) (μ : eMem) : eCall mX13_whyNotDividePair [.ref a0, .int a1, .int a2] μ = eFin (some .int) (eDen gX13_whyNotDividePair ([.ref a0, .int a1, .int a2], [], μ)) := rfl
theorem kX13_debts (a0 : Nat) (μ : eMem) : eCall mX13_debts [.ref a0] μ = eFin (some .int) (eDen gX13_debts ([.ref a0], [], μ)) := rfl
theorem kX13_debtSize (a0 : Nat) (a1 : Int32) (μ : eMem) : eCall mX13_debtSize [.ref a0, .int a1] μ = eFin (some .int) (eDen gX13_debtSize ([.ref a0, .int a1], [], μ)) := rfl
theorem kX13_debt (a0 : Nat) (a1 : Int32) (a2 : Int32) (μ : eMem) : eCall mX13_debt [.ref a0, .int a1, .int a2] μ = eFin (some .int) (eDen gX13_debt ([.ref a0, .int a1, .int a2], [], μ)) := rfl
theorem kX13_recombined (a0 : Nat) (a1 : Int32) (μ : eMem) : eCall mX13_recombined [.ref a0, .int a1] μ = eFin (some .int) (eDen gX13_recombined ([.ref a0, .int a1, eJ, eJ, eJ, eJ, eJ, eJ, eJ, eJ, eJ, eJ, eJ, eJ], [], μ)) := rfl
theorem kX13_debtShare (a0 : Nat) (μ : eMem) : eCall mX13_debtShare [.ref a0] μ = eFin (some .float) (eDen gX13_debtShare ([.ref a0, eJ, eJ, eJ], [], μ)) := rfl
theorem kX13_parts (a0 : Nat) (a1 : Int32) (μ : eMem) : eCall mX13_parts [.ref a0, .int a1] μ = eFin none (eDen gX13_parts ([.ref a0, .int a1], [], μ)) := rfl
theorem kX13_refines (a0 : Nat) (a1 : Int32) (μ : eMem) : eCall mX13_refines [.ref a0, .int a1] μ = eFin (some .int) (eDen gX13_refines ([.ref a0, .int a1, eJ, eJ, eJ, eJ], [], μ)) := rfl
theorem kX13_sweeps (a0 : Nat) (μ : eMem) : eCall mX13_sweeps [.ref a0] μ = eFin (some .int) (eDen gX13_sweeps ([.ref a0, eJ, eJ, eJ], [], μ)) := rfl
theorem kX13_sweepsUpTo (a0 : Nat) (a1 : Int32) (μ : eMem) : eCall mX13_sweepsUpTo [.ref a0, .int a1] μ = eFin (some .int) (eDen gX13_sweepsUpTo ([.ref a0, .int a1, eJ, eJ, eJ], [], μ)) := rfl
theorem kX13_sweepsToSettle (a0 : Nat) (a1 : Int32) (μ : eMem) : eCall mX13_sweepsToSettle [.ref a0, .int a1] μ = eFin (some .int) (eDen gX13_sweepsToSettle ([.ref a0, .int a1, eJ, eJ, eJ], [], μ)) := rfl
theorem kX13_meanRadiusBehind (a0 : Nat) (μ : eMem) : eCall mX13_meanRadiusBehind [.ref a0] μ = eFin (some .double) (eDen gX13_meanRadiusBehind ([.ref a0, eJ, eJ, eJ], [], μ)) := rfl
theorem kX13_kept (a0 : Nat) (a1 : Int32) (μ : eMem) : eCall mX13_kept [.ref a0, .int a1] μ = eFin (some .int) (eDen gX13_kept ([.ref a0, .int a1], [], μ)) := rfl
theorem kX13_laysRound (a0 : Nat) (a1 : Int32) (a2 : Int32) (a3 : Int32) (μ : eMem) : eCall mX13_laysRound [.ref a0, .int a1, .int a2, .int a3] μ = eFin none (eDen gX13_laysRound ([.ref a0, .int a1, .int a2, .int a3, eJ, eJ, eJ, eJ], [], μ)) := rfl
theorem kX13_noPairs (a0 : Nat) (μ : eMem) : eCall mX13_noPairs [.ref a0] μ = eFin none (eDen gX13_noPairs ([.ref a0, eJ], [], μ)) := rfl
theorem kX13_doesSpread (a0 : Nat) (a1 : Int32) (μ : eMem) : eCall mX13_doesSpread [.ref a0, .int a1] μ = eFin (some .int) (eDen gX13_doesSpread ([.ref a0, .int a1], [], μ)) := rfl
theorem kX13_doesStart (a0 : Nat) (μ : eMem) : eCall mX13_doesStart [.ref a0] μ = eFin (some .int) (eDen gX13_doesStart ([.ref a0, eJ], [], μ)) := rfl
theorem kX13_mayMove (a0 : Nat) (a1 : Int32) (a2 : Int32) (μ : eMem) : eCall mX13_mayMove [.ref a0, .int a1, .int a2] μ = eFin (some .boolean) (eDen gX13_mayMove ([.ref a0, .int a1, .int a2], [], μ)) := rfl
theorem kX13_doesMove (a0 : Nat) (a1 : Int32) (a2 : Int32) (a3 : Int32) (μ : eMem) : eCall mX13_doesMove [.ref a0, .int a1, .int a2, .int a3] μ = eFin (some .int) (eDen gX13_doesMove ([.ref a0, .int a1, .int a2, .int a3], [], μ)) := rfl
theorem kX13_goesAway (a0 : Nat) (a1 : Int32) (μ : eMem) : eCall mX13_goesAway [.ref a0, .int a1] μ = eFin none (eDen gX13_goesAway ([.ref a0, .int a1, eJ], [], μ)) := rfl
theorem kX13_doesDivide (a0 : Nat) (a1 : Int32) (a2 : Int32) (μ : eMem) : eCall mX13_doesDivide [.ref a0, .int a1, .int a2] μ = eFin (some .int) (eDen gX13_doesDivide ([.ref a0, .int a1, .int a2, eJ, eJ, eJ, eJ, eJ], [], μ)) := rfl
theorem kX13_setsGoal (a0 : Nat) (a1 : Int32) (μ : eMem) : eCall mX13_setsGoal [.ref a0, .int a1] μ = eFin (some .int) (eDen gX13_setsGoal ([.ref a0, .int a1, eJ], [], μ)) := rfl
theorem kX13_refine (a0 : Nat) (a1 : Int32) (μ : eMem) : eCall mX13_refine [.ref a0, .int a1] μ = eFin (some .int) (eDen gX13_refine ([.ref a0, .int a1], [], μ)) := rfl
theorem kX13_sweep (a0 : Nat) (μ : eMem) : eCall mX13_sweep [.ref a0] μ = eFin (some .int) (eDen gX13_sweep ([.ref a0], [], μ)) := rfl
theorem kX13_run (a0 : Nat) (a1 : Int32) (μ : eMem) : eCall mX13_run [.ref a0, .int a1] μ = eFin (some .int) (eDen gX13_run ([.ref a0, .int a1], [], μ)) := rfl
theorem kX13_spread (a0 : Nat) (a1 : Int32) (μ : eMem) : eCall mX13_spread [.ref a0, .int a1] μ = eFin (some .int) (eDen gX13_spread ([.ref a0, .int a1], [], μ)) := rfl
theorem kX13_start (a0 : Nat) (μ : eMem) : eCall mX13_start [.ref a0] μ = eFin (some .int) (eDen gX13_start ([.ref a0], [], μ)) := rfl
theorem kX13_move (a0 : Nat) (a1 : Int32) (a2 : Int32) (a3 : Int32) (μ : eMem) : eCall mX13_move [.ref a0, .int a1, .int a2, .int a3] μ = eFin (some .int) (eDen gX13_move ([.ref a0, .int a1, .int a2, .int a3, eJ], [], μ)) := rfl
theorem kX13_join (a0 : Nat) (a1 : Int32) (μ : eMem) : eCall mX13_join [.ref a0, .int a1] μ = eFin (some .int) (eDen gX13_join ([.ref a0, .int a1, eJ, eJ], [], μ)) := rfl
theorem kX13_part (a0 : Nat) (a1 : Int32) (μ : eMem) : eCall mX13_part [.ref a0, .int a1] μ = eFin (some .int) (eDen gX13_part ([.ref a0, .int a1, eJ, eJ], [], μ)) := rfl
theorem kX13_divide (a0 : Nat) (a1 : Int32) (μ : eMem) : eCall mX13_divide [.ref a0, .int a1] μ = eFin (some .int) (eDen gX13_divide ([.ref a0, .int a1, eJ], [], μ)) := rfl
theorem kX13_dividePair (a0 : Nat) (a1 : Int32) (a2 : Int32) (μ : eMem) : eCall mX13_dividePair [.ref a0, .int a1, .int a2] μ = eFin (some .int) (eDen gX13_dividePair ([.ref a0, .int a1, .int a2, eJ], [], μ)) := rfl
theorem kX13_setGoal (a0 : Nat) (a1 : Int32) (μ : eMem) : eCall mX13_setGoal [.ref a0, .int a1] μ = eFin (some .int) (eDen gX13_setGoal ([.ref a0, .int a1], [], μ)) := rfl
theorem kX13_commandHere (a0 : Nat) (μ : eMem) : eCall mX13_commandHere [.ref a0] μ = eFin (some .int) (eDen gX13_commandHere ([.ref a0], [], μ)) := rfl
theorem kX13_command (a0 : Nat) (μ : eMem) : eCall mX13_command [.ref a0] μ = eFin none (eDen gX13_command ([.ref a0, eJ, eJ], [], μ)) := rfl
theorem kX13_closes (a0 : Nat) (μ : eMem) : eCall mX13_closes [.ref a0] μ = eFin none (eDen gX13_closes ([.ref a0], [], μ)) := rfl
theorem kX13_may (a0 : Nat) (a1 : Int32) (a2 : Int32) (a3 : Int32) (a4 : Int32) (μ : eMem) : eCall mX13_may [.ref a0, .int a1, .int a2, .int a3, .int a4] μ = eFin (some .boolean) (eDen gX13_may ([.ref a0, .int a1, .int a2, .int a3, .int a4], [], μ)) := rfl
theorem kX13_does (a0 : Nat) (a1 : Int32) (a2 : Int32) (a3 : Int32) (a4 : Int32) (μ : eMem) : eCall mX13_does [.ref a0, .int a1, .int a2, .int a3, .int a4] μ = eFin (some .boolean) (eDen gX13_does ([.ref a0, .int a1, .int a2, .int a3, .int a4], [], μ)) := rfl
theorem kX13_runs (a0 : Nat) (μ : eMem) : eCall mX13_runs [.ref a0] μ = eFin (some .int) (eDen gX13_runs ([.ref a0, eJ, eJ, eJ, eJ, eJ], [], μ)) := rfl
theorem kX13_runScript (a0 : Nat) (μ : eMem) : eCall mX13_runScript [.ref a0] μ = eFin (some .int) (eDen gX13_runScript ([.ref a0, eJ], [], μ)) := rfl
theorem kX13_tell (a0 : Nat) (a1 : Int32) (μ : eMem) : eCall mX13_tell [.ref a0, .int a1] μ = eFin none (eDen gX13_tell ([.ref a0, .int a1], [], μ)) := rfl
theorem kX13_tellNumber (a0 : Nat) (a1 : Int32) (μ : eMem) : eCall mX13_tellNumber [.ref a0, .int a1] μ = eFin none (eDen gX13_tellNumber ([.ref a0, .int a1, eJ, eJ], [], μ)) := rfl
theorem kX13_report (a0 : Nat) (μ : eMem) : eCall mX13_report [.ref a0] μ = eFin (some .int) (eDen gX13_report ([.ref a0, eJ], [], μ)) := rfl
theorem kX13_reportByte (a0 : Nat) (a1 : Int32) (μ : eMem) : eCall mX13_reportByte [.ref a0, .int a1] μ = eFin (some .int) (eDen gX13_reportByte ([.ref a0, .int a1], [], μ)) := rfl
