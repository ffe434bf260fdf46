set_option maxRecDepth 100000 in
theorem wd_14 : (Jvm.Cond.initialized "java/lang/StringLatin1") ∈ q_gw := q_gwm 14 rfl rfl
set_option maxRecDepth 100000 in
theorem wd_17 : (Jvm.Cond.initialized "jdk/internal/util/Preconditions") ∈ q_gw := q_gwm 17 rfl rfl
set_option maxRecDepth 100000 in
theorem wd_436 : (Jvm.Cond.methodLink "java/lang/String" (335 : Nat) ({ cls := "java/lang/String", name := "coder", desc := "()B" } : Jvm.MethodName)) ∈ q_gw := q_gwm 436 rfl rfl
set_option maxRecDepth 100000 in
theorem wd_437 : (Jvm.Cond.instanceMethod ({ cls := "java/lang/String", name := "coder", desc := "()B" } : Jvm.MethodName)) ∈ q_gw := q_gwm 437 rfl rfl
set_option maxRecDepth 100000 in
theorem wd_438 : (Jvm.Cond.selects "java/lang/String" ({ cls := "java/lang/String", name := "coder", desc := "()B" } : Jvm.MethodName) ({ cls := "java/lang/String", name := "coder", desc := "()B" } : Jvm.MethodName)) ∈ q_gw := q_gwm 438 rfl rfl
set_option maxRecDepth 100000 in
theorem wd_439 : (Jvm.Cond.code ({ cls := "java/lang/String", name := "coder", desc := "()B" } : Jvm.MethodName) prog_24_method_152_code (1 : Nat) (Option.some Jvm.ClassFile.FieldType.byte)) ∈ q_gw := q_gwm 439 rfl rfl
set_option maxRecDepth 100000 in
theorem wd_440 : (Jvm.Cond.fieldLink "java/lang/String" (38 : Nat) "java/lang/String" "COMPACT_STRINGS" "Z") ∈ q_gw := q_gwm 440 rfl rfl
set_option maxRecDepth 100000 in
theorem wd_451 : (Jvm.Cond.methodLink "java/lang/String" (633 : Nat) ({ cls := "java/lang/String", name := "indexOf", desc := "(II)I" } : Jvm.MethodName)) ∈ q_gw := q_gwm 451 rfl rfl
set_option maxRecDepth 100000 in
theorem wd_452 : (Jvm.Cond.instanceMethod ({ cls := "java/lang/String", name := "indexOf", desc := "(II)I" } : Jvm.MethodName)) ∈ q_gw := q_gwm 452 rfl rfl
set_option maxRecDepth 100000 in
theorem wd_453 : (Jvm.Cond.selects "java/lang/String" ({ cls := "java/lang/String", name := "indexOf", desc := "(II)I" } : Jvm.MethodName) ({ cls := "java/lang/String", name := "indexOf", desc := "(II)I" } : Jvm.MethodName)) ∈ q_gw := q_gwm 453 rfl rfl
set_option maxRecDepth 100000 in
theorem wd_454 : (Jvm.Cond.code ({ cls := "java/lang/String", name := "indexOf", desc := "(II)I" } : Jvm.MethodName) prog_24_method_80_code (3 : Nat) (Option.some Jvm.ClassFile.FieldType.int)) ∈ q_gw := q_gwm 454 rfl rfl
set_option maxRecDepth 100000 in
theorem wd_455 : (Jvm.Cond.methodLink "java/lang/String" (492 : Nat) ({ cls := "java/lang/String", name := "isLatin1", desc := "()Z" } : Jvm.MethodName)) ∈ q_gw := q_gwm 455 rfl rfl
set_option maxRecDepth 100000 in
theorem wd_456 : (Jvm.Cond.instanceMethod ({ cls := "java/lang/String", name := "isLatin1", desc := "()Z" } : Jvm.MethodName)) ∈ q_gw := q_gwm 456 rfl rfl
set_option maxRecDepth 100000 in
theorem wd_457 : (Jvm.Cond.selects "java/lang/String" ({ cls := "java/lang/String", name := "isLatin1", desc := "()Z" } : Jvm.MethodName) ({ cls := "java/lang/String", name := "isLatin1", desc := "()Z" } : Jvm.MethodName)) ∈ q_gw := q_gwm 457 rfl rfl
set_option maxRecDepth 100000 in
theorem wd_458 : (Jvm.Cond.code ({ cls := "java/lang/String", name := "isLatin1", desc := "()Z" } : Jvm.MethodName) prog_24_method_154_code (1 : Nat) (Option.some Jvm.ClassFile.FieldType.boolean)) ∈ q_gw := q_gwm 458 rfl rfl
set_option maxRecDepth 100000 in
theorem wd_459 : (Jvm.Cond.methodLink "java/lang/String" (505 : Nat) ({ cls := "java/lang/String", name := "length", desc := "()I" } : Jvm.MethodName)) ∈ q_gw := q_gwm 459 rfl rfl
set_option maxRecDepth 100000 in
theorem wd_460 : (Jvm.Cond.methodLink "java/lang/String" (637 : Nat) ({ cls := "java/lang/StringLatin1", name := "indexOf", desc := "([BIII)I" } : Jvm.MethodName)) ∈ q_gw := q_gwm 460 rfl rfl
set_option maxRecDepth 100000 in
theorem wd_461 : (Jvm.Cond.static ({ cls := "java/lang/StringLatin1", name := "indexOf", desc := "([BIII)I" } : Jvm.MethodName)) ∈ q_gw := q_gwm 461 rfl rfl
set_option maxRecDepth 100000 in
theorem wd_462 : (Jvm.Cond.code ({ cls := "java/lang/StringLatin1", name := "indexOf", desc := "([BIII)I" } : Jvm.MethodName) prog_25_method_22_code (4 : Nat) (Option.some Jvm.ClassFile.FieldType.int)) ∈ q_gw := q_gwm 462 rfl rfl
set_option maxRecDepth 100000 in
theorem wd_463 : (Jvm.Cond.methodLink "java/lang/StringLatin1" (88 : Nat) ({ cls := "java/lang/StringLatin1", name := "canEncode", desc := "(I)Z" } : Jvm.MethodName)) ∈ q_gw := q_gwm 463 rfl rfl
set_option maxRecDepth 100000 in
theorem wd_464 : (Jvm.Cond.static ({ cls := "java/lang/StringLatin1", name := "canEncode", desc := "(I)Z" } : Jvm.MethodName)) ∈ q_gw := q_gwm 464 rfl rfl
set_option maxRecDepth 100000 in
theorem wd_465 : (Jvm.Cond.code ({ cls := "java/lang/StringLatin1", name := "canEncode", desc := "(I)Z" } : Jvm.MethodName) prog_25_method_4_code (1 : Nat) (Option.some Jvm.ClassFile.FieldType.boolean)) ∈ q_gw := q_gwm 465 rfl rfl
set_option maxRecDepth 100000 in
theorem wd_466 : (Jvm.Cond.methodLink "java/lang/StringLatin1" (92 : Nat) ({ cls := "java/lang/Math", name := "max", desc := "(II)I" } : Jvm.MethodName)) ∈ q_gw := q_gwm 466 rfl rfl
set_option maxRecDepth 100000 in
theorem wd_469 : (Jvm.Cond.methodLink "java/lang/StringLatin1" (38 : Nat) ({ cls := "java/lang/Math", name := "min", desc := "(II)I" } : Jvm.MethodName)) ∈ q_gw := q_gwm 469 rfl rfl
set_option maxRecDepth 100000 in
theorem wd_472 : (Jvm.Cond.methodLink "java/lang/StringLatin1" (95 : Nat) ({ cls := "java/lang/StringLatin1", name := "indexOfChar", desc := "([BIII)I" } : Jvm.MethodName)) ∈ q_gw := q_gwm 472 rfl rfl
set_option maxRecDepth 100000 in
theorem wd_473 : (Jvm.Cond.static ({ cls := "java/lang/StringLatin1", name := "indexOfChar", desc := "([BIII)I" } : Jvm.MethodName)) ∈ q_gw := q_gwm 473 rfl rfl
set_option maxRecDepth 100000 in
theorem wd_474 : (Jvm.Cond.code ({ cls := "java/lang/StringLatin1", name := "indexOfChar", desc := "([BIII)I" } : Jvm.MethodName) prog_25_method_23_code (6 : Nat) (Option.some Jvm.ClassFile.FieldType.int)) ∈ q_gw := q_gwm 474 rfl rfl
set_option maxRecDepth 100000 in
theorem wd_493 : (Jvm.Cond.fieldLink "java/lang/String" (1053 : Nat) "jdk/internal/util/Preconditions" "SIOOBE_FORMATTER" "Ljava/util/function/BiFunction;") ∈ q_gw := q_gwm 493 rfl rfl
set_option maxRecDepth 100000 in
theorem wd_495 : (Jvm.Cond.methodLink "java/lang/String" (1062 : Nat) ({ cls := "jdk/internal/util/Preconditions", name := "checkFromToIndex", desc := "(IIILjava/util/function/BiFunction;)I" } : Jvm.MethodName)) ∈ q_gw := q_gwm 495 rfl rfl
set_option maxRecDepth 100000 in
theorem wd_496 : (Jvm.Cond.static ({ cls := "jdk/internal/util/Preconditions", name := "checkFromToIndex", desc := "(IIILjava/util/function/BiFunction;)I" } : Jvm.MethodName)) ∈ q_gw := q_gwm 496 rfl rfl
set_option maxRecDepth 100000 in
theorem wd_497 : (Jvm.Cond.code ({ cls := "jdk/internal/util/Preconditions", name := "checkFromToIndex", desc := "(IIILjava/util/function/BiFunction;)I" } : Jvm.MethodName) prog_33_method_12_code (4 : Nat) (Option.some Jvm.ClassFile.FieldType.int)) ∈ q_gw := q_gwm 497 rfl rfl
set_option maxRecDepth 100000 in
theorem wd_662 : (Jvm.Cond.methodLink "java/util/Arrays" (304 : Nat) ({ cls := "java/lang/Math", name := "min", desc := "(II)I" } : Jvm.MethodName)) ∈ q_gw := q_gwm 662 rfl rfl
set_option maxRecDepth 100000 in
theorem wd_663 : (Jvm.Cond.methodLink "java/util/Arrays" (150 : Nat) ({ cls := "java/lang/System", name := "arraycopy", desc := "(Ljava/lang/Object;ILjava/lang/Object;II)V" } : Jvm.MethodName)) ∈ q_gw := q_gwm 663 rfl rfl
set_option maxRecDepth 100000 in
theorem wd_740 : (Jvm.Cond.constant "java/lang/Integer" (265 : Nat) (1431655765 : Int32)) ∈ q_gw := q_gwm 740 rfl rfl
set_option maxRecDepth 100000 in
theorem wd_741 : (Jvm.Cond.constant "java/lang/Integer" (266 : Nat) (858993459 : Int32)) ∈ q_gw := q_gwm 741 rfl rfl
set_option maxRecDepth 100000 in
theorem wd_742 : (Jvm.Cond.constant "java/lang/Integer" (267 : Nat) (252645135 : Int32)) ∈ q_gw := q_gwm 742 rfl rfl
set_option maxRecDepth 100000 in
theorem wd_1413 : (Jvm.Cond.methodLink "java/lang/String" (495 : Nat) ({ cls := "java/lang/StringLatin1", name := "charAt", desc := "([BI)C" } : Jvm.MethodName)) ∈ q_gw := q_gwm 1413 rfl rfl
set_option maxRecDepth 100000 in
theorem wd_1414 : (Jvm.Cond.static ({ cls := "java/lang/StringLatin1", name := "charAt", desc := "([BI)C" } : Jvm.MethodName)) ∈ q_gw := q_gwm 1414 rfl rfl
set_option maxRecDepth 100000 in
theorem wd_1415 : (Jvm.Cond.code ({ cls := "java/lang/StringLatin1", name := "charAt", desc := "([BI)C" } : Jvm.MethodName) prog_25_method_2_code (2 : Nat) (Option.some Jvm.ClassFile.FieldType.char)) ∈ q_gw := q_gwm 1415 rfl rfl
set_option maxRecDepth 100000 in
theorem wd_1416 : (Jvm.Cond.methodLink "java/lang/StringLatin1" (9 : Nat) ({ cls := "java/lang/String", name := "checkIndex", desc := "(II)V" } : Jvm.MethodName)) ∈ q_gw := q_gwm 1416 rfl rfl
set_option maxRecDepth 100000 in
theorem wd_1417 : (Jvm.Cond.static ({ cls := "java/lang/String", name := "checkIndex", desc := "(II)V" } : Jvm.MethodName)) ∈ q_gw := q_gwm 1417 rfl rfl
set_option maxRecDepth 100000 in
theorem wd_1418 : (Jvm.Cond.code ({ cls := "java/lang/String", name := "checkIndex", desc := "(II)V" } : Jvm.MethodName) prog_24_method_155_code (2 : Nat) (Option.none : Option Jvm.ClassFile.FieldType)) ∈ q_gw := q_gwm 1418 rfl rfl
set_option maxRecDepth 100000 in
theorem wd_1419 : (Jvm.Cond.methodLink "java/lang/String" (1059 : Nat) ({ cls := "jdk/internal/util/Preconditions", name := "checkIndex", desc := "(IILjava/util/function/BiFunction;)I" } : Jvm.MethodName)) ∈ q_gw := q_gwm 1419 rfl rfl
set_option maxRecDepth 100000 in
theorem wd_1420 : (Jvm.Cond.static ({ cls := "jdk/internal/util/Preconditions", name := "checkIndex", desc := "(IILjava/util/function/BiFunction;)I" } : Jvm.MethodName)) ∈ q_gw := q_gwm 1420 rfl rfl
set_option maxRecDepth 100000 in
theorem wd_1421 : (Jvm.Cond.code ({ cls := "jdk/internal/util/Preconditions", name := "checkIndex", desc := "(IILjava/util/function/BiFunction;)I" } : Jvm.MethodName) prog_33_method_11_code (3 : Nat) (Option.some Jvm.ClassFile.FieldType.int)) ∈ q_gw := q_gwm 1421 rfl rfl
set_option maxRecDepth 100000 in
theorem wd_1859 : (Jvm.Cond.fieldLink "java/lang/String" (9 : Nat) "java/lang/String" "value" "[B") ∈ q_gw := q_gwm 1859 rfl rfl
set_option maxRecDepth 100000 in
theorem wd_1860 : (Jvm.Cond.fieldLink "java/lang/String" (15 : Nat) "java/lang/String" "coder" "B") ∈ q_gw := q_gwm 1860 rfl rfl
theorem lkM_J0_335 : q_lM RJ0 335 yJ0_coder_7d493 := Or.inl wd_436
theorem lkM_J0_492 : q_lM RJ0 492 yJ0_isLatin1_aae02 := Or.inl wd_455
theorem lkM_J0_495 : q_lM RJ0 495 yJ1_charAt_3b067 := Or.inl wd_1413
theorem lkM_J0_505 : q_lM RJ0 505 yJ0_length_8abf5 := Or.inl wd_459
theorem lkM_J0_633 : q_lM RJ0 633 yJ0_indexOf_7cf53 := Or.inl wd_451
theorem lkM_J0_637 : q_lM RJ0 637 yJ1_indexOf_4cfef := Or.inl wd_460
theorem lkM_J0_1059 : q_lM RJ0 1059 yJ3_checkIndex_8e157 := Or.inl wd_1419
theorem lkM_J0_1062 : q_lM RJ0 1062 yJ3_checkFromToIndex_8c36e := Or.inl wd_495
theorem lkM_J1_9 : q_lM RJ1 9 yJ0_checkIndex_df160 := Or.inl wd_1416
theorem lkM_J1_88 : q_lM RJ1 88 yJ1_canEncode_9a6ad := Or.inl wd_463
theorem lkM_J1_95 : q_lM RJ1 95 yJ1_indexOfChar_4cfef := Or.inl wd_472
theorem mS_J0_checkIndex_df160 : q_mS yJ0_checkIndex_df160 cJ0_checkIndex_df160 2 (Option.none : Option Jvm.ClassFile.FieldType) 2 := ⟨⟨wd_13, wd_1418, by decide, by decide, by decide +kernel⟩, wd_1417⟩
theorem mV_J0_coder_7d493 : q_mV yJ0_coder_7d493 cJ0_coder_7d493 1 (Option.some Jvm.ClassFile.FieldType.byte) 0 := ⟨⟨wd_13, wd_439, by decide, by decide, by decide +kernel⟩, wd_437, wd_438⟩
theorem mV_J0_indexOf_7cf53 : q_mV yJ0_indexOf_7cf53 cJ0_indexOf_7cf53 3 (Option.some Jvm.ClassFile.FieldType.int) 2 := ⟨⟨wd_13, wd_454, by decide, by decide, by decide +kernel⟩, wd_452, wd_453⟩
theorem mV_J0_isLatin1_aae02 : q_mV yJ0_isLatin1_aae02 cJ0_isLatin1_aae02 1 (Option.some Jvm.ClassFile.FieldType.boolean) 0 := ⟨⟨wd_13, wd_458, by decide, by decide, by decide +kernel⟩, wd_456, wd_457⟩
theorem mS_J1_canEncode_9a6ad : q_mS yJ1_canEncode_9a6ad cJ1_canEncode_9a6ad 1 (Option.some Jvm.ClassFile.FieldType.boolean) 1 := ⟨⟨wd_14, wd_465, by decide, by decide, by decide +kernel⟩, wd_464⟩
theorem mS_J1_charAt_3b067 : q_mS yJ1_charAt_3b067 cJ1_charAt_3b067 2 (Option.some Jvm.ClassFile.FieldType.char) 2 := ⟨⟨wd_14, wd_1415, by decide, by decide, by decide +kernel⟩, wd_1414⟩
theorem mS_J1_indexOfChar_4cfef : q_mS yJ1_indexOfChar_4cfef cJ1_indexOfChar_4cfef 6 (Option.some Jvm.ClassFile.FieldType.int) 4 := ⟨⟨wd_14, wd_474, by decide, by decide, by decide +kernel⟩, wd_473⟩
theorem mS_J1_indexOf_4cfef : q_mS yJ1_indexOf_4cfef cJ1_indexOf_4cfef 4 (Option.some Jvm.ClassFile.FieldType.int) 4 := ⟨⟨wd_14, wd_462, by decide, by decide, by decide +kernel⟩, wd_461⟩
theorem mS_J3_checkFromToIndex_8c36e : q_mS yJ3_checkFromToIndex_8c36e cJ3_checkFromToIndex_8c36e 4 (Option.some Jvm.ClassFile.FieldType.int) 4 := ⟨⟨wd_17, wd_497, by decide, by decide, by decide +kernel⟩, wd_496⟩
theorem mS_J3_checkIndex_8e157 : q_mS yJ3_checkIndex_8e157 cJ3_checkIndex_8e157 3 (Option.some Jvm.ClassFile.FieldType.int) 3 := ⟨⟨wd_17, wd_1421, by decide, by decide, by decide +kernel⟩, wd_1420⟩
