theorem dX7_dishToTry_51 : decode cX7_dishToTry 51 = .ok (.iload 8, 2) := by decide +kernel
theorem dX7_dishToTry_53 : decode cX7_dishToTry 53 = .ok (.iload 6, 2) := by decide +kernel
theorem dX7_dishToTry_55 : decode cX7_dishToTry 55 = .ok (.if_icmp .ge 11, 3) := by decide +kernel
theorem dX7_dishToTry_58 : decode cX7_dishToTry 58 = .ok (.iload 8, 2) := by decide +kernel
theorem dX7_dishToTry_60 : decode cX7_dishToTry 60 = .ok (.istore 6, 2) := by decide +kernel
theorem dX7_dishToTry_62 : decode cX7_dishToTry 62 = .ok (.iload 7, 2) := by decide +kernel
theorem dX7_dishToTry_64 : decode cX7_dishToTry 64 = .ok (.istore 5, 2) := by decide +kernel
theorem dX7_dishToTry_66 : decode cX7_dishToTry 66 = .ok (.iinc 7 1, 3) := by decide +kernel
theorem dX7_dishToTry_69 : decode cX7_dishToTry 69 = .ok (.goto (-46), 3) := by decide +kernel
theorem dX7_dishToTry_72 : decode cX7_dishToTry 72 = .ok (.iload 5, 2) := by decide +kernel
theorem dX7_dishToTry_74 : decode cX7_dishToTry 74 = .ok (.ireturn, 1) := by decide +kernel
theorem dX7_lean_0 : decode cX7_lean 0 = .ok (.iconst 0, 1) := by decide +kernel
theorem dX7_lean_1 : decode cX7_lean 1 = .ok (.istore 6, 2) := by decide +kernel
theorem dX7_lean_3 : decode cX7_lean 3 = .ok (.iconst 0, 1) := by decide +kernel
theorem dX7_lean_4 : decode cX7_lean 4 = .ok (.istore 7, 2) := by decide +kernel
theorem dX7_lean_6 : decode cX7_lean 6 = .ok (.iload 7, 2) := by decide +kernel
theorem dX7_lean_8 : decode cX7_lean 8 = .ok (.iconst 4, 1) := by decide +kernel
theorem dX7_lean_9 : decode cX7_lean 9 = .ok (.if_icmp .ge 43, 3) := by decide +kernel
theorem dX7_lean_12 : decode cX7_lean 12 = .ok (.iload_n 2, 1) := by decide +kernel
theorem dX7_lean_13 : decode cX7_lean 13 = .ok (.iload 7, 2) := by decide +kernel
theorem dX7_lean_15 : decode cX7_lean 15 = .ok (.ishr, 1) := by decide +kernel
theorem dX7_lean_16 : decode cX7_lean 16 = .ok (.iconst 1, 1) := by decide +kernel
theorem dX7_lean_17 : decode cX7_lean 17 = .ok (.iand, 1) := by decide +kernel
theorem dX7_lean_18 : decode cX7_lean 18 = .ok (.ifCond .eq 28, 3) := by decide +kernel
theorem dX7_lean_21 : decode cX7_lean 21 = .ok (.iload 6, 2) := by decide +kernel
theorem dX7_lean_23 : decode cX7_lean 23 = .ok (.aload_n 0, 1) := by decide +kernel
theorem dX7_lean_24 : decode cX7_lean 24 = .ok (.iload_n 1, 1) := by decide +kernel
theorem dX7_lean_25 : decode cX7_lean 25 = .ok (.iload 7, 2) := by decide +kernel
theorem dX7_lean_27 : decode cX7_lean 27 = .ok (.iload_n 3, 1) := by decide +kernel
theorem dX7_lean_28 : decode cX7_lean 28 = .ok (.iload 4, 2) := by decide +kernel
theorem dX7_lean_30 : decode cX7_lean 30 = .ok (.iload 5, 2) := by decide +kernel
theorem dX7_lean_32 : decode cX7_lean 32 = .ok (.invokevirtual 42, 3) := by decide +kernel
theorem dX7_lean_35 : decode cX7_lean 35 = .ok (.ifCond .eq 7, 3) := by decide +kernel
theorem dX7_lean_38 : decode cX7_lean 38 = .ok (.iconst 1, 1) := by decide +kernel
theorem dX7_lean_39 : decode cX7_lean 39 = .ok (.goto 4, 3) := by decide +kernel
theorem dX7_lean_42 : decode cX7_lean 42 = .ok (.iconst (-1), 1) := by decide +kernel
theorem dX7_lean_43 : decode cX7_lean 43 = .ok (.iadd, 1) := by decide +kernel
theorem dX7_lean_44 : decode cX7_lean 44 = .ok (.istore 6, 2) := by decide +kernel
theorem dX7_lean_46 : decode cX7_lean 46 = .ok (.iinc 7 1, 3) := by decide +kernel
theorem dX7_lean_49 : decode cX7_lean 49 = .ok (.goto (-43), 3) := by decide +kernel
theorem dX7_lean_52 : decode cX7_lean 52 = .ok (.iload 6, 2) := by decide +kernel
theorem dX7_lean_54 : decode cX7_lean 54 = .ok (.ireturn, 1) := by decide +kernel
theorem dX8_init_0 : decode cX8_init 0 = .ok (.aload_n 0, 1) := by decide +kernel
theorem dX8_init_1 : decode cX8_init 1 = .ok (.invokespecial 3, 3) := by decide +kernel
theorem dX8_init_4 : decode cX8_init 4 = .ok (.aload_n 0, 1) := by decide +kernel
theorem dX8_init_5 : decode cX8_init 5 = .ok (.bipush 31, 2) := by decide +kernel
theorem dX8_init_7 : decode cX8_init 7 = .ok (.newarray .int, 2) := by decide +kernel
theorem dX8_init_9 : decode cX8_init 9 = .ok (.putfield 9, 3) := by decide +kernel
theorem dX8_init_12 : decode cX8_init 12 = .ok (.aload_n 0, 1) := by decide +kernel
theorem dX8_init_13 : decode cX8_init 13 = .ok (.getfield 9, 3) := by decide +kernel
theorem dX8_init_16 : decode cX8_init 16 = .ok (.iconst 3, 1) := by decide +kernel
theorem dX8_init_17 : decode cX8_init 17 = .ok (.iconst (-1), 1) := by decide +kernel
theorem dX8_init_18 : decode cX8_init 18 = .ok (.iastore, 1) := by decide +kernel
theorem dX8_init_19 : decode cX8_init 19 = .ok (.return_, 1) := by decide +kernel
theorem dX8_copyFrom_0 : decode cX8_copyFrom 0 = .ok (.aload_n 1, 1) := by decide +kernel
theorem dX8_copyFrom_1 : decode cX8_copyFrom 1 = .ok (.getfield 9, 3) := by decide +kernel
theorem dX8_copyFrom_4 : decode cX8_copyFrom 4 = .ok (.iconst 0, 1) := by decide +kernel
theorem dX8_copyFrom_5 : decode cX8_copyFrom 5 = .ok (.aload_n 0, 1) := by decide +kernel
theorem dX8_copyFrom_6 : decode cX8_copyFrom 6 = .ok (.getfield 9, 3) := by decide +kernel
theorem dX8_copyFrom_9 : decode cX8_copyFrom 9 = .ok (.iconst 0, 1) := by decide +kernel
theorem dX8_copyFrom_10 : decode cX8_copyFrom 10 = .ok (.bipush 31, 2) := by decide +kernel
theorem dX8_copyFrom_12 : decode cX8_copyFrom 12 = .ok (.invokestatic 15, 3) := by decide +kernel
theorem dX8_copyFrom_15 : decode cX8_copyFrom 15 = .ok (.return_, 1) := by decide +kernel
theorem dX8_begin_0 : decode cX8_begin 0 = .ok (.aload_n 0, 1) := by decide +kernel
theorem dX8_begin_1 : decode cX8_begin 1 = .ok (.getfield 9, 3) := by decide +kernel
theorem dX8_begin_4 : decode cX8_begin 4 = .ok (.iconst 0, 1) := by decide +kernel
theorem dX8_begin_5 : decode cX8_begin 5 = .ok (.invokestatic 21, 3) := by decide +kernel
theorem dX8_begin_8 : decode cX8_begin 8 = .ok (.aload_n 0, 1) := by decide +kernel
theorem dX8_begin_9 : decode cX8_begin 9 = .ok (.getfield 9, 3) := by decide +kernel
theorem dX8_begin_12 : decode cX8_begin 12 = .ok (.iconst 1, 1) := by decide +kernel
theorem dX8_begin_13 : decode cX8_begin 13 = .ok (.aload_n 1, 1) := by decide +kernel
theorem dX8_begin_14 : decode cX8_begin 14 = .ok (.getfield 27, 3) := by decide +kernel
theorem dX8_begin_17 : decode cX8_begin 17 = .ok (.iconst 0, 1) := by decide +kernel
theorem dX8_begin_18 : decode cX8_begin 18 = .ok (.iaload, 1) := by decide +kernel
theorem dX8_begin_19 : decode cX8_begin 19 = .ok (.iastore, 1) := by decide +kernel
theorem dX8_begin_20 : decode cX8_begin 20 = .ok (.aload_n 0, 1) := by decide +kernel
theorem dX8_begin_21 : decode cX8_begin 21 = .ok (.getfield 9, 3) := by decide +kernel
theorem dX8_begin_24 : decode cX8_begin 24 = .ok (.iconst 2, 1) := by decide +kernel
theorem dX8_begin_25 : decode cX8_begin 25 = .ok (.aload_n 1, 1) := by decide +kernel
theorem dX8_begin_26 : decode cX8_begin 26 = .ok (.getfield 27, 3) := by decide +kernel
theorem dX8_begin_29 : decode cX8_begin 29 = .ok (.iconst 2, 1) := by decide +kernel
theorem dX8_begin_30 : decode cX8_begin 30 = .ok (.iaload, 1) := by decide +kernel
theorem dX8_begin_31 : decode cX8_begin 31 = .ok (.iastore, 1) := by decide +kernel
theorem dX8_begin_32 : decode cX8_begin 32 = .ok (.aload_n 0, 1) := by decide +kernel
theorem dX8_begin_33 : decode cX8_begin 33 = .ok (.getfield 9, 3) := by decide +kernel
theorem dX8_begin_36 : decode cX8_begin 36 = .ok (.iconst 3, 1) := by decide +kernel
theorem dX8_begin_37 : decode cX8_begin 37 = .ok (.iconst (-1), 1) := by decide +kernel
theorem dX8_begin_38 : decode cX8_begin 38 = .ok (.iastore, 1) := by decide +kernel
theorem dX8_begin_39 : decode cX8_begin 39 = .ok (.iconst 0, 1) := by decide +kernel
theorem dX8_begin_40 : decode cX8_begin 40 = .ok (.istore_n 2, 1) := by decide +kernel
theorem dX8_begin_41 : decode cX8_begin 41 = .ok (.iload_n 2, 1) := by decide +kernel
theorem dX8_begin_42 : decode cX8_begin 42 = .ok (.aload_n 1, 1) := by decide +kernel
theorem dX8_begin_43 : decode cX8_begin 43 = .ok (.getfield 32, 3) := by decide +kernel
theorem dX8_begin_46 : decode cX8_begin 46 = .ok (.if_icmp .ge 45, 3) := by decide +kernel
theorem dX8_begin_49 : decode cX8_begin 49 = .ok (.iload_n 2, 1) := by decide +kernel
theorem dX8_begin_50 : decode cX8_begin 50 = .ok (.bipush 6, 2) := by decide +kernel
theorem dX8_begin_52 : decode cX8_begin 52 = .ok (.if_icmp .ge 39, 3) := by decide +kernel
theorem dX8_begin_55 : decode cX8_begin 55 = .ok (.aload_n 0, 1) := by decide +kernel
theorem dX8_begin_56 : decode cX8_begin 56 = .ok (.getfield 9, 3) := by decide +kernel
theorem dX8_begin_59 : decode cX8_begin 59 = .ok (.bipush 13, 2) := by decide +kernel
theorem dX8_begin_61 : decode cX8_begin 61 = .ok (.iload_n 2, 1) := by decide +kernel
theorem dX8_begin_62 : decode cX8_begin 62 = .ok (.iadd, 1) := by decide +kernel
theorem dX8_begin_63 : decode cX8_begin 63 = .ok (.aload_n 1, 1) := by decide +kernel
theorem dX8_begin_64 : decode cX8_begin 64 = .ok (.iload_n 2, 1) := by decide +kernel
theorem dX8_begin_65 : decode cX8_begin 65 = .ok (.iconst 1, 1) := by decide +kernel
theorem dX8_begin_66 : decode cX8_begin 66 = .ok (.invokevirtual 36, 3) := by decide +kernel
theorem dX8_begin_69 : decode cX8_begin 69 = .ok (.iastore, 1) := by decide +kernel
theorem dX8_begin_70 : decode cX8_begin 70 = .ok (.aload_n 0, 1) := by decide +kernel
theorem dX8_begin_71 : decode cX8_begin 71 = .ok (.getfield 9, 3) := by decide +kernel
theorem dX8_begin_74 : decode cX8_begin 74 = .ok (.bipush 19, 2) := by decide +kernel
theorem dX8_begin_76 : decode cX8_begin 76 = .ok (.iload_n 2, 1) := by decide +kernel
theorem dX8_begin_77 : decode cX8_begin 77 = .ok (.iadd, 1) := by decide +kernel
theorem dX8_begin_78 : decode cX8_begin 78 = .ok (.aload_n 1, 1) := by decide +kernel
theorem dX8_begin_79 : decode cX8_begin 79 = .ok (.iload_n 2, 1) := by decide +kernel
theorem dX8_begin_80 : decode cX8_begin 80 = .ok (.iconst 2, 1) := by decide +kernel
theorem dX8_begin_81 : decode cX8_begin 81 = .ok (.invokevirtual 36, 3) := by decide +kernel
theorem dX8_begin_84 : decode cX8_begin 84 = .ok (.iastore, 1) := by decide +kernel
theorem dX8_begin_85 : decode cX8_begin 85 = .ok (.iinc 2 1, 3) := by decide +kernel
theorem dX8_begin_88 : decode cX8_begin 88 = .ok (.goto (-47), 3) := by decide +kernel
theorem dX8_begin_91 : decode cX8_begin 91 = .ok (.return_, 1) := by decide +kernel
theorem dX8_hasLeft_0 : decode cX8_hasLeft 0 = .ok (.aload_n 0, 1) := by decide +kernel
theorem dX8_hasLeft_1 : decode cX8_hasLeft 1 = .ok (.getfield 9, 3) := by decide +kernel
theorem dX8_hasLeft_4 : decode cX8_hasLeft 4 = .ok (.iconst 4, 1) := by decide +kernel
theorem dX8_hasLeft_5 : decode cX8_hasLeft 5 = .ok (.iaload, 1) := by decide +kernel
theorem dX8_hasLeft_6 : decode cX8_hasLeft 6 = .ok (.iload_n 1, 1) := by decide +kernel
theorem dX8_hasLeft_7 : decode cX8_hasLeft 7 = .ok (.ishr, 1) := by decide +kernel
theorem dX8_hasLeft_8 : decode cX8_hasLeft 8 = .ok (.iconst 1, 1) := by decide +kernel
theorem dX8_hasLeft_9 : decode cX8_hasLeft 9 = .ok (.iand, 1) := by decide +kernel
theorem dX8_hasLeft_10 : decode cX8_hasLeft 10 = .ok (.ifCond .eq 7, 3) := by decide +kernel
theorem dX8_hasLeft_13 : decode cX8_hasLeft 13 = .ok (.iconst 1, 1) := by decide +kernel
theorem dX8_hasLeft_14 : decode cX8_hasLeft 14 = .ok (.goto 4, 3) := by decide +kernel
theorem dX8_hasLeft_17 : decode cX8_hasLeft 17 = .ok (.iconst 0, 1) := by decide +kernel
theorem dX8_hasLeft_18 : decode cX8_hasLeft 18 = .ok (.ireturn, 1) := by decide +kernel
theorem dX8_joyOfAll_0 : decode cX8_joyOfAll 0 = .ok (.iconst 0, 1) := by decide +kernel
theorem dX8_joyOfAll_1 : decode cX8_joyOfAll 1 = .ok (.istore_n 1, 1) := by decide +kernel
theorem dX8_joyOfAll_2 : decode cX8_joyOfAll 2 = .ok (.iconst 0, 1) := by decide +kernel
theorem dX8_joyOfAll_3 : decode cX8_joyOfAll 3 = .ok (.istore_n 2, 1) := by decide +kernel
theorem dX8_joyOfAll_4 : decode cX8_joyOfAll 4 = .ok (.iload_n 2, 1) := by decide +kernel
theorem dX8_joyOfAll_5 : decode cX8_joyOfAll 5 = .ok (.bipush 6, 2) := by decide +kernel
theorem dX8_joyOfAll_7 : decode cX8_joyOfAll 7 = .ok (.if_icmp .ge 21, 3) := by decide +kernel
theorem dX8_joyOfAll_10 : decode cX8_joyOfAll 10 = .ok (.iload_n 1, 1) := by decide +kernel
theorem dX8_joyOfAll_11 : decode cX8_joyOfAll 11 = .ok (.aload_n 0, 1) := by decide +kernel
theorem dX8_joyOfAll_12 : decode cX8_joyOfAll 12 = .ok (.getfield 9, 3) := by decide +kernel
theorem dX8_joyOfAll_15 : decode cX8_joyOfAll 15 = .ok (.bipush 25, 2) := by decide +kernel
theorem dX8_joyOfAll_17 : decode cX8_joyOfAll 17 = .ok (.iload_n 2, 1) := by decide +kernel
theorem dX8_joyOfAll_18 : decode cX8_joyOfAll 18 = .ok (.iadd, 1) := by decide +kernel
theorem dX8_joyOfAll_19 : decode cX8_joyOfAll 19 = .ok (.iaload, 1) := by decide +kernel
theorem dX8_joyOfAll_20 : decode cX8_joyOfAll 20 = .ok (.iadd, 1) := by decide +kernel
theorem dX8_joyOfAll_21 : decode cX8_joyOfAll 21 = .ok (.istore_n 1, 1) := by decide +kernel
theorem dX8_joyOfAll_22 : decode cX8_joyOfAll 22 = .ok (.iinc 2 1, 3) := by decide +kernel
theorem dX8_joyOfAll_25 : decode cX8_joyOfAll 25 = .ok (.goto (-21), 3) := by decide +kernel
theorem dX8_joyOfAll_28 : decode cX8_joyOfAll 28 = .ok (.iload_n 1, 1) := by decide +kernel
theorem dX8_joyOfAll_29 : decode cX8_joyOfAll 29 = .ok (.ireturn, 1) := by decide +kernel
theorem dX9_init_0 : decode cX9_init 0 = .ok (.aload_n 0, 1) := by decide +kernel
theorem dX9_init_1 : decode cX9_init 1 = .ok (.invokespecial 3, 3) := by decide +kernel
theorem dX9_init_4 : decode cX9_init 4 = .ok (.aload_n 0, 1) := by decide +kernel
theorem dX9_init_5 : decode cX9_init 5 = .ok (.sipush 240, 3) := by decide +kernel
theorem dX9_init_8 : decode cX9_init 8 = .ok (.newarray .byte, 2) := by decide +kernel
theorem dX9_init_10 : decode cX9_init 10 = .ok (.putfield 9, 3) := by decide +kernel
theorem dX9_init_13 : decode cX9_init 13 = .ok (.aload_n 0, 1) := by decide +kernel
theorem dX9_init_14 : decode cX9_init 14 = .ok (.iconst 0, 1) := by decide +kernel
theorem dX9_init_15 : decode cX9_init 15 = .ok (.putfield 15, 3) := by decide +kernel
theorem dX9_init_18 : decode cX9_init 18 = .ok (.aload_n 0, 1) := by decide +kernel
theorem dX9_init_19 : decode cX9_init 19 = .ok (.iconst 0, 1) := by decide +kernel
theorem dX9_init_20 : decode cX9_init 20 = .ok (.putfield 19, 3) := by decide +kernel
theorem dX9_init_23 : decode cX9_init 23 = .ok (.aload_n 0, 1) := by decide +kernel
theorem dX9_init_24 : decode cX9_init 24 = .ok (.iconst 0, 1) := by decide +kernel
theorem dX9_init_25 : decode cX9_init 25 = .ok (.putfield 22, 3) := by decide +kernel
theorem dX9_init_28 : decode cX9_init 28 = .ok (.return_, 1) := by decide +kernel
theorem dX9_bytesIn_0 : decode cX9_bytesIn 0 = .ok (.iconst 0, 1) := by decide +kernel
theorem dX9_bytesIn_1 : decode cX9_bytesIn 1 = .ok (.istore_n 1, 1) := by decide +kernel
theorem dX9_bytesIn_2 : decode cX9_bytesIn 2 = .ok (.bipush 24, 2) := by decide +kernel
theorem dX9_bytesIn_4 : decode cX9_bytesIn 4 = .ok (.istore_n 2, 1) := by decide +kernel
theorem dX9_bytesIn_5 : decode cX9_bytesIn 5 = .ok (.iload_n 2, 1) := by decide +kernel
theorem dX9_bytesIn_6 : decode cX9_bytesIn 6 = .ok (.ifCond .lt 22, 3) := by decide +kernel
theorem dX9_bytesIn_9 : decode cX9_bytesIn 9 = .ok (.iload_n 0, 1) := by decide +kernel
theorem dX9_bytesIn_10 : decode cX9_bytesIn 10 = .ok (.iload_n 2, 1) := by decide +kernel
theorem dX9_bytesIn_11 : decode cX9_bytesIn 11 = .ok (.iushr, 1) := by decide +kernel
theorem dX9_bytesIn_12 : decode cX9_bytesIn 12 = .ok (.sipush 255, 3) := by decide +kernel
theorem dX9_bytesIn_15 : decode cX9_bytesIn 15 = .ok (.iand, 1) := by decide +kernel
theorem dX9_bytesIn_16 : decode cX9_bytesIn 16 = .ok (.ifCond .eq 6, 3) := by decide +kernel
theorem dX9_bytesIn_19 : decode cX9_bytesIn 19 = .ok (.iinc 1 1, 3) := by decide +kernel
theorem dX9_bytesIn_22 : decode cX9_bytesIn 22 = .ok (.iinc 2 (-8), 3) := by decide +kernel
theorem dX9_bytesIn_25 : decode cX9_bytesIn 25 = .ok (.goto (-20), 3) := by decide +kernel
theorem dX9_bytesIn_28 : decode cX9_bytesIn 28 = .ok (.iload_n 1, 1) := by decide +kernel
theorem dX9_bytesIn_29 : decode cX9_bytesIn 29 = .ok (.ireturn, 1) := by decide +kernel
theorem dX9_append_0 : decode cX9_append 0 = .ok (.bipush 24, 2) := by decide +kernel
theorem dX9_append_2 : decode cX9_append 2 = .ok (.istore_n 2, 1) := by decide +kernel
theorem dX9_append_3 : decode cX9_append 3 = .ok (.iload_n 2, 1) := by decide +kernel
theorem dX9_append_4 : decode cX9_append 4 = .ok (.ifCond .lt 52, 3) := by decide +kernel
theorem dX9_append_7 : decode cX9_append 7 = .ok (.iload_n 1, 1) := by decide +kernel
theorem dX9_append_8 : decode cX9_append 8 = .ok (.iload_n 2, 1) := by decide +kernel
theorem dX9_append_9 : decode cX9_append 9 = .ok (.iushr, 1) := by decide +kernel
theorem dX9_append_10 : decode cX9_append 10 = .ok (.sipush 255, 3) := by decide +kernel
theorem dX9_append_13 : decode cX9_append 13 = .ok (.iand, 1) := by decide +kernel
theorem dX9_append_14 : decode cX9_append 14 = .ok (.istore_n 3, 1) := by decide +kernel
theorem dX9_append_15 : decode cX9_append 15 = .ok (.iload_n 3, 1) := by decide +kernel
theorem dX9_append_16 : decode cX9_append 16 = .ok (.ifCond .eq 34, 3) := by decide +kernel
theorem dX9_append_19 : decode cX9_append 19 = .ok (.aload_n 0, 1) := by decide +kernel
theorem dX9_append_20 : decode cX9_append 20 = .ok (.getfield 15, 3) := by decide +kernel
theorem dX9_append_23 : decode cX9_append 23 = .ok (.sipush 240, 3) := by decide +kernel
theorem dX9_append_26 : decode cX9_append 26 = .ok (.if_icmp .ge 24, 3) := by decide +kernel
theorem dX9_append_29 : decode cX9_append 29 = .ok (.aload_n 0, 1) := by decide +kernel
theorem dX9_append_30 : decode cX9_append 30 = .ok (.getfield 9, 3) := by decide +kernel
theorem dX9_append_33 : decode cX9_append 33 = .ok (.aload_n 0, 1) := by decide +kernel
theorem dX9_append_34 : decode cX9_append 34 = .ok (.getfield 15, 3) := by decide +kernel
theorem dX9_append_37 : decode cX9_append 37 = .ok (.iload_n 3, 1) := by decide +kernel
theorem dX9_append_38 : decode cX9_append 38 = .ok (.i2b, 1) := by decide +kernel
theorem dX9_append_39 : decode cX9_append 39 = .ok (.bastore, 1) := by decide +kernel
theorem dX9_append_40 : decode cX9_append 40 = .ok (.aload_n 0, 1) := by decide +kernel
theorem dX9_append_41 : decode cX9_append 41 = .ok (.dup, 1) := by decide +kernel
theorem dX9_append_42 : decode cX9_append 42 = .ok (.getfield 15, 3) := by decide +kernel
theorem dX9_append_45 : decode cX9_append 45 = .ok (.iconst 1, 1) := by decide +kernel
theorem dX9_append_46 : decode cX9_append 46 = .ok (.iadd, 1) := by decide +kernel
theorem dX9_append_47 : decode cX9_append 47 = .ok (.putfield 15, 3) := by decide +kernel
theorem dX9_append_50 : decode cX9_append 50 = .ok (.iinc 2 (-8), 3) := by decide +kernel
theorem dX9_append_53 : decode cX9_append 53 = .ok (.goto (-50), 3) := by decide +kernel
theorem dX9_append_56 : decode cX9_append 56 = .ok (.return_, 1) := by decide +kernel
theorem dX9_peek_0 : decode cX9_peek 0 = .ok (.aload_n 0, 1) := by decide +kernel
theorem dX9_peek_1 : decode cX9_peek 1 = .ok (.getfield 19, 3) := by decide +kernel
theorem dX9_peek_4 : decode cX9_peek 4 = .ok (.istore_n 1, 1) := by decide +kernel
theorem dX9_peek_5 : decode cX9_peek 5 = .ok (.iload_n 1, 1) := by decide +kernel
theorem dX9_peek_6 : decode cX9_peek 6 = .ok (.aload_n 0, 1) := by decide +kernel
theorem dX9_peek_7 : decode cX9_peek 7 = .ok (.getfield 15, 3) := by decide +kernel
theorem dX9_peek_10 : decode cX9_peek 10 = .ok (.if_icmp .ge 30, 3) := by decide +kernel
theorem dX9_peek_13 : decode cX9_peek 13 = .ok (.aload_n 0, 1) := by decide +kernel
theorem dX9_peek_14 : decode cX9_peek 14 = .ok (.getfield 9, 3) := by decide +kernel
theorem dX9_peek_17 : decode cX9_peek 17 = .ok (.iload_n 1, 1) := by decide +kernel
theorem dX9_peek_18 : decode cX9_peek 18 = .ok (.baload, 1) := by decide +kernel
theorem dX9_peek_19 : decode cX9_peek 19 = .ok (.bipush 32, 2) := by decide +kernel
theorem dX9_peek_21 : decode cX9_peek 21 = .ok (.if_icmp .ne 19, 3) := by decide +kernel
theorem dX9_peek_24 : decode cX9_peek 24 = .ok (.aload_n 0, 1) := by decide +kernel
theorem dX9_peek_25 : decode cX9_peek 25 = .ok (.dup, 1) := by decide +kernel
theorem dX9_peek_26 : decode cX9_peek 26 = .ok (.getfield 19, 3) := by decide +kernel
theorem dX9_peek_29 : decode cX9_peek 29 = .ok (.iconst 1, 1) := by decide +kernel
theorem dX9_peek_30 : decode cX9_peek 30 = .ok (.iadd, 1) := by decide +kernel
theorem dX9_peek_31 : decode cX9_peek 31 = .ok (.putfield 19, 3) := by decide +kernel
theorem dX9_peek_34 : decode cX9_peek 34 = .ok (.iinc 1 1, 3) := by decide +kernel
theorem dX9_peek_37 : decode cX9_peek 37 = .ok (.goto (-32), 3) := by decide +kernel
theorem dX9_peek_40 : decode cX9_peek 40 = .ok (.aload_n 0, 1) := by decide +kernel
theorem dX9_peek_41 : decode cX9_peek 41 = .ok (.getfield 19, 3) := by decide +kernel
theorem dX9_peek_44 : decode cX9_peek 44 = .ok (.aload_n 0, 1) := by decide +kernel
theorem dX9_peek_45 : decode cX9_peek 45 = .ok (.getfield 15, 3) := by decide +kernel
theorem dX9_peek_48 : decode cX9_peek 48 = .ok (.if_icmp .ge 19, 3) := by decide +kernel
theorem dX9_peek_51 : decode cX9_peek 51 = .ok (.aload_n 0, 1) := by decide +kernel
theorem dX9_peek_52 : decode cX9_peek 52 = .ok (.getfield 9, 3) := by decide +kernel
theorem dX9_peek_55 : decode cX9_peek 55 = .ok (.aload_n 0, 1) := by decide +kernel
theorem dX9_peek_56 : decode cX9_peek 56 = .ok (.getfield 19, 3) := by decide +kernel
theorem dX9_peek_59 : decode cX9_peek 59 = .ok (.baload, 1) := by decide +kernel
theorem dX9_peek_60 : decode cX9_peek 60 = .ok (.sipush 255, 3) := by decide +kernel
theorem dX9_peek_63 : decode cX9_peek 63 = .ok (.iand, 1) := by decide +kernel
theorem dX9_peek_64 : decode cX9_peek 64 = .ok (.goto 4, 3) := by decide +kernel
theorem dX9_peek_67 : decode cX9_peek 67 = .ok (.iconst (-1), 1) := by decide +kernel
theorem dX9_peek_68 : decode cX9_peek 68 = .ok (.ireturn, 1) := by decide +kernel
theorem dX9_peekAmong_0 : decode cX9_peekAmong 0 = .ok (.aload_n 0, 1) := by decide +kernel
theorem dX9_peekAmong_1 : decode cX9_peekAmong 1 = .ok (.invokevirtual 25, 3) := by decide +kernel
theorem dX9_peekAmong_4 : decode cX9_peekAmong 4 = .ok (.istore_n 2, 1) := by decide +kernel
theorem dX9_peekAmong_5 : decode cX9_peekAmong 5 = .ok (.iload_n 2, 1) := by decide +kernel
theorem dX9_peekAmong_6 : decode cX9_peekAmong 6 = .ok (.iconst (-1), 1) := by decide +kernel
theorem dX9_peekAmong_7 : decode cX9_peekAmong 7 = .ok (.if_icmp .ne 7, 3) := by decide +kernel
theorem dX9_peekAmong_10 : decode cX9_peekAmong 10 = .ok (.iconst (-1), 1) := by decide +kernel
theorem dX9_peekAmong_11 : decode cX9_peekAmong 11 = .ok (.goto 9, 3) := by decide +kernel
theorem dX9_peekAmong_14 : decode cX9_peekAmong 14 = .ok (.aload_n 1, 1) := by decide +kernel
theorem dX9_peekAmong_15 : decode cX9_peekAmong 15 = .ok (.iload_n 2, 1) := by decide +kernel
theorem dX9_peekAmong_16 : decode cX9_peekAmong 16 = .ok (.i2c, 1) := by decide +kernel
theorem dX9_peekAmong_17 : decode cX9_peekAmong 17 = .ok (.invokevirtual 29, 3) := by decide +kernel
theorem dX9_peekAmong_20 : decode cX9_peekAmong 20 = .ok (.ireturn, 1) := by decide +kernel
theorem dX9_take_0 : decode cX9_take 0 = .ok (.aload_n 0, 1) := by decide +kernel
theorem dX9_take_1 : decode cX9_take 1 = .ok (.invokevirtual 25, 3) := by decide +kernel
theorem dX9_take_4 : decode cX9_take 4 = .ok (.iload_n 1, 1) := by decide +kernel
theorem dX9_take_5 : decode cX9_take 5 = .ok (.if_icmp .eq 5, 3) := by decide +kernel
theorem dX9_take_8 : decode cX9_take 8 = .ok (.iconst 0, 1) := by decide +kernel
theorem dX9_take_9 : decode cX9_take 9 = .ok (.ireturn, 1) := by decide +kernel
theorem dX9_take_10 : decode cX9_take 10 = .ok (.aload_n 0, 1) := by decide +kernel
theorem dX9_take_11 : decode cX9_take 11 = .ok (.dup, 1) := by decide +kernel
theorem dX9_take_12 : decode cX9_take 12 = .ok (.getfield 19, 3) := by decide +kernel
theorem dX9_take_15 : decode cX9_take 15 = .ok (.iconst 1, 1) := by decide +kernel
theorem dX9_take_16 : decode cX9_take 16 = .ok (.iadd, 1) := by decide +kernel
theorem dX9_take_17 : decode cX9_take 17 = .ok (.putfield 19, 3) := by decide +kernel
theorem dX9_take_20 : decode cX9_take 20 = .ok (.iconst 1, 1) := by decide +kernel
theorem dX9_take_21 : decode cX9_take 21 = .ok (.ireturn, 1) := by decide +kernel
theorem dX9_readNumber_0 : decode cX9_readNumber 0 = .ok (.aload_n 0, 1) := by decide +kernel
theorem dX9_readNumber_1 : decode cX9_readNumber 1 = .ok (.invokevirtual 25, 3) := by decide +kernel
theorem dX9_readNumber_4 : decode cX9_readNumber 4 = .ok (.istore 4, 2) := by decide +kernel
theorem dX9_readNumber_6 : decode cX9_readNumber 6 = .ok (.iload 4, 2) := by decide +kernel
theorem dX9_readNumber_8 : decode cX9_readNumber 8 = .ok (.invokestatic 35, 3) := by decide +kernel
theorem dX9_readNumber_11 : decode cX9_readNumber 11 = .ok (.ifCond .ne 5, 3) := by decide +kernel
theorem dX9_readNumber_14 : decode cX9_readNumber 14 = .ok (.iconst 0, 1) := by decide +kernel
theorem dX9_readNumber_15 : decode cX9_readNumber 15 = .ok (.ireturn, 1) := by decide +kernel
theorem dX9_readNumber_16 : decode cX9_readNumber 16 = .ok (.iconst 0, 1) := by decide +kernel
theorem dX9_readNumber_17 : decode cX9_readNumber 17 = .ok (.istore 5, 2) := by decide +kernel
theorem dX9_readNumber_19 : decode cX9_readNumber 19 = .ok (.iconst 0, 1) := by decide +kernel
theorem dX9_readNumber_20 : decode cX9_readNumber 20 = .ok (.istore 6, 2) := by decide +kernel
theorem dX9_readNumber_22 : decode cX9_readNumber 22 = .ok (.iload 6, 2) := by decide +kernel
theorem dX9_readNumber_24 : decode cX9_readNumber 24 = .ok (.iload_n 1, 1) := by decide +kernel
theorem dX9_readNumber_25 : decode cX9_readNumber 25 = .ok (.if_icmp .ge 117, 3) := by decide +kernel
theorem dX9_readNumber_28 : decode cX9_readNumber 28 = .ok (.iload 5, 2) := by decide +kernel
theorem dX9_readNumber_30 : decode cX9_readNumber 30 = .ok (.bipush 10, 2) := by decide +kernel
theorem dX9_readNumber_32 : decode cX9_readNumber 32 = .ok (.imul, 1) := by decide +kernel
theorem dX9_readNumber_33 : decode cX9_readNumber 33 = .ok (.iload 4, 2) := by decide +kernel
theorem dX9_readNumber_35 : decode cX9_readNumber 35 = .ok (.iadd, 1) := by decide +kernel
theorem dX9_readNumber_36 : decode cX9_readNumber 36 = .ok (.bipush 48, 2) := by decide +kernel
theorem dX9_readNumber_38 : decode cX9_readNumber 38 = .ok (.isub, 1) := by decide +kernel
theorem dX9_readNumber_39 : decode cX9_readNumber 39 = .ok (.istore 5, 2) := by decide +kernel
theorem dX9_readNumber_41 : decode cX9_readNumber 41 = .ok (.aload_n 0, 1) := by decide +kernel
theorem dX9_readNumber_42 : decode cX9_readNumber 42 = .ok (.dup, 1) := by decide +kernel
theorem dX9_readNumber_43 : decode cX9_readNumber 43 = .ok (.getfield 19, 3) := by decide +kernel
theorem dX9_readNumber_46 : decode cX9_readNumber 46 = .ok (.iconst 1, 1) := by decide +kernel
theorem dX9_readNumber_47 : decode cX9_readNumber 47 = .ok (.iadd, 1) := by decide +kernel
theorem dX9_readNumber_48 : decode cX9_readNumber 48 = .ok (.putfield 19, 3) := by decide +kernel
theorem dX9_readNumber_51 : decode cX9_readNumber 51 = .ok (.aload_n 0, 1) := by decide +kernel
theorem dX9_readNumber_52 : decode cX9_readNumber 52 = .ok (.getfield 19, 3) := by decide +kernel
theorem dX9_readNumber_55 : decode cX9_readNumber 55 = .ok (.aload_n 0, 1) := by decide +kernel
theorem dX9_readNumber_56 : decode cX9_readNumber 56 = .ok (.getfield 15, 3) := by decide +kernel
theorem dX9_readNumber_59 : decode cX9_readNumber 59 = .ok (.if_icmp .ge 19, 3) := by decide +kernel
theorem dX9_readNumber_62 : decode cX9_readNumber 62 = .ok (.aload_n 0, 1) := by decide +kernel
theorem dX9_readNumber_63 : decode cX9_readNumber 63 = .ok (.getfield 9, 3) := by decide +kernel
theorem dX9_readNumber_66 : decode cX9_readNumber 66 = .ok (.aload_n 0, 1) := by decide +kernel
theorem dX9_readNumber_67 : decode cX9_readNumber 67 = .ok (.getfield 19, 3) := by decide +kernel
theorem dX9_readNumber_70 : decode cX9_readNumber 70 = .ok (.baload, 1) := by decide +kernel
theorem dX9_readNumber_71 : decode cX9_readNumber 71 = .ok (.sipush 255, 3) := by decide +kernel
theorem dX9_readNumber_74 : decode cX9_readNumber 74 = .ok (.iand, 1) := by decide +kernel
theorem dX9_readNumber_75 : decode cX9_readNumber 75 = .ok (.goto 4, 3) := by decide +kernel
theorem dX9_readNumber_78 : decode cX9_readNumber 78 = .ok (.iconst (-1), 1) := by decide +kernel
theorem dX9_readNumber_79 : decode cX9_readNumber 79 = .ok (.istore 4, 2) := by decide +kernel
theorem dX9_readNumber_81 : decode cX9_readNumber 81 = .ok (.iload 4, 2) := by decide +kernel
theorem dX9_readNumber_83 : decode cX9_readNumber 83 = .ok (.invokestatic 35, 3) := by decide +kernel
theorem dX9_readNumber_86 : decode cX9_readNumber 86 = .ok (.ifCond .ne 50, 3) := by decide +kernel
theorem dX9_readNumber_89 : decode cX9_readNumber 89 = .ok (.aload_n 0, 1) := by decide +kernel
theorem dX9_readNumber_90 : decode cX9_readNumber 90 = .ok (.iload 5, 2) := by decide +kernel
theorem dX9_readNumber_92 : decode cX9_readNumber 92 = .ok (.putfield 22, 3) := by decide +kernel
theorem dX9_readNumber_95 : decode cX9_readNumber 95 = .ok (.iload 5, 2) := by decide +kernel
theorem dX9_readNumber_97 : decode cX9_readNumber 97 = .ok (.iload_n 2, 1) := by decide +kernel
theorem dX9_readNumber_98 : decode cX9_readNumber 98 = .ok (.if_icmp .lt 13, 3) := by decide +kernel
theorem dX9_readNumber_101 : decode cX9_readNumber 101 = .ok (.iload 5, 2) := by decide +kernel
theorem dX9_readNumber_103 : decode cX9_readNumber 103 = .ok (.iload_n 3, 1) := by decide +kernel
theorem dX9_readNumber_104 : decode cX9_readNumber 104 = .ok (.if_icmp .gt 7, 3) := by decide +kernel
theorem dX9_readNumber_107 : decode cX9_readNumber 107 = .ok (.iconst 1, 1) := by decide +kernel
theorem dX9_readNumber_108 : decode cX9_readNumber 108 = .ok (.goto 4, 3) := by decide +kernel
theorem dX9_readNumber_111 : decode cX9_readNumber 111 = .ok (.iconst 0, 1) := by decide +kernel
theorem dX9_readNumber_112 : decode cX9_readNumber 112 = .ok (.istore 7, 2) := by decide +kernel
theorem dX9_readNumber_114 : decode cX9_readNumber 114 = .ok (.aload_n 0, 1) := by decide +kernel
theorem dX9_readNumber_115 : decode cX9_readNumber 115 = .ok (.dup, 1) := by decide +kernel
theorem dX9_readNumber_116 : decode cX9_readNumber 116 = .ok (.getfield 19, 3) := by decide +kernel
theorem dX9_readNumber_119 : decode cX9_readNumber 119 = .ok (.iload 7, 2) := by decide +kernel
theorem dX9_readNumber_121 : decode cX9_readNumber 121 = .ok (.ifCond .eq 7, 3) := by decide +kernel
theorem dX9_readNumber_124 : decode cX9_readNumber 124 = .ok (.iconst 0, 1) := by decide +kernel
theorem dX9_readNumber_125 : decode cX9_readNumber 125 = .ok (.goto 4, 3) := by decide +kernel
theorem dX9_readNumber_128 : decode cX9_readNumber 128 = .ok (.iconst 1, 1) := by decide +kernel
theorem dX9_readNumber_129 : decode cX9_readNumber 129 = .ok (.isub, 1) := by decide +kernel
theorem dX9_readNumber_130 : decode cX9_readNumber 130 = .ok (.putfield 19, 3) := by decide +kernel
theorem dX9_readNumber_133 : decode cX9_readNumber 133 = .ok (.iload 7, 2) := by decide +kernel
theorem dX9_readNumber_135 : decode cX9_readNumber 135 = .ok (.ireturn, 1) := by decide +kernel
theorem dX9_readNumber_136 : decode cX9_readNumber 136 = .ok (.iinc 6 1, 3) := by decide +kernel
theorem dX9_readNumber_139 : decode cX9_readNumber 139 = .ok (.goto (-117), 3) := by decide +kernel
theorem dX9_readNumber_142 : decode cX9_readNumber 142 = .ok (.iconst 0, 1) := by decide +kernel
theorem dX9_readNumber_143 : decode cX9_readNumber 143 = .ok (.ireturn, 1) := by decide +kernel
theorem dX9_readDigit_0 : decode cX9_readDigit 0 = .ok (.aload_n 0, 1) := by decide +kernel
theorem dX9_readDigit_1 : decode cX9_readDigit 1 = .ok (.invokevirtual 25, 3) := by decide +kernel
theorem dX9_readDigit_4 : decode cX9_readDigit 4 = .ok (.istore_n 1, 1) := by decide +kernel
theorem dX9_readDigit_5 : decode cX9_readDigit 5 = .ok (.iload_n 1, 1) := by decide +kernel
theorem dX9_readDigit_6 : decode cX9_readDigit 6 = .ok (.invokestatic 35, 3) := by decide +kernel
theorem dX9_readDigit_9 : decode cX9_readDigit 9 = .ok (.ifCond .ne 5, 3) := by decide +kernel
theorem dX9_readDigit_12 : decode cX9_readDigit 12 = .ok (.iconst 0, 1) := by decide +kernel
theorem dX9_readDigit_13 : decode cX9_readDigit 13 = .ok (.ireturn, 1) := by decide +kernel
theorem dX9_readDigit_14 : decode cX9_readDigit 14 = .ok (.aload_n 0, 1) := by decide +kernel
theorem dX9_readDigit_15 : decode cX9_readDigit 15 = .ok (.iload_n 1, 1) := by decide +kernel
theorem dX9_readDigit_16 : decode cX9_readDigit 16 = .ok (.bipush 48, 2) := by decide +kernel
theorem dX9_readDigit_18 : decode cX9_readDigit 18 = .ok (.isub, 1) := by decide +kernel
theorem dX9_readDigit_19 : decode cX9_readDigit 19 = .ok (.putfield 22, 3) := by decide +kernel
theorem dX9_readDigit_22 : decode cX9_readDigit 22 = .ok (.aload_n 0, 1) := by decide +kernel
theorem dX9_readDigit_23 : decode cX9_readDigit 23 = .ok (.dup, 1) := by decide +kernel
theorem dX9_readDigit_24 : decode cX9_readDigit 24 = .ok (.getfield 19, 3) := by decide +kernel
theorem dX9_readDigit_27 : decode cX9_readDigit 27 = .ok (.iconst 1, 1) := by decide +kernel
theorem dX9_readDigit_28 : decode cX9_readDigit 28 = .ok (.iadd, 1) := by decide +kernel
theorem dX9_readDigit_29 : decode cX9_readDigit 29 = .ok (.putfield 19, 3) := by decide +kernel
theorem dX9_readDigit_32 : decode cX9_readDigit 32 = .ok (.iconst 1, 1) := by decide +kernel
theorem dX9_readDigit_33 : decode cX9_readDigit 33 = .ok (.ireturn, 1) := by decide +kernel
theorem dX9_isDigit_0 : decode cX9_isDigit 0 = .ok (.iload_n 0, 1) := by decide +kernel
theorem dX9_isDigit_1 : decode cX9_isDigit 1 = .ok (.bipush 48, 2) := by decide +kernel
theorem dX9_isDigit_3 : decode cX9_isDigit 3 = .ok (.if_icmp .lt 13, 3) := by decide +kernel
theorem dX9_isDigit_6 : decode cX9_isDigit 6 = .ok (.iload_n 0, 1) := by decide +kernel
theorem dX9_isDigit_7 : decode cX9_isDigit 7 = .ok (.bipush 57, 2) := by decide +kernel
theorem dX9_isDigit_9 : decode cX9_isDigit 9 = .ok (.if_icmp .gt 7, 3) := by decide +kernel
theorem dX9_isDigit_12 : decode cX9_isDigit 12 = .ok (.iconst 1, 1) := by decide +kernel
theorem dX9_isDigit_13 : decode cX9_isDigit 13 = .ok (.goto 4, 3) := by decide +kernel
theorem dX9_isDigit_16 : decode cX9_isDigit 16 = .ok (.iconst 0, 1) := by decide +kernel
theorem dX9_isDigit_17 : decode cX9_isDigit 17 = .ok (.ireturn, 1) := by decide +kernel
theorem dX10_init_0 : decode cX10_init 0 = .ok (.aload_n 0, 1) := by decide +kernel
theorem dX10_init_1 : decode cX10_init 1 = .ok (.invokespecial 3, 3) := by decide +kernel
theorem dX10_init_4 : decode cX10_init 4 = .ok (.aload_n 0, 1) := by decide +kernel
theorem dX10_init_5 : decode cX10_init 5 = .ok (.bipush 48, 2) := by decide +kernel
theorem dX10_init_7 : decode cX10_init 7 = .ok (.newarray .int, 2) := by decide +kernel
theorem dX10_init_9 : decode cX10_init 9 = .ok (.putfield 11, 3) := by decide +kernel
theorem dX10_init_12 : decode cX10_init 12 = .ok (.aload_n 0, 1) := by decide +kernel
theorem dX10_init_13 : decode cX10_init 13 = .ok (.iconst 0, 1) := by decide +kernel
theorem dX10_init_14 : decode cX10_init 14 = .ok (.putfield 15, 3) := by decide +kernel
theorem dX10_init_17 : decode cX10_init 17 = .ok (.return_, 1) := by decide +kernel
theorem dX10_ofStep_0 : decode cX10_ofStep 0 = .ok (.iload_n 1, 1) := by decide +kernel
theorem dX10_ofStep_1 : decode cX10_ofStep 1 = .ok (.iconst 3, 1) := by decide +kernel
theorem dX10_ofStep_2 : decode cX10_ofStep 2 = .ok (.imul, 1) := by decide +kernel
theorem dX10_ofStep_3 : decode cX10_ofStep 3 = .ok (.iload_n 2, 1) := by decide +kernel
theorem dX10_ofStep_4 : decode cX10_ofStep 4 = .ok (.iadd, 1) := by decide +kernel
theorem dX10_ofStep_5 : decode cX10_ofStep 5 = .ok (.istore_n 3, 1) := by decide +kernel
theorem dX10_ofStep_6 : decode cX10_ofStep 6 = .ok (.iload_n 3, 1) := by decide +kernel
theorem dX10_ofStep_7 : decode cX10_ofStep 7 = .ok (.ifCond .lt 21, 3) := by decide +kernel
theorem dX10_ofStep_10 : decode cX10_ofStep 10 = .ok (.iload_n 3, 1) := by decide +kernel
theorem dX10_ofStep_11 : decode cX10_ofStep 11 = .ok (.aload_n 0, 1) := by decide +kernel
theorem dX10_ofStep_12 : decode cX10_ofStep 12 = .ok (.getfield 11, 3) := by decide +kernel
theorem dX10_ofStep_15 : decode cX10_ofStep 15 = .ok (.arraylength, 1) := by decide +kernel
theorem dX10_ofStep_16 : decode cX10_ofStep 16 = .ok (.if_icmp .ge 12, 3) := by decide +kernel
theorem dX10_ofStep_19 : decode cX10_ofStep 19 = .ok (.aload_n 0, 1) := by decide +kernel
theorem dX10_ofStep_20 : decode cX10_ofStep 20 = .ok (.getfield 11, 3) := by decide +kernel
theorem dX10_ofStep_23 : decode cX10_ofStep 23 = .ok (.iload_n 3, 1) := by decide +kernel
theorem dX10_ofStep_24 : decode cX10_ofStep 24 = .ok (.iaload, 1) := by decide +kernel
theorem dX10_ofStep_25 : decode cX10_ofStep 25 = .ok (.goto 4, 3) := by decide +kernel
theorem dX10_ofStep_28 : decode cX10_ofStep 28 = .ok (.iconst (-1), 1) := by decide +kernel
theorem dX10_ofStep_29 : decode cX10_ofStep 29 = .ok (.ireturn, 1) := by decide +kernel
theorem dX10_readFrom_0 : decode cX10_readFrom 0 = .ok (.aload_n 0, 1) := by decide +kernel
theorem dX10_readFrom_1 : decode cX10_readFrom 1 = .ok (.iconst 0, 1) := by decide +kernel
theorem dX10_readFrom_2 : decode cX10_readFrom 2 = .ok (.putfield 15, 3) := by decide +kernel
theorem dX10_readFrom_5 : decode cX10_readFrom 5 = .ok (.iconst 0, 1) := by decide +kernel
theorem dX10_readFrom_6 : decode cX10_readFrom 6 = .ok (.istore_n 2, 1) := by decide +kernel
theorem dX10_readFrom_7 : decode cX10_readFrom 7 = .ok (.iload_n 2, 1) := by decide +kernel
theorem dX10_readFrom_8 : decode cX10_readFrom 8 = .ok (.bipush 16, 2) := by decide +kernel
theorem dX10_readFrom_10 : decode cX10_readFrom 10 = .ok (.if_icmp .ge 62, 3) := by decide +kernel
theorem dX10_readFrom_13 : decode cX10_readFrom 13 = .ok (.aload_n 0, 1) := by decide +kernel
theorem dX10_readFrom_14 : decode cX10_readFrom 14 = .ok (.aload_n 1, 1) := by decide +kernel
theorem dX10_readFrom_15 : decode cX10_readFrom 15 = .ok (.iload_n 2, 1) := by decide +kernel
theorem dX10_readFrom_16 : decode cX10_readFrom 16 = .ok (.iconst 3, 1) := by decide +kernel
theorem dX10_readFrom_17 : decode cX10_readFrom 17 = .ok (.imul, 1) := by decide +kernel
theorem dX10_readFrom_18 : decode cX10_readFrom 18 = .ok (.invokevirtual 19, 3) := by decide +kernel
theorem dX10_readFrom_21 : decode cX10_readFrom 21 = .ok (.ifCond .ne 5, 3) := by decide +kernel
theorem dX10_readFrom_24 : decode cX10_readFrom 24 = .ok (.iconst 0, 1) := by decide +kernel
theorem dX10_readFrom_25 : decode cX10_readFrom 25 = .ok (.ireturn, 1) := by decide +kernel
theorem dX10_readFrom_26 : decode cX10_readFrom 26 = .ok (.aload_n 0, 1) := by decide +kernel
theorem dX10_readFrom_27 : decode cX10_readFrom 27 = .ok (.dup, 1) := by decide +kernel
theorem dX10_readFrom_28 : decode cX10_readFrom 28 = .ok (.getfield 15, 3) := by decide +kernel
theorem dX10_readFrom_31 : decode cX10_readFrom 31 = .ok (.iconst 1, 1) := by decide +kernel
theorem dX10_readFrom_32 : decode cX10_readFrom 32 = .ok (.iadd, 1) := by decide +kernel
theorem dX10_readFrom_33 : decode cX10_readFrom 33 = .ok (.putfield 15, 3) := by decide +kernel
theorem dX10_readFrom_36 : decode cX10_readFrom 36 = .ok (.aload_n 1, 1) := by decide +kernel
theorem dX10_readFrom_37 : decode cX10_readFrom 37 = .ok (.invokevirtual 23, 3) := by decide +kernel
theorem dX10_readFrom_40 : decode cX10_readFrom 40 = .ok (.iconst (-1), 1) := by decide +kernel
theorem dX10_readFrom_41 : decode cX10_readFrom 41 = .ok (.if_icmp .ne 5, 3) := by decide +kernel
theorem dX10_readFrom_44 : decode cX10_readFrom 44 = .ok (.iconst 1, 1) := by decide +kernel
theorem dX10_readFrom_45 : decode cX10_readFrom 45 = .ok (.ireturn, 1) := by decide +kernel
theorem dX10_readFrom_46 : decode cX10_readFrom 46 = .ok (.aload_n 0, 1) := by decide +kernel
theorem dX10_readFrom_47 : decode cX10_readFrom 47 = .ok (.getfield 15, 3) := by decide +kernel
theorem dX10_readFrom_50 : decode cX10_readFrom 50 = .ok (.bipush 16, 2) := by decide +kernel
theorem dX10_readFrom_52 : decode cX10_readFrom 52 = .ok (.if_icmp .eq 12, 3) := by decide +kernel
theorem dX10_readFrom_55 : decode cX10_readFrom 55 = .ok (.aload_n 1, 1) := by decide +kernel
theorem dX10_readFrom_56 : decode cX10_readFrom 56 = .ok (.bipush 59, 2) := by decide +kernel
theorem dX10_readFrom_58 : decode cX10_readFrom 58 = .ok (.invokevirtual 29, 3) := by decide +kernel
theorem dX10_readFrom_61 : decode cX10_readFrom 61 = .ok (.ifCond .ne 5, 3) := by decide +kernel
theorem dX10_readFrom_64 : decode cX10_readFrom 64 = .ok (.iconst 0, 1) := by decide +kernel
theorem dX10_readFrom_65 : decode cX10_readFrom 65 = .ok (.ireturn, 1) := by decide +kernel
theorem dX10_readFrom_66 : decode cX10_readFrom 66 = .ok (.iinc 2 1, 3) := by decide +kernel
theorem dX10_readFrom_69 : decode cX10_readFrom 69 = .ok (.goto (-62), 3) := by decide +kernel
theorem dX10_readFrom_72 : decode cX10_readFrom 72 = .ok (.iconst 0, 1) := by decide +kernel
theorem dX10_readFrom_73 : decode cX10_readFrom 73 = .ok (.ireturn, 1) := by decide +kernel
theorem dX10_readStep_0 : decode cX10_readStep 0 = .ok (.aload_n 1, 1) := by decide +kernel
theorem dX10_readStep_1 : decode cX10_readStep 1 = .ok (.ldc 33, 2) := by decide +kernel
theorem dX10_readStep_3 : decode cX10_readStep 3 = .ok (.invokevirtual 35, 3) := by decide +kernel
theorem dX10_readStep_6 : decode cX10_readStep 6 = .ok (.istore_n 3, 1) := by decide +kernel
theorem dX10_readStep_7 : decode cX10_readStep 7 = .ok (.iload_n 3, 1) := by decide +kernel
theorem dX10_readStep_8 : decode cX10_readStep 8 = .ok (.iconst (-1), 1) := by decide +kernel
theorem dX10_readStep_9 : decode cX10_readStep 9 = .ok (.if_icmp .eq 14, 3) := by decide +kernel
theorem dX10_readStep_12 : decode cX10_readStep 12 = .ok (.iload_n 2, 1) := by decide +kernel
theorem dX10_readStep_13 : decode cX10_readStep 13 = .ok (.iconst 2, 1) := by decide +kernel
theorem dX10_readStep_14 : decode cX10_readStep 14 = .ok (.iadd, 1) := by decide +kernel
theorem dX10_readStep_15 : decode cX10_readStep 15 = .ok (.aload_n 0, 1) := by decide +kernel
theorem dX10_readStep_16 : decode cX10_readStep 16 = .ok (.getfield 11, 3) := by decide +kernel
theorem dX10_readStep_19 : decode cX10_readStep 19 = .ok (.arraylength, 1) := by decide +kernel
theorem dX10_readStep_20 : decode cX10_readStep 20 = .ok (.if_icmp .lt 5, 3) := by decide +kernel
theorem dX10_readStep_23 : decode cX10_readStep 23 = .ok (.iconst 0, 1) := by decide +kernel
theorem dX10_readStep_24 : decode cX10_readStep 24 = .ok (.ireturn, 1) := by decide +kernel
theorem dX10_readStep_25 : decode cX10_readStep 25 = .ok (.aload_n 1, 1) := by decide +kernel
theorem dX10_readStep_26 : decode cX10_readStep 26 = .ok (.dup, 1) := by decide +kernel
theorem dX10_readStep_27 : decode cX10_readStep 27 = .ok (.getfield 39, 3) := by decide +kernel
theorem dX10_readStep_30 : decode cX10_readStep 30 = .ok (.iconst 1, 1) := by decide +kernel
theorem dX10_readStep_31 : decode cX10_readStep 31 = .ok (.iadd, 1) := by decide +kernel
theorem dX10_readStep_32 : decode cX10_readStep 32 = .ok (.putfield 39, 3) := by decide +kernel
theorem dX10_readStep_35 : decode cX10_readStep 35 = .ok (.aload_n 0, 1) := by decide +kernel
theorem dX10_readStep_36 : decode cX10_readStep 36 = .ok (.getfield 11, 3) := by decide +kernel
theorem dX10_readStep_39 : decode cX10_readStep 39 = .ok (.iload_n 2, 1) := by decide +kernel
theorem dX10_readStep_40 : decode cX10_readStep 40 = .ok (.iload_n 3, 1) := by decide +kernel
theorem dX10_readStep_41 : decode cX10_readStep 41 = .ok (.iastore, 1) := by decide +kernel
theorem dX10_readStep_42 : decode cX10_readStep 42 = .ok (.aload_n 0, 1) := by decide +kernel
theorem dX10_readStep_43 : decode cX10_readStep 43 = .ok (.getfield 11, 3) := by decide +kernel
theorem dX10_readStep_46 : decode cX10_readStep 46 = .ok (.iload_n 2, 1) := by decide +kernel
theorem dX10_readStep_47 : decode cX10_readStep 47 = .ok (.iconst 1, 1) := by decide +kernel
theorem dX10_readStep_48 : decode cX10_readStep 48 = .ok (.iadd, 1) := by decide +kernel
theorem dX10_readStep_49 : decode cX10_readStep 49 = .ok (.iconst (-1), 1) := by decide +kernel
theorem dX10_readStep_50 : decode cX10_readStep 50 = .ok (.iastore, 1) := by decide +kernel
theorem dX10_readStep_51 : decode cX10_readStep 51 = .ok (.aload_n 0, 1) := by decide +kernel
theorem dX10_readStep_52 : decode cX10_readStep 52 = .ok (.getfield 11, 3) := by decide +kernel
theorem dX10_readStep_55 : decode cX10_readStep 55 = .ok (.iload_n 2, 1) := by decide +kernel
theorem dX10_readStep_56 : decode cX10_readStep 56 = .ok (.iconst 2, 1) := by decide +kernel
theorem dX10_readStep_57 : decode cX10_readStep 57 = .ok (.iadd, 1) := by decide +kernel
theorem dX10_readStep_58 : decode cX10_readStep 58 = .ok (.iconst (-1), 1) := by decide +kernel
theorem dX10_readStep_59 : decode cX10_readStep 59 = .ok (.iastore, 1) := by decide +kernel
theorem dX10_readStep_60 : decode cX10_readStep 60 = .ok (.iconst 1, 1) := by decide +kernel
theorem dX10_readStep_61 : decode cX10_readStep 61 = .ok (.istore 4, 2) := by decide +kernel
theorem dX10_readStep_63 : decode cX10_readStep 63 = .ok (.iload 4, 2) := by decide +kernel
theorem dX10_readStep_65 : decode cX10_readStep 65 = .ok (.getstatic 42, 3) := by decide +kernel
theorem dX10_readStep_68 : decode cX10_readStep 68 = .ok (.iload_n 3, 1) := by decide +kernel
theorem dX10_readStep_69 : decode cX10_readStep 69 = .ok (.iaload, 1) := by decide +kernel
theorem dX10_readStep_70 : decode cX10_readStep 70 = .ok (.if_icmp .gt 31, 3) := by decide +kernel
theorem dX10_readStep_73 : decode cX10_readStep 73 = .ok (.aload_n 1, 1) := by decide +kernel
theorem dX10_readStep_74 : decode cX10_readStep 74 = .ok (.invokevirtual 45, 3) := by decide +kernel
theorem dX10_readStep_77 : decode cX10_readStep 77 = .ok (.ifCond .ne 5, 3) := by decide +kernel
theorem dX10_readStep_80 : decode cX10_readStep 80 = .ok (.iconst 0, 1) := by decide +kernel
theorem dX10_readStep_81 : decode cX10_readStep 81 = .ok (.ireturn, 1) := by decide +kernel
theorem dX10_readStep_82 : decode cX10_readStep 82 = .ok (.aload_n 0, 1) := by decide +kernel
theorem dX10_readStep_83 : decode cX10_readStep 83 = .ok (.getfield 11, 3) := by decide +kernel
theorem dX10_readStep_86 : decode cX10_readStep 86 = .ok (.iload_n 2, 1) := by decide +kernel
theorem dX10_readStep_87 : decode cX10_readStep 87 = .ok (.iload 4, 2) := by decide +kernel
theorem dX10_readStep_89 : decode cX10_readStep 89 = .ok (.iadd, 1) := by decide +kernel
theorem dX10_readStep_90 : decode cX10_readStep 90 = .ok (.aload_n 1, 1) := by decide +kernel
theorem dX10_readStep_91 : decode cX10_readStep 91 = .ok (.getfield 49, 3) := by decide +kernel
theorem dX10_readStep_94 : decode cX10_readStep 94 = .ok (.iastore, 1) := by decide +kernel
theorem dX10_readStep_95 : decode cX10_readStep 95 = .ok (.iinc 4 1, 3) := by decide +kernel
theorem dX10_readStep_98 : decode cX10_readStep 98 = .ok (.goto (-35), 3) := by decide +kernel
theorem dX10_readStep_101 : decode cX10_readStep 101 = .ok (.iconst 1, 1) := by decide +kernel
theorem dX10_readStep_102 : decode cX10_readStep 102 = .ok (.ireturn, 1) := by decide +kernel
theorem dJ11_isValidCodePoint_9a6ad_0 : decode cJ11_isValidCodePoint_9a6ad 0 = .ok (.iload_n 0, 1) := by decide +kernel
theorem dJ11_isValidCodePoint_9a6ad_1 : decode cJ11_isValidCodePoint_9a6ad 1 = .ok (.bipush 16, 2) := by decide +kernel
theorem dJ11_isValidCodePoint_9a6ad_3 : decode cJ11_isValidCodePoint_9a6ad 3 = .ok (.iushr, 1) := by decide +kernel
theorem dJ11_isValidCodePoint_9a6ad_4 : decode cJ11_isValidCodePoint_9a6ad 4 = .ok (.istore_n 1, 1) := by decide +kernel
theorem dJ11_isValidCodePoint_9a6ad_5 : decode cJ11_isValidCodePoint_9a6ad 5 = .ok (.iload_n 1, 1) := by decide +kernel
theorem dJ11_isValidCodePoint_9a6ad_6 : decode cJ11_isValidCodePoint_9a6ad 6 = .ok (.bipush 17, 2) := by decide +kernel
theorem dJ11_isValidCodePoint_9a6ad_8 : decode cJ11_isValidCodePoint_9a6ad 8 = .ok (.if_icmp .ge 7, 3) := by decide +kernel
theorem dJ11_isValidCodePoint_9a6ad_11 : decode cJ11_isValidCodePoint_9a6ad 11 = .ok (.iconst 1, 1) := by decide +kernel
theorem dJ11_isValidCodePoint_9a6ad_12 : decode cJ11_isValidCodePoint_9a6ad 12 = .ok (.goto 4, 3) := by decide +kernel
theorem dJ11_isValidCodePoint_9a6ad_15 : decode cJ11_isValidCodePoint_9a6ad 15 = .ok (.iconst 0, 1) := by decide +kernel
theorem dJ11_isValidCodePoint_9a6ad_16 : decode cJ11_isValidCodePoint_9a6ad 16 = .ok (.ireturn, 1) := by decide +kernel
theorem dJ11_highSurrogate_5068e_0 : decode cJ11_highSurrogate_5068e 0 = .ok (.iload_n 0, 1) := by decide +kernel
theorem dJ11_highSurrogate_5068e_1 : decode cJ11_highSurrogate_5068e 1 = .ok (.bipush 10, 2) := by decide +kernel
theorem dJ11_highSurrogate_5068e_3 : decode cJ11_highSurrogate_5068e 3 = .ok (.iushr, 1) := by decide +kernel
theorem dJ11_highSurrogate_5068e_4 : decode cJ11_highSurrogate_5068e 4 = .ok (.ldc 110, 2) := by decide +kernel
theorem dJ11_highSurrogate_5068e_6 : decode cJ11_highSurrogate_5068e 6 = .ok (.iadd, 1) := by decide +kernel
theorem dJ11_highSurrogate_5068e_7 : decode cJ11_highSurrogate_5068e 7 = .ok (.i2c, 1) := by decide +kernel
theorem dJ11_highSurrogate_5068e_8 : decode cJ11_highSurrogate_5068e 8 = .ok (.ireturn, 1) := by decide +kernel
theorem dJ11_lowSurrogate_5068e_0 : decode cJ11_lowSurrogate_5068e 0 = .ok (.iload_n 0, 1) := by decide +kernel
theorem dJ11_lowSurrogate_5068e_1 : decode cJ11_lowSurrogate_5068e 1 = .ok (.sipush 1023, 3) := by decide +kernel
theorem dJ11_lowSurrogate_5068e_4 : decode cJ11_lowSurrogate_5068e 4 = .ok (.iand, 1) := by decide +kernel
theorem dJ11_lowSurrogate_5068e_5 : decode cJ11_lowSurrogate_5068e 5 = .ok (.ldc 76, 2) := by decide +kernel
theorem dJ11_lowSurrogate_5068e_7 : decode cJ11_lowSurrogate_5068e 7 = .ok (.iadd, 1) := by decide +kernel
theorem dJ11_lowSurrogate_5068e_8 : decode cJ11_lowSurrogate_5068e 8 = .ok (.i2c, 1) := by decide +kernel
theorem dJ11_lowSurrogate_5068e_9 : decode cJ11_lowSurrogate_5068e 9 = .ok (.ireturn, 1) := by decide +kernel
theorem dJ6_bitCount_0f7a4_0 : decode cJ6_bitCount_0f7a4 0 = .ok (.iload_n 0, 1) := by decide +kernel
theorem dJ6_bitCount_0f7a4_1 : decode cJ6_bitCount_0f7a4 1 = .ok (.iload_n 0, 1) := by decide +kernel
theorem dJ6_bitCount_0f7a4_2 : decode cJ6_bitCount_0f7a4 2 = .ok (.iconst 1, 1) := by decide +kernel
theorem dJ6_bitCount_0f7a4_3 : decode cJ6_bitCount_0f7a4 3 = .ok (.iushr, 1) := by decide +kernel
theorem dJ6_bitCount_0f7a4_4 : decode cJ6_bitCount_0f7a4 4 = .ok (.ldc_w 265, 3) := by decide +kernel
theorem dJ6_bitCount_0f7a4_7 : decode cJ6_bitCount_0f7a4 7 = .ok (.iand, 1) := by decide +kernel
theorem dJ6_bitCount_0f7a4_8 : decode cJ6_bitCount_0f7a4 8 = .ok (.isub, 1) := by decide +kernel
theorem dJ6_bitCount_0f7a4_9 : decode cJ6_bitCount_0f7a4 9 = .ok (.istore_n 0, 1) := by decide +kernel
theorem dJ6_bitCount_0f7a4_10 : decode cJ6_bitCount_0f7a4 10 = .ok (.iload_n 0, 1) := by decide +kernel
theorem dJ6_bitCount_0f7a4_11 : decode cJ6_bitCount_0f7a4 11 = .ok (.ldc_w 266, 3) := by decide +kernel
theorem dJ6_bitCount_0f7a4_14 : decode cJ6_bitCount_0f7a4 14 = .ok (.iand, 1) := by decide +kernel
theorem dJ6_bitCount_0f7a4_15 : decode cJ6_bitCount_0f7a4 15 = .ok (.iload_n 0, 1) := by decide +kernel
theorem dJ6_bitCount_0f7a4_16 : decode cJ6_bitCount_0f7a4 16 = .ok (.iconst 2, 1) := by decide +kernel
theorem dJ6_bitCount_0f7a4_17 : decode cJ6_bitCount_0f7a4 17 = .ok (.iushr, 1) := by decide +kernel
theorem dJ6_bitCount_0f7a4_18 : decode cJ6_bitCount_0f7a4 18 = .ok (.ldc_w 266, 3) := by decide +kernel
theorem dJ6_bitCount_0f7a4_21 : decode cJ6_bitCount_0f7a4 21 = .ok (.iand, 1) := by decide +kernel
theorem dJ6_bitCount_0f7a4_22 : decode cJ6_bitCount_0f7a4 22 = .ok (.iadd, 1) := by decide +kernel
theorem dJ6_bitCount_0f7a4_23 : decode cJ6_bitCount_0f7a4 23 = .ok (.istore_n 0, 1) := by decide +kernel
theorem dJ6_bitCount_0f7a4_24 : decode cJ6_bitCount_0f7a4 24 = .ok (.iload_n 0, 1) := by decide +kernel
theorem dJ6_bitCount_0f7a4_25 : decode cJ6_bitCount_0f7a4 25 = .ok (.iload_n 0, 1) := by decide +kernel
theorem dJ6_bitCount_0f7a4_26 : decode cJ6_bitCount_0f7a4 26 = .ok (.iconst 4, 1) := by decide +kernel
theorem dJ6_bitCount_0f7a4_27 : decode cJ6_bitCount_0f7a4 27 = .ok (.iushr, 1) := by decide +kernel
theorem dJ6_bitCount_0f7a4_28 : decode cJ6_bitCount_0f7a4 28 = .ok (.iadd, 1) := by decide +kernel
theorem dJ6_bitCount_0f7a4_29 : decode cJ6_bitCount_0f7a4 29 = .ok (.ldc_w 267, 3) := by decide +kernel
theorem dJ6_bitCount_0f7a4_32 : decode cJ6_bitCount_0f7a4 32 = .ok (.iand, 1) := by decide +kernel
theorem dJ6_bitCount_0f7a4_33 : decode cJ6_bitCount_0f7a4 33 = .ok (.istore_n 0, 1) := by decide +kernel
theorem dJ6_bitCount_0f7a4_34 : decode cJ6_bitCount_0f7a4 34 = .ok (.iload_n 0, 1) := by decide +kernel
theorem dJ6_bitCount_0f7a4_35 : decode cJ6_bitCount_0f7a4 35 = .ok (.iload_n 0, 1) := by decide +kernel
theorem dJ6_bitCount_0f7a4_36 : decode cJ6_bitCount_0f7a4 36 = .ok (.bipush 8, 2) := by decide +kernel
theorem dJ6_bitCount_0f7a4_38 : decode cJ6_bitCount_0f7a4 38 = .ok (.iushr, 1) := by decide +kernel
theorem dJ6_bitCount_0f7a4_39 : decode cJ6_bitCount_0f7a4 39 = .ok (.iadd, 1) := by decide +kernel
theorem dJ6_bitCount_0f7a4_40 : decode cJ6_bitCount_0f7a4 40 = .ok (.istore_n 0, 1) := by decide +kernel
theorem dJ6_bitCount_0f7a4_41 : decode cJ6_bitCount_0f7a4 41 = .ok (.iload_n 0, 1) := by decide +kernel
theorem dJ6_bitCount_0f7a4_42 : decode cJ6_bitCount_0f7a4 42 = .ok (.iload_n 0, 1) := by decide +kernel
theorem dJ6_bitCount_0f7a4_43 : decode cJ6_bitCount_0f7a4 43 = .ok (.bipush 16, 2) := by decide +kernel
theorem dJ6_bitCount_0f7a4_45 : decode cJ6_bitCount_0f7a4 45 = .ok (.iushr, 1) := by decide +kernel
theorem dJ6_bitCount_0f7a4_46 : decode cJ6_bitCount_0f7a4 46 = .ok (.iadd, 1) := by decide +kernel
theorem dJ6_bitCount_0f7a4_47 : decode cJ6_bitCount_0f7a4 47 = .ok (.istore_n 0, 1) := by decide +kernel
theorem dJ6_bitCount_0f7a4_48 : decode cJ6_bitCount_0f7a4 48 = .ok (.iload_n 0, 1) := by decide +kernel
theorem dJ6_bitCount_0f7a4_49 : decode cJ6_bitCount_0f7a4 49 = .ok (.bipush 63, 2) := by decide +kernel
theorem dJ6_bitCount_0f7a4_51 : decode cJ6_bitCount_0f7a4 51 = .ok (.iand, 1) := by decide +kernel
theorem dJ6_bitCount_0f7a4_52 : decode cJ6_bitCount_0f7a4 52 = .ok (.ireturn, 1) := by decide +kernel
theorem dJ9_abs_0f7a4_0 : decode cJ9_abs_0f7a4 0 = .ok (.iload_n 0, 1) := by decide +kernel
theorem dJ9_abs_0f7a4_1 : decode cJ9_abs_0f7a4 1 = .ok (.ifCond .ge 8, 3) := by decide +kernel
theorem dJ9_abs_0f7a4_4 : decode cJ9_abs_0f7a4 4 = .ok (.iload_n 0, 1) := by decide +kernel
theorem dJ9_abs_0f7a4_5 : decode cJ9_abs_0f7a4 5 = .ok (.ineg, 1) := by decide +kernel
theorem dJ9_abs_0f7a4_6 : decode cJ9_abs_0f7a4 6 = .ok (.goto 4, 3) := by decide +kernel
theorem dJ9_abs_0f7a4_9 : decode cJ9_abs_0f7a4 9 = .ok (.iload_n 0, 1) := by decide +kernel
theorem dJ9_abs_0f7a4_10 : decode cJ9_abs_0f7a4 10 = .ok (.ireturn, 1) := by decide +kernel
theorem dJ9_max_7cf53_0 : decode cJ9_max_7cf53 0 = .ok (.iload_n 0, 1) := by decide +kernel
theorem dJ9_max_7cf53_1 : decode cJ9_max_7cf53 1 = .ok (.iload_n 1, 1) := by decide +kernel
theorem dJ9_max_7cf53_2 : decode cJ9_max_7cf53 2 = .ok (.if_icmp .lt 7, 3) := by decide +kernel
theorem dJ9_max_7cf53_5 : decode cJ9_max_7cf53 5 = .ok (.iload_n 0, 1) := by decide +kernel
theorem dJ9_max_7cf53_6 : decode cJ9_max_7cf53 6 = .ok (.goto 4, 3) := by decide +kernel
theorem dJ9_max_7cf53_9 : decode cJ9_max_7cf53 9 = .ok (.iload_n 1, 1) := by decide +kernel
theorem dJ9_max_7cf53_10 : decode cJ9_max_7cf53 10 = .ok (.ireturn, 1) := by decide +kernel
theorem dJ9_max_f86c9_0 : decode cJ9_max_f86c9 0 = .ok (.lload_n 0, 1) := by decide +kernel
theorem dJ9_max_f86c9_1 : decode cJ9_max_f86c9 1 = .ok (.lload_n 2, 1) := by decide +kernel
theorem dJ9_max_f86c9_2 : decode cJ9_max_f86c9 2 = .ok (.lcmp, 1) := by decide +kernel
theorem dJ9_max_f86c9_3 : decode cJ9_max_f86c9 3 = .ok (.ifCond .lt 7, 3) := by decide +kernel
theorem dJ9_max_f86c9_6 : decode cJ9_max_f86c9 6 = .ok (.lload_n 0, 1) := by decide +kernel
theorem dJ9_max_f86c9_7 : decode cJ9_max_f86c9 7 = .ok (.goto 4, 3) := by decide +kernel
theorem dJ9_max_f86c9_10 : decode cJ9_max_f86c9 10 = .ok (.lload_n 2, 1) := by decide +kernel
theorem dJ9_max_f86c9_11 : decode cJ9_max_f86c9 11 = .ok (.lreturn, 1) := by decide +kernel
theorem dJ9_min_7cf53_0 : decode cJ9_min_7cf53 0 = .ok (.iload_n 0, 1) := by decide +kernel
theorem dJ9_min_7cf53_1 : decode cJ9_min_7cf53 1 = .ok (.iload_n 1, 1) := by decide +kernel
theorem dJ9_min_7cf53_2 : decode cJ9_min_7cf53 2 = .ok (.if_icmp .gt 7, 3) := by decide +kernel
theorem dJ9_min_7cf53_5 : decode cJ9_min_7cf53 5 = .ok (.iload_n 0, 1) := by decide +kernel
theorem dJ9_min_7cf53_6 : decode cJ9_min_7cf53 6 = .ok (.goto 4, 3) := by decide +kernel
theorem dJ9_min_7cf53_9 : decode cJ9_min_7cf53 9 = .ok (.iload_n 1, 1) := by decide +kernel
theorem dJ9_min_7cf53_10 : decode cJ9_min_7cf53 10 = .ok (.ireturn, 1) := by decide +kernel
theorem dJ9_min_f86c9_0 : decode cJ9_min_f86c9 0 = .ok (.lload_n 0, 1) := by decide +kernel
theorem dJ9_min_f86c9_1 : decode cJ9_min_f86c9 1 = .ok (.lload_n 2, 1) := by decide +kernel
theorem dJ9_min_f86c9_2 : decode cJ9_min_f86c9 2 = .ok (.lcmp, 1) := by decide +kernel
theorem dJ9_min_f86c9_3 : decode cJ9_min_f86c9 3 = .ok (.ifCond .gt 7, 3) := by decide +kernel
theorem dJ9_min_f86c9_6 : decode cJ9_min_f86c9 6 = .ok (.lload_n 0, 1) := by decide +kernel
theorem dJ9_min_f86c9_7 : decode cJ9_min_f86c9 7 = .ok (.goto 4, 3) := by decide +kernel
theorem dJ9_min_f86c9_10 : decode cJ9_min_f86c9 10 = .ok (.lload_n 2, 1) := by decide +kernel
theorem dJ9_min_f86c9_11 : decode cJ9_min_f86c9 11 = .ok (.lreturn, 1) := by decide +kernel
theorem dJ0_length_8abf5_0 : decode cJ0_length_8abf5 0 = .ok (.aload_n 0, 1) := by decide +kernel
theorem dJ0_length_8abf5_1 : decode cJ0_length_8abf5 1 = .ok (.getfield 9, 3) := by decide +kernel
theorem dJ0_length_8abf5_4 : decode cJ0_length_8abf5 4 = .ok (.arraylength, 1) := by decide +kernel
theorem dJ0_length_8abf5_5 : decode cJ0_length_8abf5 5 = .ok (.aload_n 0, 1) := by decide +kernel
theorem dJ0_length_8abf5_6 : decode cJ0_length_8abf5 6 = .ok (.invokevirtual 335, 3) := by decide +kernel
theorem dJ0_length_8abf5_9 : decode cJ0_length_8abf5 9 = .ok (.ishr, 1) := by decide +kernel
theorem dJ0_length_8abf5_10 : decode cJ0_length_8abf5 10 = .ok (.ireturn, 1) := by decide +kernel
theorem dJ0_charAt_5068e_0 : decode cJ0_charAt_5068e 0 = .ok (.aload_n 0, 1) := by decide +kernel
theorem dJ0_charAt_5068e_1 : decode cJ0_charAt_5068e 1 = .ok (.invokevirtual 492, 3) := by decide +kernel
theorem dJ0_charAt_5068e_4 : decode cJ0_charAt_5068e 4 = .ok (.ifCond .eq 12, 3) := by decide +kernel
theorem dJ0_charAt_5068e_7 : decode cJ0_charAt_5068e 7 = .ok (.aload_n 0, 1) := by decide +kernel
theorem dJ0_charAt_5068e_8 : decode cJ0_charAt_5068e 8 = .ok (.getfield 9, 3) := by decide +kernel
theorem dJ0_charAt_5068e_11 : decode cJ0_charAt_5068e 11 = .ok (.iload_n 1, 1) := by decide +kernel
theorem dJ0_charAt_5068e_12 : decode cJ0_charAt_5068e 12 = .ok (.invokestatic 495, 3) := by decide +kernel
theorem dJ0_charAt_5068e_15 : decode cJ0_charAt_5068e 15 = .ok (.ireturn, 1) := by decide +kernel
theorem dJ0_charAt_5068e_16 : decode cJ0_charAt_5068e 16 = .ok (.aload_n 0, 1) := by decide +kernel
theorem dJ0_charAt_5068e_17 : decode cJ0_charAt_5068e 17 = .ok (.getfield 9, 3) := by decide +kernel
theorem dJ0_charAt_5068e_20 : decode cJ0_charAt_5068e 20 = .ok (.iload_n 1, 1) := by decide +kernel
theorem dJ0_charAt_5068e_21 : decode cJ0_charAt_5068e 21 = .ok (.invokestatic 498, 3) := by decide +kernel
theorem dJ0_charAt_5068e_24 : decode cJ0_charAt_5068e 24 = .ok (.ireturn, 1) := by decide +kernel
theorem dJ0_indexOf_0f7a4_0 : decode cJ0_indexOf_0f7a4 0 = .ok (.aload_n 0, 1) := by decide +kernel
theorem dJ0_indexOf_0f7a4_1 : decode cJ0_indexOf_0f7a4 1 = .ok (.iload_n 1, 1) := by decide +kernel
theorem dJ0_indexOf_0f7a4_2 : decode cJ0_indexOf_0f7a4 2 = .ok (.iconst 0, 1) := by decide +kernel
theorem dJ0_indexOf_0f7a4_3 : decode cJ0_indexOf_0f7a4 3 = .ok (.invokevirtual 633, 3) := by decide +kernel
theorem dJ0_indexOf_0f7a4_6 : decode cJ0_indexOf_0f7a4 6 = .ok (.ireturn, 1) := by decide +kernel
theorem dJ0_indexOf_7cf53_0 : decode cJ0_indexOf_7cf53 0 = .ok (.aload_n 0, 1) := by decide +kernel
theorem dJ0_indexOf_7cf53_1 : decode cJ0_indexOf_7cf53 1 = .ok (.invokevirtual 492, 3) := by decide +kernel
theorem dJ0_indexOf_7cf53_4 : decode cJ0_indexOf_7cf53 4 = .ok (.ifCond .eq 19, 3) := by decide +kernel
theorem dJ0_indexOf_7cf53_7 : decode cJ0_indexOf_7cf53 7 = .ok (.aload_n 0, 1) := by decide +kernel
theorem dJ0_indexOf_7cf53_8 : decode cJ0_indexOf_7cf53 8 = .ok (.getfield 9, 3) := by decide +kernel
theorem dJ0_indexOf_7cf53_11 : decode cJ0_indexOf_7cf53 11 = .ok (.iload_n 1, 1) := by decide +kernel
theorem dJ0_indexOf_7cf53_12 : decode cJ0_indexOf_7cf53 12 = .ok (.iload_n 2, 1) := by decide +kernel
theorem dJ0_indexOf_7cf53_13 : decode cJ0_indexOf_7cf53 13 = .ok (.aload_n 0, 1) := by decide +kernel
theorem dJ0_indexOf_7cf53_14 : decode cJ0_indexOf_7cf53 14 = .ok (.invokevirtual 505, 3) := by decide +kernel
theorem dJ0_indexOf_7cf53_17 : decode cJ0_indexOf_7cf53 17 = .ok (.invokestatic 637, 3) := by decide +kernel
theorem dJ0_indexOf_7cf53_20 : decode cJ0_indexOf_7cf53 20 = .ok (.goto 16, 3) := by decide +kernel
theorem dJ0_indexOf_7cf53_23 : decode cJ0_indexOf_7cf53 23 = .ok (.aload_n 0, 1) := by decide +kernel
theorem dJ0_indexOf_7cf53_24 : decode cJ0_indexOf_7cf53 24 = .ok (.getfield 9, 3) := by decide +kernel
theorem dJ0_indexOf_7cf53_27 : decode cJ0_indexOf_7cf53 27 = .ok (.iload_n 1, 1) := by decide +kernel
theorem dJ0_indexOf_7cf53_28 : decode cJ0_indexOf_7cf53 28 = .ok (.iload_n 2, 1) := by decide +kernel
theorem dJ0_indexOf_7cf53_29 : decode cJ0_indexOf_7cf53 29 = .ok (.aload_n 0, 1) := by decide +kernel
theorem dJ0_indexOf_7cf53_30 : decode cJ0_indexOf_7cf53 30 = .ok (.invokevirtual 505, 3) := by decide +kernel
theorem dJ0_indexOf_7cf53_33 : decode cJ0_indexOf_7cf53 33 = .ok (.invokestatic 640, 3) := by decide +kernel
theorem dJ0_indexOf_7cf53_36 : decode cJ0_indexOf_7cf53 36 = .ok (.ireturn, 1) := by decide +kernel
theorem dJ0_coder_7d493_0 : decode cJ0_coder_7d493 0 = .ok (.getstatic 38, 3) := by decide +kernel
theorem dJ0_coder_7d493_3 : decode cJ0_coder_7d493 3 = .ok (.ifCond .eq 10, 3) := by decide +kernel
theorem dJ0_coder_7d493_6 : decode cJ0_coder_7d493 6 = .ok (.aload_n 0, 1) := by decide +kernel
theorem dJ0_coder_7d493_7 : decode cJ0_coder_7d493 7 = .ok (.getfield 15, 3) := by decide +kernel
theorem dJ0_coder_7d493_10 : decode cJ0_coder_7d493 10 = .ok (.goto 4, 3) := by decide +kernel
theorem dJ0_coder_7d493_13 : decode cJ0_coder_7d493 13 = .ok (.iconst 1, 1) := by decide +kernel
theorem dJ0_coder_7d493_14 : decode cJ0_coder_7d493 14 = .ok (.ireturn, 1) := by decide +kernel
theorem dJ0_isLatin1_aae02_0 : decode cJ0_isLatin1_aae02 0 = .ok (.getstatic 38, 3) := by decide +kernel
theorem dJ0_isLatin1_aae02_3 : decode cJ0_isLatin1_aae02 3 = .ok (.ifCond .eq 14, 3) := by decide +kernel
theorem dJ0_isLatin1_aae02_6 : decode cJ0_isLatin1_aae02 6 = .ok (.aload_n 0, 1) := by decide +kernel
theorem dJ0_isLatin1_aae02_7 : decode cJ0_isLatin1_aae02 7 = .ok (.getfield 15, 3) := by decide +kernel
theorem dJ0_isLatin1_aae02_10 : decode cJ0_isLatin1_aae02 10 = .ok (.ifCond .ne 7, 3) := by decide +kernel
theorem dJ0_isLatin1_aae02_13 : decode cJ0_isLatin1_aae02 13 = .ok (.iconst 1, 1) := by decide +kernel
theorem dJ0_isLatin1_aae02_14 : decode cJ0_isLatin1_aae02 14 = .ok (.goto 4, 3) := by decide +kernel
theorem dJ0_isLatin1_aae02_17 : decode cJ0_isLatin1_aae02 17 = .ok (.iconst 0, 1) := by decide +kernel
theorem dJ0_isLatin1_aae02_18 : decode cJ0_isLatin1_aae02 18 = .ok (.ireturn, 1) := by decide +kernel
theorem dJ0_checkIndex_df160_0 : decode cJ0_checkIndex_df160 0 = .ok (.iload_n 0, 1) := by decide +kernel
theorem dJ0_checkIndex_df160_1 : decode cJ0_checkIndex_df160 1 = .ok (.iload_n 1, 1) := by decide +kernel
theorem dJ0_checkIndex_df160_2 : decode cJ0_checkIndex_df160 2 = .ok (.getstatic 1053, 3) := by decide +kernel
theorem dJ0_checkIndex_df160_5 : decode cJ0_checkIndex_df160 5 = .ok (.invokestatic 1059, 3) := by decide +kernel
theorem dJ0_checkIndex_df160_8 : decode cJ0_checkIndex_df160 8 = .ok (.pop, 1) := by decide +kernel
theorem dJ0_checkIndex_df160_9 : decode cJ0_checkIndex_df160 9 = .ok (.return_, 1) := by decide +kernel
theorem dJ0_checkBoundsBeginEnd_23922_0 : decode cJ0_checkBoundsBeginEnd_23922 0 = .ok (.iload_n 0, 1) := by decide +kernel
theorem dJ0_checkBoundsBeginEnd_23922_1 : decode cJ0_checkBoundsBeginEnd_23922 1 = .ok (.iload_n 1, 1) := by decide +kernel
theorem dJ0_checkBoundsBeginEnd_23922_2 : decode cJ0_checkBoundsBeginEnd_23922 2 = .ok (.iload_n 2, 1) := by decide +kernel
theorem dJ0_checkBoundsBeginEnd_23922_3 : decode cJ0_checkBoundsBeginEnd_23922 3 = .ok (.getstatic 1053, 3) := by decide +kernel
theorem dJ0_checkBoundsBeginEnd_23922_6 : decode cJ0_checkBoundsBeginEnd_23922 6 = .ok (.invokestatic 1062, 3) := by decide +kernel
theorem dJ0_checkBoundsBeginEnd_23922_9 : decode cJ0_checkBoundsBeginEnd_23922 9 = .ok (.pop, 1) := by decide +kernel
theorem dJ0_checkBoundsBeginEnd_23922_10 : decode cJ0_checkBoundsBeginEnd_23922 10 = .ok (.return_, 1) := by decide +kernel
theorem dJ1_charAt_3b067_0 : decode cJ1_charAt_3b067 0 = .ok (.iload_n 1, 1) := by decide +kernel
theorem dJ1_charAt_3b067_1 : decode cJ1_charAt_3b067 1 = .ok (.aload_n 0, 1) := by decide +kernel
theorem dJ1_charAt_3b067_2 : decode cJ1_charAt_3b067 2 = .ok (.arraylength, 1) := by decide +kernel
theorem dJ1_charAt_3b067_3 : decode cJ1_charAt_3b067 3 = .ok (.invokestatic 9, 3) := by decide +kernel
theorem dJ1_charAt_3b067_6 : decode cJ1_charAt_3b067 6 = .ok (.aload_n 0, 1) := by decide +kernel
theorem dJ1_charAt_3b067_7 : decode cJ1_charAt_3b067 7 = .ok (.iload_n 1, 1) := by decide +kernel
theorem dJ1_charAt_3b067_8 : decode cJ1_charAt_3b067 8 = .ok (.baload, 1) := by decide +kernel
theorem dJ1_charAt_3b067_9 : decode cJ1_charAt_3b067 9 = .ok (.sipush 255, 3) := by decide +kernel
theorem dJ1_charAt_3b067_12 : decode cJ1_charAt_3b067 12 = .ok (.iand, 1) := by decide +kernel
theorem dJ1_charAt_3b067_13 : decode cJ1_charAt_3b067 13 = .ok (.i2c, 1) := by decide +kernel
theorem dJ1_charAt_3b067_14 : decode cJ1_charAt_3b067 14 = .ok (.ireturn, 1) := by decide +kernel
theorem dJ1_canEncode_9a6ad_0 : decode cJ1_canEncode_9a6ad 0 = .ok (.iload_n 0, 1) := by decide +kernel
theorem dJ1_canEncode_9a6ad_1 : decode cJ1_canEncode_9a6ad 1 = .ok (.ifCond .lt 14, 3) := by decide +kernel
theorem dJ1_canEncode_9a6ad_4 : decode cJ1_canEncode_9a6ad 4 = .ok (.iload_n 0, 1) := by decide +kernel
theorem dJ1_canEncode_9a6ad_5 : decode cJ1_canEncode_9a6ad 5 = .ok (.sipush 255, 3) := by decide +kernel
theorem dJ1_canEncode_9a6ad_8 : decode cJ1_canEncode_9a6ad 8 = .ok (.if_icmp .gt 7, 3) := by decide +kernel
theorem dJ1_canEncode_9a6ad_11 : decode cJ1_canEncode_9a6ad 11 = .ok (.iconst 1, 1) := by decide +kernel
theorem dJ1_canEncode_9a6ad_12 : decode cJ1_canEncode_9a6ad 12 = .ok (.goto 4, 3) := by decide +kernel
theorem dJ1_canEncode_9a6ad_15 : decode cJ1_canEncode_9a6ad 15 = .ok (.iconst 0, 1) := by decide +kernel
theorem dJ1_canEncode_9a6ad_16 : decode cJ1_canEncode_9a6ad 16 = .ok (.ireturn, 1) := by decide +kernel
theorem dJ1_indexOf_4cfef_0 : decode cJ1_indexOf_4cfef 0 = .ok (.iload_n 1, 1) := by decide +kernel
theorem dJ1_indexOf_4cfef_1 : decode cJ1_indexOf_4cfef 1 = .ok (.invokestatic 88, 3) := by decide +kernel
theorem dJ1_indexOf_4cfef_4 : decode cJ1_indexOf_4cfef 4 = .ok (.ifCond .ne 5, 3) := by decide +kernel
theorem dJ1_indexOf_4cfef_7 : decode cJ1_indexOf_4cfef 7 = .ok (.iconst (-1), 1) := by decide +kernel
theorem dJ1_indexOf_4cfef_8 : decode cJ1_indexOf_4cfef 8 = .ok (.ireturn, 1) := by decide +kernel
theorem dJ1_indexOf_4cfef_9 : decode cJ1_indexOf_4cfef 9 = .ok (.iload_n 2, 1) := by decide +kernel
theorem dJ1_indexOf_4cfef_10 : decode cJ1_indexOf_4cfef 10 = .ok (.iconst 0, 1) := by decide +kernel
theorem dJ1_indexOf_4cfef_11 : decode cJ1_indexOf_4cfef 11 = .ok (.invokestatic 92, 3) := by decide +kernel
theorem dJ1_indexOf_4cfef_14 : decode cJ1_indexOf_4cfef 14 = .ok (.istore_n 2, 1) := by decide +kernel
theorem dJ1_indexOf_4cfef_15 : decode cJ1_indexOf_4cfef 15 = .ok (.iload_n 3, 1) := by decide +kernel
theorem dJ1_indexOf_4cfef_16 : decode cJ1_indexOf_4cfef 16 = .ok (.aload_n 0, 1) := by decide +kernel
theorem dJ1_indexOf_4cfef_17 : decode cJ1_indexOf_4cfef 17 = .ok (.arraylength, 1) := by decide +kernel
theorem dJ1_indexOf_4cfef_18 : decode cJ1_indexOf_4cfef 18 = .ok (.invokestatic 38, 3) := by decide +kernel
theorem dJ1_indexOf_4cfef_21 : decode cJ1_indexOf_4cfef 21 = .ok (.istore_n 3, 1) := by decide +kernel
theorem dJ1_indexOf_4cfef_22 : decode cJ1_indexOf_4cfef 22 = .ok (.iload_n 2, 1) := by decide +kernel
theorem dJ1_indexOf_4cfef_23 : decode cJ1_indexOf_4cfef 23 = .ok (.iload_n 3, 1) := by decide +kernel
theorem dJ1_indexOf_4cfef_24 : decode cJ1_indexOf_4cfef 24 = .ok (.if_icmp .lt 5, 3) := by decide +kernel
theorem dJ1_indexOf_4cfef_27 : decode cJ1_indexOf_4cfef 27 = .ok (.iconst (-1), 1) := by decide +kernel
theorem dJ1_indexOf_4cfef_28 : decode cJ1_indexOf_4cfef 28 = .ok (.ireturn, 1) := by decide +kernel
theorem dJ1_indexOf_4cfef_29 : decode cJ1_indexOf_4cfef 29 = .ok (.aload_n 0, 1) := by decide +kernel
theorem dJ1_indexOf_4cfef_30 : decode cJ1_indexOf_4cfef 30 = .ok (.iload_n 1, 1) := by decide +kernel
theorem dJ1_indexOf_4cfef_31 : decode cJ1_indexOf_4cfef 31 = .ok (.iload_n 2, 1) := by decide +kernel
theorem dJ1_indexOf_4cfef_32 : decode cJ1_indexOf_4cfef 32 = .ok (.iload_n 3, 1) := by decide +kernel
theorem dJ1_indexOf_4cfef_33 : decode cJ1_indexOf_4cfef 33 = .ok (.invokestatic 95, 3) := by decide +kernel
theorem dJ1_indexOf_4cfef_36 : decode cJ1_indexOf_4cfef 36 = .ok (.ireturn, 1) := by decide +kernel
theorem dJ1_indexOfChar_4cfef_0 : decode cJ1_indexOfChar_4cfef 0 = .ok (.iload_n 1, 1) := by decide +kernel
theorem dJ1_indexOfChar_4cfef_1 : decode cJ1_indexOfChar_4cfef 1 = .ok (.i2b, 1) := by decide +kernel
theorem dJ1_indexOfChar_4cfef_2 : decode cJ1_indexOfChar_4cfef 2 = .ok (.istore 4, 2) := by decide +kernel
theorem dJ1_indexOfChar_4cfef_4 : decode cJ1_indexOfChar_4cfef 4 = .ok (.iload_n 2, 1) := by decide +kernel
theorem dJ1_indexOfChar_4cfef_5 : decode cJ1_indexOfChar_4cfef 5 = .ok (.istore 5, 2) := by decide +kernel
theorem dJ1_indexOfChar_4cfef_7 : decode cJ1_indexOfChar_4cfef 7 = .ok (.iload 5, 2) := by decide +kernel
theorem dJ1_indexOfChar_4cfef_9 : decode cJ1_indexOfChar_4cfef 9 = .ok (.iload_n 3, 1) := by decide +kernel
theorem dJ1_indexOfChar_4cfef_10 : decode cJ1_indexOfChar_4cfef 10 = .ok (.if_icmp .ge 21, 3) := by decide +kernel
theorem dJ1_indexOfChar_4cfef_13 : decode cJ1_indexOfChar_4cfef 13 = .ok (.aload_n 0, 1) := by decide +kernel
theorem dJ1_indexOfChar_4cfef_14 : decode cJ1_indexOfChar_4cfef 14 = .ok (.iload 5, 2) := by decide +kernel
theorem dJ1_indexOfChar_4cfef_16 : decode cJ1_indexOfChar_4cfef 16 = .ok (.baload, 1) := by decide +kernel
theorem dJ1_indexOfChar_4cfef_17 : decode cJ1_indexOfChar_4cfef 17 = .ok (.iload 4, 2) := by decide +kernel
theorem dJ1_indexOfChar_4cfef_19 : decode cJ1_indexOfChar_4cfef 19 = .ok (.if_icmp .ne 6, 3) := by decide +kernel
theorem dJ1_indexOfChar_4cfef_22 : decode cJ1_indexOfChar_4cfef 22 = .ok (.iload 5, 2) := by decide +kernel
theorem dJ1_indexOfChar_4cfef_24 : decode cJ1_indexOfChar_4cfef 24 = .ok (.ireturn, 1) := by decide +kernel
theorem dJ1_indexOfChar_4cfef_25 : decode cJ1_indexOfChar_4cfef 25 = .ok (.iinc 5 1, 3) := by decide +kernel
theorem dJ1_indexOfChar_4cfef_28 : decode cJ1_indexOfChar_4cfef 28 = .ok (.goto (-21), 3) := by decide +kernel
theorem dJ1_indexOfChar_4cfef_31 : decode cJ1_indexOfChar_4cfef 31 = .ok (.iconst (-1), 1) := by decide +kernel
theorem dJ1_indexOfChar_4cfef_32 : decode cJ1_indexOfChar_4cfef 32 = .ok (.ireturn, 1) := by decide +kernel
theorem dJ2_getChar_3b067_0 : decode cJ2_getChar_3b067 0 = .ok (.getstatic 44, 3) := by decide +kernel
theorem dJ2_getChar_3b067_3 : decode cJ2_getChar_3b067 3 = .ok (.ifCond .ne 25, 3) := by decide +kernel
theorem dJ2_getChar_3b067_6 : decode cJ2_getChar_3b067 6 = .ok (.iload_n 1, 1) := by decide +kernel
theorem dJ2_getChar_3b067_7 : decode cJ2_getChar_3b067 7 = .ok (.ifCond .lt 11, 3) := by decide +kernel
theorem dJ2_getChar_3b067_10 : decode cJ2_getChar_3b067 10 = .ok (.iload_n 1, 1) := by decide +kernel
theorem dJ2_getChar_3b067_11 : decode cJ2_getChar_3b067 11 = .ok (.aload_n 0, 1) := by decide +kernel
theorem dJ2_getChar_3b067_12 : decode cJ2_getChar_3b067 12 = .ok (.invokestatic 48, 3) := by decide +kernel
theorem dJ2_getChar_3b067_15 : decode cJ2_getChar_3b067 15 = .ok (.if_icmp .lt 13, 3) := by decide +kernel
theorem dJ2_getChar_3b067_18 : decode cJ2_getChar_3b067 18 = .ok (.new 52, 3) := by decide +kernel
theorem dJ2_getChar_3b067_21 : decode cJ2_getChar_3b067 21 = .ok (.dup, 1) := by decide +kernel
theorem dJ2_getChar_3b067_22 : decode cJ2_getChar_3b067 22 = .ok (.ldc 54, 2) := by decide +kernel
theorem dJ2_getChar_3b067_24 : decode cJ2_getChar_3b067 24 = .ok (.invokespecial 56, 3) := by decide +kernel
theorem dJ2_getChar_3b067_27 : decode cJ2_getChar_3b067 27 = .ok (.athrow, 1) := by decide +kernel
theorem dJ2_getChar_3b067_28 : decode cJ2_getChar_3b067 28 = .ok (.iload_n 1, 1) := by decide +kernel
theorem dJ2_getChar_3b067_29 : decode cJ2_getChar_3b067 29 = .ok (.iconst 1, 1) := by decide +kernel
theorem dJ2_getChar_3b067_30 : decode cJ2_getChar_3b067 30 = .ok (.ishl, 1) := by decide +kernel
theorem dJ2_getChar_3b067_31 : decode cJ2_getChar_3b067 31 = .ok (.istore_n 1, 1) := by decide +kernel
theorem dJ2_getChar_3b067_32 : decode cJ2_getChar_3b067 32 = .ok (.aload_n 0, 1) := by decide +kernel
theorem dJ2_getChar_3b067_33 : decode cJ2_getChar_3b067 33 = .ok (.iload_n 1, 1) := by decide +kernel
theorem dJ2_getChar_3b067_34 : decode cJ2_getChar_3b067 34 = .ok (.iinc 1 1, 3) := by decide +kernel
theorem dJ2_getChar_3b067_37 : decode cJ2_getChar_3b067 37 = .ok (.baload, 1) := by decide +kernel
theorem dJ2_getChar_3b067_38 : decode cJ2_getChar_3b067 38 = .ok (.sipush 255, 3) := by decide +kernel
theorem dJ2_getChar_3b067_41 : decode cJ2_getChar_3b067 41 = .ok (.iand, 1) := by decide +kernel
theorem dJ2_getChar_3b067_42 : decode cJ2_getChar_3b067 42 = .ok (.getstatic 59, 3) := by decide +kernel
theorem dJ2_getChar_3b067_45 : decode cJ2_getChar_3b067 45 = .ok (.ishl, 1) := by decide +kernel
theorem dJ2_getChar_3b067_46 : decode cJ2_getChar_3b067 46 = .ok (.aload_n 0, 1) := by decide +kernel
theorem dJ2_getChar_3b067_47 : decode cJ2_getChar_3b067 47 = .ok (.iload_n 1, 1) := by decide +kernel
theorem dJ2_getChar_3b067_48 : decode cJ2_getChar_3b067 48 = .ok (.baload, 1) := by decide +kernel
theorem dJ2_getChar_3b067_49 : decode cJ2_getChar_3b067 49 = .ok (.sipush 255, 3) := by decide +kernel
theorem dJ2_getChar_3b067_52 : decode cJ2_getChar_3b067 52 = .ok (.iand, 1) := by decide +kernel
theorem dJ2_getChar_3b067_53 : decode cJ2_getChar_3b067 53 = .ok (.getstatic 63, 3) := by decide +kernel
theorem dJ2_getChar_3b067_56 : decode cJ2_getChar_3b067 56 = .ok (.ishl, 1) := by decide +kernel
theorem dJ2_getChar_3b067_57 : decode cJ2_getChar_3b067 57 = .ok (.ior, 1) := by decide +kernel
theorem dJ2_getChar_3b067_58 : decode cJ2_getChar_3b067 58 = .ok (.i2c, 1) := by decide +kernel
theorem dJ2_getChar_3b067_59 : decode cJ2_getChar_3b067 59 = .ok (.ireturn, 1) := by decide +kernel
theorem dJ2_length_9d52b_0 : decode cJ2_length_9d52b 0 = .ok (.aload_n 0, 1) := by decide +kernel
theorem dJ2_length_9d52b_1 : decode cJ2_length_9d52b 1 = .ok (.arraylength, 1) := by decide +kernel
theorem dJ2_length_9d52b_2 : decode cJ2_length_9d52b 2 = .ok (.iconst 1, 1) := by decide +kernel
theorem dJ2_length_9d52b_3 : decode cJ2_length_9d52b 3 = .ok (.ishr, 1) := by decide +kernel
theorem dJ2_length_9d52b_4 : decode cJ2_length_9d52b 4 = .ok (.ireturn, 1) := by decide +kernel
theorem dJ2_indexOf_4cfef_0 : decode cJ2_indexOf_4cfef 0 = .ok (.iload_n 2, 1) := by decide +kernel
theorem dJ2_indexOf_4cfef_1 : decode cJ2_indexOf_4cfef 1 = .ok (.iconst 0, 1) := by decide +kernel
theorem dJ2_indexOf_4cfef_2 : decode cJ2_indexOf_4cfef 2 = .ok (.invokestatic 224, 3) := by decide +kernel
theorem dJ2_indexOf_4cfef_5 : decode cJ2_indexOf_4cfef 5 = .ok (.istore_n 2, 1) := by decide +kernel
theorem dJ2_indexOf_4cfef_6 : decode cJ2_indexOf_4cfef 6 = .ok (.iload_n 3, 1) := by decide +kernel
theorem dJ2_indexOf_4cfef_7 : decode cJ2_indexOf_4cfef 7 = .ok (.aload_n 0, 1) := by decide +kernel
theorem dJ2_indexOf_4cfef_8 : decode cJ2_indexOf_4cfef 8 = .ok (.arraylength, 1) := by decide +kernel
theorem dJ2_indexOf_4cfef_9 : decode cJ2_indexOf_4cfef 9 = .ok (.iconst 1, 1) := by decide +kernel
theorem dJ2_indexOf_4cfef_10 : decode cJ2_indexOf_4cfef 10 = .ok (.ishr, 1) := by decide +kernel
theorem dJ2_indexOf_4cfef_11 : decode cJ2_indexOf_4cfef 11 = .ok (.invokestatic 183, 3) := by decide +kernel
theorem dJ2_indexOf_4cfef_14 : decode cJ2_indexOf_4cfef 14 = .ok (.istore_n 3, 1) := by decide +kernel
theorem dJ2_indexOf_4cfef_15 : decode cJ2_indexOf_4cfef 15 = .ok (.iload_n 2, 1) := by decide +kernel
theorem dJ2_indexOf_4cfef_16 : decode cJ2_indexOf_4cfef 16 = .ok (.iload_n 3, 1) := by decide +kernel
theorem dJ2_indexOf_4cfef_17 : decode cJ2_indexOf_4cfef 17 = .ok (.if_icmp .lt 5, 3) := by decide +kernel
theorem dJ2_indexOf_4cfef_20 : decode cJ2_indexOf_4cfef 20 = .ok (.iconst (-1), 1) := by decide +kernel
theorem dJ2_indexOf_4cfef_21 : decode cJ2_indexOf_4cfef 21 = .ok (.ireturn, 1) := by decide +kernel
theorem dJ2_indexOf_4cfef_22 : decode cJ2_indexOf_4cfef 22 = .ok (.iload_n 1, 1) := by decide +kernel
theorem dJ2_indexOf_4cfef_23 : decode cJ2_indexOf_4cfef 23 = .ok (.ldc 227, 2) := by decide +kernel
theorem dJ2_indexOf_4cfef_25 : decode cJ2_indexOf_4cfef 25 = .ok (.if_icmp .ge 11, 3) := by decide +kernel
theorem dJ2_indexOf_4cfef_28 : decode cJ2_indexOf_4cfef 28 = .ok (.aload_n 0, 1) := by decide +kernel
theorem dJ2_indexOf_4cfef_29 : decode cJ2_indexOf_4cfef 29 = .ok (.iload_n 1, 1) := by decide +kernel
theorem dJ2_indexOf_4cfef_30 : decode cJ2_indexOf_4cfef 30 = .ok (.iload_n 2, 1) := by decide +kernel
theorem dJ2_indexOf_4cfef_31 : decode cJ2_indexOf_4cfef 31 = .ok (.iload_n 3, 1) := by decide +kernel
theorem dJ2_indexOf_4cfef_32 : decode cJ2_indexOf_4cfef 32 = .ok (.invokestatic 228, 3) := by decide +kernel
theorem dJ2_indexOf_4cfef_35 : decode cJ2_indexOf_4cfef 35 = .ok (.ireturn, 1) := by decide +kernel
theorem dJ2_indexOf_4cfef_36 : decode cJ2_indexOf_4cfef 36 = .ok (.aload_n 0, 1) := by decide +kernel
theorem dJ2_indexOf_4cfef_37 : decode cJ2_indexOf_4cfef 37 = .ok (.iload_n 1, 1) := by decide +kernel
theorem dJ2_indexOf_4cfef_38 : decode cJ2_indexOf_4cfef 38 = .ok (.iload_n 2, 1) := by decide +kernel
theorem dJ2_indexOf_4cfef_39 : decode cJ2_indexOf_4cfef 39 = .ok (.iload_n 3, 1) := by decide +kernel
theorem dJ2_indexOf_4cfef_40 : decode cJ2_indexOf_4cfef 40 = .ok (.invokestatic 232, 3) := by decide +kernel
theorem dJ2_indexOf_4cfef_43 : decode cJ2_indexOf_4cfef 43 = .ok (.ireturn, 1) := by decide +kernel
theorem dJ2_indexOfChar_4cfef_0 : decode cJ2_indexOfChar_4cfef 0 = .ok (.iload_n 2, 1) := by decide +kernel
theorem dJ2_indexOfChar_4cfef_1 : decode cJ2_indexOfChar_4cfef 1 = .ok (.iload_n 3, 1) := by decide +kernel
theorem dJ2_indexOfChar_4cfef_2 : decode cJ2_indexOfChar_4cfef 2 = .ok (.aload_n 0, 1) := by decide +kernel
theorem dJ2_indexOfChar_4cfef_3 : decode cJ2_indexOfChar_4cfef 3 = .ok (.invokestatic 96, 3) := by decide +kernel
theorem dJ2_indexOfChar_4cfef_6 : decode cJ2_indexOfChar_4cfef 6 = .ok (.aload_n 0, 1) := by decide +kernel
theorem dJ2_indexOfChar_4cfef_7 : decode cJ2_indexOfChar_4cfef 7 = .ok (.iload_n 1, 1) := by decide +kernel
theorem dJ2_indexOfChar_4cfef_8 : decode cJ2_indexOfChar_4cfef 8 = .ok (.iload_n 2, 1) := by decide +kernel
theorem dJ2_indexOfChar_4cfef_9 : decode cJ2_indexOfChar_4cfef 9 = .ok (.iload_n 3, 1) := by decide +kernel
theorem dJ2_indexOfChar_4cfef_10 : decode cJ2_indexOfChar_4cfef 10 = .ok (.invokestatic 244, 3) := by decide +kernel
theorem dJ2_indexOfChar_4cfef_13 : decode cJ2_indexOfChar_4cfef 13 = .ok (.ireturn, 1) := by decide +kernel
theorem dJ2_indexOfCharUnsafe_4cfef_0 : decode cJ2_indexOfCharUnsafe_4cfef 0 = .ok (.iload_n 2, 1) := by decide +kernel
theorem dJ2_indexOfCharUnsafe_4cfef_1 : decode cJ2_indexOfCharUnsafe_4cfef 1 = .ok (.istore 4, 2) := by decide +kernel
theorem dJ2_indexOfCharUnsafe_4cfef_3 : decode cJ2_indexOfCharUnsafe_4cfef 3 = .ok (.iload 4, 2) := by decide +kernel
theorem dJ2_indexOfCharUnsafe_4cfef_5 : decode cJ2_indexOfCharUnsafe_4cfef 5 = .ok (.iload_n 3, 1) := by decide +kernel
theorem dJ2_indexOfCharUnsafe_4cfef_6 : decode cJ2_indexOfCharUnsafe_4cfef 6 = .ok (.if_icmp .ge 22, 3) := by decide +kernel
theorem dJ2_indexOfCharUnsafe_4cfef_9 : decode cJ2_indexOfCharUnsafe_4cfef 9 = .ok (.aload_n 0, 1) := by decide +kernel
theorem dJ2_indexOfCharUnsafe_4cfef_10 : decode cJ2_indexOfCharUnsafe_4cfef 10 = .ok (.iload 4, 2) := by decide +kernel
theorem dJ2_indexOfCharUnsafe_4cfef_12 : decode cJ2_indexOfCharUnsafe_4cfef 12 = .ok (.invokestatic 71, 3) := by decide +kernel
theorem dJ2_indexOfCharUnsafe_4cfef_15 : decode cJ2_indexOfCharUnsafe_4cfef 15 = .ok (.iload_n 1, 1) := by decide +kernel
theorem dJ2_indexOfCharUnsafe_4cfef_16 : decode cJ2_indexOfCharUnsafe_4cfef 16 = .ok (.if_icmp .ne 6, 3) := by decide +kernel
theorem dJ2_indexOfCharUnsafe_4cfef_19 : decode cJ2_indexOfCharUnsafe_4cfef 19 = .ok (.iload 4, 2) := by decide +kernel
theorem dJ2_indexOfCharUnsafe_4cfef_21 : decode cJ2_indexOfCharUnsafe_4cfef 21 = .ok (.ireturn, 1) := by decide +kernel
theorem dJ2_indexOfCharUnsafe_4cfef_22 : decode cJ2_indexOfCharUnsafe_4cfef 22 = .ok (.iinc 4 1, 3) := by decide +kernel
theorem dJ2_indexOfCharUnsafe_4cfef_25 : decode cJ2_indexOfCharUnsafe_4cfef 25 = .ok (.goto (-22), 3) := by decide +kernel
theorem dJ2_indexOfCharUnsafe_4cfef_28 : decode cJ2_indexOfCharUnsafe_4cfef 28 = .ok (.iconst (-1), 1) := by decide +kernel
theorem dJ2_indexOfCharUnsafe_4cfef_29 : decode cJ2_indexOfCharUnsafe_4cfef 29 = .ok (.ireturn, 1) := by decide +kernel
theorem dJ2_indexOfSupplementary_4cfef_0 : decode cJ2_indexOfSupplementary_4cfef 0 = .ok (.iload_n 1, 1) := by decide +kernel
theorem dJ2_indexOfSupplementary_4cfef_1 : decode cJ2_indexOfSupplementary_4cfef 1 = .ok (.invokestatic 164, 3) := by decide +kernel
theorem dJ2_indexOfSupplementary_4cfef_4 : decode cJ2_indexOfSupplementary_4cfef 4 = .ok (.ifCond .eq 65, 3) := by decide +kernel
theorem dJ2_indexOfSupplementary_4cfef_7 : decode cJ2_indexOfSupplementary_4cfef 7 = .ok (.iload_n 1, 1) := by decide +kernel
theorem dJ2_indexOfSupplementary_4cfef_8 : decode cJ2_indexOfSupplementary_4cfef 8 = .ok (.invokestatic 157, 3) := by decide +kernel
theorem dJ2_indexOfSupplementary_4cfef_11 : decode cJ2_indexOfSupplementary_4cfef 11 = .ok (.istore 4, 2) := by decide +kernel
theorem dJ2_indexOfSupplementary_4cfef_13 : decode cJ2_indexOfSupplementary_4cfef 13 = .ok (.iload_n 1, 1) := by decide +kernel
theorem dJ2_indexOfSupplementary_4cfef_14 : decode cJ2_indexOfSupplementary_4cfef 14 = .ok (.invokestatic 161, 3) := by decide +kernel
theorem dJ2_indexOfSupplementary_4cfef_17 : decode cJ2_indexOfSupplementary_4cfef 17 = .ok (.istore 5, 2) := by decide +kernel
theorem dJ2_indexOfSupplementary_4cfef_19 : decode cJ2_indexOfSupplementary_4cfef 19 = .ok (.iload_n 2, 1) := by decide +kernel
theorem dJ2_indexOfSupplementary_4cfef_20 : decode cJ2_indexOfSupplementary_4cfef 20 = .ok (.iload_n 3, 1) := by decide +kernel
theorem dJ2_indexOfSupplementary_4cfef_21 : decode cJ2_indexOfSupplementary_4cfef 21 = .ok (.aload_n 0, 1) := by decide +kernel
theorem dJ2_indexOfSupplementary_4cfef_22 : decode cJ2_indexOfSupplementary_4cfef 22 = .ok (.invokestatic 96, 3) := by decide +kernel
theorem dJ2_indexOfSupplementary_4cfef_25 : decode cJ2_indexOfSupplementary_4cfef 25 = .ok (.iload_n 2, 1) := by decide +kernel
theorem dJ2_indexOfSupplementary_4cfef_26 : decode cJ2_indexOfSupplementary_4cfef 26 = .ok (.istore 6, 2) := by decide +kernel
theorem dJ2_indexOfSupplementary_4cfef_28 : decode cJ2_indexOfSupplementary_4cfef 28 = .ok (.iload 6, 2) := by decide +kernel
theorem dJ2_indexOfSupplementary_4cfef_30 : decode cJ2_indexOfSupplementary_4cfef 30 = .ok (.iload_n 3, 1) := by decide +kernel
theorem dJ2_indexOfSupplementary_4cfef_31 : decode cJ2_indexOfSupplementary_4cfef 31 = .ok (.iconst 1, 1) := by decide +kernel
theorem dJ2_indexOfSupplementary_4cfef_32 : decode cJ2_indexOfSupplementary_4cfef 32 = .ok (.isub, 1) := by decide +kernel
theorem dJ2_indexOfSupplementary_4cfef_33 : decode cJ2_indexOfSupplementary_4cfef 33 = .ok (.if_icmp .ge 36, 3) := by decide +kernel
theorem dJ2_indexOfSupplementary_4cfef_36 : decode cJ2_indexOfSupplementary_4cfef 36 = .ok (.aload_n 0, 1) := by decide +kernel
theorem dJ2_indexOfSupplementary_4cfef_37 : decode cJ2_indexOfSupplementary_4cfef 37 = .ok (.iload 6, 2) := by decide +kernel
theorem dJ2_indexOfSupplementary_4cfef_39 : decode cJ2_indexOfSupplementary_4cfef 39 = .ok (.invokestatic 71, 3) := by decide +kernel
theorem dJ2_indexOfSupplementary_4cfef_42 : decode cJ2_indexOfSupplementary_4cfef 42 = .ok (.iload 4, 2) := by decide +kernel
theorem dJ2_indexOfSupplementary_4cfef_44 : decode cJ2_indexOfSupplementary_4cfef 44 = .ok (.if_icmp .ne 19, 3) := by decide +kernel
theorem dJ2_indexOfSupplementary_4cfef_47 : decode cJ2_indexOfSupplementary_4cfef 47 = .ok (.aload_n 0, 1) := by decide +kernel
theorem dJ2_indexOfSupplementary_4cfef_48 : decode cJ2_indexOfSupplementary_4cfef 48 = .ok (.iload 6, 2) := by decide +kernel
theorem dJ2_indexOfSupplementary_4cfef_50 : decode cJ2_indexOfSupplementary_4cfef 50 = .ok (.iconst 1, 1) := by decide +kernel
theorem dJ2_indexOfSupplementary_4cfef_51 : decode cJ2_indexOfSupplementary_4cfef 51 = .ok (.iadd, 1) := by decide +kernel
theorem dJ2_indexOfSupplementary_4cfef_52 : decode cJ2_indexOfSupplementary_4cfef 52 = .ok (.invokestatic 71, 3) := by decide +kernel
theorem dJ2_indexOfSupplementary_4cfef_55 : decode cJ2_indexOfSupplementary_4cfef 55 = .ok (.iload 5, 2) := by decide +kernel
theorem dJ2_indexOfSupplementary_4cfef_57 : decode cJ2_indexOfSupplementary_4cfef 57 = .ok (.if_icmp .ne 6, 3) := by decide +kernel
theorem dJ2_indexOfSupplementary_4cfef_60 : decode cJ2_indexOfSupplementary_4cfef 60 = .ok (.iload 6, 2) := by decide +kernel
theorem dJ2_indexOfSupplementary_4cfef_62 : decode cJ2_indexOfSupplementary_4cfef 62 = .ok (.ireturn, 1) := by decide +kernel
theorem dJ2_indexOfSupplementary_4cfef_63 : decode cJ2_indexOfSupplementary_4cfef 63 = .ok (.iinc 6 1, 3) := by decide +kernel
theorem dJ2_indexOfSupplementary_4cfef_66 : decode cJ2_indexOfSupplementary_4cfef 66 = .ok (.goto (-38), 3) := by decide +kernel
theorem dJ2_indexOfSupplementary_4cfef_69 : decode cJ2_indexOfSupplementary_4cfef 69 = .ok (.iconst (-1), 1) := by decide +kernel
theorem dJ2_indexOfSupplementary_4cfef_70 : decode cJ2_indexOfSupplementary_4cfef 70 = .ok (.ireturn, 1) := by decide +kernel
theorem dJ2_charAt_3b067_0 : decode cJ2_charAt_3b067 0 = .ok (.iload_n 1, 1) := by decide +kernel
theorem dJ2_charAt_3b067_1 : decode cJ2_charAt_3b067 1 = .ok (.aload_n 0, 1) := by decide +kernel
theorem dJ2_charAt_3b067_2 : decode cJ2_charAt_3b067 2 = .ok (.invokestatic 67, 3) := by decide +kernel
theorem dJ2_charAt_3b067_5 : decode cJ2_charAt_3b067 5 = .ok (.aload_n 0, 1) := by decide +kernel
theorem dJ2_charAt_3b067_6 : decode cJ2_charAt_3b067 6 = .ok (.iload_n 1, 1) := by decide +kernel
theorem dJ2_charAt_3b067_7 : decode cJ2_charAt_3b067 7 = .ok (.invokestatic 71, 3) := by decide +kernel
theorem dJ2_charAt_3b067_10 : decode cJ2_charAt_3b067 10 = .ok (.ireturn, 1) := by decide +kernel
theorem dJ2_checkIndex_2214a_0 : decode cJ2_checkIndex_2214a 0 = .ok (.iload_n 0, 1) := by decide +kernel
theorem dJ2_checkIndex_2214a_1 : decode cJ2_checkIndex_2214a 1 = .ok (.aload_n 1, 1) := by decide +kernel
theorem dJ2_checkIndex_2214a_2 : decode cJ2_checkIndex_2214a 2 = .ok (.invokestatic 48, 3) := by decide +kernel
theorem dJ2_checkIndex_2214a_5 : decode cJ2_checkIndex_2214a 5 = .ok (.invokestatic 414, 3) := by decide +kernel
theorem dJ2_checkIndex_2214a_8 : decode cJ2_checkIndex_2214a 8 = .ok (.return_, 1) := by decide +kernel
theorem dJ2_checkBoundsBeginEnd_d044e_0 : decode cJ2_checkBoundsBeginEnd_d044e 0 = .ok (.iload_n 0, 1) := by decide +kernel
theorem dJ2_checkBoundsBeginEnd_d044e_1 : decode cJ2_checkBoundsBeginEnd_d044e 1 = .ok (.iload_n 1, 1) := by decide +kernel
theorem dJ2_checkBoundsBeginEnd_d044e_2 : decode cJ2_checkBoundsBeginEnd_d044e 2 = .ok (.aload_n 2, 1) := by decide +kernel
theorem dJ2_checkBoundsBeginEnd_d044e_3 : decode cJ2_checkBoundsBeginEnd_d044e 3 = .ok (.invokestatic 48, 3) := by decide +kernel
theorem dJ2_checkBoundsBeginEnd_d044e_6 : decode cJ2_checkBoundsBeginEnd_d044e 6 = .ok (.invokestatic 241, 3) := by decide +kernel
theorem dJ2_checkBoundsBeginEnd_d044e_9 : decode cJ2_checkBoundsBeginEnd_d044e 9 = .ok (.return_, 1) := by decide +kernel
theorem dJ7_fill_53178_0 : decode cJ7_fill_53178 0 = .ok (.iconst 0, 1) := by decide +kernel
theorem dJ7_fill_53178_1 : decode cJ7_fill_53178 1 = .ok (.istore_n 2, 1) := by decide +kernel
theorem dJ7_fill_53178_2 : decode cJ7_fill_53178 2 = .ok (.aload_n 0, 1) := by decide +kernel
theorem dJ7_fill_53178_3 : decode cJ7_fill_53178 3 = .ok (.arraylength, 1) := by decide +kernel
theorem dJ7_fill_53178_4 : decode cJ7_fill_53178 4 = .ok (.istore_n 3, 1) := by decide +kernel
theorem dJ7_fill_53178_5 : decode cJ7_fill_53178 5 = .ok (.iload_n 2, 1) := by decide +kernel
theorem dJ7_fill_53178_6 : decode cJ7_fill_53178 6 = .ok (.iload_n 3, 1) := by decide +kernel
theorem dJ7_fill_53178_7 : decode cJ7_fill_53178 7 = .ok (.if_icmp .ge 13, 3) := by decide +kernel
theorem dJ7_fill_53178_10 : decode cJ7_fill_53178 10 = .ok (.aload_n 0, 1) := by decide +kernel
theorem dJ7_fill_53178_11 : decode cJ7_fill_53178 11 = .ok (.iload_n 2, 1) := by decide +kernel
theorem dJ7_fill_53178_12 : decode cJ7_fill_53178 12 = .ok (.iload_n 1, 1) := by decide +kernel
theorem dJ7_fill_53178_13 : decode cJ7_fill_53178 13 = .ok (.iastore, 1) := by decide +kernel
theorem dJ7_fill_53178_14 : decode cJ7_fill_53178 14 = .ok (.iinc 2 1, 3) := by decide +kernel
theorem dJ7_fill_53178_17 : decode cJ7_fill_53178 17 = .ok (.goto (-12), 3) := by decide +kernel
theorem dJ7_fill_53178_20 : decode cJ7_fill_53178 20 = .ok (.return_, 1) := by decide +kernel
theorem dJ7_copyOf_59c91_0 : decode cJ7_copyOf_59c91 0 = .ok (.iload_n 1, 1) := by decide +kernel
theorem dJ7_copyOf_59c91_1 : decode cJ7_copyOf_59c91 1 = .ok (.aload_n 0, 1) := by decide +kernel
theorem dJ7_copyOf_59c91_2 : decode cJ7_copyOf_59c91 2 = .ok (.arraylength, 1) := by decide +kernel
theorem dJ7_copyOf_59c91_3 : decode cJ7_copyOf_59c91 3 = .ok (.if_icmp .ne 11, 3) := by decide +kernel
theorem dJ7_copyOf_59c91_6 : decode cJ7_copyOf_59c91 6 = .ok (.aload_n 0, 1) := by decide +kernel
theorem dJ7_copyOf_59c91_7 : decode cJ7_copyOf_59c91 7 = .ok (.invokevirtual 316, 3) := by decide +kernel
theorem dJ7_copyOf_59c91_10 : decode cJ7_copyOf_59c91 10 = .ok (.checkcast 317, 3) := by decide +kernel
theorem dJ7_copyOf_59c91_13 : decode cJ7_copyOf_59c91 13 = .ok (.areturn, 1) := by decide +kernel
theorem dJ7_copyOf_59c91_14 : decode cJ7_copyOf_59c91 14 = .ok (.iload_n 1, 1) := by decide +kernel
theorem dJ7_copyOf_59c91_15 : decode cJ7_copyOf_59c91 15 = .ok (.newarray .int, 2) := by decide +kernel
theorem dJ7_copyOf_59c91_17 : decode cJ7_copyOf_59c91 17 = .ok (.astore_n 2, 1) := by decide +kernel
theorem dJ7_copyOf_59c91_18 : decode cJ7_copyOf_59c91 18 = .ok (.aload_n 0, 1) := by decide +kernel
theorem dJ7_copyOf_59c91_19 : decode cJ7_copyOf_59c91 19 = .ok (.iconst 0, 1) := by decide +kernel
theorem dJ7_copyOf_59c91_20 : decode cJ7_copyOf_59c91 20 = .ok (.aload_n 2, 1) := by decide +kernel
theorem dJ7_copyOf_59c91_21 : decode cJ7_copyOf_59c91 21 = .ok (.iconst 0, 1) := by decide +kernel
theorem dJ7_copyOf_59c91_22 : decode cJ7_copyOf_59c91 22 = .ok (.aload_n 0, 1) := by decide +kernel
theorem dJ7_copyOf_59c91_23 : decode cJ7_copyOf_59c91 23 = .ok (.arraylength, 1) := by decide +kernel
theorem dJ7_copyOf_59c91_24 : decode cJ7_copyOf_59c91 24 = .ok (.iload_n 1, 1) := by decide +kernel
theorem dJ7_copyOf_59c91_25 : decode cJ7_copyOf_59c91 25 = .ok (.invokestatic 304, 3) := by decide +kernel
theorem dJ7_copyOf_59c91_28 : decode cJ7_copyOf_59c91 28 = .ok (.invokestatic 150, 3) := by decide +kernel
theorem dJ7_copyOf_59c91_31 : decode cJ7_copyOf_59c91 31 = .ok (.aload_n 2, 1) := by decide +kernel
theorem dJ7_copyOf_59c91_32 : decode cJ7_copyOf_59c91 32 = .ok (.areturn, 1) := by decide +kernel
theorem dJ3_checkIndex_8e157_0 : decode cJ3_checkIndex_8e157 0 = .ok (.iload_n 0, 1) := by decide +kernel
theorem dJ3_checkIndex_8e157_1 : decode cJ3_checkIndex_8e157 1 = .ok (.ifCond .lt 8, 3) := by decide +kernel
theorem dJ3_checkIndex_8e157_4 : decode cJ3_checkIndex_8e157 4 = .ok (.iload_n 0, 1) := by decide +kernel
theorem dJ3_checkIndex_8e157_5 : decode cJ3_checkIndex_8e157 5 = .ok (.iload_n 1, 1) := by decide +kernel
theorem dJ3_checkIndex_8e157_6 : decode cJ3_checkIndex_8e157 6 = .ok (.if_icmp .lt 10, 3) := by decide +kernel
theorem dJ3_checkIndex_8e157_9 : decode cJ3_checkIndex_8e157 9 = .ok (.aload_n 2, 1) := by decide +kernel
theorem dJ3_checkIndex_8e157_10 : decode cJ3_checkIndex_8e157 10 = .ok (.iload_n 0, 1) := by decide +kernel
theorem dJ3_checkIndex_8e157_11 : decode cJ3_checkIndex_8e157 11 = .ok (.iload_n 1, 1) := by decide +kernel
theorem dJ3_checkIndex_8e157_12 : decode cJ3_checkIndex_8e157 12 = .ok (.invokestatic 95, 3) := by decide +kernel
theorem dJ3_checkIndex_8e157_15 : decode cJ3_checkIndex_8e157 15 = .ok (.athrow, 1) := by decide +kernel
theorem dJ3_checkIndex_8e157_16 : decode cJ3_checkIndex_8e157 16 = .ok (.iload_n 0, 1) := by decide +kernel
theorem dJ3_checkIndex_8e157_17 : decode cJ3_checkIndex_8e157 17 = .ok (.ireturn, 1) := by decide +kernel
theorem dJ3_checkFromToIndex_8c36e_0 : decode cJ3_checkFromToIndex_8c36e 0 = .ok (.iload_n 0, 1) := by decide +kernel
theorem dJ3_checkFromToIndex_8c36e_1 : decode cJ3_checkFromToIndex_8c36e 1 = .ok (.ifCond .lt 13, 3) := by decide +kernel
theorem dJ3_checkFromToIndex_8c36e_4 : decode cJ3_checkFromToIndex_8c36e 4 = .ok (.iload_n 0, 1) := by decide +kernel
theorem dJ3_checkFromToIndex_8c36e_5 : decode cJ3_checkFromToIndex_8c36e 5 = .ok (.iload_n 1, 1) := by decide +kernel
theorem dJ3_checkFromToIndex_8c36e_6 : decode cJ3_checkFromToIndex_8c36e 6 = .ok (.if_icmp .gt 8, 3) := by decide +kernel
theorem dJ3_checkFromToIndex_8c36e_9 : decode cJ3_checkFromToIndex_8c36e 9 = .ok (.iload_n 1, 1) := by decide +kernel
theorem dJ3_checkFromToIndex_8c36e_10 : decode cJ3_checkFromToIndex_8c36e 10 = .ok (.iload_n 2, 1) := by decide +kernel
theorem dJ3_checkFromToIndex_8c36e_11 : decode cJ3_checkFromToIndex_8c36e 11 = .ok (.if_icmp .le 11, 3) := by decide +kernel
theorem dJ3_checkFromToIndex_8c36e_14 : decode cJ3_checkFromToIndex_8c36e 14 = .ok (.aload_n 3, 1) := by decide +kernel
theorem dJ3_checkFromToIndex_8c36e_15 : decode cJ3_checkFromToIndex_8c36e 15 = .ok (.iload_n 0, 1) := by decide +kernel
theorem dJ3_checkFromToIndex_8c36e_16 : decode cJ3_checkFromToIndex_8c36e 16 = .ok (.iload_n 1, 1) := by decide +kernel
theorem dJ3_checkFromToIndex_8c36e_17 : decode cJ3_checkFromToIndex_8c36e 17 = .ok (.iload_n 2, 1) := by decide +kernel
theorem dJ3_checkFromToIndex_8c36e_18 : decode cJ3_checkFromToIndex_8c36e 18 = .ok (.invokestatic 99, 3) := by decide +kernel
theorem dJ3_checkFromToIndex_8c36e_21 : decode cJ3_checkFromToIndex_8c36e 21 = .ok (.athrow, 1) := by decide +kernel
theorem dJ3_checkFromToIndex_8c36e_22 : decode cJ3_checkFromToIndex_8c36e 22 = .ok (.iload_n 0, 1) := by decide +kernel
theorem dJ3_checkFromToIndex_8c36e_23 : decode cJ3_checkFromToIndex_8c36e 23 = .ok (.ireturn, 1) := by decide +kernel
theorem dX11_init_0 : decode cX11_init 0 = .ok (.aload_n 0, 1) := by decide +kernel
theorem dX11_init_1 : decode cX11_init 1 = .ok (.invokespecial 3, 3) := by decide +kernel
theorem dX11_init_4 : decode cX11_init 4 = .ok (.aload_n 0, 1) := by decide +kernel
theorem dX11_init_5 : decode cX11_init 5 = .ok (.new 9, 3) := by decide +kernel
theorem dX11_init_8 : decode cX11_init 8 = .ok (.dup, 1) := by decide +kernel
theorem dX11_init_9 : decode cX11_init 9 = .ok (.invokespecial 11, 3) := by decide +kernel
theorem dX11_init_12 : decode cX11_init 12 = .ok (.putfield 12, 3) := by decide +kernel
theorem dX11_init_15 : decode cX11_init 15 = .ok (.aload_n 0, 1) := by decide +kernel
theorem dX11_init_16 : decode cX11_init 16 = .ok (.new 16, 3) := by decide +kernel
theorem dX11_init_19 : decode cX11_init 19 = .ok (.dup, 1) := by decide +kernel
theorem dX11_init_20 : decode cX11_init 20 = .ok (.invokespecial 18, 3) := by decide +kernel
theorem dX11_init_23 : decode cX11_init 23 = .ok (.putfield 19, 3) := by decide +kernel
theorem dX11_init_26 : decode cX11_init 26 = .ok (.aload_n 0, 1) := by decide +kernel
theorem dX11_init_27 : decode cX11_init 27 = .ok (.new 16, 3) := by decide +kernel
theorem dX11_init_30 : decode cX11_init 30 = .ok (.dup, 1) := by decide +kernel
theorem dX11_init_31 : decode cX11_init 31 = .ok (.invokespecial 18, 3) := by decide +kernel
theorem dX11_init_34 : decode cX11_init 34 = .ok (.putfield 23, 3) := by decide +kernel
theorem dX11_init_37 : decode cX11_init 37 = .ok (.aload_n 0, 1) := by decide +kernel
theorem dX11_init_38 : decode cX11_init 38 = .ok (.new 26, 3) := by decide +kernel
theorem dX11_init_41 : decode cX11_init 41 = .ok (.dup, 1) := by decide +kernel
theorem dX11_init_42 : decode cX11_init 42 = .ok (.aload_n 0, 1) := by decide +kernel
theorem dX11_init_43 : decode cX11_init 43 = .ok (.getfield 12, 3) := by decide +kernel
theorem dX11_init_46 : decode cX11_init 46 = .ok (.invokespecial 28, 3) := by decide +kernel
theorem dX11_init_49 : decode cX11_init 49 = .ok (.putfield 31, 3) := by decide +kernel
theorem dX11_init_52 : decode cX11_init 52 = .ok (.aload_n 0, 1) := by decide +kernel
theorem dX11_init_53 : decode cX11_init 53 = .ok (.iconst 4, 1) := by decide +kernel
theorem dX11_init_54 : decode cX11_init 54 = .ok (.anewarray 35, 3) := by decide +kernel
theorem dX11_init_57 : decode cX11_init 57 = .ok (.putfield 37, 3) := by decide +kernel
theorem dX11_init_60 : decode cX11_init 60 = .ok (.aload_n 0, 1) := by decide +kernel
theorem dX11_init_61 : decode cX11_init 61 = .ok (.iconst 4, 1) := by decide +kernel
theorem dX11_init_62 : decode cX11_init 62 = .ok (.anewarray 41, 3) := by decide +kernel
theorem dX11_init_65 : decode cX11_init 65 = .ok (.putfield 43, 3) := by decide +kernel
theorem dX11_init_68 : decode cX11_init 68 = .ok (.aload_n 0, 1) := by decide +kernel
theorem dX11_init_69 : decode cX11_init 69 = .ok (.new 47, 3) := by decide +kernel
theorem dX11_init_72 : decode cX11_init 72 = .ok (.dup, 1) := by decide +kernel
theorem dX11_init_73 : decode cX11_init 73 = .ok (.invokespecial 49, 3) := by decide +kernel
theorem dX11_init_76 : decode cX11_init 76 = .ok (.putfield 50, 3) := by decide +kernel
theorem dX11_init_79 : decode cX11_init 79 = .ok (.aload_n 0, 1) := by decide +kernel
theorem dX11_init_80 : decode cX11_init 80 = .ok (.new 47, 3) := by decide +kernel
theorem dX11_init_83 : decode cX11_init 83 = .ok (.dup, 1) := by decide +kernel
theorem dX11_init_84 : decode cX11_init 84 = .ok (.invokespecial 49, 3) := by decide +kernel
theorem dX11_init_87 : decode cX11_init 87 = .ok (.putfield 54, 3) := by decide +kernel
theorem dX11_init_90 : decode cX11_init 90 = .ok (.aload_n 0, 1) := by decide +kernel
theorem dX11_init_91 : decode cX11_init 91 = .ok (.new 57, 3) := by decide +kernel
theorem dX11_init_94 : decode cX11_init 94 = .ok (.dup, 1) := by decide +kernel
theorem dX11_init_95 : decode cX11_init 95 = .ok (.invokespecial 59, 3) := by decide +kernel
theorem dX11_init_98 : decode cX11_init 98 = .ok (.putfield 60, 3) := by decide +kernel
theorem dX11_init_101 : decode cX11_init 101 = .ok (.aload_n 0, 1) := by decide +kernel
theorem dX11_init_102 : decode cX11_init 102 = .ok (.new 64, 3) := by decide +kernel
theorem dX11_init_105 : decode cX11_init 105 = .ok (.dup, 1) := by decide +kernel
theorem dX11_init_106 : decode cX11_init 106 = .ok (.aload_n 0, 1) := by decide +kernel
theorem dX11_init_107 : decode cX11_init 107 = .ok (.getfield 19, 3) := by decide +kernel
theorem dX11_init_110 : decode cX11_init 110 = .ok (.invokespecial 66, 3) := by decide +kernel
theorem dX11_init_113 : decode cX11_init 113 = .ok (.putfield 69, 3) := by decide +kernel
theorem dX11_init_116 : decode cX11_init 116 = .ok (.aload_n 0, 1) := by decide +kernel
theorem dX11_init_117 : decode cX11_init 117 = .ok (.new 73, 3) := by decide +kernel
theorem dX11_init_120 : decode cX11_init 120 = .ok (.dup, 1) := by decide +kernel
theorem dX11_init_121 : decode cX11_init 121 = .ok (.aload_n 0, 1) := by decide +kernel
theorem dX11_init_122 : decode cX11_init 122 = .ok (.getfield 19, 3) := by decide +kernel
theorem dX11_init_125 : decode cX11_init 125 = .ok (.aload_n 0, 1) := by decide +kernel
theorem dX11_init_126 : decode cX11_init 126 = .ok (.getfield 69, 3) := by decide +kernel
theorem dX11_init_129 : decode cX11_init 129 = .ok (.invokespecial 75, 3) := by decide +kernel
theorem dX11_init_132 : decode cX11_init 132 = .ok (.putfield 78, 3) := by decide +kernel
theorem dX11_init_135 : decode cX11_init 135 = .ok (.aload_n 0, 1) := by decide +kernel
theorem dX11_init_136 : decode cX11_init 136 = .ok (.new 82, 3) := by decide +kernel
theorem dX11_init_139 : decode cX11_init 139 = .ok (.dup, 1) := by decide +kernel
theorem dX11_init_140 : decode cX11_init 140 = .ok (.aload_n 0, 1) := by decide +kernel
theorem dX11_init_141 : decode cX11_init 141 = .ok (.getfield 19, 3) := by decide +kernel
theorem dX11_init_144 : decode cX11_init 144 = .ok (.aload_n 0, 1) := by decide +kernel
theorem dX11_init_145 : decode cX11_init 145 = .ok (.getfield 69, 3) := by decide +kernel
theorem dX11_init_148 : decode cX11_init 148 = .ok (.aload_n 0, 1) := by decide +kernel
theorem dX11_init_149 : decode cX11_init 149 = .ok (.getfield 78, 3) := by decide +kernel
theorem dX11_init_152 : decode cX11_init 152 = .ok (.invokespecial 84, 3) := by decide +kernel
theorem dX11_init_155 : decode cX11_init 155 = .ok (.putfield 87, 3) := by decide +kernel
theorem dX11_init_158 : decode cX11_init 158 = .ok (.aload_n 0, 1) := by decide +kernel
theorem dX11_init_159 : decode cX11_init 159 = .ok (.new 91, 3) := by decide +kernel
theorem dX11_init_162 : decode cX11_init 162 = .ok (.dup, 1) := by decide +kernel
theorem dX11_init_163 : decode cX11_init 163 = .ok (.aload_n 0, 1) := by decide +kernel
theorem dX11_init_164 : decode cX11_init 164 = .ok (.getfield 19, 3) := by decide +kernel
theorem dX11_init_167 : decode cX11_init 167 = .ok (.aload_n 0, 1) := by decide +kernel
theorem dX11_init_168 : decode cX11_init 168 = .ok (.getfield 69, 3) := by decide +kernel
theorem dX11_init_171 : decode cX11_init 171 = .ok (.invokespecial 93, 3) := by decide +kernel
theorem dX11_init_174 : decode cX11_init 174 = .ok (.putfield 94, 3) := by decide +kernel
theorem dX11_init_177 : decode cX11_init 177 = .ok (.aload_n 0, 1) := by decide +kernel
theorem dX11_init_178 : decode cX11_init 178 = .ok (.new 41, 3) := by decide +kernel
theorem dX11_init_181 : decode cX11_init 181 = .ok (.dup, 1) := by decide +kernel
theorem dX11_init_182 : decode cX11_init 182 = .ok (.invokespecial 98, 3) := by decide +kernel
theorem dX11_init_185 : decode cX11_init 185 = .ok (.putfield 99, 3) := by decide +kernel
theorem dX11_init_188 : decode cX11_init 188 = .ok (.aload_n 0, 1) := by decide +kernel
theorem dX11_init_189 : decode cX11_init 189 = .ok (.iconst 0, 1) := by decide +kernel
theorem dX11_init_190 : decode cX11_init 190 = .ok (.putfield 103, 3) := by decide +kernel
theorem dX11_init_193 : decode cX11_init 193 = .ok (.aload_n 0, 1) := by decide +kernel
theorem dX11_init_194 : decode cX11_init 194 = .ok (.iconst 0, 1) := by decide +kernel
theorem dX11_init_195 : decode cX11_init 195 = .ok (.putfield 107, 3) := by decide +kernel
theorem dX11_init_198 : decode cX11_init 198 = .ok (.aload_n 0, 1) := by decide +kernel
theorem dX11_init_199 : decode cX11_init 199 = .ok (.iconst (-1), 1) := by decide +kernel
theorem dX11_init_200 : decode cX11_init 200 = .ok (.putfield 110, 3) := by decide +kernel
theorem dX11_init_203 : decode cX11_init 203 = .ok (.aload_n 0, 1) := by decide +kernel
theorem dX11_init_204 : decode cX11_init 204 = .ok (.iconst 1, 1) := by decide +kernel
theorem dX11_init_205 : decode cX11_init 205 = .ok (.putfield 113, 3) := by decide +kernel
theorem dX11_init_208 : decode cX11_init 208 = .ok (.aload_n 0, 1) := by decide +kernel
theorem dX11_init_209 : decode cX11_init 209 = .ok (.iconst 0, 1) := by decide +kernel
theorem dX11_init_210 : decode cX11_init 210 = .ok (.putfield 116, 3) := by decide +kernel
theorem dX11_init_213 : decode cX11_init 213 = .ok (.aload_n 0, 1) := by decide +kernel
theorem dX11_init_214 : decode cX11_init 214 = .ok (.lconst 0, 1) := by decide +kernel
theorem dX11_init_215 : decode cX11_init 215 = .ok (.putfield 120, 3) := by decide +kernel
theorem dX11_init_218 : decode cX11_init 218 = .ok (.return_, 1) := by decide +kernel
theorem dX11_feed_0 : decode cX11_feed 0 = .ok (.iload_n 1, 1) := by decide +kernel
theorem dX11_feed_1 : decode cX11_feed 1 = .ok (.invokestatic 124, 3) := by decide +kernel
theorem dX11_feed_4 : decode cX11_feed 4 = .ok (.iload_n 2, 1) := by decide +kernel
theorem dX11_feed_5 : decode cX11_feed 5 = .ok (.invokestatic 124, 3) := by decide +kernel
theorem dX11_feed_8 : decode cX11_feed 8 = .ok (.iadd, 1) := by decide +kernel
theorem dX11_feed_9 : decode cX11_feed 9 = .ok (.iload_n 3, 1) := by decide +kernel
theorem dX11_feed_10 : decode cX11_feed 10 = .ok (.invokestatic 124, 3) := by decide +kernel
theorem dX11_feed_13 : decode cX11_feed 13 = .ok (.iadd, 1) := by decide +kernel
theorem dX11_feed_14 : decode cX11_feed 14 = .ok (.iload 4, 2) := by decide +kernel
theorem dX11_feed_16 : decode cX11_feed 16 = .ok (.invokestatic 124, 3) := by decide +kernel
theorem dX11_feed_19 : decode cX11_feed 19 = .ok (.iadd, 1) := by decide +kernel
theorem dX11_feed_20 : decode cX11_feed 20 = .ok (.iload 5, 2) := by decide +kernel
theorem dX11_feed_22 : decode cX11_feed 22 = .ok (.invokestatic 124, 3) := by decide +kernel
theorem dX11_feed_25 : decode cX11_feed 25 = .ok (.iadd, 1) := by decide +kernel
theorem dX11_feed_26 : decode cX11_feed 26 = .ok (.istore 6, 2) := by decide +kernel
theorem dX11_feed_28 : decode cX11_feed 28 = .ok (.aload_n 0, 1) := by decide +kernel
theorem dX11_feed_29 : decode cX11_feed 29 = .ok (.getfield 12, 3) := by decide +kernel
theorem dX11_feed_32 : decode cX11_feed 32 = .ok (.getfield 128, 3) := by decide +kernel
theorem dX11_feed_35 : decode cX11_feed 35 = .ok (.iload 6, 2) := by decide +kernel
theorem dX11_feed_37 : decode cX11_feed 37 = .ok (.iadd, 1) := by decide +kernel
theorem dX11_feed_38 : decode cX11_feed 38 = .ok (.sipush 240, 3) := by decide +kernel
theorem dX11_feed_41 : decode cX11_feed 41 = .ok (.if_icmp .le 5, 3) := by decide +kernel
theorem dX11_feed_44 : decode cX11_feed 44 = .ok (.iconst (-1), 1) := by decide +kernel
theorem dX11_feed_45 : decode cX11_feed 45 = .ok (.ireturn, 1) := by decide +kernel
theorem dX11_feed_46 : decode cX11_feed 46 = .ok (.aload_n 0, 1) := by decide +kernel
theorem dX11_feed_47 : decode cX11_feed 47 = .ok (.getfield 12, 3) := by decide +kernel
theorem dX11_feed_50 : decode cX11_feed 50 = .ok (.iload_n 1, 1) := by decide +kernel
theorem dX11_feed_51 : decode cX11_feed 51 = .ok (.invokevirtual 131, 3) := by decide +kernel
theorem dX11_feed_54 : decode cX11_feed 54 = .ok (.aload_n 0, 1) := by decide +kernel
theorem dX11_feed_55 : decode cX11_feed 55 = .ok (.getfield 12, 3) := by decide +kernel
theorem dX11_feed_58 : decode cX11_feed 58 = .ok (.iload_n 2, 1) := by decide +kernel
theorem dX11_feed_59 : decode cX11_feed 59 = .ok (.invokevirtual 131, 3) := by decide +kernel
theorem dX11_feed_62 : decode cX11_feed 62 = .ok (.aload_n 0, 1) := by decide +kernel
theorem dX11_feed_63 : decode cX11_feed 63 = .ok (.getfield 12, 3) := by decide +kernel
theorem dX11_feed_66 : decode cX11_feed 66 = .ok (.iload_n 3, 1) := by decide +kernel
theorem dX11_feed_67 : decode cX11_feed 67 = .ok (.invokevirtual 131, 3) := by decide +kernel
theorem dX11_feed_70 : decode cX11_feed 70 = .ok (.aload_n 0, 1) := by decide +kernel
theorem dX11_feed_71 : decode cX11_feed 71 = .ok (.getfield 12, 3) := by decide +kernel
theorem dX11_feed_74 : decode cX11_feed 74 = .ok (.iload 4, 2) := by decide +kernel
theorem dX11_feed_76 : decode cX11_feed 76 = .ok (.invokevirtual 131, 3) := by decide +kernel
theorem dX11_feed_79 : decode cX11_feed 79 = .ok (.aload_n 0, 1) := by decide +kernel
theorem dX11_feed_80 : decode cX11_feed 80 = .ok (.getfield 12, 3) := by decide +kernel
theorem dX11_feed_83 : decode cX11_feed 83 = .ok (.iload 5, 2) := by decide +kernel
theorem dX11_feed_85 : decode cX11_feed 85 = .ok (.invokevirtual 131, 3) := by decide +kernel
theorem dX11_feed_88 : decode cX11_feed 88 = .ok (.aload_n 0, 1) := by decide +kernel
theorem dX11_feed_89 : decode cX11_feed 89 = .ok (.getfield 12, 3) := by decide +kernel
theorem dX11_feed_92 : decode cX11_feed 92 = .ok (.getfield 128, 3) := by decide +kernel
theorem dX11_feed_95 : decode cX11_feed 95 = .ok (.ireturn, 1) := by decide +kernel
theorem dX11_end_0 : decode cX11_end 0 = .ok (.iload_n 1, 1) := by decide +kernel
theorem dX11_end_1 : decode cX11_end 1 = .ok (.ifCond .lt 14, 3) := by decide +kernel
theorem dX11_end_4 : decode cX11_end 4 = .ok (.iload_n 1, 1) := by decide +kernel
theorem dX11_end_5 : decode cX11_end 5 = .ok (.aload_n 0, 1) := by decide +kernel
theorem dX11_end_6 : decode cX11_end 6 = .ok (.getfield 12, 3) := by decide +kernel
theorem dX11_end_9 : decode cX11_end 9 = .ok (.getfield 128, 3) := by decide +kernel
theorem dX11_end_12 : decode cX11_end 12 = .ok (.if_icmp .le 5, 3) := by decide +kernel
theorem dX11_end_15 : decode cX11_end 15 = .ok (.iconst 0, 1) := by decide +kernel
theorem dX11_end_16 : decode cX11_end 16 = .ok (.ireturn, 1) := by decide +kernel
theorem dX11_end_17 : decode cX11_end 17 = .ok (.aload_n 0, 1) := by decide +kernel
theorem dX11_end_18 : decode cX11_end 18 = .ok (.getfield 12, 3) := by decide +kernel
theorem dX11_end_21 : decode cX11_end 21 = .ok (.iload_n 1, 1) := by decide +kernel
theorem dX11_end_22 : decode cX11_end 22 = .ok (.putfield 128, 3) := by decide +kernel
theorem dX11_end_25 : decode cX11_end 25 = .ok (.iconst 1, 1) := by decide +kernel
theorem dX11_end_26 : decode cX11_end 26 = .ok (.ireturn, 1) := by decide +kernel
theorem dX11_fault_0 : decode cX11_fault 0 = .ok (.iload_n 1, 1) := by decide +kernel
theorem dX11_fault_1 : decode cX11_fault 1 = .ok (.ifCond .lt 8, 3) := by decide +kernel
theorem dX11_fault_4 : decode cX11_fault 4 = .ok (.iload_n 1, 1) := by decide +kernel
theorem dX11_fault_5 : decode cX11_fault 5 = .ok (.iconst 2, 1) := by decide +kernel
theorem dX11_fault_6 : decode cX11_fault 6 = .ok (.if_icmp .le 6, 3) := by decide +kernel
theorem dX11_fault_9 : decode cX11_fault 9 = .ok (.bipush (-2), 2) := by decide +kernel
theorem dX11_fault_11 : decode cX11_fault 11 = .ok (.ireturn, 1) := by decide +kernel
theorem dX11_fault_12 : decode cX11_fault 12 = .ok (.aload_n 0, 1) := by decide +kernel
theorem dX11_fault_13 : decode cX11_fault 13 = .ok (.iload_n 1, 1) := by decide +kernel
theorem dX11_fault_14 : decode cX11_fault 14 = .ok (.invokevirtual 135, 3) := by decide +kernel
theorem dX11_fault_17 : decode cX11_fault 17 = .ok (.ifCond .eq 7, 3) := by decide +kernel
theorem dX11_fault_20 : decode cX11_fault 20 = .ok (.iconst (-1), 1) := by decide +kernel
theorem dX11_fault_21 : decode cX11_fault 21 = .ok (.goto 10, 3) := by decide +kernel
theorem dX11_fault_24 : decode cX11_fault 24 = .ok (.aload_n 0, 1) := by decide +kernel
theorem dX11_fault_25 : decode cX11_fault 25 = .ok (.getfield 12, 3) := by decide +kernel
theorem dX11_fault_28 : decode cX11_fault 28 = .ok (.getfield 139, 3) := by decide +kernel
theorem dX11_fault_31 : decode cX11_fault 31 = .ok (.ireturn, 1) := by decide +kernel
theorem dX11_text_0 : decode cX11_text 0 = .ok (.iload_n 1, 1) := by decide +kernel
theorem dX11_text_1 : decode cX11_text 1 = .ok (.ifCond .lt 24, 3) := by decide +kernel
theorem dX11_text_4 : decode cX11_text 4 = .ok (.iload_n 1, 1) := by decide +kernel
theorem dX11_text_5 : decode cX11_text 5 = .ok (.iconst 2, 1) := by decide +kernel
theorem dX11_text_6 : decode cX11_text 6 = .ok (.if_icmp .gt 19, 3) := by decide +kernel
theorem dX11_text_9 : decode cX11_text 9 = .ok (.aload_n 0, 1) := by decide +kernel
theorem dX11_text_10 : decode cX11_text 10 = .ok (.iload_n 1, 1) := by decide +kernel
theorem dX11_text_11 : decode cX11_text 11 = .ok (.invokevirtual 142, 3) := by decide +kernel
theorem dX11_text_14 : decode cX11_text 14 = .ok (.ifCond .eq 11, 3) := by decide +kernel
theorem dX11_text_17 : decode cX11_text 17 = .ok (.aload_n 0, 1) := by decide +kernel
theorem dX11_text_18 : decode cX11_text 18 = .ok (.iload_n 1, 1) := by decide +kernel
theorem dX11_text_19 : decode cX11_text 19 = .ok (.invokevirtual 135, 3) := by decide +kernel
theorem dX11_text_22 : decode cX11_text 22 = .ok (.ifCond .ne 5, 3) := by decide +kernel
theorem dX11_text_25 : decode cX11_text 25 = .ok (.iconst (-1), 1) := by decide +kernel
theorem dX11_text_26 : decode cX11_text 26 = .ok (.ireturn, 1) := by decide +kernel
theorem dX11_text_27 : decode cX11_text 27 = .ok (.aload_n 0, 1) := by decide +kernel
theorem dX11_text_28 : decode cX11_text 28 = .ok (.getfield 12, 3) := by decide +kernel
theorem dX11_text_31 : decode cX11_text 31 = .ok (.iconst 0, 1) := by decide +kernel
theorem dX11_text_32 : decode cX11_text 32 = .ok (.putfield 128, 3) := by decide +kernel
theorem dX11_text_35 : decode cX11_text 35 = .ok (.iload_n 1, 1) := by decide +kernel
theorem dX11_text_36 : decode cX11_text 36 = .ok (.lookupswitch 68 #[(0, 28), (1, 33)], 28) := by decide +kernel
theorem dX11_text_64 : decode cX11_text 64 = .ok (.aload_n 0, 1) := by decide +kernel
theorem dX11_text_65 : decode cX11_text 65 = .ok (.invokevirtual 145, 3) := by decide +kernel
theorem dX11_text_68 : decode cX11_text 68 = .ok (.ireturn, 1) := by decide +kernel
theorem dX11_text_69 : decode cX11_text 69 = .ok (.aload_n 0, 1) := by decide +kernel
theorem dX11_text_70 : decode cX11_text 70 = .ok (.getfield 37, 3) := by decide +kernel
theorem dX11_text_73 : decode cX11_text 73 = .ok (.aload_n 0, 1) := by decide +kernel
theorem dX11_text_74 : decode cX11_text 74 = .ok (.getfield 103, 3) := by decide +kernel
theorem dX11_text_77 : decode cX11_text 77 = .ok (.new 35, 3) := by decide +kernel
theorem dX11_text_80 : decode cX11_text 80 = .ok (.dup, 1) := by decide +kernel
theorem dX11_text_81 : decode cX11_text 81 = .ok (.aload_n 0, 1) := by decide +kernel
theorem dX11_text_82 : decode cX11_text 82 = .ok (.getfield 31, 3) := by decide +kernel
theorem dX11_text_85 : decode cX11_text 85 = .ok (.invokevirtual 149, 3) := by decide +kernel
theorem dX11_text_88 : decode cX11_text 88 = .ok (.invokespecial 153, 3) := by decide +kernel
theorem dX11_text_91 : decode cX11_text 91 = .ok (.aastore, 1) := by decide +kernel
theorem dX11_text_92 : decode cX11_text 92 = .ok (.aload_n 0, 1) := by decide +kernel
theorem dX11_text_93 : decode cX11_text 93 = .ok (.dup, 1) := by decide +kernel
theorem dX11_text_94 : decode cX11_text 94 = .ok (.getfield 103, 3) := by decide +kernel
theorem dX11_text_97 : decode cX11_text 97 = .ok (.dup_x1, 1) := by decide +kernel
theorem dX11_text_98 : decode cX11_text 98 = .ok (.iconst 1, 1) := by decide +kernel
theorem dX11_text_99 : decode cX11_text 99 = .ok (.iadd, 1) := by decide +kernel
theorem dX11_text_100 : decode cX11_text 100 = .ok (.putfield 103, 3) := by decide +kernel
theorem dX11_text_103 : decode cX11_text 103 = .ok (.ireturn, 1) := by decide +kernel
theorem dX11_text_104 : decode cX11_text 104 = .ok (.aload_n 0, 1) := by decide +kernel
theorem dX11_text_105 : decode cX11_text 105 = .ok (.getfield 43, 3) := by decide +kernel
theorem dX11_text_108 : decode cX11_text 108 = .ok (.aload_n 0, 1) := by decide +kernel
theorem dX11_text_109 : decode cX11_text 109 = .ok (.getfield 107, 3) := by decide +kernel
theorem dX11_text_112 : decode cX11_text 112 = .ok (.aload_n 0, 1) := by decide +kernel
theorem dX11_text_113 : decode cX11_text 113 = .ok (.getfield 99, 3) := by decide +kernel
theorem dX11_text_116 : decode cX11_text 116 = .ok (.aastore, 1) := by decide +kernel
theorem dX11_text_117 : decode cX11_text 117 = .ok (.aload_n 0, 1) := by decide +kernel
theorem dX11_text_118 : decode cX11_text 118 = .ok (.new 41, 3) := by decide +kernel
theorem dX11_text_121 : decode cX11_text 121 = .ok (.dup, 1) := by decide +kernel
theorem dX11_text_122 : decode cX11_text 122 = .ok (.invokespecial 98, 3) := by decide +kernel
theorem dX11_text_125 : decode cX11_text 125 = .ok (.putfield 99, 3) := by decide +kernel
theorem dX11_text_128 : decode cX11_text 128 = .ok (.aload_n 0, 1) := by decide +kernel
theorem dX11_text_129 : decode cX11_text 129 = .ok (.dup, 1) := by decide +kernel
theorem dX11_text_130 : decode cX11_text 130 = .ok (.getfield 107, 3) := by decide +kernel
theorem dX11_text_133 : decode cX11_text 133 = .ok (.dup_x1, 1) := by decide +kernel
theorem dX11_text_134 : decode cX11_text 134 = .ok (.iconst 1, 1) := by decide +kernel
theorem dX11_text_135 : decode cX11_text 135 = .ok (.iadd, 1) := by decide +kernel
theorem dX11_text_136 : decode cX11_text 136 = .ok (.putfield 107, 3) := by decide +kernel
theorem dX11_text_139 : decode cX11_text 139 = .ok (.ireturn, 1) := by decide +kernel
theorem dX11_rule_0 : decode cX11_rule 0 = .ok (.aload_n 0, 1) := by decide +kernel
theorem dX11_rule_1 : decode cX11_rule 1 = .ok (.getfield 116, 3) := by decide +kernel
theorem dX11_rule_4 : decode cX11_rule 4 = .ok (.ifCond .ne 5, 3) := by decide +kernel
theorem dX11_rule_7 : decode cX11_rule 7 = .ok (.iconst (-1), 1) := by decide +kernel
theorem dX11_rule_8 : decode cX11_rule 8 = .ok (.ireturn, 1) := by decide +kernel
theorem dX11_rule_9 : decode cX11_rule 9 = .ok (.iload_n 1, 1) := by decide +kernel
theorem dX11_rule_10 : decode cX11_rule 10 = .ok (.tableswitch 56 0 2 #[26, 36, 46], 26) := by decide +kernel
theorem dX11_rule_36 : decode cX11_rule 36 = .ok (.aload_n 0, 1) := by decide +kernel
theorem dX11_rule_37 : decode cX11_rule 37 = .ok (.getfield 50, 3) := by decide +kernel
theorem dX11_rule_40 : decode cX11_rule 40 = .ok (.getfield 156, 3) := by decide +kernel
theorem dX11_rule_43 : decode cX11_rule 43 = .ok (.iconst 1, 1) := by decide +kernel
theorem dX11_rule_44 : decode cX11_rule 44 = .ok (.iaload, 1) := by decide +kernel
theorem dX11_rule_45 : decode cX11_rule 45 = .ok (.ireturn, 1) := by decide +kernel
theorem dX11_rule_46 : decode cX11_rule 46 = .ok (.aload_n 0, 1) := by decide +kernel
theorem dX11_rule_47 : decode cX11_rule 47 = .ok (.getfield 19, 3) := by decide +kernel
theorem dX11_rule_50 : decode cX11_rule 50 = .ok (.getfield 160, 3) := by decide +kernel
theorem dX11_rule_53 : decode cX11_rule 53 = .ok (.iconst 1, 1) := by decide +kernel
theorem dX11_rule_54 : decode cX11_rule 54 = .ok (.iaload, 1) := by decide +kernel
theorem dX11_rule_55 : decode cX11_rule 55 = .ok (.ireturn, 1) := by decide +kernel
theorem dX11_rule_56 : decode cX11_rule 56 = .ok (.aload_n 0, 1) := by decide +kernel
theorem dX11_rule_57 : decode cX11_rule 57 = .ok (.getfield 50, 3) := by decide +kernel
theorem dX11_rule_60 : decode cX11_rule 60 = .ok (.getfield 156, 3) := by decide +kernel
theorem dX11_rule_63 : decode cX11_rule 63 = .ok (.iconst 2, 1) := by decide +kernel
theorem dX11_rule_64 : decode cX11_rule 64 = .ok (.iaload, 1) := by decide +kernel
theorem dX11_rule_65 : decode cX11_rule 65 = .ok (.ireturn, 1) := by decide +kernel
theorem dX11_rule_66 : decode cX11_rule 66 = .ok (.iconst (-1), 1) := by decide +kernel
theorem dX11_rule_67 : decode cX11_rule 67 = .ok (.ireturn, 1) := by decide +kernel
theorem dX11_dish_0 : decode cX11_dish 0 = .ok (.aload_n 0, 1) := by decide +kernel
theorem dX11_dish_1 : decode cX11_dish 1 = .ok (.getfield 19, 3) := by decide +kernel
theorem dX11_dish_4 : decode cX11_dish 4 = .ok (.iload_n 1, 1) := by decide +kernel
theorem dX11_dish_5 : decode cX11_dish 5 = .ok (.invokevirtual 163, 3) := by decide +kernel
theorem dX11_dish_8 : decode cX11_dish 8 = .ok (.ifCond .eq 12, 3) := by decide +kernel
theorem dX11_dish_11 : decode cX11_dish 11 = .ok (.iload_n 2, 1) := by decide +kernel
theorem dX11_dish_12 : decode cX11_dish 12 = .ok (.ifCond .lt 8, 3) := by decide +kernel
theorem dX11_dish_15 : decode cX11_dish 15 = .ok (.iload_n 2, 1) := by decide +kernel
theorem dX11_dish_16 : decode cX11_dish 16 = .ok (.iconst 3, 1) := by decide +kernel
theorem dX11_dish_17 : decode cX11_dish 17 = .ok (.if_icmp .lt 5, 3) := by decide +kernel
theorem dX11_dish_20 : decode cX11_dish 20 = .ok (.iconst (-1), 1) := by decide +kernel
theorem dX11_dish_21 : decode cX11_dish 21 = .ok (.ireturn, 1) := by decide +kernel
theorem dX11_dish_22 : decode cX11_dish 22 = .ok (.aload_n 0, 1) := by decide +kernel
theorem dX11_dish_23 : decode cX11_dish 23 = .ok (.getfield 19, 3) := by decide +kernel
theorem dX11_dish_26 : decode cX11_dish 26 = .ok (.iload_n 1, 1) := by decide +kernel
theorem dX11_dish_27 : decode cX11_dish 27 = .ok (.iload_n 2, 1) := by decide +kernel
theorem dX11_dish_28 : decode cX11_dish 28 = .ok (.invokevirtual 166, 3) := by decide +kernel
theorem dX11_dish_31 : decode cX11_dish 31 = .ok (.ireturn, 1) := by decide +kernel
theorem dX11_guest_0 : decode cX11_guest 0 = .ok (.aload_n 0, 1) := by decide +kernel
theorem dX11_guest_1 : decode cX11_guest 1 = .ok (.getfield 19, 3) := by decide +kernel
theorem dX11_guest_4 : decode cX11_guest 4 = .ok (.iload_n 1, 1) := by decide +kernel
theorem dX11_guest_5 : decode cX11_guest 5 = .ok (.invokevirtual 170, 3) := by decide +kernel
theorem dX11_guest_8 : decode cX11_guest 8 = .ok (.ifCond .ne 13, 3) := by decide +kernel
theorem dX11_guest_11 : decode cX11_guest 11 = .ok (.new 173, 3) := by decide +kernel
theorem dX11_guest_14 : decode cX11_guest 14 = .ok (.dup, 1) := by decide +kernel
theorem dX11_guest_15 : decode cX11_guest 15 = .ok (.ldc 175, 2) := by decide +kernel
theorem dX11_guest_17 : decode cX11_guest 17 = .ok (.invokespecial 177, 3) := by decide +kernel
theorem dX11_guest_20 : decode cX11_guest 20 = .ok (.athrow, 1) := by decide +kernel
theorem dX11_guest_21 : decode cX11_guest 21 = .ok (.iload_n 2, 1) := by decide +kernel
theorem dX11_guest_22 : decode cX11_guest 22 = .ok (.tableswitch 114 0 5 #[38, 48, 61, 74, 84, 97], 38) := by decide +kernel
theorem dX11_guest_60 : decode cX11_guest 60 = .ok (.aload_n 0, 1) := by decide +kernel
theorem dX11_guest_61 : decode cX11_guest 61 = .ok (.getfield 19, 3) := by decide +kernel
theorem dX11_guest_64 : decode cX11_guest 64 = .ok (.iload_n 1, 1) := by decide +kernel
theorem dX11_guest_65 : decode cX11_guest 65 = .ok (.iconst 0, 1) := by decide +kernel
theorem dX11_guest_66 : decode cX11_guest 66 = .ok (.invokevirtual 180, 3) := by decide +kernel
theorem dX11_guest_69 : decode cX11_guest 69 = .ok (.ireturn, 1) := by decide +kernel
theorem dX11_guest_70 : decode cX11_guest 70 = .ok (.aload_n 0, 1) := by decide +kernel
theorem dX11_guest_71 : decode cX11_guest 71 = .ok (.getfield 50, 3) := by decide +kernel
theorem dX11_guest_74 : decode cX11_guest 74 = .ok (.getfield 156, 3) := by decide +kernel
theorem dX11_guest_77 : decode cX11_guest 77 = .ok (.bipush 13, 2) := by decide +kernel
theorem dX11_guest_79 : decode cX11_guest 79 = .ok (.iload_n 1, 1) := by decide +kernel
theorem dX11_guest_80 : decode cX11_guest 80 = .ok (.iadd, 1) := by decide +kernel
theorem dX11_guest_81 : decode cX11_guest 81 = .ok (.iaload, 1) := by decide +kernel
theorem dX11_guest_82 : decode cX11_guest 82 = .ok (.ireturn, 1) := by decide +kernel
theorem dX11_guest_83 : decode cX11_guest 83 = .ok (.aload_n 0, 1) := by decide +kernel
theorem dX11_guest_84 : decode cX11_guest 84 = .ok (.getfield 50, 3) := by decide +kernel
theorem dX11_guest_87 : decode cX11_guest 87 = .ok (.getfield 156, 3) := by decide +kernel
theorem dX11_guest_90 : decode cX11_guest 90 = .ok (.bipush 19, 2) := by decide +kernel
theorem dX11_guest_92 : decode cX11_guest 92 = .ok (.iload_n 1, 1) := by decide +kernel
theorem dX11_guest_93 : decode cX11_guest 93 = .ok (.iadd, 1) := by decide +kernel
theorem dX11_guest_94 : decode cX11_guest 94 = .ok (.iaload, 1) := by decide +kernel
theorem dX11_guest_95 : decode cX11_guest 95 = .ok (.ireturn, 1) := by decide +kernel
theorem dX11_guest_96 : decode cX11_guest 96 = .ok (.aload_n 0, 1) := by decide +kernel
theorem dX11_guest_97 : decode cX11_guest 97 = .ok (.getfield 19, 3) := by decide +kernel
theorem dX11_guest_100 : decode cX11_guest 100 = .ok (.iload_n 1, 1) := by decide +kernel
theorem dX11_guest_101 : decode cX11_guest 101 = .ok (.iconst 3, 1) := by decide +kernel
theorem dX11_guest_102 : decode cX11_guest 102 = .ok (.invokevirtual 180, 3) := by decide +kernel
theorem dX11_guest_105 : decode cX11_guest 105 = .ok (.ireturn, 1) := by decide +kernel
theorem dX11_guest_106 : decode cX11_guest 106 = .ok (.aload_n 0, 1) := by decide +kernel
theorem dX11_guest_107 : decode cX11_guest 107 = .ok (.getfield 50, 3) := by decide +kernel
theorem dX11_guest_110 : decode cX11_guest 110 = .ok (.getfield 156, 3) := by decide +kernel
theorem dX11_guest_113 : decode cX11_guest 113 = .ok (.bipush 25, 2) := by decide +kernel
theorem dX11_guest_115 : decode cX11_guest 115 = .ok (.iload_n 1, 1) := by decide +kernel
theorem dX11_guest_116 : decode cX11_guest 116 = .ok (.iadd, 1) := by decide +kernel
theorem dX11_guest_117 : decode cX11_guest 117 = .ok (.iaload, 1) := by decide +kernel
theorem dX11_guest_118 : decode cX11_guest 118 = .ok (.ireturn, 1) := by decide +kernel
theorem dX11_guest_119 : decode cX11_guest 119 = .ok (.aload_n 0, 1) := by decide +kernel
theorem dX11_guest_120 : decode cX11_guest 120 = .ok (.getfield 50, 3) := by decide +kernel
theorem dX11_guest_123 : decode cX11_guest 123 = .ok (.iload_n 1, 1) := by decide +kernel
theorem dX11_guest_124 : decode cX11_guest 124 = .ok (.invokevirtual 183, 3) := by decide +kernel
theorem dX11_guest_127 : decode cX11_guest 127 = .ok (.ifCond .eq 7, 3) := by decide +kernel
theorem dX11_guest_130 : decode cX11_guest 130 = .ok (.iconst 1, 1) := by decide +kernel
theorem dX11_guest_131 : decode cX11_guest 131 = .ok (.goto 4, 3) := by decide +kernel
theorem dX11_guest_134 : decode cX11_guest 134 = .ok (.iconst 0, 1) := by decide +kernel
theorem dX11_guest_135 : decode cX11_guest 135 = .ok (.ireturn, 1) := by decide +kernel
theorem dX11_guest_136 : decode cX11_guest 136 = .ok (.new 173, 3) := by decide +kernel
theorem dX11_guest_139 : decode cX11_guest 139 = .ok (.dup, 1) := by decide +kernel
theorem dX11_guest_140 : decode cX11_guest 140 = .ok (.ldc 186, 2) := by decide +kernel
theorem dX11_guest_142 : decode cX11_guest 142 = .ok (.invokespecial 177, 3) := by decide +kernel
theorem dX11_guest_145 : decode cX11_guest 145 = .ok (.athrow, 1) := by decide +kernel
theorem dX11_law_0 : decode cX11_law 0 = .ok (.iload_n 1, 1) := by decide +kernel
theorem dX11_law_1 : decode cX11_law 1 = .ok (.iconst (-1), 1) := by decide +kernel
theorem dX11_law_2 : decode cX11_law 2 = .ok (.if_icmp .lt 11, 3) := by decide +kernel
theorem dX11_law_5 : decode cX11_law 5 = .ok (.iload_n 1, 1) := by decide +kernel
theorem dX11_law_6 : decode cX11_law 6 = .ok (.aload_n 0, 1) := by decide +kernel
theorem dX11_law_7 : decode cX11_law 7 = .ok (.getfield 103, 3) := by decide +kernel
theorem dX11_law_10 : decode cX11_law 10 = .ok (.if_icmp .lt 5, 3) := by decide +kernel
theorem dX11_law_13 : decode cX11_law 13 = .ok (.iconst 0, 1) := by decide +kernel
theorem dX11_law_14 : decode cX11_law 14 = .ok (.ireturn, 1) := by decide +kernel
theorem dX11_law_15 : decode cX11_law 15 = .ok (.aload_n 0, 1) := by decide +kernel
theorem dX11_law_16 : decode cX11_law 16 = .ok (.iload_n 1, 1) := by decide +kernel
theorem dX11_law_17 : decode cX11_law 17 = .ok (.putfield 110, 3) := by decide +kernel
theorem dX11_law_20 : decode cX11_law 20 = .ok (.aload_n 0, 1) := by decide +kernel
theorem dX11_law_21 : decode cX11_law 21 = .ok (.getfield 69, 3) := by decide +kernel
theorem dX11_law_24 : decode cX11_law 24 = .ok (.iload_n 1, 1) := by decide +kernel
theorem dX11_law_25 : decode cX11_law 25 = .ok (.iconst (-1), 1) := by decide +kernel
theorem dX11_law_26 : decode cX11_law 26 = .ok (.if_icmp .ne 7, 3) := by decide +kernel
theorem dX11_law_29 : decode cX11_law 29 = .ok (.aconst_null, 1) := by decide +kernel
theorem dX11_law_30 : decode cX11_law 30 = .ok (.goto 9, 3) := by decide +kernel
theorem dX11_law_33 : decode cX11_law 33 = .ok (.aload_n 0, 1) := by decide +kernel
theorem dX11_law_34 : decode cX11_law 34 = .ok (.getfield 37, 3) := by decide +kernel
theorem dX11_law_37 : decode cX11_law 37 = .ok (.iload_n 1, 1) := by decide +kernel
theorem dX11_law_38 : decode cX11_law 38 = .ok (.aaload, 1) := by decide +kernel
theorem dX11_law_39 : decode cX11_law 39 = .ok (.putfield 188, 3) := by decide +kernel
theorem dX11_law_42 : decode cX11_law 42 = .ok (.iconst 1, 1) := by decide +kernel
theorem dX11_law_43 : decode cX11_law 43 = .ok (.ireturn, 1) := by decide +kernel
theorem dX11_fever_0 : decode cX11_fever 0 = .ok (.iload_n 1, 1) := by decide +kernel
theorem dX11_fever_1 : decode cX11_fever 1 = .ok (.ifCond .lt 17, 3) := by decide +kernel
theorem dX11_fever_4 : decode cX11_fever 4 = .ok (.iload_n 1, 1) := by decide +kernel
theorem dX11_fever_5 : decode cX11_fever 5 = .ok (.bipush 9, 2) := by decide +kernel
theorem dX11_fever_7 : decode cX11_fever 7 = .ok (.if_icmp .gt 11, 3) := by decide +kernel
theorem dX11_fever_10 : decode cX11_fever 10 = .ok (.iload_n 1, 1) := by decide +kernel
theorem dX11_fever_11 : decode cX11_fever 11 = .ok (.aload_n 0, 1) := by decide +kernel
theorem dX11_fever_12 : decode cX11_fever 12 = .ok (.getfield 113, 3) := by decide +kernel
theorem dX11_fever_15 : decode cX11_fever 15 = .ok (.if_icmp .ne 5, 3) := by decide +kernel
theorem dX11_fever_18 : decode cX11_fever 18 = .ok (.iconst 0, 1) := by decide +kernel
theorem dX11_fever_19 : decode cX11_fever 19 = .ok (.ireturn, 1) := by decide +kernel
theorem dX11_fever_20 : decode cX11_fever 20 = .ok (.aload_n 0, 1) := by decide +kernel
theorem dX11_fever_21 : decode cX11_fever 21 = .ok (.iload_n 1, 1) := by decide +kernel
theorem dX11_fever_22 : decode cX11_fever 22 = .ok (.putfield 113, 3) := by decide +kernel
theorem dX11_fever_25 : decode cX11_fever 25 = .ok (.iconst 1, 1) := by decide +kernel
theorem dX11_fever_26 : decode cX11_fever 26 = .ok (.ireturn, 1) := by decide +kernel
theorem dX11_day_0 : decode cX11_day 0 = .ok (.aload_n 0, 1) := by decide +kernel
theorem dX11_day_1 : decode cX11_day 1 = .ok (.iconst 0, 1) := by decide +kernel
theorem dX11_day_2 : decode cX11_day 2 = .ok (.iconst (-1), 1) := by decide +kernel
theorem dX11_day_3 : decode cX11_day 3 = .ok (.iconst (-1), 1) := by decide +kernel
theorem dX11_day_4 : decode cX11_day 4 = .ok (.invokevirtual 192, 3) := by decide +kernel
theorem dX11_day_7 : decode cX11_day 7 = .ok (.ifCond .eq 16, 3) := by decide +kernel
theorem dX11_day_10 : decode cX11_day 10 = .ok (.aload_n 0, 1) := by decide +kernel
theorem dX11_day_11 : decode cX11_day 11 = .ok (.getfield 69, 3) := by decide +kernel
theorem dX11_day_14 : decode cX11_day 14 = .ok (.getfield 196, 3) := by decide +kernel
theorem dX11_day_17 : decode cX11_day 17 = .ok (.invokestatic 199, 3) := by decide +kernel
theorem dX11_day_20 : decode cX11_day 20 = .ok (.goto 4, 3) := by decide +kernel
theorem dX11_day_23 : decode cX11_day 23 = .ok (.iconst (-1), 1) := by decide +kernel
theorem dX11_day_24 : decode cX11_day 24 = .ok (.ireturn, 1) := by decide +kernel
theorem dX11_choose_0 : decode cX11_choose 0 = .ok (.aload_n 0, 1) := by decide +kernel
theorem dX11_choose_1 : decode cX11_choose 1 = .ok (.getfield 50, 3) := by decide +kernel
theorem dX11_choose_4 : decode cX11_choose 4 = .ok (.getfield 156, 3) := by decide +kernel
theorem dX11_choose_7 : decode cX11_choose 7 = .ok (.iconst 3, 1) := by decide +kernel
theorem dX11_choose_8 : decode cX11_choose 8 = .ok (.iaload, 1) := by decide +kernel
theorem dX11_choose_9 : decode cX11_choose 9 = .ok (.istore_n 2, 1) := by decide +kernel
theorem dX11_choose_10 : decode cX11_choose 10 = .ok (.aload_n 0, 1) := by decide +kernel
theorem dX11_choose_11 : decode cX11_choose 11 = .ok (.iconst 1, 1) := by decide +kernel
theorem dX11_choose_12 : decode cX11_choose 12 = .ok (.iload_n 1, 1) := by decide +kernel
theorem dX11_choose_13 : decode cX11_choose 13 = .ok (.iconst (-1), 1) := by decide +kernel
theorem dX11_choose_14 : decode cX11_choose 14 = .ok (.invokevirtual 192, 3) := by decide +kernel
theorem dX11_choose_17 : decode cX11_choose 17 = .ok (.ifCond .eq 7, 3) := by decide +kernel
theorem dX11_choose_20 : decode cX11_choose 20 = .ok (.iload_n 2, 1) := by decide +kernel
theorem dX11_choose_21 : decode cX11_choose 21 = .ok (.goto 5, 3) := by decide +kernel
theorem dX11_choose_24 : decode cX11_choose 24 = .ok (.bipush (-2), 2) := by decide +kernel
theorem dX11_choose_26 : decode cX11_choose 26 = .ok (.ireturn, 1) := by decide +kernel
theorem dX11_ill_0 : decode cX11_ill 0 = .ok (.aload_n 0, 1) := by decide +kernel
theorem dX11_ill_1 : decode cX11_ill 1 = .ok (.iconst 2, 1) := by decide +kernel
theorem dX11_ill_2 : decode cX11_ill 2 = .ok (.iconst (-1), 1) := by decide +kernel
theorem dX11_ill_3 : decode cX11_ill 3 = .ok (.iconst (-1), 1) := by decide +kernel
theorem dX11_ill_4 : decode cX11_ill 4 = .ok (.invokevirtual 192, 3) := by decide +kernel
theorem dX11_ill_7 : decode cX11_ill 7 = .ok (.ifCond .eq 15, 3) := by decide +kernel
theorem dX11_ill_10 : decode cX11_ill 10 = .ok (.aload_n 0, 1) := by decide +kernel
theorem dX11_ill_11 : decode cX11_ill 11 = .ok (.getfield 50, 3) := by decide +kernel
theorem dX11_ill_14 : decode cX11_ill 14 = .ok (.getfield 156, 3) := by decide +kernel
theorem dX11_ill_17 : decode cX11_ill 17 = .ok (.iconst 1, 1) := by decide +kernel
theorem dX11_ill_18 : decode cX11_ill 18 = .ok (.iaload, 1) := by decide +kernel
theorem dX11_ill_19 : decode cX11_ill 19 = .ok (.goto 4, 3) := by decide +kernel
theorem dX11_ill_22 : decode cX11_ill 22 = .ok (.iconst (-1), 1) := by decide +kernel
theorem dX11_ill_23 : decode cX11_ill 23 = .ok (.ireturn, 1) := by decide +kernel
theorem dX11_makeUp_0 : decode cX11_makeUp 0 = .ok (.aload_n 0, 1) := by decide +kernel
theorem dX11_makeUp_1 : decode cX11_makeUp 1 = .ok (.iconst 3, 1) := by decide +kernel
theorem dX11_makeUp_2 : decode cX11_makeUp 2 = .ok (.iconst (-1), 1) := by decide +kernel
theorem dX11_makeUp_3 : decode cX11_makeUp 3 = .ok (.iconst (-1), 1) := by decide +kernel
theorem dX11_makeUp_4 : decode cX11_makeUp 4 = .ok (.invokevirtual 192, 3) := by decide +kernel
theorem dX11_makeUp_7 : decode cX11_makeUp 7 = .ok (.ifCond .eq 15, 3) := by decide +kernel
theorem dX11_makeUp_10 : decode cX11_makeUp 10 = .ok (.aload_n 0, 1) := by decide +kernel
theorem dX11_makeUp_11 : decode cX11_makeUp 11 = .ok (.getfield 50, 3) := by decide +kernel
theorem dX11_makeUp_14 : decode cX11_makeUp 14 = .ok (.getfield 156, 3) := by decide +kernel
theorem dX11_makeUp_17 : decode cX11_makeUp 17 = .ok (.iconst 1, 1) := by decide +kernel
theorem dX11_makeUp_18 : decode cX11_makeUp 18 = .ok (.iaload, 1) := by decide +kernel
theorem dX11_makeUp_19 : decode cX11_makeUp 19 = .ok (.goto 4, 3) := by decide +kernel
theorem dX11_makeUp_22 : decode cX11_makeUp 22 = .ok (.iconst (-1), 1) := by decide +kernel
theorem dX11_makeUp_23 : decode cX11_makeUp 23 = .ok (.ireturn, 1) := by decide +kernel
theorem dX11_stay_0 : decode cX11_stay 0 = .ok (.aload_n 0, 1) := by decide +kernel
theorem dX11_stay_1 : decode cX11_stay 1 = .ok (.iconst 4, 1) := by decide +kernel
theorem dX11_stay_2 : decode cX11_stay 2 = .ok (.iload_n 1, 1) := by decide +kernel
theorem dX11_stay_3 : decode cX11_stay 3 = .ok (.iload_n 2, 1) := by decide +kernel
theorem dX11_stay_4 : decode cX11_stay 4 = .ok (.invokevirtual 192, 3) := by decide +kernel
theorem dX11_stay_7 : decode cX11_stay 7 = .ok (.ifCond .eq 18, 3) := by decide +kernel
theorem dX11_stay_10 : decode cX11_stay 10 = .ok (.aload_n 0, 1) := by decide +kernel
theorem dX11_stay_11 : decode cX11_stay 11 = .ok (.getfield 50, 3) := by decide +kernel
theorem dX11_stay_14 : decode cX11_stay 14 = .ok (.getfield 156, 3) := by decide +kernel
theorem dX11_stay_17 : decode cX11_stay 17 = .ok (.bipush 13, 2) := by decide +kernel
theorem dX11_stay_19 : decode cX11_stay 19 = .ok (.iload_n 1, 1) := by decide +kernel
theorem dX11_stay_20 : decode cX11_stay 20 = .ok (.iadd, 1) := by decide +kernel
theorem dX11_stay_21 : decode cX11_stay 21 = .ok (.iaload, 1) := by decide +kernel
theorem dX11_stay_22 : decode cX11_stay 22 = .ok (.goto 4, 3) := by decide +kernel
theorem dX11_stay_25 : decode cX11_stay 25 = .ok (.iconst (-1), 1) := by decide +kernel
theorem dX11_stay_26 : decode cX11_stay 26 = .ok (.ireturn, 1) := by decide +kernel
theorem dX11_sign_0 : decode cX11_sign 0 = .ok (.aload_n 0, 1) := by decide +kernel
theorem dX11_sign_1 : decode cX11_sign 1 = .ok (.iconst 5, 1) := by decide +kernel
theorem dX11_sign_2 : decode cX11_sign 2 = .ok (.iload_n 1, 1) := by decide +kernel
theorem dX11_sign_3 : decode cX11_sign 3 = .ok (.iload_n 2, 1) := by decide +kernel
theorem dX11_sign_4 : decode cX11_sign 4 = .ok (.invokevirtual 192, 3) := by decide +kernel
theorem dX11_sign_7 : decode cX11_sign 7 = .ok (.ifCond .eq 18, 3) := by decide +kernel
theorem dX11_sign_10 : decode cX11_sign 10 = .ok (.aload_n 0, 1) := by decide +kernel
theorem dX11_sign_11 : decode cX11_sign 11 = .ok (.getfield 54, 3) := by decide +kernel
theorem dX11_sign_14 : decode cX11_sign 14 = .ok (.getfield 156, 3) := by decide +kernel
theorem dX11_sign_17 : decode cX11_sign 17 = .ok (.bipush 19, 2) := by decide +kernel
theorem dX11_sign_19 : decode cX11_sign 19 = .ok (.iload_n 1, 1) := by decide +kernel
theorem dX11_sign_20 : decode cX11_sign 20 = .ok (.iadd, 1) := by decide +kernel
theorem dX11_sign_21 : decode cX11_sign 21 = .ok (.iaload, 1) := by decide +kernel
theorem dX11_sign_22 : decode cX11_sign 22 = .ok (.goto 4, 3) := by decide +kernel
theorem dX11_sign_25 : decode cX11_sign 25 = .ok (.iconst (-1), 1) := by decide +kernel
theorem dX11_sign_26 : decode cX11_sign 26 = .ok (.ireturn, 1) := by decide +kernel
theorem dX11_years_0 : decode cX11_years 0 = .ok (.aload_n 0, 1) := by decide +kernel
theorem dX11_years_1 : decode cX11_years 1 = .ok (.getfield 116, 3) := by decide +kernel
theorem dX11_years_4 : decode cX11_years 4 = .ok (.ifCond .eq 31, 3) := by decide +kernel
theorem dX11_years_7 : decode cX11_years 7 = .ok (.iload_n 1, 1) := by decide +kernel
theorem dX11_years_8 : decode cX11_years 8 = .ok (.iconst 1, 1) := by decide +kernel
theorem dX11_years_9 : decode cX11_years 9 = .ok (.if_icmp .lt 26, 3) := by decide +kernel
theorem dX11_years_12 : decode cX11_years 12 = .ok (.iload_n 1, 1) := by decide +kernel
theorem dX11_years_13 : decode cX11_years 13 = .ok (.bipush 30, 2) := by decide +kernel
theorem dX11_years_15 : decode cX11_years 15 = .ok (.if_icmp .gt 20, 3) := by decide +kernel
theorem dX11_years_18 : decode cX11_years 18 = .ok (.aload_n 0, 1) := by decide +kernel
theorem dX11_years_19 : decode cX11_years 19 = .ok (.getfield 50, 3) := by decide +kernel
theorem dX11_years_22 : decode cX11_years 22 = .ok (.getfield 156, 3) := by decide +kernel
theorem dX11_years_25 : decode cX11_years 25 = .ok (.iconst 0, 1) := by decide +kernel
theorem dX11_years_26 : decode cX11_years 26 = .ok (.iaload, 1) := by decide +kernel
theorem dX11_years_27 : decode cX11_years 27 = .ok (.iload_n 1, 1) := by decide +kernel
theorem dX11_years_28 : decode cX11_years 28 = .ok (.iadd, 1) := by decide +kernel
theorem dX11_years_29 : decode cX11_years 29 = .ok (.sipush 999, 3) := by decide +kernel
theorem dX11_years_32 : decode cX11_years 32 = .ok (.if_icmp .le 5, 3) := by decide +kernel
theorem dX11_years_35 : decode cX11_years 35 = .ok (.iconst (-1), 1) := by decide +kernel
theorem dX11_years_36 : decode cX11_years 36 = .ok (.ireturn, 1) := by decide +kernel
theorem dX11_years_37 : decode cX11_years 37 = .ok (.aload_n 0, 1) := by decide +kernel
theorem dX11_years_38 : decode cX11_years 38 = .ok (.lload_n 2, 1) := by decide +kernel
theorem dX11_years_39 : decode cX11_years 39 = .ok (.putfield 120, 3) := by decide +kernel
theorem dX11_years_42 : decode cX11_years 42 = .ok (.iconst 0, 1) := by decide +kernel
theorem dX11_years_43 : decode cX11_years 43 = .ok (.istore 4, 2) := by decide +kernel
theorem dX11_years_45 : decode cX11_years 45 = .ok (.iload 4, 2) := by decide +kernel
theorem dX11_years_47 : decode cX11_years 47 = .ok (.iload_n 1, 1) := by decide +kernel
theorem dX11_years_48 : decode cX11_years 48 = .ok (.if_icmp .ge 61, 3) := by decide +kernel
theorem dX11_years_51 : decode cX11_years 51 = .ok (.aload_n 0, 1) := by decide +kernel
theorem dX11_years_52 : decode cX11_years 52 = .ok (.getfield 54, 3) := by decide +kernel
theorem dX11_years_55 : decode cX11_years 55 = .ok (.aload_n 0, 1) := by decide +kernel
theorem dX11_years_56 : decode cX11_years 56 = .ok (.getfield 50, 3) := by decide +kernel
theorem dX11_years_59 : decode cX11_years 59 = .ok (.invokevirtual 204, 3) := by decide +kernel
theorem dX11_years_62 : decode cX11_years 62 = .ok (.aload_n 0, 1) := by decide +kernel
theorem dX11_years_63 : decode cX11_years 63 = .ok (.invokevirtual 208, 3) := by decide +kernel
theorem dX11_years_66 : decode cX11_years 66 = .ok (.aload_n 0, 1) := by decide +kernel
theorem dX11_years_67 : decode cX11_years 67 = .ok (.getfield 69, 3) := by decide +kernel
theorem dX11_years_70 : decode cX11_years 70 = .ok (.aload_n 0, 1) := by decide +kernel
theorem dX11_years_71 : decode cX11_years 71 = .ok (.getfield 50, 3) := by decide +kernel
theorem dX11_years_74 : decode cX11_years 74 = .ok (.invokevirtual 211, 3) := by decide +kernel
theorem dX11_years_77 : decode cX11_years 77 = .ok (.aload_n 0, 1) := by decide +kernel
theorem dX11_years_78 : decode cX11_years 78 = .ok (.getfield 60, 3) := by decide +kernel
theorem dX11_years_81 : decode cX11_years 81 = .ok (.aload_n 0, 1) := by decide +kernel
theorem dX11_years_82 : decode cX11_years 82 = .ok (.getfield 54, 3) := by decide +kernel
theorem dX11_years_85 : decode cX11_years 85 = .ok (.invokevirtual 214, 3) := by decide +kernel
theorem dX11_years_88 : decode cX11_years 88 = .ok (.aload_n 0, 1) := by decide +kernel
theorem dX11_years_89 : decode cX11_years 89 = .ok (.getfield 60, 3) := by decide +kernel
theorem dX11_years_92 : decode cX11_years 92 = .ok (.aload_n 0, 1) := by decide +kernel
theorem dX11_years_93 : decode cX11_years 93 = .ok (.getfield 50, 3) := by decide +kernel
theorem dX11_years_96 : decode cX11_years 96 = .ok (.aload_n 0, 1) := by decide +kernel
theorem dX11_years_97 : decode cX11_years 97 = .ok (.getfield 69, 3) := by decide +kernel
theorem dX11_years_100 : decode cX11_years 100 = .ok (.invokevirtual 217, 3) := by decide +kernel
theorem dX11_years_103 : decode cX11_years 103 = .ok (.iinc 4 1, 3) := by decide +kernel
theorem dX11_years_106 : decode cX11_years 106 = .ok (.goto (-61), 3) := by decide +kernel
theorem dX11_years_109 : decode cX11_years 109 = .ok (.aload_n 0, 1) := by decide +kernel
theorem dX11_years_110 : decode cX11_years 110 = .ok (.getfield 50, 3) := by decide +kernel
theorem dX11_years_113 : decode cX11_years 113 = .ok (.getfield 156, 3) := by decide +kernel
theorem dX11_years_116 : decode cX11_years 116 = .ok (.iconst 0, 1) := by decide +kernel
theorem dX11_years_117 : decode cX11_years 117 = .ok (.iaload, 1) := by decide +kernel
theorem dX11_years_118 : decode cX11_years 118 = .ok (.ireturn, 1) := by decide +kernel
theorem dX11_undo_0 : decode cX11_undo 0 = .ok (.aload_n 0, 1) := by decide +kernel
theorem dX11_undo_1 : decode cX11_undo 1 = .ok (.getfield 60, 3) := by decide +kernel
theorem dX11_undo_4 : decode cX11_undo 4 = .ok (.aload_n 0, 1) := by decide +kernel
theorem dX11_undo_5 : decode cX11_undo 5 = .ok (.getfield 50, 3) := by decide +kernel
theorem dX11_undo_8 : decode cX11_undo 8 = .ok (.invokevirtual 221, 3) := by decide +kernel
theorem dX11_undo_11 : decode cX11_undo 11 = .ok (.ifCond .eq 13, 3) := by decide +kernel
theorem dX11_undo_14 : decode cX11_undo 14 = .ok (.aload_n 0, 1) := by decide +kernel
theorem dX11_undo_15 : decode cX11_undo 15 = .ok (.getfield 60, 3) := by decide +kernel
theorem dX11_undo_18 : decode cX11_undo 18 = .ok (.getfield 225, 3) := by decide +kernel
theorem dX11_undo_21 : decode cX11_undo 21 = .ok (.goto 4, 3) := by decide +kernel
theorem dX11_undo_24 : decode cX11_undo 24 = .ok (.iconst (-1), 1) := by decide +kernel
theorem dX11_undo_25 : decode cX11_undo 25 = .ok (.ireturn, 1) := by decide +kernel
theorem dX11_log_0 : decode cX11_log 0 = .ok (.aload_n 0, 1) := by decide +kernel
theorem dX11_log_1 : decode cX11_log 1 = .ok (.getfield 50, 3) := by decide +kernel
theorem dX11_log_4 : decode cX11_log 4 = .ok (.getfield 156, 3) := by decide +kernel
theorem dX11_log_7 : decode cX11_log 7 = .ok (.iconst 0, 1) := by decide +kernel
theorem dX11_log_8 : decode cX11_log 8 = .ok (.iaload, 1) := by decide +kernel
theorem dX11_log_9 : decode cX11_log 9 = .ok (.istore_n 3, 1) := by decide +kernel
theorem dX11_log_10 : decode cX11_log 10 = .ok (.iload_n 1, 1) := by decide +kernel
theorem dX11_log_11 : decode cX11_log 11 = .ok (.ifCond .lt 20, 3) := by decide +kernel
theorem dX11_log_14 : decode cX11_log 14 = .ok (.iload_n 1, 1) := by decide +kernel
theorem dX11_log_15 : decode cX11_log 15 = .ok (.iload_n 3, 1) := by decide +kernel
theorem dX11_log_16 : decode cX11_log 16 = .ok (.invokestatic 228, 3) := by decide +kernel
theorem dX11_log_19 : decode cX11_log 19 = .ok (.if_icmp .ge 12, 3) := by decide +kernel
theorem dX11_log_22 : decode cX11_log 22 = .ok (.iload_n 2, 1) := by decide +kernel
theorem dX11_log_23 : decode cX11_log 23 = .ok (.ifCond .lt 8, 3) := by decide +kernel
theorem dX11_log_26 : decode cX11_log 26 = .ok (.iload_n 2, 1) := by decide +kernel
theorem dX11_log_27 : decode cX11_log 27 = .ok (.iconst 3, 1) := by decide +kernel
theorem dX11_log_28 : decode cX11_log 28 = .ok (.if_icmp .lt 6, 3) := by decide +kernel
theorem dX11_log_31 : decode cX11_log 31 = .ok (.ldc 231, 2) := by decide +kernel
theorem dX11_log_33 : decode cX11_log 33 = .ok (.ireturn, 1) := by decide +kernel
theorem dX11_log_34 : decode cX11_log 34 = .ok (.aload_n 0, 1) := by decide +kernel
theorem dX11_log_35 : decode cX11_log 35 = .ok (.getfield 60, 3) := by decide +kernel
theorem dX11_log_38 : decode cX11_log 38 = .ok (.iload_n 3, 1) := by decide +kernel
theorem dX11_log_39 : decode cX11_log 39 = .ok (.iconst 1, 1) := by decide +kernel
theorem dX11_log_40 : decode cX11_log 40 = .ok (.isub, 1) := by decide +kernel
theorem dX11_log_41 : decode cX11_log 41 = .ok (.iload_n 1, 1) := by decide +kernel
theorem dX11_log_42 : decode cX11_log 42 = .ok (.isub, 1) := by decide +kernel
theorem dX11_log_43 : decode cX11_log 43 = .ok (.iload_n 2, 1) := by decide +kernel
theorem dX11_log_44 : decode cX11_log 44 = .ok (.invokevirtual 232, 3) := by decide +kernel
theorem dX11_log_47 : decode cX11_log 47 = .ok (.ireturn, 1) := by decide +kernel
theorem dX11_step_0 : decode cX11_step 0 = .ok (.aload_n 0, 1) := by decide +kernel
theorem dX11_step_1 : decode cX11_step 1 = .ok (.iload_n 1, 1) := by decide +kernel
theorem dX11_step_2 : decode cX11_step 2 = .ok (.invokevirtual 235, 3) := by decide +kernel
theorem dX11_step_5 : decode cX11_step 5 = .ok (.astore 4, 2) := by decide +kernel
theorem dX11_step_7 : decode cX11_step 7 = .ok (.aload 4, 2) := by decide +kernel
theorem dX11_step_9 : decode cX11_step 9 = .ok (.ifnull 25, 3) := by decide +kernel
theorem dX11_step_12 : decode cX11_step 12 = .ok (.iload_n 2, 1) := by decide +kernel
theorem dX11_step_13 : decode cX11_step 13 = .ok (.ifCond .lt 21, 3) := by decide +kernel
theorem dX11_step_16 : decode cX11_step 16 = .ok (.iload_n 2, 1) := by decide +kernel
theorem dX11_step_17 : decode cX11_step 17 = .ok (.aload 4, 2) := by decide +kernel
theorem dX11_step_19 : decode cX11_step 19 = .ok (.getfield 239, 3) := by decide +kernel
theorem dX11_step_22 : decode cX11_step 22 = .ok (.if_icmp .ge 12, 3) := by decide +kernel
theorem dX11_step_25 : decode cX11_step 25 = .ok (.iload_n 3, 1) := by decide +kernel
theorem dX11_step_26 : decode cX11_step 26 = .ok (.ifCond .lt 8, 3) := by decide +kernel
theorem dX11_step_29 : decode cX11_step 29 = .ok (.iload_n 3, 1) := by decide +kernel
theorem dX11_step_30 : decode cX11_step 30 = .ok (.iconst 3, 1) := by decide +kernel
theorem dX11_step_31 : decode cX11_step 31 = .ok (.if_icmp .lt 6, 3) := by decide +kernel
theorem dX11_step_34 : decode cX11_step 34 = .ok (.ldc 231, 2) := by decide +kernel
theorem dX11_step_36 : decode cX11_step 36 = .ok (.ireturn, 1) := by decide +kernel
theorem dX11_step_37 : decode cX11_step 37 = .ok (.aload 4, 2) := by decide +kernel
theorem dX11_step_39 : decode cX11_step 39 = .ok (.iload_n 2, 1) := by decide +kernel
theorem dX11_step_40 : decode cX11_step 40 = .ok (.iload_n 3, 1) := by decide +kernel
theorem dX11_step_41 : decode cX11_step 41 = .ok (.invokevirtual 242, 3) := by decide +kernel
theorem dX11_step_44 : decode cX11_step 44 = .ok (.ireturn, 1) := by decide +kernel
theorem dX11_run_0 : decode cX11_run 0 = .ok (.aload_n 0, 1) := by decide +kernel
theorem dX11_run_1 : decode cX11_run 1 = .ok (.iload_n 1, 1) := by decide +kernel
theorem dX11_run_2 : decode cX11_run 2 = .ok (.invokevirtual 235, 3) := by decide +kernel
theorem dX11_run_5 : decode cX11_run 5 = .ok (.astore_n 3, 1) := by decide +kernel
theorem dX11_run_6 : decode cX11_run 6 = .ok (.aload_n 3, 1) := by decide +kernel
theorem dX11_run_7 : decode cX11_run 7 = .ok (.ifnull 19, 3) := by decide +kernel
theorem dX11_run_10 : decode cX11_run 10 = .ok (.aload_n 0, 1) := by decide +kernel
theorem dX11_run_11 : decode cX11_run 11 = .ok (.getfield 116, 3) := by decide +kernel
theorem dX11_run_14 : decode cX11_run 14 = .ok (.ifCond .eq 12, 3) := by decide +kernel
theorem dX11_run_17 : decode cX11_run 17 = .ok (.iload_n 2, 1) := by decide +kernel
theorem dX11_run_18 : decode cX11_run 18 = .ok (.ifCond .lt 8, 3) := by decide +kernel
theorem dX11_run_21 : decode cX11_run 21 = .ok (.iload_n 2, 1) := by decide +kernel
theorem dX11_run_22 : decode cX11_run 22 = .ok (.iconst 1, 1) := by decide +kernel
theorem dX11_run_23 : decode cX11_run 23 = .ok (.if_icmp .le 6, 3) := by decide +kernel
theorem dX11_run_26 : decode cX11_run 26 = .ok (.ldc 231, 2) := by decide +kernel
theorem dX11_run_28 : decode cX11_run 28 = .ok (.ireturn, 1) := by decide +kernel
theorem dX11_run_29 : decode cX11_run 29 = .ok (.aload_n 0, 1) := by decide +kernel
theorem dX11_run_30 : decode cX11_run 30 = .ok (.getfield 87, 3) := by decide +kernel
theorem dX11_run_33 : decode cX11_run 33 = .ok (.aload_n 0, 1) := by decide +kernel
theorem dX11_run_34 : decode cX11_run 34 = .ok (.getfield 50, 3) := by decide +kernel
theorem dX11_run_37 : decode cX11_run 37 = .ok (.aload_n 3, 1) := by decide +kernel
theorem dX11_run_38 : decode cX11_run 38 = .ok (.invokevirtual 245, 3) := by decide +kernel
theorem dX11_run_41 : decode cX11_run 41 = .ok (.istore 4, 2) := by decide +kernel
theorem dX11_run_43 : decode cX11_run 43 = .ok (.iload_n 2, 1) := by decide +kernel
theorem dX11_run_44 : decode cX11_run 44 = .ok (.iconst 1, 1) := by decide +kernel
theorem dX11_run_45 : decode cX11_run 45 = .ok (.if_icmp .ne 11, 3) := by decide +kernel
theorem dX11_run_48 : decode cX11_run 48 = .ok (.aload_n 0, 1) := by decide +kernel
theorem dX11_run_49 : decode cX11_run 49 = .ok (.getfield 87, 3) := by decide +kernel
theorem dX11_run_52 : decode cX11_run 52 = .ok (.getfield 249, 3) := by decide +kernel
theorem dX11_run_55 : decode cX11_run 55 = .ok (.ireturn, 1) := by decide +kernel
theorem dX11_run_56 : decode cX11_run 56 = .ok (.iload 4, 2) := by decide +kernel
theorem dX11_run_58 : decode cX11_run 58 = .ok (.aload_n 3, 1) := by decide +kernel
theorem dX11_run_59 : decode cX11_run 59 = .ok (.getfield 239, 3) := by decide +kernel
theorem dX11_run_62 : decode cX11_run 62 = .ok (.if_icmp .ne 7, 3) := by decide +kernel
theorem dX11_run_65 : decode cX11_run 65 = .ok (.iconst (-1), 1) := by decide +kernel
theorem dX11_run_66 : decode cX11_run 66 = .ok (.goto 5, 3) := by decide +kernel
theorem dX11_run_69 : decode cX11_run 69 = .ok (.iload 4, 2) := by decide +kernel
theorem dX11_run_71 : decode cX11_run 71 = .ok (.ireturn, 1) := by decide +kernel
theorem dX11_perform_0 : decode cX11_perform 0 = .ok (.aload_n 0, 1) := by decide +kernel
theorem dX11_perform_1 : decode cX11_perform 1 = .ok (.iload_n 1, 1) := by decide +kernel
theorem dX11_perform_2 : decode cX11_perform 2 = .ok (.invokevirtual 235, 3) := by decide +kernel
theorem dX11_perform_5 : decode cX11_perform 5 = .ok (.astore_n 2, 1) := by decide +kernel
theorem dX11_perform_6 : decode cX11_perform 6 = .ok (.aload_n 2, 1) := by decide +kernel
theorem dX11_perform_7 : decode cX11_perform 7 = .ok (.ifnull 10, 3) := by decide +kernel
theorem dX11_perform_10 : decode cX11_perform 10 = .ok (.aload_n 0, 1) := by decide +kernel
theorem dX11_perform_11 : decode cX11_perform 11 = .ok (.getfield 116, 3) := by decide +kernel
theorem dX11_perform_14 : decode cX11_perform 14 = .ok (.ifCond .ne 5, 3) := by decide +kernel
theorem dX11_perform_17 : decode cX11_perform 17 = .ok (.iconst (-1), 1) := by decide +kernel
theorem dX11_perform_18 : decode cX11_perform 18 = .ok (.ireturn, 1) := by decide +kernel
theorem dX11_perform_19 : decode cX11_perform 19 = .ok (.iconst 0, 1) := by decide +kernel
theorem dX11_perform_20 : decode cX11_perform 20 = .ok (.istore_n 3, 1) := by decide +kernel
theorem dX11_perform_21 : decode cX11_perform 21 = .ok (.iload_n 3, 1) := by decide +kernel
theorem dX11_perform_22 : decode cX11_perform 22 = .ok (.aload_n 2, 1) := by decide +kernel
theorem dX11_perform_23 : decode cX11_perform 23 = .ok (.getfield 239, 3) := by decide +kernel
theorem dX11_perform_26 : decode cX11_perform 26 = .ok (.if_icmp .ge 36, 3) := by decide +kernel
theorem dX11_perform_29 : decode cX11_perform 29 = .ok (.aload_n 0, 1) := by decide +kernel
theorem dX11_perform_30 : decode cX11_perform 30 = .ok (.aload_n 2, 1) := by decide +kernel
theorem dX11_perform_31 : decode cX11_perform 31 = .ok (.iload_n 3, 1) := by decide +kernel
theorem dX11_perform_32 : decode cX11_perform 32 = .ok (.iconst 0, 1) := by decide +kernel
theorem dX11_perform_33 : decode cX11_perform 33 = .ok (.invokevirtual 242, 3) := by decide +kernel
theorem dX11_perform_36 : decode cX11_perform 36 = .ok (.aload_n 2, 1) := by decide +kernel
theorem dX11_perform_37 : decode cX11_perform 37 = .ok (.iload_n 3, 1) := by decide +kernel
theorem dX11_perform_38 : decode cX11_perform 38 = .ok (.iconst 1, 1) := by decide +kernel
theorem dX11_perform_39 : decode cX11_perform 39 = .ok (.invokevirtual 242, 3) := by decide +kernel
theorem dX11_perform_42 : decode cX11_perform 42 = .ok (.aload_n 2, 1) := by decide +kernel
theorem dX11_perform_43 : decode cX11_perform 43 = .ok (.iload_n 3, 1) := by decide +kernel
theorem dX11_perform_44 : decode cX11_perform 44 = .ok (.iconst 2, 1) := by decide +kernel
theorem dX11_perform_45 : decode cX11_perform 45 = .ok (.invokevirtual 242, 3) := by decide +kernel
theorem dX11_perform_48 : decode cX11_perform 48 = .ok (.invokevirtual 192, 3) := by decide +kernel
theorem dX11_perform_51 : decode cX11_perform 51 = .ok (.ifCond .ne 5, 3) := by decide +kernel
theorem dX11_perform_54 : decode cX11_perform 54 = .ok (.iload_n 3, 1) := by decide +kernel
theorem dX11_perform_55 : decode cX11_perform 55 = .ok (.ireturn, 1) := by decide +kernel
theorem dX11_perform_56 : decode cX11_perform 56 = .ok (.iinc 3 1, 3) := by decide +kernel
theorem dX11_perform_59 : decode cX11_perform 59 = .ok (.goto (-38), 3) := by decide +kernel
theorem dX11_perform_62 : decode cX11_perform 62 = .ok (.aload_n 2, 1) := by decide +kernel
theorem dX11_perform_63 : decode cX11_perform 63 = .ok (.getfield 239, 3) := by decide +kernel
theorem dX11_perform_66 : decode cX11_perform 66 = .ok (.ireturn, 1) := by decide +kernel
theorem dX11_serves_0 : decode cX11_serves 0 = .ok (.aload_n 0, 1) := by decide +kernel
theorem dX11_serves_1 : decode cX11_serves 1 = .ok (.getfield 116, 3) := by decide +kernel
theorem dX11_serves_4 : decode cX11_serves 4 = .ok (.ifCond .eq 13, 3) := by decide +kernel
theorem dX11_serves_7 : decode cX11_serves 7 = .ok (.iload_n 1, 1) := by decide +kernel
theorem dX11_serves_8 : decode cX11_serves 8 = .ok (.ifCond .lt 9, 3) := by decide +kernel
theorem dX11_serves_11 : decode cX11_serves 11 = .ok (.iload_n 1, 1) := by decide +kernel
theorem dX11_serves_12 : decode cX11_serves 12 = .ok (.bipush 20, 2) := by decide +kernel
theorem dX11_serves_14 : decode cX11_serves 14 = .ok (.if_icmp .le 5, 3) := by decide +kernel
theorem dX11_serves_17 : decode cX11_serves 17 = .ok (.iconst (-1), 1) := by decide +kernel
theorem dX11_serves_18 : decode cX11_serves 18 = .ok (.ireturn, 1) := by decide +kernel
theorem dX11_serves_19 : decode cX11_serves 19 = .ok (.aload_n 0, 1) := by decide +kernel
theorem dX11_serves_20 : decode cX11_serves 20 = .ok (.getfield 87, 3) := by decide +kernel
theorem dX11_serves_23 : decode cX11_serves 23 = .ok (.aload_n 0, 1) := by decide +kernel
theorem dX11_serves_24 : decode cX11_serves 24 = .ok (.getfield 50, 3) := by decide +kernel
theorem dX11_serves_27 : decode cX11_serves 27 = .ok (.iload_n 1, 1) := by decide +kernel
theorem dX11_serves_28 : decode cX11_serves 28 = .ok (.invokevirtual 252, 3) := by decide +kernel
theorem dX11_serves_31 : decode cX11_serves 31 = .ok (.aload_n 0, 1) := by decide +kernel
theorem dX11_serves_32 : decode cX11_serves 32 = .ok (.getfield 69, 3) := by decide +kernel
theorem dX11_serves_35 : decode cX11_serves 35 = .ok (.getfield 256, 3) := by decide +kernel
theorem dX11_serves_38 : decode cX11_serves 38 = .ok (.iconst (-1), 1) := by decide +kernel
theorem dX11_serves_39 : decode cX11_serves 39 = .ok (.if_icmp .ne 5, 3) := by decide +kernel
theorem dX11_serves_42 : decode cX11_serves 42 = .ok (.iconst (-1), 1) := by decide +kernel
theorem dX11_serves_43 : decode cX11_serves 43 = .ok (.ireturn, 1) := by decide +kernel
theorem dX11_serves_44 : decode cX11_serves 44 = .ok (.iload_n 2, 1) := by decide +kernel
theorem dX11_serves_45 : decode cX11_serves 45 = .ok (.tableswitch 51 0 2 #[27, 35, 43], 27) := by decide +kernel
theorem dX11_serves_72 : decode cX11_serves 72 = .ok (.aload_n 0, 1) := by decide +kernel
theorem dX11_serves_73 : decode cX11_serves 73 = .ok (.getfield 69, 3) := by decide +kernel
theorem dX11_serves_76 : decode cX11_serves 76 = .ok (.getfield 256, 3) := by decide +kernel
theorem dX11_serves_79 : decode cX11_serves 79 = .ok (.ireturn, 1) := by decide +kernel
theorem dX11_serves_80 : decode cX11_serves 80 = .ok (.aload_n 0, 1) := by decide +kernel
theorem dX11_serves_81 : decode cX11_serves 81 = .ok (.getfield 69, 3) := by decide +kernel
theorem dX11_serves_84 : decode cX11_serves 84 = .ok (.getfield 259, 3) := by decide +kernel
theorem dX11_serves_87 : decode cX11_serves 87 = .ok (.ireturn, 1) := by decide +kernel
theorem dX11_serves_88 : decode cX11_serves 88 = .ok (.aload_n 0, 1) := by decide +kernel
theorem dX11_serves_89 : decode cX11_serves 89 = .ok (.getfield 69, 3) := by decide +kernel
theorem dX11_serves_92 : decode cX11_serves 92 = .ok (.getfield 262, 3) := by decide +kernel
theorem dX11_serves_95 : decode cX11_serves 95 = .ok (.ireturn, 1) := by decide +kernel
theorem dX11_serves_96 : decode cX11_serves 96 = .ok (.iconst (-1), 1) := by decide +kernel
theorem dX11_serves_97 : decode cX11_serves 97 = .ok (.ireturn, 1) := by decide +kernel
theorem dX11_there_0 : decode cX11_there 0 = .ok (.aload_n 0, 1) := by decide +kernel
theorem dX11_there_1 : decode cX11_there 1 = .ok (.getfield 116, 3) := by decide +kernel
theorem dX11_there_4 : decode cX11_there 4 = .ok (.ifCond .eq 13, 3) := by decide +kernel
theorem dX11_there_7 : decode cX11_there 7 = .ok (.iload_n 1, 1) := by decide +kernel
theorem dX11_there_8 : decode cX11_there 8 = .ok (.ifCond .lt 9, 3) := by decide +kernel
theorem dX11_there_11 : decode cX11_there 11 = .ok (.iload_n 1, 1) := by decide +kernel
theorem dX11_there_12 : decode cX11_there 12 = .ok (.bipush 20, 2) := by decide +kernel
theorem dX11_there_14 : decode cX11_there 14 = .ok (.if_icmp .le 5, 3) := by decide +kernel
theorem dX11_there_17 : decode cX11_there 17 = .ok (.iconst (-1), 1) := by decide +kernel
theorem dX11_there_18 : decode cX11_there 18 = .ok (.ireturn, 1) := by decide +kernel
theorem dX11_there_19 : decode cX11_there 19 = .ok (.aload_n 0, 1) := by decide +kernel
theorem dX11_there_20 : decode cX11_there 20 = .ok (.getfield 87, 3) := by decide +kernel
theorem dX11_there_23 : decode cX11_there 23 = .ok (.aload_n 0, 1) := by decide +kernel
theorem dX11_there_24 : decode cX11_there 24 = .ok (.getfield 50, 3) := by decide +kernel
theorem dX11_there_27 : decode cX11_there 27 = .ok (.iload_n 1, 1) := by decide +kernel
theorem dX11_there_28 : decode cX11_there 28 = .ok (.invokevirtual 252, 3) := by decide +kernel
theorem dX11_there_31 : decode cX11_there 31 = .ok (.aload_n 0, 1) := by decide +kernel
theorem dX11_there_32 : decode cX11_there 32 = .ok (.getfield 69, 3) := by decide +kernel
theorem dX11_there_35 : decode cX11_there 35 = .ok (.getfield 265, 3) := by decide +kernel
theorem dX11_there_38 : decode cX11_there 38 = .ok (.ireturn, 1) := by decide +kernel
theorem dX11_fed_0 : decode cX11_fed 0 = .ok (.aload_n 0, 1) := by decide +kernel
theorem dX11_fed_1 : decode cX11_fed 1 = .ok (.getfield 19, 3) := by decide +kernel
theorem dX11_fed_4 : decode cX11_fed 4 = .ok (.iload_n 1, 1) := by decide +kernel
theorem dX11_fed_5 : decode cX11_fed 5 = .ok (.invokevirtual 170, 3) := by decide +kernel
theorem dX11_fed_8 : decode cX11_fed 8 = .ok (.ifCond .eq 18, 3) := by decide +kernel
theorem dX11_fed_11 : decode cX11_fed 11 = .ok (.aload_n 0, 1) := by decide +kernel
theorem dX11_fed_12 : decode cX11_fed 12 = .ok (.getfield 69, 3) := by decide +kernel
theorem dX11_fed_15 : decode cX11_fed 15 = .ok (.aload_n 0, 1) := by decide +kernel
theorem dX11_fed_16 : decode cX11_fed 16 = .ok (.getfield 50, 3) := by decide +kernel
theorem dX11_fed_19 : decode cX11_fed 19 = .ok (.iload_n 1, 1) := by decide +kernel
theorem dX11_fed_20 : decode cX11_fed 20 = .ok (.invokevirtual 268, 3) := by decide +kernel
theorem dX11_fed_23 : decode cX11_fed 23 = .ok (.ifCond .ne 5, 3) := by decide +kernel
theorem dX11_fed_26 : decode cX11_fed 26 = .ok (.iconst (-1), 1) := by decide +kernel
theorem dX11_fed_27 : decode cX11_fed 27 = .ok (.ireturn, 1) := by decide +kernel
theorem dX11_fed_28 : decode cX11_fed 28 = .ok (.aload_n 0, 1) := by decide +kernel
theorem dX11_fed_29 : decode cX11_fed 29 = .ok (.getfield 69, 3) := by decide +kernel
theorem dX11_fed_32 : decode cX11_fed 32 = .ok (.aload_n 0, 1) := by decide +kernel
theorem dX11_fed_33 : decode cX11_fed 33 = .ok (.getfield 50, 3) := by decide +kernel
theorem dX11_fed_36 : decode cX11_fed 36 = .ok (.invokevirtual 272, 3) := by decide +kernel
theorem dX11_fed_39 : decode cX11_fed 39 = .ok (.aload_n 0, 1) := by decide +kernel
theorem dX11_fed_40 : decode cX11_fed 40 = .ok (.getfield 69, 3) := by decide +kernel
theorem dX11_fed_43 : decode cX11_fed 43 = .ok (.getfield 275, 3) := by decide +kernel
theorem dX11_fed_46 : decode cX11_fed 46 = .ok (.iload_n 1, 1) := by decide +kernel
theorem dX11_fed_47 : decode cX11_fed 47 = .ok (.iaload, 1) := by decide +kernel
theorem dX11_fed_48 : decode cX11_fed 48 = .ok (.ireturn, 1) := by decide +kernel
theorem dX11_best_0 : decode cX11_best 0 = .ok (.aload_n 0, 1) := by decide +kernel
theorem dX11_best_1 : decode cX11_best 1 = .ok (.getfield 116, 3) := by decide +kernel
theorem dX11_best_4 : decode cX11_best 4 = .ok (.ifCond .eq 22, 3) := by decide +kernel
theorem dX11_best_7 : decode cX11_best 7 = .ok (.iload_n 1, 1) := by decide +kernel
theorem dX11_best_8 : decode cX11_best 8 = .ok (.iconst 1, 1) := by decide +kernel
theorem dX11_best_9 : decode cX11_best 9 = .ok (.if_icmp .lt 17, 3) := by decide +kernel
theorem dX11_best_12 : decode cX11_best 12 = .ok (.iload_n 1, 1) := by decide +kernel
theorem dX11_best_13 : decode cX11_best 13 = .ok (.iconst 3, 1) := by decide +kernel
theorem dX11_best_14 : decode cX11_best 14 = .ok (.if_icmp .gt 12, 3) := by decide +kernel
theorem dX11_best_17 : decode cX11_best 17 = .ok (.iload_n 2, 1) := by decide +kernel
theorem dX11_best_18 : decode cX11_best 18 = .ok (.ifCond .lt 8, 3) := by decide +kernel
theorem dX11_best_21 : decode cX11_best 21 = .ok (.iload_n 2, 1) := by decide +kernel
theorem dX11_best_22 : decode cX11_best 22 = .ok (.iconst 1, 1) := by decide +kernel
theorem dX11_best_23 : decode cX11_best 23 = .ok (.if_icmp .le 6, 3) := by decide +kernel
theorem dX11_best_26 : decode cX11_best 26 = .ok (.ldc 231, 2) := by decide +kernel
theorem dX11_best_28 : decode cX11_best 28 = .ok (.ireturn, 1) := by decide +kernel
theorem dX11_best_29 : decode cX11_best 29 = .ok (.aload_n 0, 1) := by decide +kernel
theorem dX11_best_30 : decode cX11_best 30 = .ok (.getfield 87, 3) := by decide +kernel
theorem dX11_best_33 : decode cX11_best 33 = .ok (.aload_n 0, 1) := by decide +kernel
theorem dX11_best_34 : decode cX11_best 34 = .ok (.getfield 50, 3) := by decide +kernel
theorem dX11_best_37 : decode cX11_best 37 = .ok (.iload_n 1, 1) := by decide +kernel
theorem dX11_best_38 : decode cX11_best 38 = .ok (.invokevirtual 278, 3) := by decide +kernel
theorem dX11_best_41 : decode cX11_best 41 = .ok (.iload_n 2, 1) := by decide +kernel
theorem dX11_best_42 : decode cX11_best 42 = .ok (.ifCond .ne 13, 3) := by decide +kernel
theorem dX11_best_45 : decode cX11_best 45 = .ok (.aload_n 0, 1) := by decide +kernel
theorem dX11_best_46 : decode cX11_best 46 = .ok (.getfield 87, 3) := by decide +kernel
theorem dX11_best_49 : decode cX11_best 49 = .ok (.getfield 281, 3) := by decide +kernel
theorem dX11_best_52 : decode cX11_best 52 = .ok (.goto 10, 3) := by decide +kernel
theorem dX11_best_55 : decode cX11_best 55 = .ok (.aload_n 0, 1) := by decide +kernel
theorem dX11_best_56 : decode cX11_best 56 = .ok (.getfield 87, 3) := by decide +kernel
theorem dX11_best_59 : decode cX11_best 59 = .ok (.getfield 284, 3) := by decide +kernel
theorem dX11_best_62 : decode cX11_best 62 = .ok (.ireturn, 1) := by decide +kernel
theorem dX11_madeUp_0 : decode cX11_madeUp 0 = .ok (.aload_n 0, 1) := by decide +kernel
theorem dX11_madeUp_1 : decode cX11_madeUp 1 = .ok (.getfield 116, 3) := by decide +kernel
theorem dX11_madeUp_4 : decode cX11_madeUp 4 = .ok (.ifCond .eq 13, 3) := by decide +kernel
theorem dX11_madeUp_7 : decode cX11_madeUp 7 = .ok (.iload_n 1, 1) := by decide +kernel
theorem dX11_madeUp_8 : decode cX11_madeUp 8 = .ok (.ifCond .lt 9, 3) := by decide +kernel
theorem dX11_madeUp_11 : decode cX11_madeUp 11 = .ok (.iload_n 1, 1) := by decide +kernel
theorem dX11_madeUp_12 : decode cX11_madeUp 12 = .ok (.bipush 20, 2) := by decide +kernel
theorem dX11_madeUp_14 : decode cX11_madeUp 14 = .ok (.if_icmp .le 5, 3) := by decide +kernel
theorem dX11_madeUp_17 : decode cX11_madeUp 17 = .ok (.iconst (-1), 1) := by decide +kernel
theorem dX11_madeUp_18 : decode cX11_madeUp 18 = .ok (.ireturn, 1) := by decide +kernel
theorem dX11_madeUp_19 : decode cX11_madeUp 19 = .ok (.aload_n 0, 1) := by decide +kernel
theorem dX11_madeUp_20 : decode cX11_madeUp 20 = .ok (.getfield 87, 3) := by decide +kernel
theorem dX11_madeUp_23 : decode cX11_madeUp 23 = .ok (.aload_n 0, 1) := by decide +kernel
theorem dX11_madeUp_24 : decode cX11_madeUp 24 = .ok (.getfield 50, 3) := by decide +kernel
theorem dX11_madeUp_27 : decode cX11_madeUp 27 = .ok (.iload_n 1, 1) := by decide +kernel
theorem dX11_madeUp_28 : decode cX11_madeUp 28 = .ok (.invokevirtual 287, 3) := by decide +kernel
theorem dX11_madeUp_31 : decode cX11_madeUp 31 = .ok (.ireturn, 1) := by decide +kernel
theorem dX11_seen_0 : decode cX11_seen 0 = .ok (.aload_n 0, 1) := by decide +kernel
theorem dX11_seen_1 : decode cX11_seen 1 = .ok (.getfield 19, 3) := by decide +kernel
theorem dX11_seen_4 : decode cX11_seen 4 = .ok (.iload_n 1, 1) := by decide +kernel
theorem dX11_seen_5 : decode cX11_seen 5 = .ok (.invokevirtual 170, 3) := by decide +kernel
theorem dX11_seen_8 : decode cX11_seen 8 = .ok (.ifCond .eq 23, 3) := by decide +kernel
theorem dX11_seen_11 : decode cX11_seen 11 = .ok (.aload_n 0, 1) := by decide +kernel
theorem dX11_seen_12 : decode cX11_seen 12 = .ok (.getfield 19, 3) := by decide +kernel
theorem dX11_seen_15 : decode cX11_seen 15 = .ok (.iload_n 2, 1) := by decide +kernel
theorem dX11_seen_16 : decode cX11_seen 16 = .ok (.invokevirtual 163, 3) := by decide +kernel
theorem dX11_seen_19 : decode cX11_seen 19 = .ok (.ifCond .eq 12, 3) := by decide +kernel
theorem dX11_seen_22 : decode cX11_seen 22 = .ok (.iload_n 3, 1) := by decide +kernel
theorem dX11_seen_23 : decode cX11_seen 23 = .ok (.iload 4, 2) := by decide +kernel
theorem dX11_seen_25 : decode cX11_seen 25 = .ok (.invokestatic 291, 3) := by decide +kernel
theorem dX11_seen_28 : decode cX11_seen 28 = .ok (.ifCond .ne 5, 3) := by decide +kernel
theorem dX11_seen_31 : decode cX11_seen 31 = .ok (.iconst (-1), 1) := by decide +kernel
theorem dX11_seen_32 : decode cX11_seen 32 = .ok (.ireturn, 1) := by decide +kernel
theorem dX11_seen_33 : decode cX11_seen 33 = .ok (.aload_n 0, 1) := by decide +kernel
theorem dX11_seen_34 : decode cX11_seen 34 = .ok (.getfield 94, 3) := by decide +kernel
theorem dX11_seen_37 : decode cX11_seen 37 = .ok (.iload_n 1, 1) := by decide +kernel
theorem dX11_seen_38 : decode cX11_seen 38 = .ok (.iload_n 2, 1) := by decide +kernel
theorem dX11_seen_39 : decode cX11_seen 39 = .ok (.iload_n 3, 1) := by decide +kernel
theorem dX11_seen_40 : decode cX11_seen 40 = .ok (.iload 4, 2) := by decide +kernel
theorem dX11_seen_42 : decode cX11_seen 42 = .ok (.iload 5, 2) := by decide +kernel
theorem dX11_seen_44 : decode cX11_seen 44 = .ok (.invokevirtual 295, 3) := by decide +kernel
theorem dX11_seen_47 : decode cX11_seen 47 = .ok (.ireturn, 1) := by decide +kernel
theorem dX11_likes_0 : decode cX11_likes 0 = .ok (.aload_n 0, 1) := by decide +kernel
theorem dX11_likes_1 : decode cX11_likes 1 = .ok (.getfield 19, 3) := by decide +kernel
theorem dX11_likes_4 : decode cX11_likes 4 = .ok (.iload_n 1, 1) := by decide +kernel
theorem dX11_likes_5 : decode cX11_likes 5 = .ok (.invokevirtual 170, 3) := by decide +kernel
theorem dX11_likes_8 : decode cX11_likes 8 = .ok (.ifCond .eq 14, 3) := by decide +kernel
theorem dX11_likes_11 : decode cX11_likes 11 = .ok (.aload_n 0, 1) := by decide +kernel
theorem dX11_likes_12 : decode cX11_likes 12 = .ok (.getfield 94, 3) := by decide +kernel
theorem dX11_likes_15 : decode cX11_likes 15 = .ok (.iload_n 1, 1) := by decide +kernel
theorem dX11_likes_16 : decode cX11_likes 16 = .ok (.invokevirtual 299, 3) := by decide +kernel
theorem dX11_likes_19 : decode cX11_likes 19 = .ok (.goto 4, 3) := by decide +kernel
theorem dX11_likes_22 : decode cX11_likes 22 = .ok (.iconst (-1), 1) := by decide +kernel
theorem dX11_likes_23 : decode cX11_likes 23 = .ok (.ireturn, 1) := by decide +kernel
theorem dX11_probe_0 : decode cX11_probe 0 = .ok (.aload_n 0, 1) := by decide +kernel
theorem dX11_probe_1 : decode cX11_probe 1 = .ok (.getfield 19, 3) := by decide +kernel
theorem dX11_probe_4 : decode cX11_probe 4 = .ok (.iload_n 1, 1) := by decide +kernel
theorem dX11_probe_5 : decode cX11_probe 5 = .ok (.invokevirtual 170, 3) := by decide +kernel
theorem dX11_probe_8 : decode cX11_probe 8 = .ok (.ifCond .eq 11, 3) := by decide +kernel
theorem dX11_probe_11 : decode cX11_probe 11 = .ok (.iload_n 2, 1) := by decide +kernel
theorem dX11_probe_12 : decode cX11_probe 12 = .ok (.iload_n 3, 1) := by decide +kernel
theorem dX11_probe_13 : decode cX11_probe 13 = .ok (.invokestatic 291, 3) := by decide +kernel
theorem dX11_probe_16 : decode cX11_probe 16 = .ok (.ifCond .ne 5, 3) := by decide +kernel
theorem dX11_probe_19 : decode cX11_probe 19 = .ok (.iconst (-1), 1) := by decide +kernel
theorem dX11_probe_20 : decode cX11_probe 20 = .ok (.ireturn, 1) := by decide +kernel
theorem dX11_probe_21 : decode cX11_probe 21 = .ok (.aload_n 0, 1) := by decide +kernel
theorem dX11_probe_22 : decode cX11_probe 22 = .ok (.getfield 94, 3) := by decide +kernel
theorem dX11_probe_25 : decode cX11_probe 25 = .ok (.iload_n 1, 1) := by decide +kernel
theorem dX11_probe_26 : decode cX11_probe 26 = .ok (.iload_n 2, 1) := by decide +kernel
theorem dX11_probe_27 : decode cX11_probe 27 = .ok (.iload_n 3, 1) := by decide +kernel
theorem dX11_probe_28 : decode cX11_probe 28 = .ok (.invokevirtual 302, 3) := by decide +kernel
theorem dX11_probe_31 : decode cX11_probe 31 = .ok (.ireturn, 1) := by decide +kernel
theorem dX11_leaves_0 : decode cX11_leaves 0 = .ok (.aload_n 0, 1) := by decide +kernel
theorem dX11_leaves_1 : decode cX11_leaves 1 = .ok (.getfield 19, 3) := by decide +kernel
theorem dX11_leaves_4 : decode cX11_leaves 4 = .ok (.iload_n 1, 1) := by decide +kernel
theorem dX11_leaves_5 : decode cX11_leaves 5 = .ok (.invokevirtual 170, 3) := by decide +kernel
theorem dX11_leaves_8 : decode cX11_leaves 8 = .ok (.ifCond .eq 14, 3) := by decide +kernel
theorem dX11_leaves_11 : decode cX11_leaves 11 = .ok (.aload_n 0, 1) := by decide +kernel
theorem dX11_leaves_12 : decode cX11_leaves 12 = .ok (.getfield 50, 3) := by decide +kernel
theorem dX11_leaves_15 : decode cX11_leaves 15 = .ok (.iload_n 1, 1) := by decide +kernel
theorem dX11_leaves_16 : decode cX11_leaves 16 = .ok (.invokevirtual 183, 3) := by decide +kernel
theorem dX11_leaves_19 : decode cX11_leaves 19 = .ok (.ifCond .eq 5, 3) := by decide +kernel
theorem dX11_leaves_22 : decode cX11_leaves 22 = .ok (.iconst (-1), 1) := by decide +kernel
theorem dX11_leaves_23 : decode cX11_leaves 23 = .ok (.ireturn, 1) := by decide +kernel
theorem dX11_leaves_24 : decode cX11_leaves 24 = .ok (.aload_n 0, 1) := by decide +kernel
theorem dX11_leaves_25 : decode cX11_leaves 25 = .ok (.getfield 87, 3) := by decide +kernel
theorem dX11_leaves_28 : decode cX11_leaves 28 = .ok (.aload_n 0, 1) := by decide +kernel
theorem dX11_leaves_29 : decode cX11_leaves 29 = .ok (.getfield 50, 3) := by decide +kernel
theorem dX11_leaves_32 : decode cX11_leaves 32 = .ok (.iload_n 1, 1) := by decide +kernel
theorem dX11_leaves_33 : decode cX11_leaves 33 = .ok (.invokevirtual 306, 3) := by decide +kernel
theorem dX11_leaves_36 : decode cX11_leaves 36 = .ok (.ireturn, 1) := by decide +kernel
theorem dX11_game_0 : decode cX11_game 0 = .ok (.aload_n 0, 1) := by decide +kernel
theorem dX11_game_1 : decode cX11_game 1 = .ok (.iload_n 1, 1) := by decide +kernel
theorem dX11_game_2 : decode cX11_game 2 = .ok (.iload_n 2, 1) := by decide +kernel
theorem dX11_game_3 : decode cX11_game 3 = .ok (.invokevirtual 309, 3) := by decide +kernel
theorem dX11_game_6 : decode cX11_game 6 = .ok (.ifCond .eq 34, 3) := by decide +kernel
theorem dX11_game_9 : decode cX11_game 9 = .ok (.iload_n 3, 1) := by decide +kernel
theorem dX11_game_10 : decode cX11_game 10 = .ok (.ifCond .lt 30, 3) := by decide +kernel
theorem dX11_game_13 : decode cX11_game 13 = .ok (.iload_n 3, 1) := by decide +kernel
theorem dX11_game_14 : decode cX11_game 14 = .ok (.iconst 3, 1) := by decide +kernel
theorem dX11_game_15 : decode cX11_game 15 = .ok (.if_icmp .gt 25, 3) := by decide +kernel
theorem dX11_game_18 : decode cX11_game 18 = .ok (.iload 4, 2) := by decide +kernel
theorem dX11_game_20 : decode cX11_game 20 = .ok (.ifCond .lt 20, 3) := by decide +kernel
theorem dX11_game_23 : decode cX11_game 23 = .ok (.iload 4, 2) := by decide +kernel
theorem dX11_game_25 : decode cX11_game 25 = .ok (.iconst 3, 1) := by decide +kernel
theorem dX11_game_26 : decode cX11_game 26 = .ok (.if_icmp .gt 14, 3) := by decide +kernel
theorem dX11_game_29 : decode cX11_game 29 = .ok (.iload 5, 2) := by decide +kernel
theorem dX11_game_31 : decode cX11_game 31 = .ok (.ifCond .lt 9, 3) := by decide +kernel
theorem dX11_game_34 : decode cX11_game 34 = .ok (.iload 5, 2) := by decide +kernel
theorem dX11_game_36 : decode cX11_game 36 = .ok (.iconst 1, 1) := by decide +kernel
theorem dX11_game_37 : decode cX11_game 37 = .ok (.if_icmp .le 6, 3) := by decide +kernel
theorem dX11_game_40 : decode cX11_game 40 = .ok (.ldc 231, 2) := by decide +kernel
theorem dX11_game_42 : decode cX11_game 42 = .ok (.ireturn, 1) := by decide +kernel
theorem dX11_game_43 : decode cX11_game 43 = .ok (.aload_n 0, 1) := by decide +kernel
theorem dX11_game_44 : decode cX11_game 44 = .ok (.getfield 87, 3) := by decide +kernel
theorem dX11_game_47 : decode cX11_game 47 = .ok (.aload_n 0, 1) := by decide +kernel
theorem dX11_game_48 : decode cX11_game 48 = .ok (.getfield 50, 3) := by decide +kernel
theorem dX11_game_51 : decode cX11_game 51 = .ok (.iload_n 1, 1) := by decide +kernel
theorem dX11_game_52 : decode cX11_game 52 = .ok (.iload_n 2, 1) := by decide +kernel
theorem dX11_game_53 : decode cX11_game 53 = .ok (.iload_n 3, 1) := by decide +kernel
theorem dX11_game_54 : decode cX11_game 54 = .ok (.iload 4, 2) := by decide +kernel
theorem dX11_game_56 : decode cX11_game 56 = .ok (.invokevirtual 312, 3) := by decide +kernel
theorem dX11_game_59 : decode cX11_game 59 = .ok (.iload 5, 2) := by decide +kernel
theorem dX11_game_61 : decode cX11_game 61 = .ok (.ifCond .ne 13, 3) := by decide +kernel
theorem dX11_game_64 : decode cX11_game 64 = .ok (.aload_n 0, 1) := by decide +kernel
theorem dX11_game_65 : decode cX11_game 65 = .ok (.getfield 87, 3) := by decide +kernel
theorem dX11_game_68 : decode cX11_game 68 = .ok (.getfield 316, 3) := by decide +kernel
theorem dX11_game_71 : decode cX11_game 71 = .ok (.goto 10, 3) := by decide +kernel
theorem dX11_game_74 : decode cX11_game 74 = .ok (.aload_n 0, 1) := by decide +kernel
theorem dX11_game_75 : decode cX11_game 75 = .ok (.getfield 87, 3) := by decide +kernel
theorem dX11_game_78 : decode cX11_game 78 = .ok (.getfield 319, 3) := by decide +kernel
theorem dX11_game_81 : decode cX11_game 81 = .ok (.ireturn, 1) := by decide +kernel
theorem dX11_rests_0 : decode cX11_rests 0 = .ok (.aload_n 0, 1) := by decide +kernel
theorem dX11_rests_1 : decode cX11_rests 1 = .ok (.iload_n 1, 1) := by decide +kernel
theorem dX11_rests_2 : decode cX11_rests 2 = .ok (.iload_n 2, 1) := by decide +kernel
theorem dX11_rests_3 : decode cX11_rests 3 = .ok (.invokevirtual 309, 3) := by decide +kernel
theorem dX11_rests_6 : decode cX11_rests 6 = .ok (.ifCond .eq 14, 3) := by decide +kernel
theorem dX11_rests_9 : decode cX11_rests 9 = .ok (.iload_n 3, 1) := by decide +kernel
theorem dX11_rests_10 : decode cX11_rests 10 = .ok (.iconst (-1), 1) := by decide +kernel
theorem dX11_rests_11 : decode cX11_rests 11 = .ok (.if_icmp .lt 9, 3) := by decide +kernel
theorem dX11_rests_14 : decode cX11_rests 14 = .ok (.iload_n 3, 1) := by decide +kernel
theorem dX11_rests_15 : decode cX11_rests 15 = .ok (.bipush 16, 2) := by decide +kernel
theorem dX11_rests_17 : decode cX11_rests 17 = .ok (.if_icmp .lt 5, 3) := by decide +kernel
theorem dX11_rests_20 : decode cX11_rests 20 = .ok (.iconst (-1), 1) := by decide +kernel
theorem dX11_rests_21 : decode cX11_rests 21 = .ok (.ireturn, 1) := by decide +kernel
theorem dX11_rests_22 : decode cX11_rests 22 = .ok (.aload_n 0, 1) := by decide +kernel
theorem dX11_rests_23 : decode cX11_rests 23 = .ok (.getfield 87, 3) := by decide +kernel
theorem dX11_rests_26 : decode cX11_rests 26 = .ok (.aload_n 0, 1) := by decide +kernel
theorem dX11_rests_27 : decode cX11_rests 27 = .ok (.getfield 50, 3) := by decide +kernel
theorem dX11_rests_30 : decode cX11_rests 30 = .ok (.iload_n 1, 1) := by decide +kernel
theorem dX11_rests_31 : decode cX11_rests 31 = .ok (.iload_n 2, 1) := by decide +kernel
theorem dX11_rests_32 : decode cX11_rests 32 = .ok (.invokevirtual 322, 3) := by decide +kernel
theorem dX11_rests_35 : decode cX11_rests 35 = .ok (.iload_n 3, 1) := by decide +kernel
theorem dX11_rests_36 : decode cX11_rests 36 = .ok (.iconst (-1), 1) := by decide +kernel
theorem dX11_rests_37 : decode cX11_rests 37 = .ok (.if_icmp .ne 13, 3) := by decide +kernel
theorem dX11_rests_40 : decode cX11_rests 40 = .ok (.aload_n 0, 1) := by decide +kernel
theorem dX11_rests_41 : decode cX11_rests 41 = .ok (.getfield 87, 3) := by decide +kernel
theorem dX11_rests_44 : decode cX11_rests 44 = .ok (.invokevirtual 326, 3) := by decide +kernel
theorem dX11_rests_47 : decode cX11_rests 47 = .ok (.goto 11, 3) := by decide +kernel
theorem dX11_rests_50 : decode cX11_rests 50 = .ok (.aload_n 0, 1) := by decide +kernel
theorem dX11_rests_51 : decode cX11_rests 51 = .ok (.getfield 87, 3) := by decide +kernel
theorem dX11_rests_54 : decode cX11_rests 54 = .ok (.iload_n 3, 1) := by decide +kernel
theorem dX11_rests_55 : decode cX11_rests 55 = .ok (.invokevirtual 329, 3) := by decide +kernel
theorem dX11_rests_58 : decode cX11_rests 58 = .ok (.ireturn, 1) := by decide +kernel
theorem dX11_odds_0 : decode cX11_odds 0 = .ok (.aload_n 0, 1) := by decide +kernel
theorem dX11_odds_1 : decode cX11_odds 1 = .ok (.getfield 19, 3) := by decide +kernel
theorem dX11_odds_4 : decode cX11_odds 4 = .ok (.iload_n 1, 1) := by decide +kernel
theorem dX11_odds_5 : decode cX11_odds 5 = .ok (.invokevirtual 170, 3) := by decide +kernel
theorem dX11_odds_8 : decode cX11_odds 8 = .ok (.ifCond .eq 22, 3) := by decide +kernel
theorem dX11_odds_11 : decode cX11_odds 11 = .ok (.iload_n 2, 1) := by decide +kernel
theorem dX11_odds_12 : decode cX11_odds 12 = .ok (.ifCond .lt 18, 3) := by decide +kernel
theorem dX11_odds_15 : decode cX11_odds 15 = .ok (.iload_n 2, 1) := by decide +kernel
theorem dX11_odds_16 : decode cX11_odds 16 = .ok (.iconst 4, 1) := by decide +kernel
theorem dX11_odds_17 : decode cX11_odds 17 = .ok (.if_icmp .gt 13, 3) := by decide +kernel
theorem dX11_odds_20 : decode cX11_odds 20 = .ok (.iload_n 3, 1) := by decide +kernel
theorem dX11_odds_21 : decode cX11_odds 21 = .ok (.ifCond .lt 9, 3) := by decide +kernel
theorem dX11_odds_24 : decode cX11_odds 24 = .ok (.iload_n 3, 1) := by decide +kernel
theorem dX11_odds_25 : decode cX11_odds 25 = .ok (.bipush 100, 2) := by decide +kernel
theorem dX11_odds_27 : decode cX11_odds 27 = .ok (.if_icmp .le 5, 3) := by decide +kernel
theorem dX11_odds_30 : decode cX11_odds 30 = .ok (.iconst (-1), 1) := by decide +kernel
theorem dX11_odds_31 : decode cX11_odds 31 = .ok (.ireturn, 1) := by decide +kernel
theorem dX11_odds_32 : decode cX11_odds 32 = .ok (.aload_n 0, 1) := by decide +kernel
theorem dX11_odds_33 : decode cX11_odds 33 = .ok (.getfield 87, 3) := by decide +kernel
theorem dX11_odds_36 : decode cX11_odds 36 = .ok (.aload_n 0, 1) := by decide +kernel
theorem dX11_odds_37 : decode cX11_odds 37 = .ok (.getfield 50, 3) := by decide +kernel
theorem dX11_odds_40 : decode cX11_odds 40 = .ok (.iload_n 1, 1) := by decide +kernel
theorem dX11_odds_41 : decode cX11_odds 41 = .ok (.iload_n 2, 1) := by decide +kernel
theorem dX11_odds_42 : decode cX11_odds 42 = .ok (.iload_n 3, 1) := by decide +kernel
theorem dX11_odds_43 : decode cX11_odds 43 = .ok (.invokevirtual 332, 3) := by decide +kernel
theorem dX11_odds_46 : decode cX11_odds 46 = .ok (.l2i, 1) := by decide +kernel
theorem dX11_odds_47 : decode cX11_odds 47 = .ok (.ireturn, 1) := by decide +kernel
theorem dX11_all_0 : decode cX11_all 0 = .ok (.aload_n 0, 1) := by decide +kernel
theorem dX11_all_1 : decode cX11_all 1 = .ok (.getfield 116, 3) := by decide +kernel
theorem dX11_all_4 : decode cX11_all 4 = .ok (.ifCond .ne 5, 3) := by decide +kernel
theorem dX11_all_7 : decode cX11_all 7 = .ok (.iconst (-1), 1) := by decide +kernel
theorem dX11_all_8 : decode cX11_all 8 = .ok (.ireturn, 1) := by decide +kernel
theorem dX11_all_9 : decode cX11_all 9 = .ok (.aload_n 0, 1) := by decide +kernel
theorem dX11_all_10 : decode cX11_all 10 = .ok (.getfield 69, 3) := by decide +kernel
theorem dX11_all_13 : decode cX11_all 13 = .ok (.aload_n 0, 1) := by decide +kernel
theorem dX11_all_14 : decode cX11_all 14 = .ok (.getfield 50, 3) := by decide +kernel
theorem dX11_all_17 : decode cX11_all 17 = .ok (.invokevirtual 272, 3) := by decide +kernel
theorem dX11_all_20 : decode cX11_all 20 = .ok (.iload_n 1, 1) := by decide +kernel
theorem dX11_all_21 : decode cX11_all 21 = .ok (.tableswitch 227 0 12 #[67, 88, 109, 129, 149, 154, 159, 167, 172, 177, 185, 203, 215], 67) := by decide +kernel
theorem dX11_all_88 : decode cX11_all 88 = .ok (.aload_n 0, 1) := by decide +kernel
theorem dX11_all_89 : decode cX11_all 89 = .ok (.getfield 50, 3) := by decide +kernel
theorem dX11_all_92 : decode cX11_all 92 = .ok (.getfield 156, 3) := by decide +kernel
theorem dX11_all_95 : decode cX11_all 95 = .ok (.bipush 25, 2) := by decide +kernel
theorem dX11_all_97 : decode cX11_all 97 = .ok (.iconst 1, 1) := by decide +kernel
theorem dX11_all_98 : decode cX11_all 98 = .ok (.aload_n 0, 1) := by decide +kernel
theorem dX11_all_99 : decode cX11_all 99 = .ok (.getfield 19, 3) := by decide +kernel
theorem dX11_all_102 : decode cX11_all 102 = .ok (.getfield 336, 3) := by decide +kernel
theorem dX11_all_105 : decode cX11_all 105 = .ok (.invokestatic 339, 3) := by decide +kernel
theorem dX11_all_108 : decode cX11_all 108 = .ok (.ireturn, 1) := by decide +kernel
theorem dX11_all_109 : decode cX11_all 109 = .ok (.aload_n 0, 1) := by decide +kernel
theorem dX11_all_110 : decode cX11_all 110 = .ok (.getfield 50, 3) := by decide +kernel
theorem dX11_all_113 : decode cX11_all 113 = .ok (.getfield 156, 3) := by decide +kernel
theorem dX11_all_116 : decode cX11_all 116 = .ok (.bipush 13, 2) := by decide +kernel
theorem dX11_all_118 : decode cX11_all 118 = .ok (.iconst 1, 1) := by decide +kernel
theorem dX11_all_119 : decode cX11_all 119 = .ok (.aload_n 0, 1) := by decide +kernel
theorem dX11_all_120 : decode cX11_all 120 = .ok (.getfield 19, 3) := by decide +kernel
theorem dX11_all_123 : decode cX11_all 123 = .ok (.getfield 336, 3) := by decide +kernel
theorem dX11_all_126 : decode cX11_all 126 = .ok (.invokestatic 339, 3) := by decide +kernel
theorem dX11_all_129 : decode cX11_all 129 = .ok (.ireturn, 1) := by decide +kernel
theorem dX11_all_130 : decode cX11_all 130 = .ok (.aload_n 0, 1) := by decide +kernel
theorem dX11_all_131 : decode cX11_all 131 = .ok (.getfield 19, 3) := by decide +kernel
theorem dX11_all_134 : decode cX11_all 134 = .ok (.getfield 343, 3) := by decide +kernel
theorem dX11_all_137 : decode cX11_all 137 = .ok (.iconst 3, 1) := by decide +kernel
theorem dX11_all_138 : decode cX11_all 138 = .ok (.iconst 4, 1) := by decide +kernel
theorem dX11_all_139 : decode cX11_all 139 = .ok (.aload_n 0, 1) := by decide +kernel
theorem dX11_all_140 : decode cX11_all 140 = .ok (.getfield 19, 3) := by decide +kernel
theorem dX11_all_143 : decode cX11_all 143 = .ok (.getfield 336, 3) := by decide +kernel
theorem dX11_all_146 : decode cX11_all 146 = .ok (.invokestatic 339, 3) := by decide +kernel
theorem dX11_all_149 : decode cX11_all 149 = .ok (.ireturn, 1) := by decide +kernel
theorem dX11_all_150 : decode cX11_all 150 = .ok (.aload_n 0, 1) := by decide +kernel
theorem dX11_all_151 : decode cX11_all 151 = .ok (.getfield 19, 3) := by decide +kernel
theorem dX11_all_154 : decode cX11_all 154 = .ok (.getfield 346, 3) := by decide +kernel
theorem dX11_all_157 : decode cX11_all 157 = .ok (.iconst 0, 1) := by decide +kernel
theorem dX11_all_158 : decode cX11_all 158 = .ok (.iconst 3, 1) := by decide +kernel
theorem dX11_all_159 : decode cX11_all 159 = .ok (.aload_n 0, 1) := by decide +kernel
theorem dX11_all_160 : decode cX11_all 160 = .ok (.getfield 19, 3) := by decide +kernel
theorem dX11_all_163 : decode cX11_all 163 = .ok (.getfield 349, 3) := by decide +kernel
theorem dX11_all_166 : decode cX11_all 166 = .ok (.invokestatic 339, 3) := by decide +kernel
theorem dX11_all_169 : decode cX11_all 169 = .ok (.ireturn, 1) := by decide +kernel
theorem dX11_all_170 : decode cX11_all 170 = .ok (.aload_n 0, 1) := by decide +kernel
theorem dX11_all_171 : decode cX11_all 171 = .ok (.invokevirtual 352, 3) := by decide +kernel
theorem dX11_all_174 : decode cX11_all 174 = .ok (.ireturn, 1) := by decide +kernel
theorem dX11_all_175 : decode cX11_all 175 = .ok (.aload_n 0, 1) := by decide +kernel
theorem dX11_all_176 : decode cX11_all 176 = .ok (.invokevirtual 355, 3) := by decide +kernel
theorem dX11_all_179 : decode cX11_all 179 = .ok (.ireturn, 1) := by decide +kernel
theorem dX11_all_180 : decode cX11_all 180 = .ok (.aload_n 0, 1) := by decide +kernel
theorem dX11_all_181 : decode cX11_all 181 = .ok (.getfield 69, 3) := by decide +kernel
theorem dX11_all_184 : decode cX11_all 184 = .ok (.getfield 358, 3) := by decide +kernel
theorem dX11_all_187 : decode cX11_all 187 = .ok (.ireturn, 1) := by decide +kernel
theorem dX11_all_188 : decode cX11_all 188 = .ok (.aload_n 0, 1) := by decide +kernel
theorem dX11_all_189 : decode cX11_all 189 = .ok (.invokevirtual 361, 3) := by decide +kernel
theorem dX11_all_192 : decode cX11_all 192 = .ok (.ireturn, 1) := by decide +kernel
theorem dX11_all_193 : decode cX11_all 193 = .ok (.aload_n 0, 1) := by decide +kernel
theorem dX11_all_194 : decode cX11_all 194 = .ok (.invokevirtual 364, 3) := by decide +kernel
theorem dX11_all_197 : decode cX11_all 197 = .ok (.ireturn, 1) := by decide +kernel
theorem dX11_all_198 : decode cX11_all 198 = .ok (.aload_n 0, 1) := by decide +kernel
theorem dX11_all_199 : decode cX11_all 199 = .ok (.getfield 69, 3) := by decide +kernel
theorem dX11_all_202 : decode cX11_all 202 = .ok (.getfield 367, 3) := by decide +kernel
theorem dX11_all_205 : decode cX11_all 205 = .ok (.ireturn, 1) := by decide +kernel
theorem dX11_all_206 : decode cX11_all 206 = .ok (.aload_n 0, 1) := by decide +kernel
theorem dX11_all_207 : decode cX11_all 207 = .ok (.getfield 69, 3) := by decide +kernel
theorem dX11_all_210 : decode cX11_all 210 = .ok (.getfield 265, 3) := by decide +kernel
theorem dX11_all_213 : decode cX11_all 213 = .ok (.aload_n 0, 1) := by decide +kernel
theorem dX11_all_214 : decode cX11_all 214 = .ok (.getfield 69, 3) := by decide +kernel
theorem dX11_all_217 : decode cX11_all 217 = .ok (.getfield 196, 3) := by decide +kernel
theorem dX11_all_220 : decode cX11_all 220 = .ok (.iconst (-1), 1) := by decide +kernel
theorem dX11_all_221 : decode cX11_all 221 = .ok (.ixor, 1) := by decide +kernel
theorem dX11_all_222 : decode cX11_all 222 = .ok (.iand, 1) := by decide +kernel
theorem dX11_all_223 : decode cX11_all 223 = .ok (.ireturn, 1) := by decide +kernel
theorem dX11_all_224 : decode cX11_all 224 = .ok (.aload_n 0, 1) := by decide +kernel
theorem dX11_all_225 : decode cX11_all 225 = .ok (.getfield 87, 3) := by decide +kernel
theorem dX11_all_228 : decode cX11_all 228 = .ok (.aload_n 0, 1) := by decide +kernel
theorem dX11_all_229 : decode cX11_all 229 = .ok (.getfield 50, 3) := by decide +kernel
theorem dX11_all_232 : decode cX11_all 232 = .ok (.invokevirtual 370, 3) := by decide +kernel
theorem dX11_all_235 : decode cX11_all 235 = .ok (.ireturn, 1) := by decide +kernel
theorem dX11_all_236 : decode cX11_all 236 = .ok (.aload_n 0, 1) := by decide +kernel
theorem dX11_all_237 : decode cX11_all 237 = .ok (.getfield 87, 3) := by decide +kernel
theorem dX11_all_240 : decode cX11_all 240 = .ok (.aload_n 0, 1) := by decide +kernel
theorem dX11_all_241 : decode cX11_all 241 = .ok (.getfield 50, 3) := by decide +kernel
theorem dX11_all_244 : decode cX11_all 244 = .ok (.invokevirtual 374, 3) := by decide +kernel
theorem dX11_all_247 : decode cX11_all 247 = .ok (.ireturn, 1) := by decide +kernel
theorem dX11_all_248 : decode cX11_all 248 = .ok (.iconst (-1), 1) := by decide +kernel
theorem dX11_all_249 : decode cX11_all 249 = .ok (.ireturn, 1) := by decide +kernel
theorem dX11_kinds_0 : decode cX11_kinds 0 = .ok (.aload_n 0, 1) := by decide +kernel
theorem dX11_kinds_1 : decode cX11_kinds 1 = .ok (.getfield 116, 3) := by decide +kernel
theorem dX11_kinds_4 : decode cX11_kinds 4 = .ok (.ifCond .eq 12, 3) := by decide +kernel
theorem dX11_kinds_7 : decode cX11_kinds 7 = .ok (.iload_n 1, 1) := by decide +kernel
theorem dX11_kinds_8 : decode cX11_kinds 8 = .ok (.ifCond .lt 8, 3) := by decide +kernel
theorem dX11_kinds_11 : decode cX11_kinds 11 = .ok (.iload_n 1, 1) := by decide +kernel
theorem dX11_kinds_12 : decode cX11_kinds 12 = .ok (.iconst 4, 1) := by decide +kernel
theorem dX11_kinds_13 : decode cX11_kinds 13 = .ok (.if_icmp .lt 5, 3) := by decide +kernel
theorem dX11_kinds_16 : decode cX11_kinds 16 = .ok (.iconst (-1), 1) := by decide +kernel
theorem dX11_kinds_17 : decode cX11_kinds 17 = .ok (.ireturn, 1) := by decide +kernel
theorem dX11_kinds_18 : decode cX11_kinds 18 = .ok (.iconst 0, 1) := by decide +kernel
theorem dX11_kinds_19 : decode cX11_kinds 19 = .ok (.istore_n 2, 1) := by decide +kernel
theorem dX11_kinds_20 : decode cX11_kinds 20 = .ok (.iconst 0, 1) := by decide +kernel
theorem dX11_kinds_21 : decode cX11_kinds 21 = .ok (.istore_n 3, 1) := by decide +kernel
theorem dX11_kinds_22 : decode cX11_kinds 22 = .ok (.iload_n 3, 1) := by decide +kernel
theorem dX11_kinds_23 : decode cX11_kinds 23 = .ok (.aload_n 0, 1) := by decide +kernel
theorem dX11_kinds_24 : decode cX11_kinds 24 = .ok (.getfield 19, 3) := by decide +kernel
theorem dX11_kinds_27 : decode cX11_kinds 27 = .ok (.getfield 349, 3) := by decide +kernel
theorem dX11_kinds_30 : decode cX11_kinds 30 = .ok (.if_icmp .ge 28, 3) := by decide +kernel
theorem dX11_kinds_33 : decode cX11_kinds 33 = .ok (.aload_n 0, 1) := by decide +kernel
theorem dX11_kinds_34 : decode cX11_kinds 34 = .ok (.getfield 19, 3) := by decide +kernel
theorem dX11_kinds_37 : decode cX11_kinds 37 = .ok (.iload_n 3, 1) := by decide +kernel
theorem dX11_kinds_38 : decode cX11_kinds 38 = .ok (.iconst 2, 1) := by decide +kernel
theorem dX11_kinds_39 : decode cX11_kinds 39 = .ok (.invokevirtual 166, 3) := by decide +kernel
theorem dX11_kinds_42 : decode cX11_kinds 42 = .ok (.iload_n 1, 1) := by decide +kernel
theorem dX11_kinds_43 : decode cX11_kinds 43 = .ok (.if_icmp .ne 9, 3) := by decide +kernel
theorem dX11_kinds_46 : decode cX11_kinds 46 = .ok (.iload_n 2, 1) := by decide +kernel
theorem dX11_kinds_47 : decode cX11_kinds 47 = .ok (.iconst 1, 1) := by decide +kernel
theorem dX11_kinds_48 : decode cX11_kinds 48 = .ok (.iload_n 3, 1) := by decide +kernel
theorem dX11_kinds_49 : decode cX11_kinds 49 = .ok (.ishl, 1) := by decide +kernel
theorem dX11_kinds_50 : decode cX11_kinds 50 = .ok (.ior, 1) := by decide +kernel
theorem dX11_kinds_51 : decode cX11_kinds 51 = .ok (.istore_n 2, 1) := by decide +kernel
theorem dX11_kinds_52 : decode cX11_kinds 52 = .ok (.iinc 3 1, 3) := by decide +kernel
theorem dX11_kinds_55 : decode cX11_kinds 55 = .ok (.goto (-33), 3) := by decide +kernel
theorem dX11_kinds_58 : decode cX11_kinds 58 = .ok (.iload_n 2, 1) := by decide +kernel
theorem dX11_kinds_59 : decode cX11_kinds 59 = .ok (.ireturn, 1) := by decide +kernel
theorem dX11_staying_0 : decode cX11_staying 0 = .ok (.aload_n 0, 1) := by decide +kernel
theorem dX11_staying_1 : decode cX11_staying 1 = .ok (.getfield 19, 3) := by decide +kernel
theorem dX11_staying_4 : decode cX11_staying 4 = .ok (.iload_n 1, 1) := by decide +kernel
theorem dX11_staying_5 : decode cX11_staying 5 = .ok (.invokevirtual 170, 3) := by decide +kernel
theorem dX11_staying_8 : decode cX11_staying 8 = .ok (.ifCond .ne 5, 3) := by decide +kernel
theorem dX11_staying_11 : decode cX11_staying 11 = .ok (.iconst (-1), 1) := by decide +kernel
theorem dX11_staying_12 : decode cX11_staying 12 = .ok (.ireturn, 1) := by decide +kernel
theorem dX11_staying_13 : decode cX11_staying 13 = .ok (.aload_n 0, 1) := by decide +kernel
theorem dX11_staying_14 : decode cX11_staying 14 = .ok (.getfield 50, 3) := by decide +kernel
theorem dX11_staying_17 : decode cX11_staying 17 = .ok (.iload_n 1, 1) := by decide +kernel
theorem dX11_staying_18 : decode cX11_staying 18 = .ok (.invokevirtual 183, 3) := by decide +kernel
theorem dX11_staying_21 : decode cX11_staying 21 = .ok (.ifCond .eq 5, 3) := by decide +kernel
theorem dX11_staying_24 : decode cX11_staying 24 = .ok (.iconst 0, 1) := by decide +kernel
theorem dX11_staying_25 : decode cX11_staying 25 = .ok (.ireturn, 1) := by decide +kernel
theorem dX11_staying_26 : decode cX11_staying 26 = .ok (.aload_n 0, 1) := by decide +kernel
theorem dX11_staying_27 : decode cX11_staying 27 = .ok (.getfield 19, 3) := by decide +kernel
theorem dX11_staying_30 : decode cX11_staying 30 = .ok (.iload_n 1, 1) := by decide +kernel
theorem dX11_staying_31 : decode cX11_staying 31 = .ok (.iconst 0, 1) := by decide +kernel
theorem dX11_staying_32 : decode cX11_staying 32 = .ok (.invokevirtual 180, 3) := by decide +kernel
theorem dX11_staying_35 : decode cX11_staying 35 = .ok (.istore_n 2, 1) := by decide +kernel
theorem dX11_staying_36 : decode cX11_staying 36 = .ok (.aload_n 0, 1) := by decide +kernel
theorem dX11_staying_37 : decode cX11_staying 37 = .ok (.getfield 50, 3) := by decide +kernel
theorem dX11_staying_40 : decode cX11_staying 40 = .ok (.getfield 156, 3) := by decide +kernel
theorem dX11_staying_43 : decode cX11_staying 43 = .ok (.iconst 0, 1) := by decide +kernel
theorem dX11_staying_44 : decode cX11_staying 44 = .ok (.iaload, 1) := by decide +kernel
theorem dX11_staying_45 : decode cX11_staying 45 = .ok (.iload_n 2, 1) := by decide +kernel
theorem dX11_staying_46 : decode cX11_staying 46 = .ok (.invokestatic 377, 3) := by decide +kernel
theorem dX11_staying_49 : decode cX11_staying 49 = .ok (.istore_n 3, 1) := by decide +kernel
theorem dX11_staying_50 : decode cX11_staying 50 = .ok (.iconst 0, 1) := by decide +kernel
theorem dX11_staying_51 : decode cX11_staying 51 = .ok (.iload_n 2, 1) := by decide +kernel
theorem dX11_staying_52 : decode cX11_staying 52 = .ok (.aload_n 0, 1) := by decide +kernel
theorem dX11_staying_53 : decode cX11_staying 53 = .ok (.getfield 50, 3) := by decide +kernel
theorem dX11_staying_56 : decode cX11_staying 56 = .ok (.getfield 156, 3) := by decide +kernel
theorem dX11_staying_59 : decode cX11_staying 59 = .ok (.bipush 13, 2) := by decide +kernel
theorem dX11_staying_61 : decode cX11_staying 61 = .ok (.iload_n 1, 1) := by decide +kernel
theorem dX11_staying_62 : decode cX11_staying 62 = .ok (.iadd, 1) := by decide +kernel
theorem dX11_staying_63 : decode cX11_staying 63 = .ok (.iaload, 1) := by decide +kernel
theorem dX11_staying_64 : decode cX11_staying 64 = .ok (.iadd, 1) := by decide +kernel
theorem dX11_staying_65 : decode cX11_staying 65 = .ok (.iload_n 3, 1) := by decide +kernel
theorem dX11_staying_66 : decode cX11_staying 66 = .ok (.isub, 1) := by decide +kernel
theorem dX11_staying_67 : decode cX11_staying 67 = .ok (.invokestatic 377, 3) := by decide +kernel
theorem dX11_staying_70 : decode cX11_staying 70 = .ok (.ireturn, 1) := by decide +kernel
theorem dX11_image_0 : decode cX11_image 0 = .ok (.aload_n 0, 1) := by decide +kernel
theorem dX11_image_1 : decode cX11_image 1 = .ok (.getfield 116, 3) := by decide +kernel
theorem dX11_image_4 : decode cX11_image 4 = .ok (.ifCond .ne 5, 3) := by decide +kernel
theorem dX11_image_7 : decode cX11_image 7 = .ok (.iconst (-1), 1) := by decide +kernel
theorem dX11_image_8 : decode cX11_image 8 = .ok (.ireturn, 1) := by decide +kernel
theorem dX11_image_9 : decode cX11_image 9 = .ok (.aload_n 0, 1) := by decide +kernel
theorem dX11_image_10 : decode cX11_image 10 = .ok (.getfield 60, 3) := by decide +kernel
theorem dX11_image_13 : decode cX11_image 13 = .ok (.aload_n 0, 1) := by decide +kernel
theorem dX11_image_14 : decode cX11_image 14 = .ok (.getfield 50, 3) := by decide +kernel
theorem dX11_image_17 : decode cX11_image 17 = .ok (.invokevirtual 382, 3) := by decide +kernel
theorem dX11_image_20 : decode cX11_image 20 = .ok (.aload_n 0, 1) := by decide +kernel
theorem dX11_image_21 : decode cX11_image 21 = .ok (.getfield 50, 3) := by decide +kernel
theorem dX11_image_24 : decode cX11_image 24 = .ok (.getfield 156, 3) := by decide +kernel
theorem dX11_image_27 : decode cX11_image 27 = .ok (.iconst 0, 1) := by decide +kernel
theorem dX11_image_28 : decode cX11_image 28 = .ok (.iaload, 1) := by decide +kernel
theorem dX11_image_29 : decode cX11_image 29 = .ok (.ireturn, 1) := by decide +kernel
theorem dX11_back_0 : decode cX11_back 0 = .ok (.aload_n 0, 1) := by decide +kernel
theorem dX11_back_1 : decode cX11_back 1 = .ok (.getfield 60, 3) := by decide +kernel
theorem dX11_back_4 : decode cX11_back 4 = .ok (.aload_n 0, 1) := by decide +kernel
theorem dX11_back_5 : decode cX11_back 5 = .ok (.getfield 50, 3) := by decide +kernel
theorem dX11_back_8 : decode cX11_back 8 = .ok (.invokevirtual 385, 3) := by decide +kernel
theorem dX11_back_11 : decode cX11_back 11 = .ok (.ifCond .eq 15, 3) := by decide +kernel
theorem dX11_back_14 : decode cX11_back 14 = .ok (.aload_n 0, 1) := by decide +kernel
theorem dX11_back_15 : decode cX11_back 15 = .ok (.getfield 50, 3) := by decide +kernel
theorem dX11_back_18 : decode cX11_back 18 = .ok (.getfield 156, 3) := by decide +kernel
theorem dX11_back_21 : decode cX11_back 21 = .ok (.iconst 0, 1) := by decide +kernel
theorem dX11_back_22 : decode cX11_back 22 = .ok (.iaload, 1) := by decide +kernel
theorem dX11_back_23 : decode cX11_back 23 = .ok (.goto 4, 3) := by decide +kernel
theorem dX11_back_26 : decode cX11_back 26 = .ok (.iconst (-1), 1) := by decide +kernel
theorem dX11_back_27 : decode cX11_back 27 = .ok (.ireturn, 1) := by decide +kernel
theorem dX11_count_0 : decode cX11_count 0 = .ok (.iload_n 1, 1) := by decide +kernel
theorem dX11_count_1 : decode cX11_count 1 = .ok (.tableswitch 168 0 12 #[67, 75, 83, 88, 93, 101, 106, 116, 124, 134, 139, 147, 160], 67) := by decide +kernel
theorem dX11_count_68 : decode cX11_count 68 = .ok (.aload_n 0, 1) := by decide +kernel
theorem dX11_count_69 : decode cX11_count 69 = .ok (.getfield 19, 3) := by decide +kernel
theorem dX11_count_72 : decode cX11_count 72 = .ok (.getfield 336, 3) := by decide +kernel
theorem dX11_count_75 : decode cX11_count 75 = .ok (.ireturn, 1) := by decide +kernel
theorem dX11_count_76 : decode cX11_count 76 = .ok (.aload_n 0, 1) := by decide +kernel
theorem dX11_count_77 : decode cX11_count 77 = .ok (.getfield 19, 3) := by decide +kernel
theorem dX11_count_80 : decode cX11_count 80 = .ok (.getfield 349, 3) := by decide +kernel
theorem dX11_count_83 : decode cX11_count 83 = .ok (.ireturn, 1) := by decide +kernel
theorem dX11_count_84 : decode cX11_count 84 = .ok (.aload_n 0, 1) := by decide +kernel
theorem dX11_count_85 : decode cX11_count 85 = .ok (.getfield 103, 3) := by decide +kernel
theorem dX11_count_88 : decode cX11_count 88 = .ok (.ireturn, 1) := by decide +kernel
theorem dX11_count_89 : decode cX11_count 89 = .ok (.aload_n 0, 1) := by decide +kernel
theorem dX11_count_90 : decode cX11_count 90 = .ok (.getfield 107, 3) := by decide +kernel
theorem dX11_count_93 : decode cX11_count 93 = .ok (.ireturn, 1) := by decide +kernel
theorem dX11_count_94 : decode cX11_count 94 = .ok (.aload_n 0, 1) := by decide +kernel
theorem dX11_count_95 : decode cX11_count 95 = .ok (.getfield 12, 3) := by decide +kernel
theorem dX11_count_98 : decode cX11_count 98 = .ok (.getfield 128, 3) := by decide +kernel
theorem dX11_count_101 : decode cX11_count 101 = .ok (.ireturn, 1) := by decide +kernel
theorem dX11_count_102 : decode cX11_count 102 = .ok (.aload_n 0, 1) := by decide +kernel
theorem dX11_count_103 : decode cX11_count 103 = .ok (.getfield 110, 3) := by decide +kernel
theorem dX11_count_106 : decode cX11_count 106 = .ok (.ireturn, 1) := by decide +kernel
theorem dX11_count_107 : decode cX11_count 107 = .ok (.aload_n 0, 1) := by decide +kernel
theorem dX11_count_108 : decode cX11_count 108 = .ok (.getfield 50, 3) := by decide +kernel
theorem dX11_count_111 : decode cX11_count 111 = .ok (.getfield 156, 3) := by decide +kernel
theorem dX11_count_114 : decode cX11_count 114 = .ok (.iconst 0, 1) := by decide +kernel
theorem dX11_count_115 : decode cX11_count 115 = .ok (.iaload, 1) := by decide +kernel
theorem dX11_count_116 : decode cX11_count 116 = .ok (.ireturn, 1) := by decide +kernel
theorem dX11_count_117 : decode cX11_count 117 = .ok (.aload_n 0, 1) := by decide +kernel
theorem dX11_count_118 : decode cX11_count 118 = .ok (.getfield 50, 3) := by decide +kernel
theorem dX11_count_121 : decode cX11_count 121 = .ok (.invokevirtual 388, 3) := by decide +kernel
theorem dX11_count_124 : decode cX11_count 124 = .ok (.ireturn, 1) := by decide +kernel
theorem dX11_count_125 : decode cX11_count 125 = .ok (.aload_n 0, 1) := by decide +kernel
theorem dX11_count_126 : decode cX11_count 126 = .ok (.getfield 50, 3) := by decide +kernel
theorem dX11_count_129 : decode cX11_count 129 = .ok (.getfield 156, 3) := by decide +kernel
theorem dX11_count_132 : decode cX11_count 132 = .ok (.iconst 4, 1) := by decide +kernel
theorem dX11_count_133 : decode cX11_count 133 = .ok (.iaload, 1) := by decide +kernel
theorem dX11_count_134 : decode cX11_count 134 = .ok (.ireturn, 1) := by decide +kernel
theorem dX11_count_135 : decode cX11_count 135 = .ok (.aload_n 0, 1) := by decide +kernel
theorem dX11_count_136 : decode cX11_count 136 = .ok (.getfield 113, 3) := by decide +kernel
theorem dX11_count_139 : decode cX11_count 139 = .ok (.ireturn, 1) := by decide +kernel
theorem dX11_count_140 : decode cX11_count 140 = .ok (.aload_n 0, 1) := by decide +kernel
theorem dX11_count_141 : decode cX11_count 141 = .ok (.getfield 94, 3) := by decide +kernel
theorem dX11_count_144 : decode cX11_count 144 = .ok (.getfield 391, 3) := by decide +kernel
theorem dX11_count_147 : decode cX11_count 147 = .ok (.ireturn, 1) := by decide +kernel
theorem dX11_count_148 : decode cX11_count 148 = .ok (.aload_n 0, 1) := by decide +kernel
theorem dX11_count_149 : decode cX11_count 149 = .ok (.getfield 50, 3) := by decide +kernel
theorem dX11_count_152 : decode cX11_count 152 = .ok (.getfield 156, 3) := by decide +kernel
theorem dX11_count_155 : decode cX11_count 155 = .ok (.iconst 0, 1) := by decide +kernel
theorem dX11_count_156 : decode cX11_count 156 = .ok (.iaload, 1) := by decide +kernel
theorem dX11_count_157 : decode cX11_count 157 = .ok (.invokestatic 228, 3) := by decide +kernel
theorem dX11_count_160 : decode cX11_count 160 = .ok (.ireturn, 1) := by decide +kernel
theorem dX11_count_161 : decode cX11_count 161 = .ok (.aload_n 0, 1) := by decide +kernel
theorem dX11_count_162 : decode cX11_count 162 = .ok (.getfield 60, 3) := by decide +kernel
theorem dX11_count_165 : decode cX11_count 165 = .ok (.getfield 225, 3) := by decide +kernel
theorem dX11_count_168 : decode cX11_count 168 = .ok (.ireturn, 1) := by decide +kernel
theorem dX11_count_169 : decode cX11_count 169 = .ok (.ldc 231, 2) := by decide +kernel
theorem dX11_count_171 : decode cX11_count 171 = .ok (.ireturn, 1) := by decide +kernel
theorem dX11_hasRoomFor_0 : decode cX11_hasRoomFor 0 = .ok (.iload_n 1, 1) := by decide +kernel
theorem dX11_hasRoomFor_1 : decode cX11_hasRoomFor 1 = .ok (.lookupswitch 55 #[(1, 27), (2, 41)], 27) := by decide +kernel
theorem dX11_hasRoomFor_28 : decode cX11_hasRoomFor 28 = .ok (.aload_n 0, 1) := by decide +kernel
theorem dX11_hasRoomFor_29 : decode cX11_hasRoomFor 29 = .ok (.getfield 103, 3) := by decide +kernel
theorem dX11_hasRoomFor_32 : decode cX11_hasRoomFor 32 = .ok (.iconst 4, 1) := by decide +kernel
theorem dX11_hasRoomFor_33 : decode cX11_hasRoomFor 33 = .ok (.if_icmp .ge 7, 3) := by decide +kernel
theorem dX11_hasRoomFor_36 : decode cX11_hasRoomFor 36 = .ok (.iconst 1, 1) := by decide +kernel
theorem dX11_hasRoomFor_37 : decode cX11_hasRoomFor 37 = .ok (.goto 4, 3) := by decide +kernel
theorem dX11_hasRoomFor_40 : decode cX11_hasRoomFor 40 = .ok (.iconst 0, 1) := by decide +kernel
theorem dX11_hasRoomFor_41 : decode cX11_hasRoomFor 41 = .ok (.ireturn, 1) := by decide +kernel
theorem dX11_hasRoomFor_42 : decode cX11_hasRoomFor 42 = .ok (.aload_n 0, 1) := by decide +kernel
theorem dX11_hasRoomFor_43 : decode cX11_hasRoomFor 43 = .ok (.getfield 107, 3) := by decide +kernel
theorem dX11_hasRoomFor_46 : decode cX11_hasRoomFor 46 = .ok (.iconst 4, 1) := by decide +kernel
theorem dX11_hasRoomFor_47 : decode cX11_hasRoomFor 47 = .ok (.if_icmp .ge 7, 3) := by decide +kernel
theorem dX11_hasRoomFor_50 : decode cX11_hasRoomFor 50 = .ok (.iconst 1, 1) := by decide +kernel
theorem dX11_hasRoomFor_51 : decode cX11_hasRoomFor 51 = .ok (.goto 4, 3) := by decide +kernel
theorem dX11_hasRoomFor_54 : decode cX11_hasRoomFor 54 = .ok (.iconst 0, 1) := by decide +kernel
theorem dX11_hasRoomFor_55 : decode cX11_hasRoomFor 55 = .ok (.ireturn, 1) := by decide +kernel
theorem dX11_hasRoomFor_56 : decode cX11_hasRoomFor 56 = .ok (.iconst 1, 1) := by decide +kernel
theorem dX11_hasRoomFor_57 : decode cX11_hasRoomFor 57 = .ok (.ireturn, 1) := by decide +kernel
theorem dX11_readTape_0 : decode cX11_readTape 0 = .ok (.aload_n 0, 1) := by decide +kernel
theorem dX11_readTape_1 : decode cX11_readTape 1 = .ok (.getfield 12, 3) := by decide +kernel
theorem dX11_readTape_4 : decode cX11_readTape 4 = .ok (.iconst 0, 1) := by decide +kernel
theorem dX11_readTape_5 : decode cX11_readTape 5 = .ok (.putfield 139, 3) := by decide +kernel
theorem dX11_readTape_8 : decode cX11_readTape 8 = .ok (.iload_n 1, 1) := by decide +kernel
theorem dX11_readTape_9 : decode cX11_readTape 9 = .ok (.lookupswitch 47 #[(0, 27), (1, 39)], 27) := by decide +kernel
theorem dX11_readTape_36 : decode cX11_readTape 36 = .ok (.aload_n 0, 1) := by decide +kernel
theorem dX11_readTape_37 : decode cX11_readTape 37 = .ok (.getfield 23, 3) := by decide +kernel
theorem dX11_readTape_40 : decode cX11_readTape 40 = .ok (.aload_n 0, 1) := by decide +kernel
theorem dX11_readTape_41 : decode cX11_readTape 41 = .ok (.getfield 12, 3) := by decide +kernel
theorem dX11_readTape_44 : decode cX11_readTape 44 = .ok (.invokevirtual 394, 3) := by decide +kernel
theorem dX11_readTape_47 : decode cX11_readTape 47 = .ok (.ireturn, 1) := by decide +kernel
theorem dX11_readTape_48 : decode cX11_readTape 48 = .ok (.aload_n 0, 1) := by decide +kernel
theorem dX11_readTape_49 : decode cX11_readTape 49 = .ok (.getfield 31, 3) := by decide +kernel
theorem dX11_readTape_52 : decode cX11_readTape 52 = .ok (.invokevirtual 398, 3) := by decide +kernel
theorem dX11_readTape_55 : decode cX11_readTape 55 = .ok (.ireturn, 1) := by decide +kernel
theorem dX11_readTape_56 : decode cX11_readTape 56 = .ok (.aload_n 0, 1) := by decide +kernel
theorem dX11_readTape_57 : decode cX11_readTape 57 = .ok (.getfield 99, 3) := by decide +kernel
theorem dX11_readTape_60 : decode cX11_readTape 60 = .ok (.aload_n 0, 1) := by decide +kernel
theorem dX11_readTape_61 : decode cX11_readTape 61 = .ok (.getfield 12, 3) := by decide +kernel
theorem dX11_readTape_64 : decode cX11_readTape 64 = .ok (.invokevirtual 402, 3) := by decide +kernel
theorem dX11_readTape_67 : decode cX11_readTape 67 = .ok (.ireturn, 1) := by decide +kernel
theorem dX11_moveIn_0 : decode cX11_moveIn 0 = .ok (.aload_n 0, 1) := by decide +kernel
theorem dX11_moveIn_1 : decode cX11_moveIn 1 = .ok (.getfield 19, 3) := by decide +kernel
theorem dX11_moveIn_4 : decode cX11_moveIn 4 = .ok (.aload_n 0, 1) := by decide +kernel
theorem dX11_moveIn_5 : decode cX11_moveIn 5 = .ok (.getfield 23, 3) := by decide +kernel
theorem dX11_moveIn_8 : decode cX11_moveIn 8 = .ok (.invokevirtual 403, 3) := by decide +kernel
theorem dX11_moveIn_11 : decode cX11_moveIn 11 = .ok (.aload_n 0, 1) := by decide +kernel
theorem dX11_moveIn_12 : decode cX11_moveIn 12 = .ok (.iconst 1, 1) := by decide +kernel
theorem dX11_moveIn_13 : decode cX11_moveIn 13 = .ok (.putfield 116, 3) := by decide +kernel
theorem dX11_moveIn_16 : decode cX11_moveIn 16 = .ok (.aload_n 0, 1) := by decide +kernel
theorem dX11_moveIn_17 : decode cX11_moveIn 17 = .ok (.getfield 50, 3) := by decide +kernel
theorem dX11_moveIn_20 : decode cX11_moveIn 20 = .ok (.aload_n 0, 1) := by decide +kernel
theorem dX11_moveIn_21 : decode cX11_moveIn 21 = .ok (.getfield 19, 3) := by decide +kernel
theorem dX11_moveIn_24 : decode cX11_moveIn 24 = .ok (.invokevirtual 405, 3) := by decide +kernel
theorem dX11_moveIn_27 : decode cX11_moveIn 27 = .ok (.aload_n 0, 1) := by decide +kernel
theorem dX11_moveIn_28 : decode cX11_moveIn 28 = .ok (.getfield 60, 3) := by decide +kernel
theorem dX11_moveIn_31 : decode cX11_moveIn 31 = .ok (.invokevirtual 408, 3) := by decide +kernel
theorem dX11_moveIn_34 : decode cX11_moveIn 34 = .ok (.aload_n 0, 1) := by decide +kernel
theorem dX11_moveIn_35 : decode cX11_moveIn 35 = .ok (.getfield 94, 3) := by decide +kernel
theorem dX11_moveIn_38 : decode cX11_moveIn 38 = .ok (.iconst 0, 1) := by decide +kernel
theorem dX11_moveIn_39 : decode cX11_moveIn 39 = .ok (.putfield 391, 3) := by decide +kernel
theorem dX11_moveIn_42 : decode cX11_moveIn 42 = .ok (.aload_n 0, 1) := by decide +kernel
theorem dX11_moveIn_43 : decode cX11_moveIn 43 = .ok (.getfield 19, 3) := by decide +kernel
theorem dX11_moveIn_46 : decode cX11_moveIn 46 = .ok (.getfield 336, 3) := by decide +kernel
theorem dX11_moveIn_49 : decode cX11_moveIn 49 = .ok (.ireturn, 1) := by decide +kernel
theorem dX11_weekAt_0 : decode cX11_weekAt 0 = .ok (.iload_n 1, 1) := by decide +kernel
theorem dX11_weekAt_1 : decode cX11_weekAt 1 = .ok (.ifCond .lt 11, 3) := by decide +kernel
theorem dX11_weekAt_4 : decode cX11_weekAt 4 = .ok (.iload_n 1, 1) := by decide +kernel
theorem dX11_weekAt_5 : decode cX11_weekAt 5 = .ok (.aload_n 0, 1) := by decide +kernel
theorem dX11_weekAt_6 : decode cX11_weekAt 6 = .ok (.getfield 107, 3) := by decide +kernel
theorem dX11_weekAt_9 : decode cX11_weekAt 9 = .ok (.if_icmp .lt 7, 3) := by decide +kernel
theorem dX11_weekAt_12 : decode cX11_weekAt 12 = .ok (.aconst_null, 1) := by decide +kernel
theorem dX11_weekAt_13 : decode cX11_weekAt 13 = .ok (.goto 9, 3) := by decide +kernel
theorem dX11_weekAt_16 : decode cX11_weekAt 16 = .ok (.aload_n 0, 1) := by decide +kernel
theorem dX11_weekAt_17 : decode cX11_weekAt 17 = .ok (.getfield 43, 3) := by decide +kernel
theorem dX11_weekAt_20 : decode cX11_weekAt 20 = .ok (.iload_n 1, 1) := by decide +kernel
theorem dX11_weekAt_21 : decode cX11_weekAt 21 = .ok (.aaload, 1) := by decide +kernel
theorem dX11_weekAt_22 : decode cX11_weekAt 22 = .ok (.areturn, 1) := by decide +kernel
theorem dX11_act_0 : decode cX11_act 0 = .ok (.aload_n 0, 1) := by decide +kernel
theorem dX11_act_1 : decode cX11_act 1 = .ok (.getfield 116, 3) := by decide +kernel
theorem dX11_act_4 : decode cX11_act 4 = .ok (.ifCond .ne 5, 3) := by decide +kernel
theorem dX11_act_7 : decode cX11_act 7 = .ok (.iconst 0, 1) := by decide +kernel
theorem dX11_act_8 : decode cX11_act 8 = .ok (.ireturn, 1) := by decide +kernel
theorem dX11_act_9 : decode cX11_act 9 = .ok (.aload_n 0, 1) := by decide +kernel
theorem dX11_act_10 : decode cX11_act 10 = .ok (.getfield 54, 3) := by decide +kernel
theorem dX11_act_13 : decode cX11_act 13 = .ok (.aload_n 0, 1) := by decide +kernel
theorem dX11_act_14 : decode cX11_act 14 = .ok (.getfield 50, 3) := by decide +kernel
theorem dX11_act_17 : decode cX11_act 17 = .ok (.invokevirtual 204, 3) := by decide +kernel
theorem dX11_act_20 : decode cX11_act 20 = .ok (.aload_n 0, 1) := by decide +kernel
theorem dX11_act_21 : decode cX11_act 21 = .ok (.getfield 78, 3) := by decide +kernel
theorem dX11_act_24 : decode cX11_act 24 = .ok (.aload_n 0, 1) := by decide +kernel
theorem dX11_act_25 : decode cX11_act 25 = .ok (.getfield 50, 3) := by decide +kernel
theorem dX11_act_28 : decode cX11_act 28 = .ok (.iload_n 1, 1) := by decide +kernel
theorem dX11_act_29 : decode cX11_act 29 = .ok (.iload_n 2, 1) := by decide +kernel
theorem dX11_act_30 : decode cX11_act 30 = .ok (.iload_n 3, 1) := by decide +kernel
theorem dX11_act_31 : decode cX11_act 31 = .ok (.invokevirtual 411, 3) := by decide +kernel
theorem dX11_act_34 : decode cX11_act 34 = .ok (.ifCond .ne 5, 3) := by decide +kernel
theorem dX11_act_37 : decode cX11_act 37 = .ok (.iconst 0, 1) := by decide +kernel
theorem dX11_act_38 : decode cX11_act 38 = .ok (.ireturn, 1) := by decide +kernel
theorem dX11_act_39 : decode cX11_act 39 = .ok (.aload_n 0, 1) := by decide +kernel
theorem dX11_act_40 : decode cX11_act 40 = .ok (.getfield 60, 3) := by decide +kernel
theorem dX11_act_43 : decode cX11_act 43 = .ok (.aload_n 0, 1) := by decide +kernel
theorem dX11_act_44 : decode cX11_act 44 = .ok (.getfield 54, 3) := by decide +kernel
theorem dX11_act_47 : decode cX11_act 47 = .ok (.invokevirtual 214, 3) := by decide +kernel
theorem dX11_act_50 : decode cX11_act 50 = .ok (.iload_n 1, 1) := by decide +kernel
theorem dX11_act_51 : decode cX11_act 51 = .ok (.ifCond .ne 18, 3) := by decide +kernel
theorem dX11_act_54 : decode cX11_act 54 = .ok (.aload_n 0, 1) := by decide +kernel
theorem dX11_act_55 : decode cX11_act 55 = .ok (.getfield 60, 3) := by decide +kernel
theorem dX11_act_58 : decode cX11_act 58 = .ok (.aload_n 0, 1) := by decide +kernel
theorem dX11_act_59 : decode cX11_act 59 = .ok (.getfield 50, 3) := by decide +kernel
theorem dX11_act_62 : decode cX11_act 62 = .ok (.aload_n 0, 1) := by decide +kernel
theorem dX11_act_63 : decode cX11_act 63 = .ok (.getfield 69, 3) := by decide +kernel
theorem dX11_act_66 : decode cX11_act 66 = .ok (.invokevirtual 217, 3) := by decide +kernel
theorem dX11_act_69 : decode cX11_act 69 = .ok (.iconst 1, 1) := by decide +kernel
theorem dX11_act_70 : decode cX11_act 70 = .ok (.ireturn, 1) := by decide +kernel
theorem dX11_meetChance_0 : decode cX11_meetChance 0 = .ok (.aload_n 0, 1) := by decide +kernel
theorem dX11_meetChance_1 : decode cX11_meetChance 1 = .ok (.bipush 10, 2) := by decide +kernel
theorem dX11_meetChance_3 : decode cX11_meetChance 3 = .ok (.invokevirtual 415, 3) := by decide +kernel
theorem dX11_meetChance_6 : decode cX11_meetChance 6 = .ok (.aload_n 0, 1) := by decide +kernel
theorem dX11_meetChance_7 : decode cX11_meetChance 7 = .ok (.getfield 113, 3) := by decide +kernel
theorem dX11_meetChance_10 : decode cX11_meetChance 10 = .ok (.if_icmp .ge 18, 3) := by decide +kernel
theorem dX11_meetChance_13 : decode cX11_meetChance 13 = .ok (.aload_n 0, 1) := by decide +kernel
theorem dX11_meetChance_14 : decode cX11_meetChance 14 = .ok (.getfield 78, 3) := by decide +kernel
theorem dX11_meetChance_17 : decode cX11_meetChance 17 = .ok (.aload_n 0, 1) := by decide +kernel
theorem dX11_meetChance_18 : decode cX11_meetChance 18 = .ok (.getfield 50, 3) := by decide +kernel
theorem dX11_meetChance_21 : decode cX11_meetChance 21 = .ok (.iconst 2, 1) := by decide +kernel
theorem dX11_meetChance_22 : decode cX11_meetChance 22 = .ok (.iconst (-1), 1) := by decide +kernel
theorem dX11_meetChance_23 : decode cX11_meetChance 23 = .ok (.iconst (-1), 1) := by decide +kernel
theorem dX11_meetChance_24 : decode cX11_meetChance 24 = .ok (.invokevirtual 411, 3) := by decide +kernel
theorem dX11_meetChance_27 : decode cX11_meetChance 27 = .ok (.pop, 1) := by decide +kernel
theorem dX11_meetChance_28 : decode cX11_meetChance 28 = .ok (.aload_n 0, 1) := by decide +kernel
theorem dX11_meetChance_29 : decode cX11_meetChance 29 = .ok (.getfield 50, 3) := by decide +kernel
theorem dX11_meetChance_32 : decode cX11_meetChance 32 = .ok (.getfield 156, 3) := by decide +kernel
theorem dX11_meetChance_35 : decode cX11_meetChance 35 = .ok (.iconst 3, 1) := by decide +kernel
theorem dX11_meetChance_36 : decode cX11_meetChance 36 = .ok (.aload_n 0, 1) := by decide +kernel
theorem dX11_meetChance_37 : decode cX11_meetChance 37 = .ok (.aload_n 0, 1) := by decide +kernel
theorem dX11_meetChance_38 : decode cX11_meetChance 38 = .ok (.getfield 19, 3) := by decide +kernel
theorem dX11_meetChance_41 : decode cX11_meetChance 41 = .ok (.getfield 349, 3) := by decide +kernel
theorem dX11_meetChance_44 : decode cX11_meetChance 44 = .ok (.invokevirtual 415, 3) := by decide +kernel
theorem dX11_meetChance_47 : decode cX11_meetChance 47 = .ok (.iastore, 1) := by decide +kernel
theorem dX11_meetChance_48 : decode cX11_meetChance 48 = .ok (.aload_n 0, 1) := by decide +kernel
theorem dX11_meetChance_49 : decode cX11_meetChance 49 = .ok (.bipush 10, 2) := by decide +kernel
theorem dX11_meetChance_51 : decode cX11_meetChance 51 = .ok (.invokevirtual 415, 3) := by decide +kernel
theorem dX11_meetChance_54 : decode cX11_meetChance 54 = .ok (.bipush 8, 2) := by decide +kernel
theorem dX11_meetChance_56 : decode cX11_meetChance 56 = .ok (.if_icmp .lt 28, 3) := by decide +kernel
theorem dX11_meetChance_59 : decode cX11_meetChance 59 = .ok (.aload_n 0, 1) := by decide +kernel
theorem dX11_meetChance_60 : decode cX11_meetChance 60 = .ok (.getfield 78, 3) := by decide +kernel
theorem dX11_meetChance_63 : decode cX11_meetChance 63 = .ok (.aload_n 0, 1) := by decide +kernel
theorem dX11_meetChance_64 : decode cX11_meetChance 64 = .ok (.getfield 50, 3) := by decide +kernel
theorem dX11_meetChance_67 : decode cX11_meetChance 67 = .ok (.iconst 4, 1) := by decide +kernel
theorem dX11_meetChance_68 : decode cX11_meetChance 68 = .ok (.aload_n 0, 1) := by decide +kernel
theorem dX11_meetChance_69 : decode cX11_meetChance 69 = .ok (.aload_n 0, 1) := by decide +kernel
theorem dX11_meetChance_70 : decode cX11_meetChance 70 = .ok (.getfield 19, 3) := by decide +kernel
theorem dX11_meetChance_73 : decode cX11_meetChance 73 = .ok (.getfield 336, 3) := by decide +kernel
theorem dX11_meetChance_76 : decode cX11_meetChance 76 = .ok (.invokevirtual 415, 3) := by decide +kernel
theorem dX11_meetChance_79 : decode cX11_meetChance 79 = .ok (.iconst 2, 1) := by decide +kernel
theorem dX11_meetChance_80 : decode cX11_meetChance 80 = .ok (.invokevirtual 411, 3) := by decide +kernel
theorem dX11_meetChance_83 : decode cX11_meetChance 83 = .ok (.pop, 1) := by decide +kernel
theorem dX11_meetChance_84 : decode cX11_meetChance 84 = .ok (.return_, 1) := by decide +kernel
theorem dX11_draw_0 : decode cX11_draw 0 = .ok (.aload_n 0, 1) := by decide +kernel
theorem dX11_draw_1 : decode cX11_draw 1 = .ok (.aload_n 0, 1) := by decide +kernel
theorem dX11_draw_2 : decode cX11_draw 2 = .ok (.getfield 120, 3) := by decide +kernel
theorem dX11_draw_5 : decode cX11_draw 5 = .ok (.ldc2_w 418, 3) := by decide +kernel
theorem dX11_draw_8 : decode cX11_draw 8 = .ok (.lmul, 1) := by decide +kernel
theorem dX11_draw_9 : decode cX11_draw 9 = .ok (.ldc2_w 420, 3) := by decide +kernel
theorem dX11_draw_12 : decode cX11_draw 12 = .ok (.ladd, 1) := by decide +kernel
theorem dX11_draw_13 : decode cX11_draw 13 = .ok (.putfield 120, 3) := by decide +kernel
theorem dX11_draw_16 : decode cX11_draw 16 = .ok (.iload_n 1, 1) := by decide +kernel
theorem dX11_draw_17 : decode cX11_draw 17 = .ok (.ifCond .le 17, 3) := by decide +kernel
theorem dX11_draw_20 : decode cX11_draw 20 = .ok (.aload_n 0, 1) := by decide +kernel
theorem dX11_draw_21 : decode cX11_draw 21 = .ok (.getfield 120, 3) := by decide +kernel
theorem dX11_draw_24 : decode cX11_draw 24 = .ok (.bipush 33, 2) := by decide +kernel
theorem dX11_draw_26 : decode cX11_draw 26 = .ok (.lushr, 1) := by decide +kernel
theorem dX11_draw_27 : decode cX11_draw 27 = .ok (.iload_n 1, 1) := by decide +kernel
theorem dX11_draw_28 : decode cX11_draw 28 = .ok (.i2l, 1) := by decide +kernel
theorem dX11_draw_29 : decode cX11_draw 29 = .ok (.lrem, 1) := by decide +kernel
theorem dX11_draw_30 : decode cX11_draw 30 = .ok (.l2i, 1) := by decide +kernel
theorem dX11_draw_31 : decode cX11_draw 31 = .ok (.goto 4, 3) := by decide +kernel
theorem dX11_draw_34 : decode cX11_draw 34 = .ok (.iconst 0, 1) := by decide +kernel
theorem dX11_draw_35 : decode cX11_draw 35 = .ok (.ireturn, 1) := by decide +kernel
theorem dX11_areWarmthAndJoy_0 : decode cX11_areWarmthAndJoy 0 = .ok (.iload_n 0, 1) := by decide +kernel
theorem dX11_areWarmthAndJoy_1 : decode cX11_areWarmthAndJoy 1 = .ok (.ifCond .lt 25, 3) := by decide +kernel
theorem dX11_areWarmthAndJoy_4 : decode cX11_areWarmthAndJoy 4 = .ok (.iload_n 0, 1) := by decide +kernel
theorem dX11_areWarmthAndJoy_5 : decode cX11_areWarmthAndJoy 5 = .ok (.bipush 20, 2) := by decide +kernel
theorem dX11_areWarmthAndJoy_7 : decode cX11_areWarmthAndJoy 7 = .ok (.if_icmp .gt 19, 3) := by decide +kernel
theorem dX11_areWarmthAndJoy_10 : decode cX11_areWarmthAndJoy 10 = .ok (.iload_n 1, 1) := by decide +kernel
theorem dX11_areWarmthAndJoy_11 : decode cX11_areWarmthAndJoy 11 = .ok (.bipush (-9), 2) := by decide +kernel
theorem dX11_areWarmthAndJoy_13 : decode cX11_areWarmthAndJoy 13 = .ok (.if_icmp .lt 13, 3) := by decide +kernel
theorem dX11_areWarmthAndJoy_16 : decode cX11_areWarmthAndJoy 16 = .ok (.iload_n 1, 1) := by decide +kernel
theorem dX11_areWarmthAndJoy_17 : decode cX11_areWarmthAndJoy 17 = .ok (.bipush 20, 2) := by decide +kernel
theorem dX11_areWarmthAndJoy_19 : decode cX11_areWarmthAndJoy 19 = .ok (.if_icmp .gt 7, 3) := by decide +kernel
theorem dX11_areWarmthAndJoy_22 : decode cX11_areWarmthAndJoy 22 = .ok (.iconst 1, 1) := by decide +kernel
theorem dX11_areWarmthAndJoy_23 : decode cX11_areWarmthAndJoy 23 = .ok (.goto 4, 3) := by decide +kernel
theorem dX11_areWarmthAndJoy_26 : decode cX11_areWarmthAndJoy 26 = .ok (.iconst 0, 1) := by decide +kernel
theorem dX11_areWarmthAndJoy_27 : decode cX11_areWarmthAndJoy 27 = .ok (.ireturn, 1) := by decide +kernel
theorem dX11_canPlay_0 : decode cX11_canPlay 0 = .ok (.aload_n 0, 1) := by decide +kernel
theorem dX11_canPlay_1 : decode cX11_canPlay 1 = .ok (.getfield 19, 3) := by decide +kernel
theorem dX11_canPlay_4 : decode cX11_canPlay 4 = .ok (.iload_n 1, 1) := by decide +kernel
theorem dX11_canPlay_5 : decode cX11_canPlay 5 = .ok (.invokevirtual 170, 3) := by decide +kernel
theorem dX11_canPlay_8 : decode cX11_canPlay 8 = .ok (.ifCond .eq 45, 3) := by decide +kernel
theorem dX11_canPlay_11 : decode cX11_canPlay 11 = .ok (.aload_n 0, 1) := by decide +kernel
theorem dX11_canPlay_12 : decode cX11_canPlay 12 = .ok (.getfield 19, 3) := by decide +kernel
theorem dX11_canPlay_15 : decode cX11_canPlay 15 = .ok (.iload_n 2, 1) := by decide +kernel
theorem dX11_canPlay_16 : decode cX11_canPlay 16 = .ok (.invokevirtual 170, 3) := by decide +kernel
theorem dX11_canPlay_19 : decode cX11_canPlay 19 = .ok (.ifCond .eq 34, 3) := by decide +kernel
theorem dX11_canPlay_22 : decode cX11_canPlay 22 = .ok (.iload_n 1, 1) := by decide +kernel
theorem dX11_canPlay_23 : decode cX11_canPlay 23 = .ok (.iload_n 2, 1) := by decide +kernel
theorem dX11_canPlay_24 : decode cX11_canPlay 24 = .ok (.if_icmp .eq 29, 3) := by decide +kernel
theorem dX11_canPlay_27 : decode cX11_canPlay 27 = .ok (.aload_n 0, 1) := by decide +kernel
theorem dX11_canPlay_28 : decode cX11_canPlay 28 = .ok (.getfield 50, 3) := by decide +kernel
theorem dX11_canPlay_31 : decode cX11_canPlay 31 = .ok (.iload_n 1, 1) := by decide +kernel
theorem dX11_canPlay_32 : decode cX11_canPlay 32 = .ok (.invokevirtual 183, 3) := by decide +kernel
theorem dX11_canPlay_35 : decode cX11_canPlay 35 = .ok (.ifCond .ne 18, 3) := by decide +kernel
theorem dX11_canPlay_38 : decode cX11_canPlay 38 = .ok (.aload_n 0, 1) := by decide +kernel
theorem dX11_canPlay_39 : decode cX11_canPlay 39 = .ok (.getfield 50, 3) := by decide +kernel
theorem dX11_canPlay_42 : decode cX11_canPlay 42 = .ok (.iload_n 2, 1) := by decide +kernel
theorem dX11_canPlay_43 : decode cX11_canPlay 43 = .ok (.invokevirtual 183, 3) := by decide +kernel
theorem dX11_canPlay_46 : decode cX11_canPlay 46 = .ok (.ifCond .ne 7, 3) := by decide +kernel
theorem dX11_canPlay_49 : decode cX11_canPlay 49 = .ok (.iconst 1, 1) := by decide +kernel
theorem dX11_canPlay_50 : decode cX11_canPlay 50 = .ok (.goto 4, 3) := by decide +kernel
theorem dX11_canPlay_53 : decode cX11_canPlay 53 = .ok (.iconst 0, 1) := by decide +kernel
theorem dX11_canPlay_54 : decode cX11_canPlay 54 = .ok (.ireturn, 1) := by decide +kernel
theorem dX11_firstMost_0 : decode cX11_firstMost 0 = .ok (.iconst 0, 1) := by decide +kernel
theorem dX11_firstMost_1 : decode cX11_firstMost 1 = .ok (.istore 4, 2) := by decide +kernel
theorem dX11_firstMost_3 : decode cX11_firstMost 3 = .ok (.iconst 1, 1) := by decide +kernel
theorem dX11_firstMost_4 : decode cX11_firstMost 4 = .ok (.istore 5, 2) := by decide +kernel
theorem dX11_firstMost_6 : decode cX11_firstMost 6 = .ok (.iload 5, 2) := by decide +kernel
theorem dX11_firstMost_8 : decode cX11_firstMost 8 = .ok (.iload_n 3, 1) := by decide +kernel
theorem dX11_firstMost_9 : decode cX11_firstMost 9 = .ok (.if_icmp .ge 43, 3) := by decide +kernel
theorem dX11_firstMost_12 : decode cX11_firstMost 12 = .ok (.iload_n 1, 1) := by decide +kernel
theorem dX11_firstMost_13 : decode cX11_firstMost 13 = .ok (.iload 5, 2) := by decide +kernel
theorem dX11_firstMost_15 : decode cX11_firstMost 15 = .ok (.iload_n 2, 1) := by decide +kernel
theorem dX11_firstMost_16 : decode cX11_firstMost 16 = .ok (.imul, 1) := by decide +kernel
theorem dX11_firstMost_17 : decode cX11_firstMost 17 = .ok (.iadd, 1) := by decide +kernel
theorem dX11_firstMost_18 : decode cX11_firstMost 18 = .ok (.aload_n 0, 1) := by decide +kernel
theorem dX11_firstMost_19 : decode cX11_firstMost 19 = .ok (.arraylength, 1) := by decide +kernel
theorem dX11_firstMost_20 : decode cX11_firstMost 20 = .ok (.if_icmp .ge 32, 3) := by decide +kernel
theorem dX11_firstMost_23 : decode cX11_firstMost 23 = .ok (.aload_n 0, 1) := by decide +kernel
theorem dX11_firstMost_24 : decode cX11_firstMost 24 = .ok (.iload_n 1, 1) := by decide +kernel
theorem dX11_firstMost_25 : decode cX11_firstMost 25 = .ok (.iload 5, 2) := by decide +kernel
theorem dX11_firstMost_27 : decode cX11_firstMost 27 = .ok (.iload_n 2, 1) := by decide +kernel
theorem dX11_firstMost_28 : decode cX11_firstMost 28 = .ok (.imul, 1) := by decide +kernel
theorem dX11_firstMost_29 : decode cX11_firstMost 29 = .ok (.iadd, 1) := by decide +kernel
theorem dX11_firstMost_30 : decode cX11_firstMost 30 = .ok (.iaload, 1) := by decide +kernel
theorem dX11_firstMost_31 : decode cX11_firstMost 31 = .ok (.aload_n 0, 1) := by decide +kernel
theorem dX11_firstMost_32 : decode cX11_firstMost 32 = .ok (.iload_n 1, 1) := by decide +kernel
theorem dX11_firstMost_33 : decode cX11_firstMost 33 = .ok (.iload 4, 2) := by decide +kernel
theorem dX11_firstMost_35 : decode cX11_firstMost 35 = .ok (.iload_n 2, 1) := by decide +kernel
theorem dX11_firstMost_36 : decode cX11_firstMost 36 = .ok (.imul, 1) := by decide +kernel
theorem dX11_firstMost_37 : decode cX11_firstMost 37 = .ok (.iadd, 1) := by decide +kernel
theorem dX11_firstMost_38 : decode cX11_firstMost 38 = .ok (.iaload, 1) := by decide +kernel
theorem dX11_firstMost_39 : decode cX11_firstMost 39 = .ok (.if_icmp .le 7, 3) := by decide +kernel
theorem dX11_firstMost_42 : decode cX11_firstMost 42 = .ok (.iload 5, 2) := by decide +kernel
theorem dX11_firstMost_44 : decode cX11_firstMost 44 = .ok (.istore 4, 2) := by decide +kernel
theorem dX11_firstMost_46 : decode cX11_firstMost 46 = .ok (.iinc 5 1, 3) := by decide +kernel
theorem dX11_firstMost_49 : decode cX11_firstMost 49 = .ok (.goto (-43), 3) := by decide +kernel
theorem dX11_firstMost_52 : decode cX11_firstMost 52 = .ok (.iload 4, 2) := by decide +kernel
theorem dX11_firstMost_54 : decode cX11_firstMost 54 = .ok (.ireturn, 1) := by decide +kernel
theorem dX11_cheapest_0 : decode cX11_cheapest 0 = .ok (.iconst 0, 1) := by decide +kernel
theorem dX11_cheapest_1 : decode cX11_cheapest 1 = .ok (.istore_n 1, 1) := by decide +kernel
theorem dX11_cheapest_2 : decode cX11_cheapest 2 = .ok (.iconst 1, 1) := by decide +kernel
theorem dX11_cheapest_3 : decode cX11_cheapest 3 = .ok (.istore_n 2, 1) := by decide +kernel
theorem dX11_cheapest_4 : decode cX11_cheapest 4 = .ok (.iload_n 2, 1) := by decide +kernel
theorem dX11_cheapest_5 : decode cX11_cheapest 5 = .ok (.aload_n 0, 1) := by decide +kernel
theorem dX11_cheapest_6 : decode cX11_cheapest 6 = .ok (.getfield 19, 3) := by decide +kernel
theorem dX11_cheapest_9 : decode cX11_cheapest 9 = .ok (.getfield 349, 3) := by decide +kernel
theorem dX11_cheapest_12 : decode cX11_cheapest 12 = .ok (.if_icmp .ge 32, 3) := by decide +kernel
theorem dX11_cheapest_15 : decode cX11_cheapest 15 = .ok (.aload_n 0, 1) := by decide +kernel
theorem dX11_cheapest_16 : decode cX11_cheapest 16 = .ok (.getfield 19, 3) := by decide +kernel
theorem dX11_cheapest_19 : decode cX11_cheapest 19 = .ok (.iload_n 2, 1) := by decide +kernel
theorem dX11_cheapest_20 : decode cX11_cheapest 20 = .ok (.iconst 1, 1) := by decide +kernel
theorem dX11_cheapest_21 : decode cX11_cheapest 21 = .ok (.invokevirtual 166, 3) := by decide +kernel
theorem dX11_cheapest_24 : decode cX11_cheapest 24 = .ok (.aload_n 0, 1) := by decide +kernel
theorem dX11_cheapest_25 : decode cX11_cheapest 25 = .ok (.getfield 19, 3) := by decide +kernel
theorem dX11_cheapest_28 : decode cX11_cheapest 28 = .ok (.iload_n 1, 1) := by decide +kernel
theorem dX11_cheapest_29 : decode cX11_cheapest 29 = .ok (.iconst 1, 1) := by decide +kernel
theorem dX11_cheapest_30 : decode cX11_cheapest 30 = .ok (.invokevirtual 166, 3) := by decide +kernel
theorem dX11_cheapest_33 : decode cX11_cheapest 33 = .ok (.if_icmp .ge 5, 3) := by decide +kernel
theorem dX11_cheapest_36 : decode cX11_cheapest 36 = .ok (.iload_n 2, 1) := by decide +kernel
theorem dX11_cheapest_37 : decode cX11_cheapest 37 = .ok (.istore_n 1, 1) := by decide +kernel
theorem dX11_cheapest_38 : decode cX11_cheapest 38 = .ok (.iinc 2 1, 3) := by decide +kernel
theorem dX11_cheapest_41 : decode cX11_cheapest 41 = .ok (.goto (-37), 3) := by decide +kernel
theorem dX11_cheapest_44 : decode cX11_cheapest 44 = .ok (.iload_n 1, 1) := by decide +kernel
theorem dX11_cheapest_45 : decode cX11_cheapest 45 = .ok (.ireturn, 1) := by decide +kernel
theorem dX11_mostLiked_0 : decode cX11_mostLiked 0 = .ok (.iconst 0, 1) := by decide +kernel
theorem dX11_mostLiked_1 : decode cX11_mostLiked 1 = .ok (.istore_n 1, 1) := by decide +kernel
theorem dX11_mostLiked_2 : decode cX11_mostLiked 2 = .ok (.iconst (-1), 1) := by decide +kernel
theorem dX11_mostLiked_3 : decode cX11_mostLiked 3 = .ok (.istore_n 2, 1) := by decide +kernel
theorem dX11_mostLiked_4 : decode cX11_mostLiked 4 = .ok (.iconst 0, 1) := by decide +kernel
theorem dX11_mostLiked_5 : decode cX11_mostLiked 5 = .ok (.istore_n 3, 1) := by decide +kernel
theorem dX11_mostLiked_6 : decode cX11_mostLiked 6 = .ok (.iload_n 3, 1) := by decide +kernel
theorem dX11_mostLiked_7 : decode cX11_mostLiked 7 = .ok (.aload_n 0, 1) := by decide +kernel
theorem dX11_mostLiked_8 : decode cX11_mostLiked 8 = .ok (.getfield 19, 3) := by decide +kernel
theorem dX11_mostLiked_11 : decode cX11_mostLiked 11 = .ok (.getfield 349, 3) := by decide +kernel
theorem dX11_mostLiked_14 : decode cX11_mostLiked 14 = .ok (.if_icmp .ge 88, 3) := by decide +kernel
theorem dX11_mostLiked_17 : decode cX11_mostLiked 17 = .ok (.iconst 0, 1) := by decide +kernel
theorem dX11_mostLiked_18 : decode cX11_mostLiked 18 = .ok (.istore 4, 2) := by decide +kernel
theorem dX11_mostLiked_20 : decode cX11_mostLiked 20 = .ok (.iconst 0, 1) := by decide +kernel
theorem dX11_mostLiked_21 : decode cX11_mostLiked 21 = .ok (.istore 5, 2) := by decide +kernel
theorem dX11_mostLiked_23 : decode cX11_mostLiked 23 = .ok (.iload 5, 2) := by decide +kernel
theorem dX11_mostLiked_25 : decode cX11_mostLiked 25 = .ok (.aload_n 0, 1) := by decide +kernel
theorem dX11_mostLiked_26 : decode cX11_mostLiked 26 = .ok (.getfield 19, 3) := by decide +kernel
theorem dX11_mostLiked_29 : decode cX11_mostLiked 29 = .ok (.getfield 336, 3) := by decide +kernel
theorem dX11_mostLiked_32 : decode cX11_mostLiked 32 = .ok (.if_icmp .ge 53, 3) := by decide +kernel
theorem dX11_mostLiked_35 : decode cX11_mostLiked 35 = .ok (.aload_n 0, 1) := by decide +kernel
theorem dX11_mostLiked_36 : decode cX11_mostLiked 36 = .ok (.getfield 69, 3) := by decide +kernel
theorem dX11_mostLiked_39 : decode cX11_mostLiked 39 = .ok (.aload_n 0, 1) := by decide +kernel
theorem dX11_mostLiked_40 : decode cX11_mostLiked 40 = .ok (.getfield 50, 3) := by decide +kernel
theorem dX11_mostLiked_43 : decode cX11_mostLiked 43 = .ok (.iload 5, 2) := by decide +kernel
theorem dX11_mostLiked_45 : decode cX11_mostLiked 45 = .ok (.invokevirtual 268, 3) := by decide +kernel
theorem dX11_mostLiked_48 : decode cX11_mostLiked 48 = .ok (.ifCond .eq 31, 3) := by decide +kernel
theorem dX11_mostLiked_51 : decode cX11_mostLiked 51 = .ok (.aload_n 0, 1) := by decide +kernel
theorem dX11_mostLiked_52 : decode cX11_mostLiked 52 = .ok (.getfield 50, 3) := by decide +kernel
theorem dX11_mostLiked_55 : decode cX11_mostLiked 55 = .ok (.getfield 156, 3) := by decide +kernel
theorem dX11_mostLiked_58 : decode cX11_mostLiked 58 = .ok (.bipush 19, 2) := by decide +kernel
theorem dX11_mostLiked_60 : decode cX11_mostLiked 60 = .ok (.iload 5, 2) := by decide +kernel
theorem dX11_mostLiked_62 : decode cX11_mostLiked 62 = .ok (.iadd, 1) := by decide +kernel
theorem dX11_mostLiked_63 : decode cX11_mostLiked 63 = .ok (.iaload, 1) := by decide +kernel
theorem dX11_mostLiked_64 : decode cX11_mostLiked 64 = .ok (.aload_n 0, 1) := by decide +kernel
theorem dX11_mostLiked_65 : decode cX11_mostLiked 65 = .ok (.getfield 19, 3) := by decide +kernel
theorem dX11_mostLiked_68 : decode cX11_mostLiked 68 = .ok (.iload_n 3, 1) := by decide +kernel
theorem dX11_mostLiked_69 : decode cX11_mostLiked 69 = .ok (.iconst 2, 1) := by decide +kernel
theorem dX11_mostLiked_70 : decode cX11_mostLiked 70 = .ok (.invokevirtual 166, 3) := by decide +kernel
theorem dX11_mostLiked_73 : decode cX11_mostLiked 73 = .ok (.if_icmp .ne 6, 3) := by decide +kernel
theorem dX11_mostLiked_76 : decode cX11_mostLiked 76 = .ok (.iinc 4 1, 3) := by decide +kernel
theorem dX11_mostLiked_79 : decode cX11_mostLiked 79 = .ok (.iinc 5 1, 3) := by decide +kernel
theorem dX11_mostLiked_82 : decode cX11_mostLiked 82 = .ok (.goto (-59), 3) := by decide +kernel
theorem dX11_mostLiked_85 : decode cX11_mostLiked 85 = .ok (.iload 4, 2) := by decide +kernel
theorem dX11_mostLiked_87 : decode cX11_mostLiked 87 = .ok (.iload_n 2, 1) := by decide +kernel
theorem dX11_mostLiked_88 : decode cX11_mostLiked 88 = .ok (.if_icmp .le 8, 3) := by decide +kernel
theorem dX11_mostLiked_91 : decode cX11_mostLiked 91 = .ok (.iload 4, 2) := by decide +kernel
theorem dX11_mostLiked_93 : decode cX11_mostLiked 93 = .ok (.istore_n 2, 1) := by decide +kernel
theorem dX11_mostLiked_94 : decode cX11_mostLiked 94 = .ok (.iload_n 3, 1) := by decide +kernel
theorem dX11_mostLiked_95 : decode cX11_mostLiked 95 = .ok (.istore_n 1, 1) := by decide +kernel
theorem dX11_mostLiked_96 : decode cX11_mostLiked 96 = .ok (.iinc 3 1, 3) := by decide +kernel
theorem dX11_mostLiked_99 : decode cX11_mostLiked 99 = .ok (.goto (-93), 3) := by decide +kernel
theorem dX11_mostLiked_102 : decode cX11_mostLiked 102 = .ok (.iload_n 1, 1) := by decide +kernel
theorem dX11_mostLiked_103 : decode cX11_mostLiked 103 = .ok (.ireturn, 1) := by decide +kernel
theorem dX11_lastDay_0 : decode cX11_lastDay 0 = .ok (.iconst (-1), 1) := by decide +kernel
theorem dX11_lastDay_1 : decode cX11_lastDay 1 = .ok (.istore_n 1, 1) := by decide +kernel
theorem dX11_lastDay_2 : decode cX11_lastDay 2 = .ok (.iconst 0, 1) := by decide +kernel
theorem dX11_lastDay_3 : decode cX11_lastDay 3 = .ok (.istore_n 2, 1) := by decide +kernel
theorem dX11_lastDay_4 : decode cX11_lastDay 4 = .ok (.iload_n 2, 1) := by decide +kernel
theorem dX11_lastDay_5 : decode cX11_lastDay 5 = .ok (.aload_n 0, 1) := by decide +kernel
theorem dX11_lastDay_6 : decode cX11_lastDay 6 = .ok (.getfield 19, 3) := by decide +kernel
theorem dX11_lastDay_9 : decode cX11_lastDay 9 = .ok (.getfield 336, 3) := by decide +kernel
theorem dX11_lastDay_12 : decode cX11_lastDay 12 = .ok (.if_icmp .ge 49, 3) := by decide +kernel
theorem dX11_lastDay_15 : decode cX11_lastDay 15 = .ok (.aload_n 0, 1) := by decide +kernel
theorem dX11_lastDay_16 : decode cX11_lastDay 16 = .ok (.getfield 50, 3) := by decide +kernel
theorem dX11_lastDay_19 : decode cX11_lastDay 19 = .ok (.iload_n 2, 1) := by decide +kernel
theorem dX11_lastDay_20 : decode cX11_lastDay 20 = .ok (.invokevirtual 183, 3) := by decide +kernel
theorem dX11_lastDay_23 : decode cX11_lastDay 23 = .ok (.ifCond .ne 32, 3) := by decide +kernel
theorem dX11_lastDay_26 : decode cX11_lastDay 26 = .ok (.iload_n 1, 1) := by decide +kernel
theorem dX11_lastDay_27 : decode cX11_lastDay 27 = .ok (.aload_n 0, 1) := by decide +kernel
theorem dX11_lastDay_28 : decode cX11_lastDay 28 = .ok (.getfield 19, 3) := by decide +kernel
theorem dX11_lastDay_31 : decode cX11_lastDay 31 = .ok (.iload_n 2, 1) := by decide +kernel
theorem dX11_lastDay_32 : decode cX11_lastDay 32 = .ok (.iconst 0, 1) := by decide +kernel
theorem dX11_lastDay_33 : decode cX11_lastDay 33 = .ok (.invokevirtual 180, 3) := by decide +kernel
theorem dX11_lastDay_36 : decode cX11_lastDay 36 = .ok (.aload_n 0, 1) := by decide +kernel
theorem dX11_lastDay_37 : decode cX11_lastDay 37 = .ok (.getfield 50, 3) := by decide +kernel
theorem dX11_lastDay_40 : decode cX11_lastDay 40 = .ok (.getfield 156, 3) := by decide +kernel
theorem dX11_lastDay_43 : decode cX11_lastDay 43 = .ok (.bipush 13, 2) := by decide +kernel
theorem dX11_lastDay_45 : decode cX11_lastDay 45 = .ok (.iload_n 2, 1) := by decide +kernel
theorem dX11_lastDay_46 : decode cX11_lastDay 46 = .ok (.iadd, 1) := by decide +kernel
theorem dX11_lastDay_47 : decode cX11_lastDay 47 = .ok (.iaload, 1) := by decide +kernel
theorem dX11_lastDay_48 : decode cX11_lastDay 48 = .ok (.iadd, 1) := by decide +kernel
theorem dX11_lastDay_49 : decode cX11_lastDay 49 = .ok (.iconst 1, 1) := by decide +kernel
theorem dX11_lastDay_50 : decode cX11_lastDay 50 = .ok (.isub, 1) := by decide +kernel
theorem dX11_lastDay_51 : decode cX11_lastDay 51 = .ok (.invokestatic 377, 3) := by decide +kernel
theorem dX11_lastDay_54 : decode cX11_lastDay 54 = .ok (.istore_n 1, 1) := by decide +kernel
theorem dX11_lastDay_55 : decode cX11_lastDay 55 = .ok (.iinc 2 1, 3) := by decide +kernel
theorem dX11_lastDay_58 : decode cX11_lastDay 58 = .ok (.goto (-54), 3) := by decide +kernel
theorem dX11_lastDay_61 : decode cX11_lastDay 61 = .ok (.iload_n 1, 1) := by decide +kernel
theorem dX11_lastDay_62 : decode cX11_lastDay 62 = .ok (.ireturn, 1) := by decide +kernel
theorem dX11_takings_0 : decode cX11_takings 0 = .ok (.iconst 0, 1) := by decide +kernel
theorem dX11_takings_1 : decode cX11_takings 1 = .ok (.istore_n 1, 1) := by decide +kernel
theorem dX11_takings_2 : decode cX11_takings 2 = .ok (.iconst 0, 1) := by decide +kernel
theorem dX11_takings_3 : decode cX11_takings 3 = .ok (.istore_n 2, 1) := by decide +kernel
theorem dX11_takings_4 : decode cX11_takings 4 = .ok (.iload_n 2, 1) := by decide +kernel
theorem dX11_takings_5 : decode cX11_takings 5 = .ok (.aload_n 0, 1) := by decide +kernel
theorem dX11_takings_6 : decode cX11_takings 6 = .ok (.getfield 19, 3) := by decide +kernel
theorem dX11_takings_9 : decode cX11_takings 9 = .ok (.getfield 336, 3) := by decide +kernel
theorem dX11_takings_12 : decode cX11_takings 12 = .ok (.if_icmp .ge 36, 3) := by decide +kernel
theorem dX11_takings_15 : decode cX11_takings 15 = .ok (.aload_n 0, 1) := by decide +kernel
theorem dX11_takings_16 : decode cX11_takings 16 = .ok (.getfield 69, 3) := by decide +kernel
theorem dX11_takings_19 : decode cX11_takings 19 = .ok (.aload_n 0, 1) := by decide +kernel
theorem dX11_takings_20 : decode cX11_takings 20 = .ok (.getfield 50, 3) := by decide +kernel
theorem dX11_takings_23 : decode cX11_takings 23 = .ok (.iload_n 2, 1) := by decide +kernel
theorem dX11_takings_24 : decode cX11_takings 24 = .ok (.invokevirtual 268, 3) := by decide +kernel
theorem dX11_takings_27 : decode cX11_takings 27 = .ok (.ifCond .eq 15, 3) := by decide +kernel
theorem dX11_takings_30 : decode cX11_takings 30 = .ok (.iload_n 1, 1) := by decide +kernel
theorem dX11_takings_31 : decode cX11_takings 31 = .ok (.aload_n 0, 1) := by decide +kernel
theorem dX11_takings_32 : decode cX11_takings 32 = .ok (.getfield 19, 3) := by decide +kernel
theorem dX11_takings_35 : decode cX11_takings 35 = .ok (.iload_n 2, 1) := by decide +kernel
theorem dX11_takings_36 : decode cX11_takings 36 = .ok (.iconst 3, 1) := by decide +kernel
theorem dX11_takings_37 : decode cX11_takings 37 = .ok (.invokevirtual 180, 3) := by decide +kernel
theorem dX11_takings_40 : decode cX11_takings 40 = .ok (.iadd, 1) := by decide +kernel
theorem dX11_takings_41 : decode cX11_takings 41 = .ok (.istore_n 1, 1) := by decide +kernel
theorem dX11_takings_42 : decode cX11_takings 42 = .ok (.iinc 2 1, 3) := by decide +kernel
theorem dX11_takings_45 : decode cX11_takings 45 = .ok (.goto (-41), 3) := by decide +kernel
theorem dX11_takings_48 : decode cX11_takings 48 = .ok (.iload_n 1, 1) := by decide +kernel
theorem dX11_takings_49 : decode cX11_takings 49 = .ok (.ireturn, 1) := by decide +kernel
theorem dL_guest_0 : decode cL_guest 0 = .ok (.aload_n 3, 1) := by decide +kernel
theorem dL_guest_1 : decode cL_guest 1 = .ok (.iconst 0, 1) := by decide +kernel
theorem dL_guest_2 : decode cL_guest 2 = .ok (.aload_n 0, 1) := by decide +kernel
theorem dL_guest_3 : decode cL_guest 3 = .ok (.iload_n 1, 1) := by decide +kernel
theorem dL_guest_4 : decode cL_guest 4 = .ok (.iload_n 2, 1) := by decide +kernel
theorem dL_guest_5 : decode cL_guest 5 = .ok (.invokevirtual 7, 3) := by decide +kernel
theorem dL_guest_8 : decode cL_guest 8 = .ok (.i2l, 1) := by decide +kernel
theorem dL_guest_9 : decode cL_guest 9 = .ok (.lastore, 1) := by decide +kernel
theorem dL_guest_10 : decode cL_guest 10 = .ok (.goto 7, 3) := by decide +kernel
theorem dL_guest_13 : decode cL_guest 13 = .ok (.astore 4, 2) := by decide +kernel
theorem dL_guest_15 : decode cL_guest 15 = .ok (.iconst 1, 1) := by decide +kernel
theorem dL_guest_16 : decode cL_guest 16 = .ok (.ireturn, 1) := by decide +kernel
theorem dL_guest_17 : decode cL_guest 17 = .ok (.iconst 0, 1) := by decide +kernel
theorem dL_guest_18 : decode cL_guest 18 = .ok (.ireturn, 1) := by decide +kernel
theorem dL_law_0 : decode cL_law 0 = .ok (.new 8, 3) := by decide +kernel
theorem dL_law_3 : decode cL_law 3 = .ok (.dup, 1) := by decide +kernel
theorem dL_law_4 : decode cL_law 4 = .ok (.invokespecial 15, 3) := by decide +kernel
theorem dL_law_7 : decode cL_law 7 = .ok (.astore_n 1, 1) := by decide +kernel
theorem dL_law_8 : decode cL_law 8 = .ok (.new 16, 3) := by decide +kernel
theorem dL_law_11 : decode cL_law 11 = .ok (.dup, 1) := by decide +kernel
theorem dL_law_12 : decode cL_law 12 = .ok (.invokespecial 18, 3) := by decide +kernel
theorem dL_law_15 : decode cL_law 15 = .ok (.astore_n 2, 1) := by decide +kernel
theorem dL_law_16 : decode cL_law 16 = .ok (.iconst 1, 1) := by decide +kernel
theorem dL_law_17 : decode cL_law 17 = .ok (.newarray .long, 2) := by decide +kernel
theorem dL_law_19 : decode cL_law 19 = .ok (.astore_n 3, 1) := by decide +kernel
theorem dL_law_20 : decode cL_law 20 = .ok (.iconst 0, 1) := by decide +kernel
theorem dL_law_21 : decode cL_law 21 = .ok (.istore 4, 2) := by decide +kernel
theorem dL_law_23 : decode cL_law 23 = .ok (.iload 4, 2) := by decide +kernel
theorem dL_law_25 : decode cL_law 25 = .ok (.aload_n 0, 1) := by decide +kernel
theorem dL_law_26 : decode cL_law 26 = .ok (.arraylength, 1) := by decide +kernel
theorem dL_law_27 : decode cL_law 27 = .ok (.bipush 6, 2) := by decide +kernel
theorem dL_law_29 : decode cL_law 29 = .ok (.isub, 1) := by decide +kernel
theorem dL_law_30 : decode cL_law 30 = .ok (.if_icmp .gt 1518, 3) := by decide +kernel
theorem dL_law_33 : decode cL_law 33 = .ok (.aload_n 0, 1) := by decide +kernel
theorem dL_law_34 : decode cL_law 34 = .ok (.iload 4, 2) := by decide +kernel
theorem dL_law_36 : decode cL_law 36 = .ok (.iaload, 1) := by decide +kernel
theorem dL_law_37 : decode cL_law 37 = .ok (.bipush 63, 2) := by decide +kernel
theorem dL_law_39 : decode cL_law 39 = .ok (.iand, 1) := by decide +kernel
theorem dL_law_40 : decode cL_law 40 = .ok (.tableswitch 1502 0 38 #[172, 245, 270, 295, 320, 345, 382, 450, 475, 500, 513, 538, 551, 564, 601, 638, 707, 720, 757, 806, 843, 868, 905, 930, 955, 992, 1017, 1106, 1131, 1180, 1205, 1278, 1327, 1376, 1401, 1426, 1451, 1464, 1477], 172) := by decide +kernel
theorem dL_law_212 : decode cL_law 212 = .ok (.aload_n 1, 1) := by decide +kernel
theorem dL_law_213 : decode cL_law 213 = .ok (.aload_n 0, 1) := by decide +kernel
theorem dL_law_214 : decode cL_law 214 = .ok (.iload 4, 2) := by decide +kernel
theorem dL_law_216 : decode cL_law 216 = .ok (.iconst 1, 1) := by decide +kernel
theorem dL_law_217 : decode cL_law 217 = .ok (.iadd, 1) := by decide +kernel
theorem dL_law_218 : decode cL_law 218 = .ok (.iaload, 1) := by decide +kernel
theorem dL_law_219 : decode cL_law 219 = .ok (.aload_n 0, 1) := by decide +kernel
theorem dL_law_220 : decode cL_law 220 = .ok (.iload 4, 2) := by decide +kernel
theorem dL_law_222 : decode cL_law 222 = .ok (.iconst 2, 1) := by decide +kernel
theorem dL_law_223 : decode cL_law 223 = .ok (.iadd, 1) := by decide +kernel
theorem dL_law_224 : decode cL_law 224 = .ok (.iaload, 1) := by decide +kernel
theorem dL_law_225 : decode cL_law 225 = .ok (.aload_n 0, 1) := by decide +kernel
theorem dL_law_226 : decode cL_law 226 = .ok (.iload 4, 2) := by decide +kernel
theorem dL_law_228 : decode cL_law 228 = .ok (.iconst 3, 1) := by decide +kernel
theorem dL_law_229 : decode cL_law 229 = .ok (.iadd, 1) := by decide +kernel
theorem dL_law_230 : decode cL_law 230 = .ok (.iaload, 1) := by decide +kernel
theorem dL_law_231 : decode cL_law 231 = .ok (.aload_n 0, 1) := by decide +kernel
theorem dL_law_232 : decode cL_law 232 = .ok (.iload 4, 2) := by decide +kernel
theorem dL_law_234 : decode cL_law 234 = .ok (.iconst 4, 1) := by decide +kernel
theorem dL_law_235 : decode cL_law 235 = .ok (.iadd, 1) := by decide +kernel
theorem dL_law_236 : decode cL_law 236 = .ok (.iaload, 1) := by decide +kernel
theorem dL_law_237 : decode cL_law 237 = .ok (.aload_n 0, 1) := by decide +kernel
theorem dL_law_238 : decode cL_law 238 = .ok (.iload 4, 2) := by decide +kernel
theorem dL_law_240 : decode cL_law 240 = .ok (.iconst 5, 1) := by decide +kernel
theorem dL_law_241 : decode cL_law 241 = .ok (.iadd, 1) := by decide +kernel
theorem dL_law_242 : decode cL_law 242 = .ok (.iaload, 1) := by decide +kernel
theorem dL_law_243 : decode cL_law 243 = .ok (.invokevirtual 19, 3) := by decide +kernel
theorem dL_law_246 : decode cL_law 246 = .ok (.aload_n 2, 1) := by decide +kernel
theorem dL_law_247 : decode cL_law 247 = .ok (.aload_n 0, 1) := by decide +kernel
theorem dL_law_248 : decode cL_law 248 = .ok (.iload 4, 2) := by decide +kernel
theorem dL_law_250 : decode cL_law 250 = .ok (.iconst 1, 1) := by decide +kernel
theorem dL_law_251 : decode cL_law 251 = .ok (.iadd, 1) := by decide +kernel
theorem dL_law_252 : decode cL_law 252 = .ok (.iaload, 1) := by decide +kernel
theorem dL_law_253 : decode cL_law 253 = .ok (.aload_n 0, 1) := by decide +kernel
theorem dL_law_254 : decode cL_law 254 = .ok (.iload 4, 2) := by decide +kernel
theorem dL_law_256 : decode cL_law 256 = .ok (.iconst 2, 1) := by decide +kernel
theorem dL_law_257 : decode cL_law 257 = .ok (.iadd, 1) := by decide +kernel
theorem dL_law_258 : decode cL_law 258 = .ok (.iaload, 1) := by decide +kernel
theorem dL_law_259 : decode cL_law 259 = .ok (.aload_n 0, 1) := by decide +kernel
theorem dL_law_260 : decode cL_law 260 = .ok (.iload 4, 2) := by decide +kernel
theorem dL_law_262 : decode cL_law 262 = .ok (.iconst 3, 1) := by decide +kernel
theorem dL_law_263 : decode cL_law 263 = .ok (.iadd, 1) := by decide +kernel
theorem dL_law_264 : decode cL_law 264 = .ok (.iaload, 1) := by decide +kernel
theorem dL_law_265 : decode cL_law 265 = .ok (.aload_n 0, 1) := by decide +kernel
theorem dL_law_266 : decode cL_law 266 = .ok (.iload 4, 2) := by decide +kernel
theorem dL_law_268 : decode cL_law 268 = .ok (.iconst 4, 1) := by decide +kernel
theorem dL_law_269 : decode cL_law 269 = .ok (.iadd, 1) := by decide +kernel
theorem dL_law_270 : decode cL_law 270 = .ok (.iaload, 1) := by decide +kernel
theorem dL_law_271 : decode cL_law 271 = .ok (.aload_n 0, 1) := by decide +kernel
theorem dL_law_272 : decode cL_law 272 = .ok (.iload 4, 2) := by decide +kernel
theorem dL_law_274 : decode cL_law 274 = .ok (.iconst 5, 1) := by decide +kernel
theorem dL_law_275 : decode cL_law 275 = .ok (.iadd, 1) := by decide +kernel
theorem dL_law_276 : decode cL_law 276 = .ok (.iaload, 1) := by decide +kernel
theorem dL_law_277 : decode cL_law 277 = .ok (.invokevirtual 23, 3) := by decide +kernel
theorem dL_law_280 : decode cL_law 280 = .ok (.if_icmp .eq 1262, 3) := by decide +kernel
theorem dL_law_283 : decode cL_law 283 = .ok (.iconst 0, 1) := by decide +kernel
theorem dL_law_284 : decode cL_law 284 = .ok (.ireturn, 1) := by decide +kernel
theorem dL_law_285 : decode cL_law 285 = .ok (.aload_n 1, 1) := by decide +kernel
theorem dL_law_286 : decode cL_law 286 = .ok (.aload_n 0, 1) := by decide +kernel
theorem dL_law_287 : decode cL_law 287 = .ok (.iload 4, 2) := by decide +kernel
theorem dL_law_289 : decode cL_law 289 = .ok (.iconst 1, 1) := by decide +kernel
theorem dL_law_290 : decode cL_law 290 = .ok (.iadd, 1) := by decide +kernel
theorem dL_law_291 : decode cL_law 291 = .ok (.iaload, 1) := by decide +kernel
theorem dL_law_292 : decode cL_law 292 = .ok (.invokevirtual 24, 3) := by decide +kernel
theorem dL_law_295 : decode cL_law 295 = .ok (.aload_n 2, 1) := by decide +kernel
theorem dL_law_296 : decode cL_law 296 = .ok (.aload_n 0, 1) := by decide +kernel
theorem dL_law_297 : decode cL_law 297 = .ok (.iload 4, 2) := by decide +kernel
theorem dL_law_299 : decode cL_law 299 = .ok (.iconst 1, 1) := by decide +kernel
theorem dL_law_300 : decode cL_law 300 = .ok (.iadd, 1) := by decide +kernel
theorem dL_law_301 : decode cL_law 301 = .ok (.iaload, 1) := by decide +kernel
theorem dL_law_302 : decode cL_law 302 = .ok (.invokevirtual 28, 3) := by decide +kernel
theorem dL_law_305 : decode cL_law 305 = .ok (.if_icmp .eq 1237, 3) := by decide +kernel
theorem dL_law_308 : decode cL_law 308 = .ok (.iconst 0, 1) := by decide +kernel
theorem dL_law_309 : decode cL_law 309 = .ok (.ireturn, 1) := by decide +kernel
theorem dL_law_310 : decode cL_law 310 = .ok (.aload_n 1, 1) := by decide +kernel
theorem dL_law_311 : decode cL_law 311 = .ok (.aload_n 0, 1) := by decide +kernel
theorem dL_law_312 : decode cL_law 312 = .ok (.iload 4, 2) := by decide +kernel
theorem dL_law_314 : decode cL_law 314 = .ok (.iconst 1, 1) := by decide +kernel
theorem dL_law_315 : decode cL_law 315 = .ok (.iadd, 1) := by decide +kernel
theorem dL_law_316 : decode cL_law 316 = .ok (.iaload, 1) := by decide +kernel
theorem dL_law_317 : decode cL_law 317 = .ok (.invokevirtual 29, 3) := by decide +kernel
theorem dL_law_320 : decode cL_law 320 = .ok (.aload_n 2, 1) := by decide +kernel
theorem dL_law_321 : decode cL_law 321 = .ok (.aload_n 0, 1) := by decide +kernel
theorem dL_law_322 : decode cL_law 322 = .ok (.iload 4, 2) := by decide +kernel
theorem dL_law_324 : decode cL_law 324 = .ok (.iconst 1, 1) := by decide +kernel
theorem dL_law_325 : decode cL_law 325 = .ok (.iadd, 1) := by decide +kernel
theorem dL_law_326 : decode cL_law 326 = .ok (.iaload, 1) := by decide +kernel
theorem dL_law_327 : decode cL_law 327 = .ok (.invokevirtual 33, 3) := by decide +kernel
theorem dL_law_330 : decode cL_law 330 = .ok (.if_icmp .eq 1212, 3) := by decide +kernel
theorem dL_law_333 : decode cL_law 333 = .ok (.iconst 0, 1) := by decide +kernel
theorem dL_law_334 : decode cL_law 334 = .ok (.ireturn, 1) := by decide +kernel
theorem dL_law_335 : decode cL_law 335 = .ok (.aload_n 1, 1) := by decide +kernel
theorem dL_law_336 : decode cL_law 336 = .ok (.aload_n 0, 1) := by decide +kernel
theorem dL_law_337 : decode cL_law 337 = .ok (.iload 4, 2) := by decide +kernel
theorem dL_law_339 : decode cL_law 339 = .ok (.iconst 1, 1) := by decide +kernel
theorem dL_law_340 : decode cL_law 340 = .ok (.iadd, 1) := by decide +kernel
theorem dL_law_341 : decode cL_law 341 = .ok (.iaload, 1) := by decide +kernel
theorem dL_law_342 : decode cL_law 342 = .ok (.invokevirtual 34, 3) := by decide +kernel
theorem dL_law_345 : decode cL_law 345 = .ok (.aload_n 2, 1) := by decide +kernel
theorem dL_law_346 : decode cL_law 346 = .ok (.aload_n 0, 1) := by decide +kernel
theorem dL_law_347 : decode cL_law 347 = .ok (.iload 4, 2) := by decide +kernel
theorem dL_law_349 : decode cL_law 349 = .ok (.iconst 1, 1) := by decide +kernel
theorem dL_law_350 : decode cL_law 350 = .ok (.iadd, 1) := by decide +kernel
theorem dL_law_351 : decode cL_law 351 = .ok (.iaload, 1) := by decide +kernel
theorem dL_law_352 : decode cL_law 352 = .ok (.invokevirtual 37, 3) := by decide +kernel
theorem dL_law_355 : decode cL_law 355 = .ok (.if_icmp .eq 1187, 3) := by decide +kernel
theorem dL_law_358 : decode cL_law 358 = .ok (.iconst 0, 1) := by decide +kernel
theorem dL_law_359 : decode cL_law 359 = .ok (.ireturn, 1) := by decide +kernel
theorem dL_law_360 : decode cL_law 360 = .ok (.aload_n 1, 1) := by decide +kernel
theorem dL_law_361 : decode cL_law 361 = .ok (.aload_n 0, 1) := by decide +kernel
theorem dL_law_362 : decode cL_law 362 = .ok (.iload 4, 2) := by decide +kernel
theorem dL_law_364 : decode cL_law 364 = .ok (.iconst 1, 1) := by decide +kernel
theorem dL_law_365 : decode cL_law 365 = .ok (.iadd, 1) := by decide +kernel
theorem dL_law_366 : decode cL_law 366 = .ok (.iaload, 1) := by decide +kernel
theorem dL_law_367 : decode cL_law 367 = .ok (.invokevirtual 38, 3) := by decide +kernel
theorem dL_law_370 : decode cL_law 370 = .ok (.aload_n 2, 1) := by decide +kernel
theorem dL_law_371 : decode cL_law 371 = .ok (.aload_n 0, 1) := by decide +kernel
theorem dL_law_372 : decode cL_law 372 = .ok (.iload 4, 2) := by decide +kernel
theorem dL_law_374 : decode cL_law 374 = .ok (.iconst 1, 1) := by decide +kernel
theorem dL_law_375 : decode cL_law 375 = .ok (.iadd, 1) := by decide +kernel
theorem dL_law_376 : decode cL_law 376 = .ok (.iaload, 1) := by decide +kernel
theorem dL_law_377 : decode cL_law 377 = .ok (.invokevirtual 41, 3) := by decide +kernel
theorem dL_law_380 : decode cL_law 380 = .ok (.if_icmp .eq 1162, 3) := by decide +kernel
theorem dL_law_383 : decode cL_law 383 = .ok (.iconst 0, 1) := by decide +kernel
theorem dL_law_384 : decode cL_law 384 = .ok (.ireturn, 1) := by decide +kernel
theorem dL_law_385 : decode cL_law 385 = .ok (.aload_n 1, 1) := by decide +kernel
theorem dL_law_386 : decode cL_law 386 = .ok (.aload_n 0, 1) := by decide +kernel
theorem dL_law_387 : decode cL_law 387 = .ok (.iload 4, 2) := by decide +kernel
theorem dL_law_389 : decode cL_law 389 = .ok (.iconst 1, 1) := by decide +kernel
theorem dL_law_390 : decode cL_law 390 = .ok (.iadd, 1) := by decide +kernel
theorem dL_law_391 : decode cL_law 391 = .ok (.iaload, 1) := by decide +kernel
theorem dL_law_392 : decode cL_law 392 = .ok (.aload_n 0, 1) := by decide +kernel
theorem dL_law_393 : decode cL_law 393 = .ok (.iload 4, 2) := by decide +kernel
theorem dL_law_395 : decode cL_law 395 = .ok (.iconst 2, 1) := by decide +kernel
theorem dL_law_396 : decode cL_law 396 = .ok (.iadd, 1) := by decide +kernel
theorem dL_law_397 : decode cL_law 397 = .ok (.iaload, 1) := by decide +kernel
theorem dL_law_398 : decode cL_law 398 = .ok (.invokevirtual 42, 3) := by decide +kernel
theorem dL_law_401 : decode cL_law 401 = .ok (.aload_n 2, 1) := by decide +kernel
theorem dL_law_402 : decode cL_law 402 = .ok (.aload_n 0, 1) := by decide +kernel
theorem dL_law_403 : decode cL_law 403 = .ok (.iload 4, 2) := by decide +kernel
theorem dL_law_405 : decode cL_law 405 = .ok (.iconst 1, 1) := by decide +kernel
theorem dL_law_406 : decode cL_law 406 = .ok (.iadd, 1) := by decide +kernel
theorem dL_law_407 : decode cL_law 407 = .ok (.iaload, 1) := by decide +kernel
theorem dL_law_408 : decode cL_law 408 = .ok (.aload_n 0, 1) := by decide +kernel
theorem dL_law_409 : decode cL_law 409 = .ok (.iload 4, 2) := by decide +kernel
theorem dL_law_411 : decode cL_law 411 = .ok (.iconst 2, 1) := by decide +kernel
theorem dL_law_412 : decode cL_law 412 = .ok (.iadd, 1) := by decide +kernel
theorem dL_law_413 : decode cL_law 413 = .ok (.iaload, 1) := by decide +kernel
theorem dL_law_414 : decode cL_law 414 = .ok (.invokevirtual 45, 3) := by decide +kernel
theorem dL_law_417 : decode cL_law 417 = .ok (.if_icmp .eq 1125, 3) := by decide +kernel
theorem dL_law_420 : decode cL_law 420 = .ok (.iconst 0, 1) := by decide +kernel
theorem dL_law_421 : decode cL_law 421 = .ok (.ireturn, 1) := by decide +kernel
theorem dL_law_422 : decode cL_law 422 = .ok (.aload_n 1, 1) := by decide +kernel
theorem dL_law_423 : decode cL_law 423 = .ok (.aload_n 0, 1) := by decide +kernel
theorem dL_law_424 : decode cL_law 424 = .ok (.iload 4, 2) := by decide +kernel
theorem dL_law_426 : decode cL_law 426 = .ok (.iconst 1, 1) := by decide +kernel
theorem dL_law_427 : decode cL_law 427 = .ok (.iadd, 1) := by decide +kernel
theorem dL_law_428 : decode cL_law 428 = .ok (.iaload, 1) := by decide +kernel
theorem dL_law_429 : decode cL_law 429 = .ok (.aload_n 0, 1) := by decide +kernel
theorem dL_law_430 : decode cL_law 430 = .ok (.iload 4, 2) := by decide +kernel
theorem dL_law_432 : decode cL_law 432 = .ok (.iconst 2, 1) := by decide +kernel
theorem dL_law_433 : decode cL_law 433 = .ok (.iadd, 1) := by decide +kernel
theorem dL_law_434 : decode cL_law 434 = .ok (.iaload, 1) := by decide +kernel
theorem dL_law_435 : decode cL_law 435 = .ok (.aload_n 3, 1) := by decide +kernel
theorem dL_law_436 : decode cL_law 436 = .ok (.invokestatic 46, 3) := by decide +kernel
theorem dL_law_439 : decode cL_law 439 = .ok (.istore 5, 2) := by decide +kernel
theorem dL_law_441 : decode cL_law 441 = .ok (.aload_n 2, 1) := by decide +kernel
theorem dL_law_442 : decode cL_law 442 = .ok (.aload_n 0, 1) := by decide +kernel
theorem dL_law_443 : decode cL_law 443 = .ok (.iload 4, 2) := by decide +kernel
theorem dL_law_445 : decode cL_law 445 = .ok (.iconst 1, 1) := by decide +kernel
theorem dL_law_446 : decode cL_law 446 = .ok (.iadd, 1) := by decide +kernel
theorem dL_law_447 : decode cL_law 447 = .ok (.iaload, 1) := by decide +kernel
theorem dL_law_448 : decode cL_law 448 = .ok (.aload_n 0, 1) := by decide +kernel
theorem dL_law_449 : decode cL_law 449 = .ok (.iload 4, 2) := by decide +kernel
theorem dL_law_451 : decode cL_law 451 = .ok (.iconst 2, 1) := by decide +kernel
theorem dL_law_452 : decode cL_law 452 = .ok (.iadd, 1) := by decide +kernel
theorem dL_law_453 : decode cL_law 453 = .ok (.iaload, 1) := by decide +kernel
theorem dL_law_454 : decode cL_law 454 = .ok (.invokevirtual 51, 3) := by decide +kernel
theorem dL_law_457 : decode cL_law 457 = .ok (.istore 6, 2) := by decide +kernel
theorem dL_law_459 : decode cL_law 459 = .ok (.aload_n 2, 1) := by decide +kernel
theorem dL_law_460 : decode cL_law 460 = .ok (.invokevirtual 52, 3) := by decide +kernel
theorem dL_law_463 : decode cL_law 463 = .ok (.iload 5, 2) := by decide +kernel
theorem dL_law_465 : decode cL_law 465 = .ok (.if_icmp .eq 5, 3) := by decide +kernel
theorem dL_law_468 : decode cL_law 468 = .ok (.iconst 0, 1) := by decide +kernel
theorem dL_law_469 : decode cL_law 469 = .ok (.ireturn, 1) := by decide +kernel
theorem dL_law_470 : decode cL_law 470 = .ok (.iload 5, 2) := by decide +kernel
theorem dL_law_472 : decode cL_law 472 = .ok (.ifCond .ne 15, 3) := by decide +kernel
theorem dL_law_475 : decode cL_law 475 = .ok (.aload_n 3, 1) := by decide +kernel
theorem dL_law_476 : decode cL_law 476 = .ok (.iconst 0, 1) := by decide +kernel
theorem dL_law_477 : decode cL_law 477 = .ok (.laload, 1) := by decide +kernel
theorem dL_law_478 : decode cL_law 478 = .ok (.iload 6, 2) := by decide +kernel
theorem dL_law_480 : decode cL_law 480 = .ok (.i2l, 1) := by decide +kernel
theorem dL_law_481 : decode cL_law 481 = .ok (.lcmp, 1) := by decide +kernel
theorem dL_law_482 : decode cL_law 482 = .ok (.ifCond .eq 5, 3) := by decide +kernel
theorem dL_law_485 : decode cL_law 485 = .ok (.iconst 0, 1) := by decide +kernel
theorem dL_law_486 : decode cL_law 486 = .ok (.ireturn, 1) := by decide +kernel
theorem dL_law_487 : decode cL_law 487 = .ok (.goto 1055, 3) := by decide +kernel
theorem dL_law_490 : decode cL_law 490 = .ok (.aload_n 1, 1) := by decide +kernel
theorem dL_law_491 : decode cL_law 491 = .ok (.aload_n 0, 1) := by decide +kernel
theorem dL_law_492 : decode cL_law 492 = .ok (.iload 4, 2) := by decide +kernel
theorem dL_law_494 : decode cL_law 494 = .ok (.iconst 1, 1) := by decide +kernel
theorem dL_law_495 : decode cL_law 495 = .ok (.iadd, 1) := by decide +kernel
theorem dL_law_496 : decode cL_law 496 = .ok (.iaload, 1) := by decide +kernel
theorem dL_law_497 : decode cL_law 497 = .ok (.invokevirtual 56, 3) := by decide +kernel
theorem dL_law_500 : decode cL_law 500 = .ok (.aload_n 2, 1) := by decide +kernel
theorem dL_law_501 : decode cL_law 501 = .ok (.aload_n 0, 1) := by decide +kernel
theorem dL_law_502 : decode cL_law 502 = .ok (.iload 4, 2) := by decide +kernel
theorem dL_law_504 : decode cL_law 504 = .ok (.iconst 1, 1) := by decide +kernel
theorem dL_law_505 : decode cL_law 505 = .ok (.iadd, 1) := by decide +kernel
theorem dL_law_506 : decode cL_law 506 = .ok (.iaload, 1) := by decide +kernel
theorem dL_law_507 : decode cL_law 507 = .ok (.invokevirtual 59, 3) := by decide +kernel
theorem dL_law_510 : decode cL_law 510 = .ok (.if_icmp .eq 1032, 3) := by decide +kernel
theorem dL_law_513 : decode cL_law 513 = .ok (.iconst 0, 1) := by decide +kernel
theorem dL_law_514 : decode cL_law 514 = .ok (.ireturn, 1) := by decide +kernel
theorem dL_law_515 : decode cL_law 515 = .ok (.aload_n 1, 1) := by decide +kernel
theorem dL_law_516 : decode cL_law 516 = .ok (.aload_n 0, 1) := by decide +kernel
theorem dL_law_517 : decode cL_law 517 = .ok (.iload 4, 2) := by decide +kernel
theorem dL_law_519 : decode cL_law 519 = .ok (.iconst 1, 1) := by decide +kernel
theorem dL_law_520 : decode cL_law 520 = .ok (.iadd, 1) := by decide +kernel
theorem dL_law_521 : decode cL_law 521 = .ok (.iaload, 1) := by decide +kernel
theorem dL_law_522 : decode cL_law 522 = .ok (.invokevirtual 60, 3) := by decide +kernel
theorem dL_law_525 : decode cL_law 525 = .ok (.aload_n 2, 1) := by decide +kernel
theorem dL_law_526 : decode cL_law 526 = .ok (.aload_n 0, 1) := by decide +kernel
theorem dL_law_527 : decode cL_law 527 = .ok (.iload 4, 2) := by decide +kernel
theorem dL_law_529 : decode cL_law 529 = .ok (.iconst 1, 1) := by decide +kernel
theorem dL_law_530 : decode cL_law 530 = .ok (.iadd, 1) := by decide +kernel
theorem dL_law_531 : decode cL_law 531 = .ok (.iaload, 1) := by decide +kernel
theorem dL_law_532 : decode cL_law 532 = .ok (.invokevirtual 63, 3) := by decide +kernel
theorem dL_law_535 : decode cL_law 535 = .ok (.if_icmp .eq 1007, 3) := by decide +kernel
theorem dL_law_538 : decode cL_law 538 = .ok (.iconst 0, 1) := by decide +kernel
theorem dL_law_539 : decode cL_law 539 = .ok (.ireturn, 1) := by decide +kernel
theorem dL_law_540 : decode cL_law 540 = .ok (.aload_n 1, 1) := by decide +kernel
theorem dL_law_541 : decode cL_law 541 = .ok (.invokevirtual 64, 3) := by decide +kernel
theorem dL_law_544 : decode cL_law 544 = .ok (.aload_n 2, 1) := by decide +kernel
theorem dL_law_545 : decode cL_law 545 = .ok (.invokevirtual 67, 3) := by decide +kernel
theorem dL_law_548 : decode cL_law 548 = .ok (.if_icmp .eq 994, 3) := by decide +kernel
theorem dL_law_551 : decode cL_law 551 = .ok (.iconst 0, 1) := by decide +kernel
theorem dL_law_552 : decode cL_law 552 = .ok (.ireturn, 1) := by decide +kernel
theorem dL_law_553 : decode cL_law 553 = .ok (.aload_n 1, 1) := by decide +kernel
theorem dL_law_554 : decode cL_law 554 = .ok (.aload_n 0, 1) := by decide +kernel
theorem dL_law_555 : decode cL_law 555 = .ok (.iload 4, 2) := by decide +kernel
theorem dL_law_557 : decode cL_law 557 = .ok (.iconst 1, 1) := by decide +kernel
theorem dL_law_558 : decode cL_law 558 = .ok (.iadd, 1) := by decide +kernel
theorem dL_law_559 : decode cL_law 559 = .ok (.iaload, 1) := by decide +kernel
theorem dL_law_560 : decode cL_law 560 = .ok (.invokevirtual 68, 3) := by decide +kernel
theorem dL_law_563 : decode cL_law 563 = .ok (.aload_n 2, 1) := by decide +kernel
theorem dL_law_564 : decode cL_law 564 = .ok (.aload_n 0, 1) := by decide +kernel
theorem dL_law_565 : decode cL_law 565 = .ok (.iload 4, 2) := by decide +kernel
theorem dL_law_567 : decode cL_law 567 = .ok (.iconst 1, 1) := by decide +kernel
theorem dL_law_568 : decode cL_law 568 = .ok (.iadd, 1) := by decide +kernel
theorem dL_law_569 : decode cL_law 569 = .ok (.iaload, 1) := by decide +kernel
theorem dL_law_570 : decode cL_law 570 = .ok (.invokevirtual 71, 3) := by decide +kernel
theorem dL_law_573 : decode cL_law 573 = .ok (.if_icmp .eq 969, 3) := by decide +kernel
theorem dL_law_576 : decode cL_law 576 = .ok (.iconst 0, 1) := by decide +kernel
theorem dL_law_577 : decode cL_law 577 = .ok (.ireturn, 1) := by decide +kernel
theorem dL_law_578 : decode cL_law 578 = .ok (.aload_n 1, 1) := by decide +kernel
theorem dL_law_579 : decode cL_law 579 = .ok (.invokevirtual 72, 3) := by decide +kernel
theorem dL_law_582 : decode cL_law 582 = .ok (.aload_n 2, 1) := by decide +kernel
theorem dL_law_583 : decode cL_law 583 = .ok (.invokevirtual 75, 3) := by decide +kernel
theorem dL_law_586 : decode cL_law 586 = .ok (.if_icmp .eq 956, 3) := by decide +kernel
theorem dL_law_589 : decode cL_law 589 = .ok (.iconst 0, 1) := by decide +kernel
theorem dL_law_590 : decode cL_law 590 = .ok (.ireturn, 1) := by decide +kernel
theorem dL_law_591 : decode cL_law 591 = .ok (.aload_n 1, 1) := by decide +kernel
theorem dL_law_592 : decode cL_law 592 = .ok (.invokevirtual 76, 3) := by decide +kernel
theorem dL_law_595 : decode cL_law 595 = .ok (.aload_n 2, 1) := by decide +kernel
theorem dL_law_596 : decode cL_law 596 = .ok (.invokevirtual 79, 3) := by decide +kernel
theorem dL_law_599 : decode cL_law 599 = .ok (.if_icmp .eq 943, 3) := by decide +kernel
theorem dL_law_602 : decode cL_law 602 = .ok (.iconst 0, 1) := by decide +kernel
theorem dL_law_603 : decode cL_law 603 = .ok (.ireturn, 1) := by decide +kernel
theorem dL_law_604 : decode cL_law 604 = .ok (.aload_n 1, 1) := by decide +kernel
theorem dL_law_605 : decode cL_law 605 = .ok (.aload_n 0, 1) := by decide +kernel
theorem dL_law_606 : decode cL_law 606 = .ok (.iload 4, 2) := by decide +kernel
theorem dL_law_608 : decode cL_law 608 = .ok (.iconst 1, 1) := by decide +kernel
theorem dL_law_609 : decode cL_law 609 = .ok (.iadd, 1) := by decide +kernel
theorem dL_law_610 : decode cL_law 610 = .ok (.iaload, 1) := by decide +kernel
theorem dL_law_611 : decode cL_law 611 = .ok (.aload_n 0, 1) := by decide +kernel
theorem dL_law_612 : decode cL_law 612 = .ok (.iload 4, 2) := by decide +kernel
theorem dL_law_614 : decode cL_law 614 = .ok (.iconst 2, 1) := by decide +kernel
theorem dL_law_615 : decode cL_law 615 = .ok (.iadd, 1) := by decide +kernel
theorem dL_law_616 : decode cL_law 616 = .ok (.iaload, 1) := by decide +kernel
theorem dL_law_617 : decode cL_law 617 = .ok (.invokevirtual 80, 3) := by decide +kernel
theorem dL_law_620 : decode cL_law 620 = .ok (.aload_n 2, 1) := by decide +kernel
theorem dL_law_621 : decode cL_law 621 = .ok (.aload_n 0, 1) := by decide +kernel
theorem dL_law_622 : decode cL_law 622 = .ok (.iload 4, 2) := by decide +kernel
theorem dL_law_624 : decode cL_law 624 = .ok (.iconst 1, 1) := by decide +kernel
theorem dL_law_625 : decode cL_law 625 = .ok (.iadd, 1) := by decide +kernel
theorem dL_law_626 : decode cL_law 626 = .ok (.iaload, 1) := by decide +kernel
theorem dL_law_627 : decode cL_law 627 = .ok (.aload_n 0, 1) := by decide +kernel
theorem dL_law_628 : decode cL_law 628 = .ok (.iload 4, 2) := by decide +kernel
theorem dL_law_630 : decode cL_law 630 = .ok (.iconst 2, 1) := by decide +kernel
theorem dL_law_631 : decode cL_law 631 = .ok (.iadd, 1) := by decide +kernel
theorem dL_law_632 : decode cL_law 632 = .ok (.iaload, 1) := by decide +kernel
theorem dL_law_633 : decode cL_law 633 = .ok (.invokevirtual 83, 3) := by decide +kernel
theorem dL_law_636 : decode cL_law 636 = .ok (.if_icmp .eq 906, 3) := by decide +kernel
theorem dL_law_639 : decode cL_law 639 = .ok (.iconst 0, 1) := by decide +kernel
theorem dL_law_640 : decode cL_law 640 = .ok (.ireturn, 1) := by decide +kernel
theorem dL_law_641 : decode cL_law 641 = .ok (.aload_n 1, 1) := by decide +kernel
theorem dL_law_642 : decode cL_law 642 = .ok (.aload_n 0, 1) := by decide +kernel
theorem dL_law_643 : decode cL_law 643 = .ok (.iload 4, 2) := by decide +kernel
theorem dL_law_645 : decode cL_law 645 = .ok (.iconst 1, 1) := by decide +kernel
theorem dL_law_646 : decode cL_law 646 = .ok (.iadd, 1) := by decide +kernel
theorem dL_law_647 : decode cL_law 647 = .ok (.iaload, 1) := by decide +kernel
theorem dL_law_648 : decode cL_law 648 = .ok (.aload_n 0, 1) := by decide +kernel
theorem dL_law_649 : decode cL_law 649 = .ok (.iload 4, 2) := by decide +kernel
theorem dL_law_651 : decode cL_law 651 = .ok (.iconst 2, 1) := by decide +kernel
theorem dL_law_652 : decode cL_law 652 = .ok (.iadd, 1) := by decide +kernel
theorem dL_law_653 : decode cL_law 653 = .ok (.iaload, 1) := by decide +kernel
theorem dL_law_654 : decode cL_law 654 = .ok (.invokevirtual 84, 3) := by decide +kernel
theorem dL_law_657 : decode cL_law 657 = .ok (.aload_n 2, 1) := by decide +kernel
theorem dL_law_658 : decode cL_law 658 = .ok (.aload_n 0, 1) := by decide +kernel
theorem dL_law_659 : decode cL_law 659 = .ok (.iload 4, 2) := by decide +kernel
theorem dL_law_661 : decode cL_law 661 = .ok (.iconst 1, 1) := by decide +kernel
theorem dL_law_662 : decode cL_law 662 = .ok (.iadd, 1) := by decide +kernel
