theorem dX0_init_0 : decode cX0_init 0 = .ok (.aload_n 0, 1) := by decide +kernel
theorem dX0_init_1 : decode cX0_init 1 = .ok (.invokespecial 3, 3) := by decide +kernel
theorem dX0_init_4 : decode cX0_init 4 = .ok (.aload_n 0, 1) := by decide +kernel
theorem dX0_init_5 : decode cX0_init 5 = .ok (.bipush 6, 2) := by decide +kernel
theorem dX0_init_7 : decode cX0_init 7 = .ok (.newarray .int, 2) := by decide +kernel
theorem dX0_init_9 : decode cX0_init 9 = .ok (.putfield 9, 3) := by decide +kernel
theorem dX0_init_12 : decode cX0_init 12 = .ok (.aload_n 0, 1) := by decide +kernel
theorem dX0_init_13 : decode cX0_init 13 = .ok (.bipush 6, 2) := by decide +kernel
theorem dX0_init_15 : decode cX0_init 15 = .ok (.newarray .long, 2) := by decide +kernel
theorem dX0_init_17 : decode cX0_init 17 = .ok (.putfield 15, 3) := by decide +kernel
theorem dX0_init_20 : decode cX0_init 20 = .ok (.aload_n 0, 1) := by decide +kernel
theorem dX0_init_21 : decode cX0_init 21 = .ok (.bipush 6, 2) := by decide +kernel
theorem dX0_init_23 : decode cX0_init 23 = .ok (.newarray .int, 2) := by decide +kernel
theorem dX0_init_25 : decode cX0_init 25 = .ok (.putfield 19, 3) := by decide +kernel
theorem dX0_init_28 : decode cX0_init 28 = .ok (.aload_n 0, 1) := by decide +kernel
theorem dX0_init_29 : decode cX0_init 29 = .ok (.bipush 6, 2) := by decide +kernel
theorem dX0_init_31 : decode cX0_init 31 = .ok (.newarray .int, 2) := by decide +kernel
theorem dX0_init_33 : decode cX0_init 33 = .ok (.putfield 22, 3) := by decide +kernel
theorem dX0_init_36 : decode cX0_init 36 = .ok (.aload_n 0, 1) := by decide +kernel
theorem dX0_init_37 : decode cX0_init 37 = .ok (.bipush 6, 2) := by decide +kernel
theorem dX0_init_39 : decode cX0_init 39 = .ok (.newarray .int, 2) := by decide +kernel
theorem dX0_init_41 : decode cX0_init 41 = .ok (.putfield 25, 3) := by decide +kernel
theorem dX0_init_44 : decode cX0_init 44 = .ok (.aload_n 0, 1) := by decide +kernel
theorem dX0_init_45 : decode cX0_init 45 = .ok (.bipush 6, 2) := by decide +kernel
theorem dX0_init_47 : decode cX0_init 47 = .ok (.newarray .int, 2) := by decide +kernel
theorem dX0_init_49 : decode cX0_init 49 = .ok (.putfield 28, 3) := by decide +kernel
theorem dX0_init_52 : decode cX0_init 52 = .ok (.return_, 1) := by decide +kernel
theorem dX0_begin_0 : decode cX0_begin 0 = .ok (.aload_n 0, 1) := by decide +kernel
theorem dX0_begin_1 : decode cX0_begin 1 = .ok (.aload_n 1, 1) := by decide +kernel
theorem dX0_begin_2 : decode cX0_begin 2 = .ok (.getfield 31, 3) := by decide +kernel
theorem dX0_begin_5 : decode cX0_begin 5 = .ok (.putfield 37, 3) := by decide +kernel
theorem dX0_begin_8 : decode cX0_begin 8 = .ok (.aload_n 1, 1) := by decide +kernel
theorem dX0_begin_9 : decode cX0_begin 9 = .ok (.getfield 38, 3) := by decide +kernel
theorem dX0_begin_12 : decode cX0_begin 12 = .ok (.iconst 0, 1) := by decide +kernel
theorem dX0_begin_13 : decode cX0_begin 13 = .ok (.aload_n 0, 1) := by decide +kernel
theorem dX0_begin_14 : decode cX0_begin 14 = .ok (.getfield 9, 3) := by decide +kernel
theorem dX0_begin_17 : decode cX0_begin 17 = .ok (.iconst 0, 1) := by decide +kernel
theorem dX0_begin_18 : decode cX0_begin 18 = .ok (.bipush 6, 2) := by decide +kernel
theorem dX0_begin_20 : decode cX0_begin 20 = .ok (.invokestatic 39, 3) := by decide +kernel
theorem dX0_begin_23 : decode cX0_begin 23 = .ok (.aload_n 1, 1) := by decide +kernel
theorem dX0_begin_24 : decode cX0_begin 24 = .ok (.getfield 45, 3) := by decide +kernel
theorem dX0_begin_27 : decode cX0_begin 27 = .ok (.iconst 0, 1) := by decide +kernel
theorem dX0_begin_28 : decode cX0_begin 28 = .ok (.aload_n 0, 1) := by decide +kernel
theorem dX0_begin_29 : decode cX0_begin 29 = .ok (.getfield 15, 3) := by decide +kernel
theorem dX0_begin_32 : decode cX0_begin 32 = .ok (.iconst 0, 1) := by decide +kernel
theorem dX0_begin_33 : decode cX0_begin 33 = .ok (.bipush 6, 2) := by decide +kernel
theorem dX0_begin_35 : decode cX0_begin 35 = .ok (.invokestatic 39, 3) := by decide +kernel
theorem dX0_begin_38 : decode cX0_begin 38 = .ok (.aload_n 0, 1) := by decide +kernel
theorem dX0_begin_39 : decode cX0_begin 39 = .ok (.getfield 19, 3) := by decide +kernel
theorem dX0_begin_42 : decode cX0_begin 42 = .ok (.iconst 0, 1) := by decide +kernel
theorem dX0_begin_43 : decode cX0_begin 43 = .ok (.invokestatic 46, 3) := by decide +kernel
theorem dX0_begin_46 : decode cX0_begin 46 = .ok (.aload_n 0, 1) := by decide +kernel
theorem dX0_begin_47 : decode cX0_begin 47 = .ok (.getfield 22, 3) := by decide +kernel
theorem dX0_begin_50 : decode cX0_begin 50 = .ok (.iconst 0, 1) := by decide +kernel
theorem dX0_begin_51 : decode cX0_begin 51 = .ok (.invokestatic 46, 3) := by decide +kernel
theorem dX0_begin_54 : decode cX0_begin 54 = .ok (.aload_n 0, 1) := by decide +kernel
theorem dX0_begin_55 : decode cX0_begin 55 = .ok (.getfield 25, 3) := by decide +kernel
theorem dX0_begin_58 : decode cX0_begin 58 = .ok (.iconst 0, 1) := by decide +kernel
theorem dX0_begin_59 : decode cX0_begin 59 = .ok (.invokestatic 46, 3) := by decide +kernel
theorem dX0_begin_62 : decode cX0_begin 62 = .ok (.aload_n 0, 1) := by decide +kernel
theorem dX0_begin_63 : decode cX0_begin 63 = .ok (.getfield 28, 3) := by decide +kernel
theorem dX0_begin_66 : decode cX0_begin 66 = .ok (.iconst 0, 1) := by decide +kernel
theorem dX0_begin_67 : decode cX0_begin 67 = .ok (.invokestatic 46, 3) := by decide +kernel
theorem dX0_begin_70 : decode cX0_begin 70 = .ok (.aload_n 0, 1) := by decide +kernel
theorem dX0_begin_71 : decode cX0_begin 71 = .ok (.iconst 0, 1) := by decide +kernel
theorem dX0_begin_72 : decode cX0_begin 72 = .ok (.putfield 52, 3) := by decide +kernel
theorem dX0_begin_75 : decode cX0_begin 75 = .ok (.aload_n 0, 1) := by decide +kernel
theorem dX0_begin_76 : decode cX0_begin 76 = .ok (.iconst 0, 1) := by decide +kernel
theorem dX0_begin_77 : decode cX0_begin 77 = .ok (.putfield 55, 3) := by decide +kernel
theorem dX0_begin_80 : decode cX0_begin 80 = .ok (.aload_n 0, 1) := by decide +kernel
theorem dX0_begin_81 : decode cX0_begin 81 = .ok (.iconst 0, 1) := by decide +kernel
theorem dX0_begin_82 : decode cX0_begin 82 = .ok (.putfield 58, 3) := by decide +kernel
theorem dX0_begin_85 : decode cX0_begin 85 = .ok (.aload_n 0, 1) := by decide +kernel
theorem dX0_begin_86 : decode cX0_begin 86 = .ok (.aload_n 1, 1) := by decide +kernel
theorem dX0_begin_87 : decode cX0_begin 87 = .ok (.getfield 61, 3) := by decide +kernel
theorem dX0_begin_90 : decode cX0_begin 90 = .ok (.putfield 64, 3) := by decide +kernel
theorem dX0_begin_93 : decode cX0_begin 93 = .ok (.return_, 1) := by decide +kernel
theorem dX0_copy_0 : decode cX0_copy 0 = .ok (.aload_n 0, 1) := by decide +kernel
theorem dX0_copy_1 : decode cX0_copy 1 = .ok (.aload_n 1, 1) := by decide +kernel
theorem dX0_copy_2 : decode cX0_copy 2 = .ok (.getfield 37, 3) := by decide +kernel
theorem dX0_copy_5 : decode cX0_copy 5 = .ok (.putfield 37, 3) := by decide +kernel
theorem dX0_copy_8 : decode cX0_copy 8 = .ok (.aload_n 1, 1) := by decide +kernel
theorem dX0_copy_9 : decode cX0_copy 9 = .ok (.getfield 9, 3) := by decide +kernel
theorem dX0_copy_12 : decode cX0_copy 12 = .ok (.iconst 0, 1) := by decide +kernel
theorem dX0_copy_13 : decode cX0_copy 13 = .ok (.aload_n 0, 1) := by decide +kernel
theorem dX0_copy_14 : decode cX0_copy 14 = .ok (.getfield 9, 3) := by decide +kernel
theorem dX0_copy_17 : decode cX0_copy 17 = .ok (.iconst 0, 1) := by decide +kernel
theorem dX0_copy_18 : decode cX0_copy 18 = .ok (.bipush 6, 2) := by decide +kernel
theorem dX0_copy_20 : decode cX0_copy 20 = .ok (.invokestatic 39, 3) := by decide +kernel
theorem dX0_copy_23 : decode cX0_copy 23 = .ok (.aload_n 1, 1) := by decide +kernel
theorem dX0_copy_24 : decode cX0_copy 24 = .ok (.getfield 15, 3) := by decide +kernel
theorem dX0_copy_27 : decode cX0_copy 27 = .ok (.iconst 0, 1) := by decide +kernel
theorem dX0_copy_28 : decode cX0_copy 28 = .ok (.aload_n 0, 1) := by decide +kernel
theorem dX0_copy_29 : decode cX0_copy 29 = .ok (.getfield 15, 3) := by decide +kernel
theorem dX0_copy_32 : decode cX0_copy 32 = .ok (.iconst 0, 1) := by decide +kernel
theorem dX0_copy_33 : decode cX0_copy 33 = .ok (.bipush 6, 2) := by decide +kernel
theorem dX0_copy_35 : decode cX0_copy 35 = .ok (.invokestatic 39, 3) := by decide +kernel
theorem dX0_copy_38 : decode cX0_copy 38 = .ok (.aload_n 1, 1) := by decide +kernel
theorem dX0_copy_39 : decode cX0_copy 39 = .ok (.getfield 19, 3) := by decide +kernel
theorem dX0_copy_42 : decode cX0_copy 42 = .ok (.iconst 0, 1) := by decide +kernel
theorem dX0_copy_43 : decode cX0_copy 43 = .ok (.aload_n 0, 1) := by decide +kernel
theorem dX0_copy_44 : decode cX0_copy 44 = .ok (.getfield 19, 3) := by decide +kernel
theorem dX0_copy_47 : decode cX0_copy 47 = .ok (.iconst 0, 1) := by decide +kernel
theorem dX0_copy_48 : decode cX0_copy 48 = .ok (.bipush 6, 2) := by decide +kernel
theorem dX0_copy_50 : decode cX0_copy 50 = .ok (.invokestatic 39, 3) := by decide +kernel
theorem dX0_copy_53 : decode cX0_copy 53 = .ok (.aload_n 1, 1) := by decide +kernel
theorem dX0_copy_54 : decode cX0_copy 54 = .ok (.getfield 22, 3) := by decide +kernel
theorem dX0_copy_57 : decode cX0_copy 57 = .ok (.iconst 0, 1) := by decide +kernel
theorem dX0_copy_58 : decode cX0_copy 58 = .ok (.aload_n 0, 1) := by decide +kernel
theorem dX0_copy_59 : decode cX0_copy 59 = .ok (.getfield 22, 3) := by decide +kernel
theorem dX0_copy_62 : decode cX0_copy 62 = .ok (.iconst 0, 1) := by decide +kernel
theorem dX0_copy_63 : decode cX0_copy 63 = .ok (.bipush 6, 2) := by decide +kernel
theorem dX0_copy_65 : decode cX0_copy 65 = .ok (.invokestatic 39, 3) := by decide +kernel
theorem dX0_copy_68 : decode cX0_copy 68 = .ok (.aload_n 1, 1) := by decide +kernel
theorem dX0_copy_69 : decode cX0_copy 69 = .ok (.getfield 25, 3) := by decide +kernel
theorem dX0_copy_72 : decode cX0_copy 72 = .ok (.iconst 0, 1) := by decide +kernel
theorem dX0_copy_73 : decode cX0_copy 73 = .ok (.aload_n 0, 1) := by decide +kernel
theorem dX0_copy_74 : decode cX0_copy 74 = .ok (.getfield 25, 3) := by decide +kernel
theorem dX0_copy_77 : decode cX0_copy 77 = .ok (.iconst 0, 1) := by decide +kernel
theorem dX0_copy_78 : decode cX0_copy 78 = .ok (.bipush 6, 2) := by decide +kernel
theorem dX0_copy_80 : decode cX0_copy 80 = .ok (.invokestatic 39, 3) := by decide +kernel
theorem dX0_copy_83 : decode cX0_copy 83 = .ok (.aload_n 1, 1) := by decide +kernel
theorem dX0_copy_84 : decode cX0_copy 84 = .ok (.getfield 28, 3) := by decide +kernel
theorem dX0_copy_87 : decode cX0_copy 87 = .ok (.iconst 0, 1) := by decide +kernel
theorem dX0_copy_88 : decode cX0_copy 88 = .ok (.aload_n 0, 1) := by decide +kernel
theorem dX0_copy_89 : decode cX0_copy 89 = .ok (.getfield 28, 3) := by decide +kernel
theorem dX0_copy_92 : decode cX0_copy 92 = .ok (.iconst 0, 1) := by decide +kernel
theorem dX0_copy_93 : decode cX0_copy 93 = .ok (.bipush 6, 2) := by decide +kernel
theorem dX0_copy_95 : decode cX0_copy 95 = .ok (.invokestatic 39, 3) := by decide +kernel
theorem dX0_copy_98 : decode cX0_copy 98 = .ok (.aload_n 0, 1) := by decide +kernel
theorem dX0_copy_99 : decode cX0_copy 99 = .ok (.aload_n 1, 1) := by decide +kernel
theorem dX0_copy_100 : decode cX0_copy 100 = .ok (.getfield 52, 3) := by decide +kernel
theorem dX0_copy_103 : decode cX0_copy 103 = .ok (.putfield 52, 3) := by decide +kernel
theorem dX0_copy_106 : decode cX0_copy 106 = .ok (.aload_n 0, 1) := by decide +kernel
theorem dX0_copy_107 : decode cX0_copy 107 = .ok (.aload_n 1, 1) := by decide +kernel
theorem dX0_copy_108 : decode cX0_copy 108 = .ok (.getfield 55, 3) := by decide +kernel
theorem dX0_copy_111 : decode cX0_copy 111 = .ok (.putfield 55, 3) := by decide +kernel
theorem dX0_copy_114 : decode cX0_copy 114 = .ok (.aload_n 0, 1) := by decide +kernel
theorem dX0_copy_115 : decode cX0_copy 115 = .ok (.aload_n 1, 1) := by decide +kernel
theorem dX0_copy_116 : decode cX0_copy 116 = .ok (.getfield 58, 3) := by decide +kernel
theorem dX0_copy_119 : decode cX0_copy 119 = .ok (.putfield 58, 3) := by decide +kernel
theorem dX0_copy_122 : decode cX0_copy 122 = .ok (.aload_n 0, 1) := by decide +kernel
theorem dX0_copy_123 : decode cX0_copy 123 = .ok (.aload_n 1, 1) := by decide +kernel
theorem dX0_copy_124 : decode cX0_copy 124 = .ok (.getfield 64, 3) := by decide +kernel
theorem dX0_copy_127 : decode cX0_copy 127 = .ok (.putfield 64, 3) := by decide +kernel
theorem dX0_copy_130 : decode cX0_copy 130 = .ok (.return_, 1) := by decide +kernel
theorem dX0_leftOf_0 : decode cX0_leftOf 0 = .ok (.aload_n 0, 1) := by decide +kernel
theorem dX0_leftOf_1 : decode cX0_leftOf 1 = .ok (.getfield 9, 3) := by decide +kernel
theorem dX0_leftOf_4 : decode cX0_leftOf 4 = .ok (.iload_n 1, 1) := by decide +kernel
theorem dX0_leftOf_5 : decode cX0_leftOf 5 = .ok (.iaload, 1) := by decide +kernel
theorem dX0_leftOf_6 : decode cX0_leftOf 6 = .ok (.aload_n 0, 1) := by decide +kernel
theorem dX0_leftOf_7 : decode cX0_leftOf 7 = .ok (.getfield 19, 3) := by decide +kernel
theorem dX0_leftOf_10 : decode cX0_leftOf 10 = .ok (.iload_n 1, 1) := by decide +kernel
theorem dX0_leftOf_11 : decode cX0_leftOf 11 = .ok (.iaload, 1) := by decide +kernel
theorem dX0_leftOf_12 : decode cX0_leftOf 12 = .ok (.isub, 1) := by decide +kernel
theorem dX0_leftOf_13 : decode cX0_leftOf 13 = .ok (.aload_n 0, 1) := by decide +kernel
theorem dX0_leftOf_14 : decode cX0_leftOf 14 = .ok (.getfield 22, 3) := by decide +kernel
theorem dX0_leftOf_17 : decode cX0_leftOf 17 = .ok (.iload_n 1, 1) := by decide +kernel
theorem dX0_leftOf_18 : decode cX0_leftOf 18 = .ok (.iaload, 1) := by decide +kernel
theorem dX0_leftOf_19 : decode cX0_leftOf 19 = .ok (.isub, 1) := by decide +kernel
theorem dX0_leftOf_20 : decode cX0_leftOf 20 = .ok (.ireturn, 1) := by decide +kernel
theorem dX0_isLeft_0 : decode cX0_isLeft 0 = .ok (.iload_n 2, 1) := by decide +kernel
theorem dX0_isLeft_1 : decode cX0_isLeft 1 = .ok (.aload_n 0, 1) := by decide +kernel
theorem dX0_isLeft_2 : decode cX0_isLeft 2 = .ok (.getfield 19, 3) := by decide +kernel
theorem dX0_isLeft_5 : decode cX0_isLeft 5 = .ok (.iload_n 1, 1) := by decide +kernel
theorem dX0_isLeft_6 : decode cX0_isLeft 6 = .ok (.iaload, 1) := by decide +kernel
theorem dX0_isLeft_7 : decode cX0_isLeft 7 = .ok (.if_icmp .lt 24, 3) := by decide +kernel
theorem dX0_isLeft_10 : decode cX0_isLeft 10 = .ok (.iload_n 2, 1) := by decide +kernel
theorem dX0_isLeft_11 : decode cX0_isLeft 11 = .ok (.aload_n 0, 1) := by decide +kernel
theorem dX0_isLeft_12 : decode cX0_isLeft 12 = .ok (.getfield 9, 3) := by decide +kernel
theorem dX0_isLeft_15 : decode cX0_isLeft 15 = .ok (.iload_n 1, 1) := by decide +kernel
theorem dX0_isLeft_16 : decode cX0_isLeft 16 = .ok (.iaload, 1) := by decide +kernel
theorem dX0_isLeft_17 : decode cX0_isLeft 17 = .ok (.aload_n 0, 1) := by decide +kernel
theorem dX0_isLeft_18 : decode cX0_isLeft 18 = .ok (.getfield 22, 3) := by decide +kernel
theorem dX0_isLeft_21 : decode cX0_isLeft 21 = .ok (.iload_n 1, 1) := by decide +kernel
theorem dX0_isLeft_22 : decode cX0_isLeft 22 = .ok (.iaload, 1) := by decide +kernel
theorem dX0_isLeft_23 : decode cX0_isLeft 23 = .ok (.isub, 1) := by decide +kernel
theorem dX0_isLeft_24 : decode cX0_isLeft 24 = .ok (.if_icmp .ge 7, 3) := by decide +kernel
theorem dX0_isLeft_27 : decode cX0_isLeft 27 = .ok (.iconst 1, 1) := by decide +kernel
theorem dX0_isLeft_28 : decode cX0_isLeft 28 = .ok (.goto 4, 3) := by decide +kernel
theorem dX0_isLeft_31 : decode cX0_isLeft 31 = .ok (.iconst 0, 1) := by decide +kernel
theorem dX0_isLeft_32 : decode cX0_isLeft 32 = .ok (.ireturn, 1) := by decide +kernel
theorem dX0_junesIn_0 : decode cX0_junesIn 0 = .ok (.lconst 1, 1) := by decide +kernel
theorem dX0_junesIn_1 : decode cX0_junesIn 1 = .ok (.aload_n 0, 1) := by decide +kernel
theorem dX0_junesIn_2 : decode cX0_junesIn 2 = .ok (.getfield 19, 3) := by decide +kernel
theorem dX0_junesIn_5 : decode cX0_junesIn 5 = .ok (.iload_n 1, 1) := by decide +kernel
theorem dX0_junesIn_6 : decode cX0_junesIn 6 = .ok (.iaload, 1) := by decide +kernel
theorem dX0_junesIn_7 : decode cX0_junesIn 7 = .ok (.lshl, 1) := by decide +kernel
theorem dX0_junesIn_8 : decode cX0_junesIn 8 = .ok (.lconst 1, 1) := by decide +kernel
theorem dX0_junesIn_9 : decode cX0_junesIn 9 = .ok (.lsub, 1) := by decide +kernel
theorem dX0_junesIn_10 : decode cX0_junesIn 10 = .ok (.lstore_n 2, 1) := by decide +kernel
theorem dX0_junesIn_11 : decode cX0_junesIn 11 = .ok (.lconst 1, 1) := by decide +kernel
theorem dX0_junesIn_12 : decode cX0_junesIn 12 = .ok (.aload_n 0, 1) := by decide +kernel
theorem dX0_junesIn_13 : decode cX0_junesIn 13 = .ok (.getfield 9, 3) := by decide +kernel
theorem dX0_junesIn_16 : decode cX0_junesIn 16 = .ok (.iload_n 1, 1) := by decide +kernel
theorem dX0_junesIn_17 : decode cX0_junesIn 17 = .ok (.iaload, 1) := by decide +kernel
theorem dX0_junesIn_18 : decode cX0_junesIn 18 = .ok (.aload_n 0, 1) := by decide +kernel
theorem dX0_junesIn_19 : decode cX0_junesIn 19 = .ok (.getfield 22, 3) := by decide +kernel
theorem dX0_junesIn_22 : decode cX0_junesIn 22 = .ok (.iload_n 1, 1) := by decide +kernel
theorem dX0_junesIn_23 : decode cX0_junesIn 23 = .ok (.iaload, 1) := by decide +kernel
theorem dX0_junesIn_24 : decode cX0_junesIn 24 = .ok (.isub, 1) := by decide +kernel
theorem dX0_junesIn_25 : decode cX0_junesIn 25 = .ok (.lshl, 1) := by decide +kernel
theorem dX0_junesIn_26 : decode cX0_junesIn 26 = .ok (.lconst 1, 1) := by decide +kernel
theorem dX0_junesIn_27 : decode cX0_junesIn 27 = .ok (.lsub, 1) := by decide +kernel
theorem dX0_junesIn_28 : decode cX0_junesIn 28 = .ok (.lstore 4, 2) := by decide +kernel
theorem dX0_junesIn_30 : decode cX0_junesIn 30 = .ok (.aload_n 0, 1) := by decide +kernel
theorem dX0_junesIn_31 : decode cX0_junesIn 31 = .ok (.getfield 15, 3) := by decide +kernel
theorem dX0_junesIn_34 : decode cX0_junesIn 34 = .ok (.iload_n 1, 1) := by decide +kernel
theorem dX0_junesIn_35 : decode cX0_junesIn 35 = .ok (.laload, 1) := by decide +kernel
theorem dX0_junesIn_36 : decode cX0_junesIn 36 = .ok (.lload 4, 2) := by decide +kernel
theorem dX0_junesIn_38 : decode cX0_junesIn 38 = .ok (.land, 1) := by decide +kernel
theorem dX0_junesIn_39 : decode cX0_junesIn 39 = .ok (.lload_n 2, 1) := by decide +kernel
theorem dX0_junesIn_40 : decode cX0_junesIn 40 = .ok (.ldc2_w 67, 3) := by decide +kernel
theorem dX0_junesIn_43 : decode cX0_junesIn 43 = .ok (.lxor, 1) := by decide +kernel
theorem dX0_junesIn_44 : decode cX0_junesIn 44 = .ok (.land, 1) := by decide +kernel
theorem dX0_junesIn_45 : decode cX0_junesIn 45 = .ok (.lreturn, 1) := by decide +kernel
theorem dX0_junesLeft_0 : decode cX0_junesLeft 0 = .ok (.aload_n 0, 1) := by decide +kernel
theorem dX0_junesLeft_1 : decode cX0_junesLeft 1 = .ok (.iload_n 1, 1) := by decide +kernel
theorem dX0_junesLeft_2 : decode cX0_junesLeft 2 = .ok (.invokevirtual 69, 3) := by decide +kernel
theorem dX0_junesLeft_5 : decode cX0_junesLeft 5 = .ok (.invokestatic 73, 3) := by decide +kernel
theorem dX0_junesLeft_8 : decode cX0_junesLeft 8 = .ok (.ireturn, 1) := by decide +kernel
theorem dX0_isLit_0 : decode cX0_isLit 0 = .ok (.aload_n 0, 1) := by decide +kernel
theorem dX0_isLit_1 : decode cX0_isLit 1 = .ok (.getfield 25, 3) := by decide +kernel
theorem dX0_isLit_4 : decode cX0_isLit 4 = .ok (.iload_n 1, 1) := by decide +kernel
theorem dX0_isLit_5 : decode cX0_isLit 5 = .ok (.iaload, 1) := by decide +kernel
theorem dX0_isLit_6 : decode cX0_isLit 6 = .ok (.iload_n 2, 1) := by decide +kernel
theorem dX0_isLit_7 : decode cX0_isLit 7 = .ok (.ishr, 1) := by decide +kernel
theorem dX0_isLit_8 : decode cX0_isLit 8 = .ok (.iconst 1, 1) := by decide +kernel
theorem dX0_isLit_9 : decode cX0_isLit 9 = .ok (.iand, 1) := by decide +kernel
theorem dX0_isLit_10 : decode cX0_isLit 10 = .ok (.ifCond .eq 7, 3) := by decide +kernel
theorem dX0_isLit_13 : decode cX0_isLit 13 = .ok (.iconst 1, 1) := by decide +kernel
theorem dX0_isLit_14 : decode cX0_isLit 14 = .ok (.goto 4, 3) := by decide +kernel
theorem dX0_isLit_17 : decode cX0_isLit 17 = .ok (.iconst 0, 1) := by decide +kernel
theorem dX0_isLit_18 : decode cX0_isLit 18 = .ok (.ireturn, 1) := by decide +kernel
theorem dX0_canBeLit_0 : decode cX0_canBeLit 0 = .ok (.aload_n 0, 1) := by decide +kernel
theorem dX0_canBeLit_1 : decode cX0_canBeLit 1 = .ok (.iload_n 1, 1) := by decide +kernel
theorem dX0_canBeLit_2 : decode cX0_canBeLit 2 = .ok (.iload_n 2, 1) := by decide +kernel
theorem dX0_canBeLit_3 : decode cX0_canBeLit 3 = .ok (.invokevirtual 79, 3) := by decide +kernel
theorem dX0_canBeLit_6 : decode cX0_canBeLit 6 = .ok (.ifCond .ne 15, 3) := by decide +kernel
theorem dX0_canBeLit_9 : decode cX0_canBeLit 9 = .ok (.aload_n 0, 1) := by decide +kernel
theorem dX0_canBeLit_10 : decode cX0_canBeLit 10 = .ok (.iload_n 1, 1) := by decide +kernel
theorem dX0_canBeLit_11 : decode cX0_canBeLit 11 = .ok (.invokevirtual 83, 3) := by decide +kernel
theorem dX0_canBeLit_14 : decode cX0_canBeLit 14 = .ok (.ifCond .le 7, 3) := by decide +kernel
theorem dX0_canBeLit_17 : decode cX0_canBeLit 17 = .ok (.iconst 1, 1) := by decide +kernel
theorem dX0_canBeLit_18 : decode cX0_canBeLit 18 = .ok (.goto 4, 3) := by decide +kernel
theorem dX0_canBeLit_21 : decode cX0_canBeLit 21 = .ok (.iconst 0, 1) := by decide +kernel
theorem dX0_canBeLit_22 : decode cX0_canBeLit 22 = .ok (.ireturn, 1) := by decide +kernel
theorem dX0_lightOrIdle_0 : decode cX0_lightOrIdle 0 = .ok (.aload_n 0, 1) := by decide +kernel
theorem dX0_lightOrIdle_1 : decode cX0_lightOrIdle 1 = .ok (.iload_n 1, 1) := by decide +kernel
theorem dX0_lightOrIdle_2 : decode cX0_lightOrIdle 2 = .ok (.iload_n 2, 1) := by decide +kernel
theorem dX0_lightOrIdle_3 : decode cX0_lightOrIdle 3 = .ok (.invokevirtual 87, 3) := by decide +kernel
theorem dX0_lightOrIdle_6 : decode cX0_lightOrIdle 6 = .ok (.ifCond .eq 18, 3) := by decide +kernel
theorem dX0_lightOrIdle_9 : decode cX0_lightOrIdle 9 = .ok (.aload_n 0, 1) := by decide +kernel
theorem dX0_lightOrIdle_10 : decode cX0_lightOrIdle 10 = .ok (.getfield 25, 3) := by decide +kernel
theorem dX0_lightOrIdle_13 : decode cX0_lightOrIdle 13 = .ok (.iload_n 1, 1) := by decide +kernel
theorem dX0_lightOrIdle_14 : decode cX0_lightOrIdle 14 = .ok (.dup2, 1) := by decide +kernel
theorem dX0_lightOrIdle_15 : decode cX0_lightOrIdle 15 = .ok (.iaload, 1) := by decide +kernel
theorem dX0_lightOrIdle_16 : decode cX0_lightOrIdle 16 = .ok (.iconst 1, 1) := by decide +kernel
theorem dX0_lightOrIdle_17 : decode cX0_lightOrIdle 17 = .ok (.iload_n 2, 1) := by decide +kernel
theorem dX0_lightOrIdle_18 : decode cX0_lightOrIdle 18 = .ok (.ishl, 1) := by decide +kernel
theorem dX0_lightOrIdle_19 : decode cX0_lightOrIdle 19 = .ok (.ior, 1) := by decide +kernel
theorem dX0_lightOrIdle_20 : decode cX0_lightOrIdle 20 = .ok (.iastore, 1) := by decide +kernel
theorem dX0_lightOrIdle_21 : decode cX0_lightOrIdle 21 = .ok (.goto 13, 3) := by decide +kernel
theorem dX0_lightOrIdle_24 : decode cX0_lightOrIdle 24 = .ok (.aload_n 0, 1) := by decide +kernel
theorem dX0_lightOrIdle_25 : decode cX0_lightOrIdle 25 = .ok (.dup, 1) := by decide +kernel
theorem dX0_lightOrIdle_26 : decode cX0_lightOrIdle 26 = .ok (.getfield 58, 3) := by decide +kernel
theorem dX0_lightOrIdle_29 : decode cX0_lightOrIdle 29 = .ok (.iconst 1, 1) := by decide +kernel
theorem dX0_lightOrIdle_30 : decode cX0_lightOrIdle 30 = .ok (.iadd, 1) := by decide +kernel
theorem dX0_lightOrIdle_31 : decode cX0_lightOrIdle 31 = .ok (.putfield 58, 3) := by decide +kernel
theorem dX0_lightOrIdle_34 : decode cX0_lightOrIdle 34 = .ok (.return_, 1) := by decide +kernel
theorem dX0_blowOrIdle_0 : decode cX0_blowOrIdle 0 = .ok (.aload_n 0, 1) := by decide +kernel
theorem dX0_blowOrIdle_1 : decode cX0_blowOrIdle 1 = .ok (.iload_n 1, 1) := by decide +kernel
theorem dX0_blowOrIdle_2 : decode cX0_blowOrIdle 2 = .ok (.iload_n 2, 1) := by decide +kernel
theorem dX0_blowOrIdle_3 : decode cX0_blowOrIdle 3 = .ok (.invokevirtual 79, 3) := by decide +kernel
theorem dX0_blowOrIdle_6 : decode cX0_blowOrIdle 6 = .ok (.ifCond .eq 20, 3) := by decide +kernel
theorem dX0_blowOrIdle_9 : decode cX0_blowOrIdle 9 = .ok (.aload_n 0, 1) := by decide +kernel
theorem dX0_blowOrIdle_10 : decode cX0_blowOrIdle 10 = .ok (.getfield 25, 3) := by decide +kernel
theorem dX0_blowOrIdle_13 : decode cX0_blowOrIdle 13 = .ok (.iload_n 1, 1) := by decide +kernel
theorem dX0_blowOrIdle_14 : decode cX0_blowOrIdle 14 = .ok (.dup2, 1) := by decide +kernel
theorem dX0_blowOrIdle_15 : decode cX0_blowOrIdle 15 = .ok (.iaload, 1) := by decide +kernel
theorem dX0_blowOrIdle_16 : decode cX0_blowOrIdle 16 = .ok (.iconst 1, 1) := by decide +kernel
theorem dX0_blowOrIdle_17 : decode cX0_blowOrIdle 17 = .ok (.iload_n 2, 1) := by decide +kernel
theorem dX0_blowOrIdle_18 : decode cX0_blowOrIdle 18 = .ok (.ishl, 1) := by decide +kernel
theorem dX0_blowOrIdle_19 : decode cX0_blowOrIdle 19 = .ok (.iconst (-1), 1) := by decide +kernel
theorem dX0_blowOrIdle_20 : decode cX0_blowOrIdle 20 = .ok (.ixor, 1) := by decide +kernel
theorem dX0_blowOrIdle_21 : decode cX0_blowOrIdle 21 = .ok (.iand, 1) := by decide +kernel
theorem dX0_blowOrIdle_22 : decode cX0_blowOrIdle 22 = .ok (.iastore, 1) := by decide +kernel
theorem dX0_blowOrIdle_23 : decode cX0_blowOrIdle 23 = .ok (.goto 13, 3) := by decide +kernel
theorem dX0_blowOrIdle_26 : decode cX0_blowOrIdle 26 = .ok (.aload_n 0, 1) := by decide +kernel
theorem dX0_blowOrIdle_27 : decode cX0_blowOrIdle 27 = .ok (.dup, 1) := by decide +kernel
theorem dX0_blowOrIdle_28 : decode cX0_blowOrIdle 28 = .ok (.getfield 58, 3) := by decide +kernel
theorem dX0_blowOrIdle_31 : decode cX0_blowOrIdle 31 = .ok (.iconst 1, 1) := by decide +kernel
theorem dX0_blowOrIdle_32 : decode cX0_blowOrIdle 32 = .ok (.iadd, 1) := by decide +kernel
theorem dX0_blowOrIdle_33 : decode cX0_blowOrIdle 33 = .ok (.putfield 58, 3) := by decide +kernel
theorem dX0_blowOrIdle_36 : decode cX0_blowOrIdle 36 = .ok (.return_, 1) := by decide +kernel
theorem dX0_shorten_0 : decode cX0_shorten 0 = .ok (.iload_n 3, 1) := by decide +kernel
theorem dX0_shorten_1 : decode cX0_shorten 1 = .ok (.aload_n 0, 1) := by decide +kernel
theorem dX0_shorten_2 : decode cX0_shorten 2 = .ok (.iload_n 1, 1) := by decide +kernel
theorem dX0_shorten_3 : decode cX0_shorten 3 = .ok (.invokevirtual 83, 3) := by decide +kernel
theorem dX0_shorten_6 : decode cX0_shorten 6 = .ok (.invokestatic 90, 3) := by decide +kernel
theorem dX0_shorten_9 : decode cX0_shorten 9 = .ok (.istore 4, 2) := by decide +kernel
theorem dX0_shorten_11 : decode cX0_shorten 11 = .ok (.iload_n 2, 1) := by decide +kernel
theorem dX0_shorten_12 : decode cX0_shorten 12 = .ok (.ifCond .ne 17, 3) := by decide +kernel
theorem dX0_shorten_15 : decode cX0_shorten 15 = .ok (.aload_n 0, 1) := by decide +kernel
theorem dX0_shorten_16 : decode cX0_shorten 16 = .ok (.getfield 19, 3) := by decide +kernel
theorem dX0_shorten_19 : decode cX0_shorten 19 = .ok (.iload_n 1, 1) := by decide +kernel
theorem dX0_shorten_20 : decode cX0_shorten 20 = .ok (.dup2, 1) := by decide +kernel
theorem dX0_shorten_21 : decode cX0_shorten 21 = .ok (.iaload, 1) := by decide +kernel
theorem dX0_shorten_22 : decode cX0_shorten 22 = .ok (.iload 4, 2) := by decide +kernel
theorem dX0_shorten_24 : decode cX0_shorten 24 = .ok (.iadd, 1) := by decide +kernel
theorem dX0_shorten_25 : decode cX0_shorten 25 = .ok (.iastore, 1) := by decide +kernel
theorem dX0_shorten_26 : decode cX0_shorten 26 = .ok (.goto 14, 3) := by decide +kernel
theorem dX0_shorten_29 : decode cX0_shorten 29 = .ok (.aload_n 0, 1) := by decide +kernel
theorem dX0_shorten_30 : decode cX0_shorten 30 = .ok (.getfield 22, 3) := by decide +kernel
theorem dX0_shorten_33 : decode cX0_shorten 33 = .ok (.iload_n 1, 1) := by decide +kernel
theorem dX0_shorten_34 : decode cX0_shorten 34 = .ok (.dup2, 1) := by decide +kernel
theorem dX0_shorten_35 : decode cX0_shorten 35 = .ok (.iaload, 1) := by decide +kernel
theorem dX0_shorten_36 : decode cX0_shorten 36 = .ok (.iload 4, 2) := by decide +kernel
theorem dX0_shorten_38 : decode cX0_shorten 38 = .ok (.iadd, 1) := by decide +kernel
theorem dX0_shorten_39 : decode cX0_shorten 39 = .ok (.iastore, 1) := by decide +kernel
theorem dX0_shorten_40 : decode cX0_shorten 40 = .ok (.aload_n 0, 1) := by decide +kernel
theorem dX0_shorten_41 : decode cX0_shorten 41 = .ok (.iload_n 1, 1) := by decide +kernel
theorem dX0_shorten_42 : decode cX0_shorten 42 = .ok (.invokevirtual 83, 3) := by decide +kernel
theorem dX0_shorten_45 : decode cX0_shorten 45 = .ok (.ifCond .ne 10, 3) := by decide +kernel
theorem dX0_shorten_48 : decode cX0_shorten 48 = .ok (.aload_n 0, 1) := by decide +kernel
theorem dX0_shorten_49 : decode cX0_shorten 49 = .ok (.getfield 25, 3) := by decide +kernel
theorem dX0_shorten_52 : decode cX0_shorten 52 = .ok (.iload_n 1, 1) := by decide +kernel
theorem dX0_shorten_53 : decode cX0_shorten 53 = .ok (.iconst 0, 1) := by decide +kernel
theorem dX0_shorten_54 : decode cX0_shorten 54 = .ok (.iastore, 1) := by decide +kernel
theorem dX0_shorten_55 : decode cX0_shorten 55 = .ok (.return_, 1) := by decide +kernel
theorem dX0_litMen_0 : decode cX0_litMen 0 = .ok (.iconst 0, 1) := by decide +kernel
theorem dX0_litMen_1 : decode cX0_litMen 1 = .ok (.istore_n 1, 1) := by decide +kernel
theorem dX0_litMen_2 : decode cX0_litMen 2 = .ok (.iconst 0, 1) := by decide +kernel
theorem dX0_litMen_3 : decode cX0_litMen 3 = .ok (.istore_n 2, 1) := by decide +kernel
theorem dX0_litMen_4 : decode cX0_litMen 4 = .ok (.iload_n 2, 1) := by decide +kernel
theorem dX0_litMen_5 : decode cX0_litMen 5 = .ok (.aload_n 0, 1) := by decide +kernel
theorem dX0_litMen_6 : decode cX0_litMen 6 = .ok (.getfield 37, 3) := by decide +kernel
theorem dX0_litMen_9 : decode cX0_litMen 9 = .ok (.if_icmp .ge 28, 3) := by decide +kernel
theorem dX0_litMen_12 : decode cX0_litMen 12 = .ok (.iload_n 1, 1) := by decide +kernel
theorem dX0_litMen_13 : decode cX0_litMen 13 = .ok (.aload_n 0, 1) := by decide +kernel
theorem dX0_litMen_14 : decode cX0_litMen 14 = .ok (.getfield 25, 3) := by decide +kernel
theorem dX0_litMen_17 : decode cX0_litMen 17 = .ok (.iload_n 2, 1) := by decide +kernel
theorem dX0_litMen_18 : decode cX0_litMen 18 = .ok (.iaload, 1) := by decide +kernel
theorem dX0_litMen_19 : decode cX0_litMen 19 = .ok (.ifCond .ne 7, 3) := by decide +kernel
theorem dX0_litMen_22 : decode cX0_litMen 22 = .ok (.iconst 0, 1) := by decide +kernel
theorem dX0_litMen_23 : decode cX0_litMen 23 = .ok (.goto 6, 3) := by decide +kernel
theorem dX0_litMen_26 : decode cX0_litMen 26 = .ok (.iconst 1, 1) := by decide +kernel
theorem dX0_litMen_27 : decode cX0_litMen 27 = .ok (.iload_n 2, 1) := by decide +kernel
theorem dX0_litMen_28 : decode cX0_litMen 28 = .ok (.ishl, 1) := by decide +kernel
theorem dX0_litMen_29 : decode cX0_litMen 29 = .ok (.ior, 1) := by decide +kernel
theorem dX0_litMen_30 : decode cX0_litMen 30 = .ok (.istore_n 1, 1) := by decide +kernel
theorem dX0_litMen_31 : decode cX0_litMen 31 = .ok (.iinc 2 1, 3) := by decide +kernel
theorem dX0_litMen_34 : decode cX0_litMen 34 = .ok (.goto (-30), 3) := by decide +kernel
theorem dX0_litMen_37 : decode cX0_litMen 37 = .ok (.iload_n 1, 1) := by decide +kernel
theorem dX0_litMen_38 : decode cX0_litMen 38 = .ok (.ireturn, 1) := by decide +kernel
theorem dX0_outMen_0 : decode cX0_outMen 0 = .ok (.iconst 0, 1) := by decide +kernel
theorem dX0_outMen_1 : decode cX0_outMen 1 = .ok (.istore_n 1, 1) := by decide +kernel
theorem dX0_outMen_2 : decode cX0_outMen 2 = .ok (.iconst 0, 1) := by decide +kernel
theorem dX0_outMen_3 : decode cX0_outMen 3 = .ok (.istore_n 2, 1) := by decide +kernel
theorem dX0_outMen_4 : decode cX0_outMen 4 = .ok (.iload_n 2, 1) := by decide +kernel
theorem dX0_outMen_5 : decode cX0_outMen 5 = .ok (.aload_n 0, 1) := by decide +kernel
theorem dX0_outMen_6 : decode cX0_outMen 6 = .ok (.getfield 37, 3) := by decide +kernel
theorem dX0_outMen_9 : decode cX0_outMen 9 = .ok (.if_icmp .ge 27, 3) := by decide +kernel
theorem dX0_outMen_12 : decode cX0_outMen 12 = .ok (.iload_n 1, 1) := by decide +kernel
theorem dX0_outMen_13 : decode cX0_outMen 13 = .ok (.aload_n 0, 1) := by decide +kernel
theorem dX0_outMen_14 : decode cX0_outMen 14 = .ok (.iload_n 2, 1) := by decide +kernel
theorem dX0_outMen_15 : decode cX0_outMen 15 = .ok (.invokevirtual 83, 3) := by decide +kernel
theorem dX0_outMen_18 : decode cX0_outMen 18 = .ok (.ifCond .ne 9, 3) := by decide +kernel
theorem dX0_outMen_21 : decode cX0_outMen 21 = .ok (.iconst 1, 1) := by decide +kernel
theorem dX0_outMen_22 : decode cX0_outMen 22 = .ok (.iload_n 2, 1) := by decide +kernel
theorem dX0_outMen_23 : decode cX0_outMen 23 = .ok (.ishl, 1) := by decide +kernel
theorem dX0_outMen_24 : decode cX0_outMen 24 = .ok (.goto 4, 3) := by decide +kernel
theorem dX0_outMen_27 : decode cX0_outMen 27 = .ok (.iconst 0, 1) := by decide +kernel
theorem dX0_outMen_28 : decode cX0_outMen 28 = .ok (.ior, 1) := by decide +kernel
theorem dX0_outMen_29 : decode cX0_outMen 29 = .ok (.istore_n 1, 1) := by decide +kernel
theorem dX0_outMen_30 : decode cX0_outMen 30 = .ok (.iinc 2 1, 3) := by decide +kernel
theorem dX0_outMen_33 : decode cX0_outMen 33 = .ok (.goto (-29), 3) := by decide +kernel
theorem dX0_outMen_36 : decode cX0_outMen 36 = .ok (.iload_n 1, 1) := by decide +kernel
theorem dX0_outMen_37 : decode cX0_outMen 37 = .ok (.ireturn, 1) := by decide +kernel
theorem dX0_howManyOut_0 : decode cX0_howManyOut 0 = .ok (.aload_n 0, 1) := by decide +kernel
theorem dX0_howManyOut_1 : decode cX0_howManyOut 1 = .ok (.invokevirtual 96, 3) := by decide +kernel
theorem dX0_howManyOut_4 : decode cX0_howManyOut 4 = .ok (.invokestatic 100, 3) := by decide +kernel
theorem dX0_howManyOut_7 : decode cX0_howManyOut 7 = .ok (.ireturn, 1) := by decide +kernel
theorem dX0_howManyLit_0 : decode cX0_howManyLit 0 = .ok (.iconst 0, 1) := by decide +kernel
theorem dX0_howManyLit_1 : decode cX0_howManyLit 1 = .ok (.istore_n 1, 1) := by decide +kernel
theorem dX0_howManyLit_2 : decode cX0_howManyLit 2 = .ok (.iconst 0, 1) := by decide +kernel
theorem dX0_howManyLit_3 : decode cX0_howManyLit 3 = .ok (.istore_n 2, 1) := by decide +kernel
theorem dX0_howManyLit_4 : decode cX0_howManyLit 4 = .ok (.iload_n 2, 1) := by decide +kernel
theorem dX0_howManyLit_5 : decode cX0_howManyLit 5 = .ok (.aload_n 0, 1) := by decide +kernel
theorem dX0_howManyLit_6 : decode cX0_howManyLit 6 = .ok (.getfield 37, 3) := by decide +kernel
theorem dX0_howManyLit_9 : decode cX0_howManyLit 9 = .ok (.if_icmp .ge 21, 3) := by decide +kernel
theorem dX0_howManyLit_12 : decode cX0_howManyLit 12 = .ok (.iload_n 1, 1) := by decide +kernel
theorem dX0_howManyLit_13 : decode cX0_howManyLit 13 = .ok (.aload_n 0, 1) := by decide +kernel
theorem dX0_howManyLit_14 : decode cX0_howManyLit 14 = .ok (.getfield 25, 3) := by decide +kernel
theorem dX0_howManyLit_17 : decode cX0_howManyLit 17 = .ok (.iload_n 2, 1) := by decide +kernel
theorem dX0_howManyLit_18 : decode cX0_howManyLit 18 = .ok (.iaload, 1) := by decide +kernel
theorem dX0_howManyLit_19 : decode cX0_howManyLit 19 = .ok (.invokestatic 100, 3) := by decide +kernel
theorem dX0_howManyLit_22 : decode cX0_howManyLit 22 = .ok (.iadd, 1) := by decide +kernel
theorem dX0_howManyLit_23 : decode cX0_howManyLit 23 = .ok (.istore_n 1, 1) := by decide +kernel
theorem dX0_howManyLit_24 : decode cX0_howManyLit 24 = .ok (.iinc 2 1, 3) := by decide +kernel
theorem dX0_howManyLit_27 : decode cX0_howManyLit 27 = .ok (.goto (-23), 3) := by decide +kernel
theorem dX0_howManyLit_30 : decode cX0_howManyLit 30 = .ok (.iload_n 1, 1) := by decide +kernel
theorem dX0_howManyLit_31 : decode cX0_howManyLit 31 = .ok (.ireturn, 1) := by decide +kernel
theorem dX0_leftOfAll_0 : decode cX0_leftOfAll 0 = .ok (.iconst 0, 1) := by decide +kernel
theorem dX0_leftOfAll_1 : decode cX0_leftOfAll 1 = .ok (.istore_n 1, 1) := by decide +kernel
theorem dX0_leftOfAll_2 : decode cX0_leftOfAll 2 = .ok (.iconst 0, 1) := by decide +kernel
theorem dX0_leftOfAll_3 : decode cX0_leftOfAll 3 = .ok (.istore_n 2, 1) := by decide +kernel
theorem dX0_leftOfAll_4 : decode cX0_leftOfAll 4 = .ok (.iload_n 2, 1) := by decide +kernel
theorem dX0_leftOfAll_5 : decode cX0_leftOfAll 5 = .ok (.aload_n 0, 1) := by decide +kernel
theorem dX0_leftOfAll_6 : decode cX0_leftOfAll 6 = .ok (.getfield 37, 3) := by decide +kernel
theorem dX0_leftOfAll_9 : decode cX0_leftOfAll 9 = .ok (.if_icmp .ge 17, 3) := by decide +kernel
theorem dX0_leftOfAll_12 : decode cX0_leftOfAll 12 = .ok (.iload_n 1, 1) := by decide +kernel
theorem dX0_leftOfAll_13 : decode cX0_leftOfAll 13 = .ok (.aload_n 0, 1) := by decide +kernel
theorem dX0_leftOfAll_14 : decode cX0_leftOfAll 14 = .ok (.iload_n 2, 1) := by decide +kernel
theorem dX0_leftOfAll_15 : decode cX0_leftOfAll 15 = .ok (.invokevirtual 83, 3) := by decide +kernel
theorem dX0_leftOfAll_18 : decode cX0_leftOfAll 18 = .ok (.iadd, 1) := by decide +kernel
theorem dX0_leftOfAll_19 : decode cX0_leftOfAll 19 = .ok (.istore_n 1, 1) := by decide +kernel
theorem dX0_leftOfAll_20 : decode cX0_leftOfAll 20 = .ok (.iinc 2 1, 3) := by decide +kernel
theorem dX0_leftOfAll_23 : decode cX0_leftOfAll 23 = .ok (.goto (-19), 3) := by decide +kernel
theorem dX0_leftOfAll_26 : decode cX0_leftOfAll 26 = .ok (.iload_n 1, 1) := by decide +kernel
theorem dX0_leftOfAll_27 : decode cX0_leftOfAll 27 = .ok (.ireturn, 1) := by decide +kernel
theorem dX0_seenOfAll_0 : decode cX0_seenOfAll 0 = .ok (.iconst 0, 1) := by decide +kernel
theorem dX0_seenOfAll_1 : decode cX0_seenOfAll 1 = .ok (.istore_n 1, 1) := by decide +kernel
theorem dX0_seenOfAll_2 : decode cX0_seenOfAll 2 = .ok (.iconst 0, 1) := by decide +kernel
theorem dX0_seenOfAll_3 : decode cX0_seenOfAll 3 = .ok (.istore_n 2, 1) := by decide +kernel
theorem dX0_seenOfAll_4 : decode cX0_seenOfAll 4 = .ok (.iload_n 2, 1) := by decide +kernel
theorem dX0_seenOfAll_5 : decode cX0_seenOfAll 5 = .ok (.aload_n 0, 1) := by decide +kernel
theorem dX0_seenOfAll_6 : decode cX0_seenOfAll 6 = .ok (.getfield 37, 3) := by decide +kernel
theorem dX0_seenOfAll_9 : decode cX0_seenOfAll 9 = .ok (.if_icmp .ge 18, 3) := by decide +kernel
theorem dX0_seenOfAll_12 : decode cX0_seenOfAll 12 = .ok (.iload_n 1, 1) := by decide +kernel
theorem dX0_seenOfAll_13 : decode cX0_seenOfAll 13 = .ok (.aload_n 0, 1) := by decide +kernel
theorem dX0_seenOfAll_14 : decode cX0_seenOfAll 14 = .ok (.getfield 28, 3) := by decide +kernel
theorem dX0_seenOfAll_17 : decode cX0_seenOfAll 17 = .ok (.iload_n 2, 1) := by decide +kernel
theorem dX0_seenOfAll_18 : decode cX0_seenOfAll 18 = .ok (.iaload, 1) := by decide +kernel
theorem dX0_seenOfAll_19 : decode cX0_seenOfAll 19 = .ok (.iadd, 1) := by decide +kernel
theorem dX0_seenOfAll_20 : decode cX0_seenOfAll 20 = .ok (.istore_n 1, 1) := by decide +kernel
theorem dX0_seenOfAll_21 : decode cX0_seenOfAll 21 = .ok (.iinc 2 1, 3) := by decide +kernel
theorem dX0_seenOfAll_24 : decode cX0_seenOfAll 24 = .ok (.goto (-20), 3) := by decide +kernel
theorem dX0_seenOfAll_27 : decode cX0_seenOfAll 27 = .ok (.iload_n 1, 1) := by decide +kernel
theorem dX0_seenOfAll_28 : decode cX0_seenOfAll 28 = .ok (.ireturn, 1) := by decide +kernel
theorem dX1_init_0 : decode cX1_init 0 = .ok (.aload_n 0, 1) := by decide +kernel
theorem dX1_init_1 : decode cX1_init 1 = .ok (.invokespecial 3, 3) := by decide +kernel
theorem dX1_init_4 : decode cX1_init 4 = .ok (.aload_n 0, 1) := by decide +kernel
theorem dX1_init_5 : decode cX1_init 5 = .ok (.new 9, 3) := by decide +kernel
theorem dX1_init_8 : decode cX1_init 8 = .ok (.dup, 1) := by decide +kernel
theorem dX1_init_9 : decode cX1_init 9 = .ok (.invokespecial 11, 3) := by decide +kernel
theorem dX1_init_12 : decode cX1_init 12 = .ok (.putfield 12, 3) := by decide +kernel
theorem dX1_init_15 : decode cX1_init 15 = .ok (.aload_n 0, 1) := by decide +kernel
theorem dX1_init_16 : decode cX1_init 16 = .ok (.iconst (-1), 1) := by decide +kernel
theorem dX1_init_17 : decode cX1_init 17 = .ok (.putfield 18, 3) := by decide +kernel
theorem dX1_init_20 : decode cX1_init 20 = .ok (.return_, 1) := by decide +kernel
theorem dX1_begin_0 : decode cX1_begin 0 = .ok (.aload_n 0, 1) := by decide +kernel
theorem dX1_begin_1 : decode cX1_begin 1 = .ok (.aload_n 1, 1) := by decide +kernel
theorem dX1_begin_2 : decode cX1_begin 2 = .ok (.putfield 12, 3) := by decide +kernel
theorem dX1_begin_5 : decode cX1_begin 5 = .ok (.aload_n 0, 1) := by decide +kernel
theorem dX1_begin_6 : decode cX1_begin 6 = .ok (.iload_n 2, 1) := by decide +kernel
theorem dX1_begin_7 : decode cX1_begin 7 = .ok (.putfield 22, 3) := by decide +kernel
theorem dX1_begin_10 : decode cX1_begin 10 = .ok (.aload_n 0, 1) := by decide +kernel
theorem dX1_begin_11 : decode cX1_begin 11 = .ok (.iconst (-1), 1) := by decide +kernel
theorem dX1_begin_12 : decode cX1_begin 12 = .ok (.putfield 18, 3) := by decide +kernel
theorem dX1_begin_15 : decode cX1_begin 15 = .ok (.aload_n 0, 1) := by decide +kernel
theorem dX1_begin_16 : decode cX1_begin 16 = .ok (.iconst 0, 1) := by decide +kernel
theorem dX1_begin_17 : decode cX1_begin 17 = .ok (.putfield 25, 3) := by decide +kernel
theorem dX1_begin_20 : decode cX1_begin 20 = .ok (.aload_n 0, 1) := by decide +kernel
theorem dX1_begin_21 : decode cX1_begin 21 = .ok (.iconst 0, 1) := by decide +kernel
theorem dX1_begin_22 : decode cX1_begin 22 = .ok (.putfield 29, 3) := by decide +kernel
theorem dX1_begin_25 : decode cX1_begin 25 = .ok (.return_, 1) := by decide +kernel
theorem dX1_pass_0 : decode cX1_pass 0 = .ok (.aload_n 0, 1) := by decide +kernel
theorem dX1_pass_1 : decode cX1_pass 1 = .ok (.aload_n 1, 1) := by decide +kernel
theorem dX1_pass_2 : decode cX1_pass 2 = .ok (.iload_n 2, 1) := by decide +kernel
theorem dX1_pass_3 : decode cX1_pass 3 = .ok (.invokevirtual 32, 3) := by decide +kernel
theorem dX1_pass_6 : decode cX1_pass 6 = .ok (.aload_n 0, 1) := by decide +kernel
theorem dX1_pass_7 : decode cX1_pass 7 = .ok (.aload_n 1, 1) := by decide +kernel
theorem dX1_pass_8 : decode cX1_pass 8 = .ok (.invokevirtual 36, 3) := by decide +kernel
theorem dX1_pass_11 : decode cX1_pass 11 = .ok (.istore 4, 2) := by decide +kernel
theorem dX1_pass_13 : decode cX1_pass 13 = .ok (.iload_n 3, 1) := by decide +kernel
theorem dX1_pass_14 : decode cX1_pass 14 = .ok (.ifCond .eq 10, 3) := by decide +kernel
theorem dX1_pass_17 : decode cX1_pass 17 = .ok (.aload_n 0, 1) := by decide +kernel
theorem dX1_pass_18 : decode cX1_pass 18 = .ok (.aload_n 1, 1) := by decide +kernel
theorem dX1_pass_19 : decode cX1_pass 19 = .ok (.iload 4, 2) := by decide +kernel
theorem dX1_pass_21 : decode cX1_pass 21 = .ok (.invokevirtual 40, 3) := by decide +kernel
theorem dX1_pass_24 : decode cX1_pass 24 = .ok (.iconst 0, 1) := by decide +kernel
theorem dX1_pass_25 : decode cX1_pass 25 = .ok (.istore 5, 2) := by decide +kernel
theorem dX1_pass_27 : decode cX1_pass 27 = .ok (.iload 5, 2) := by decide +kernel
theorem dX1_pass_29 : decode cX1_pass 29 = .ok (.aload_n 0, 1) := by decide +kernel
theorem dX1_pass_30 : decode cX1_pass 30 = .ok (.getfield 12, 3) := by decide +kernel
theorem dX1_pass_33 : decode cX1_pass 33 = .ok (.getfield 44, 3) := by decide +kernel
theorem dX1_pass_36 : decode cX1_pass 36 = .ok (.if_icmp .ge 125, 3) := by decide +kernel
theorem dX1_pass_39 : decode cX1_pass 39 = .ok (.iconst 0, 1) := by decide +kernel
theorem dX1_pass_40 : decode cX1_pass 40 = .ok (.istore 6, 2) := by decide +kernel
theorem dX1_pass_42 : decode cX1_pass 42 = .ok (.iload 6, 2) := by decide +kernel
theorem dX1_pass_44 : decode cX1_pass 44 = .ok (.iconst 2, 1) := by decide +kernel
theorem dX1_pass_45 : decode cX1_pass 45 = .ok (.if_icmp .ge 110, 3) := by decide +kernel
theorem dX1_pass_48 : decode cX1_pass 48 = .ok (.iload_n 2, 1) := by decide +kernel
theorem dX1_pass_49 : decode cX1_pass 49 = .ok (.iload 5, 2) := by decide +kernel
theorem dX1_pass_51 : decode cX1_pass 51 = .ok (.ishr, 1) := by decide +kernel
theorem dX1_pass_52 : decode cX1_pass 52 = .ok (.iconst 1, 1) := by decide +kernel
theorem dX1_pass_53 : decode cX1_pass 53 = .ok (.iand, 1) := by decide +kernel
theorem dX1_pass_54 : decode cX1_pass 54 = .ok (.ifCond .eq 101, 3) := by decide +kernel
theorem dX1_pass_57 : decode cX1_pass 57 = .ok (.iload 5, 2) := by decide +kernel
theorem dX1_pass_59 : decode cX1_pass 59 = .ok (.aload_n 0, 1) := by decide +kernel
theorem dX1_pass_60 : decode cX1_pass 60 = .ok (.getfield 18, 3) := by decide +kernel
theorem dX1_pass_63 : decode cX1_pass 63 = .ok (.if_icmp .eq 92, 3) := by decide +kernel
theorem dX1_pass_66 : decode cX1_pass 66 = .ok (.aload_n 1, 1) := by decide +kernel
theorem dX1_pass_67 : decode cX1_pass 67 = .ok (.iload 5, 2) := by decide +kernel
theorem dX1_pass_69 : decode cX1_pass 69 = .ok (.iload 6, 2) := by decide +kernel
theorem dX1_pass_71 : decode cX1_pass 71 = .ok (.invokevirtual 47, 3) := by decide +kernel
theorem dX1_pass_74 : decode cX1_pass 74 = .ok (.ifCond .eq 75, 3) := by decide +kernel
theorem dX1_pass_77 : decode cX1_pass 77 = .ok (.aload_n 0, 1) := by decide +kernel
theorem dX1_pass_78 : decode cX1_pass 78 = .ok (.getfield 29, 3) := by decide +kernel
theorem dX1_pass_81 : decode cX1_pass 81 = .ok (.ifCond .eq 9, 3) := by decide +kernel
theorem dX1_pass_84 : decode cX1_pass 84 = .ok (.ldc2_w 53, 3) := by decide +kernel
theorem dX1_pass_87 : decode cX1_pass 87 = .ok (.goto 19, 3) := by decide +kernel
theorem dX1_pass_90 : decode cX1_pass 90 = .ok (.aload_n 0, 1) := by decide +kernel
theorem dX1_pass_91 : decode cX1_pass 91 = .ok (.getfield 12, 3) := by decide +kernel
theorem dX1_pass_94 : decode cX1_pass 94 = .ok (.getfield 55, 3) := by decide +kernel
theorem dX1_pass_97 : decode cX1_pass 97 = .ok (.iconst 0, 1) := by decide +kernel
theorem dX1_pass_98 : decode cX1_pass 98 = .ok (.aload_n 1, 1) := by decide +kernel
theorem dX1_pass_99 : decode cX1_pass 99 = .ok (.iload 5, 2) := by decide +kernel
theorem dX1_pass_101 : decode cX1_pass 101 = .ok (.iload 4, 2) := by decide +kernel
theorem dX1_pass_103 : decode cX1_pass 103 = .ok (.invokevirtual 59, 3) := by decide +kernel
theorem dX1_pass_106 : decode cX1_pass 106 = .ok (.lstore 7, 2) := by decide +kernel
theorem dX1_pass_108 : decode cX1_pass 108 = .ok (.iload 4, 2) := by decide +kernel
theorem dX1_pass_110 : decode cX1_pass 110 = .ok (.ifCond .eq 7, 3) := by decide +kernel
theorem dX1_pass_113 : decode cX1_pass 113 = .ok (.iconst 2, 1) := by decide +kernel
theorem dX1_pass_114 : decode cX1_pass 114 = .ok (.goto 4, 3) := by decide +kernel
theorem dX1_pass_117 : decode cX1_pass 117 = .ok (.iconst 1, 1) := by decide +kernel
theorem dX1_pass_118 : decode cX1_pass 118 = .ok (.istore 9, 2) := by decide +kernel
theorem dX1_pass_120 : decode cX1_pass 120 = .ok (.aload_n 1, 1) := by decide +kernel
theorem dX1_pass_121 : decode cX1_pass 121 = .ok (.iload 5, 2) := by decide +kernel
theorem dX1_pass_123 : decode cX1_pass 123 = .ok (.iload 6, 2) := by decide +kernel
theorem dX1_pass_125 : decode cX1_pass 125 = .ok (.lload 7, 2) := by decide +kernel
theorem dX1_pass_127 : decode cX1_pass 127 = .ok (.ldc2_w 53, 3) := by decide +kernel
theorem dX1_pass_130 : decode cX1_pass 130 = .ok (.lcmp, 1) := by decide +kernel
theorem dX1_pass_131 : decode cX1_pass 131 = .ok (.ifCond .ne 8, 3) := by decide +kernel
theorem dX1_pass_134 : decode cX1_pass 134 = .ok (.iload 9, 2) := by decide +kernel
theorem dX1_pass_136 : decode cX1_pass 136 = .ok (.goto 10, 3) := by decide +kernel
theorem dX1_pass_139 : decode cX1_pass 139 = .ok (.lload 7, 2) := by decide +kernel
theorem dX1_pass_141 : decode cX1_pass 141 = .ok (.bipush 9, 2) := by decide +kernel
theorem dX1_pass_143 : decode cX1_pass 143 = .ok (.invokestatic 65, 3) := by decide +kernel
theorem dX1_pass_146 : decode cX1_pass 146 = .ok (.invokevirtual 69, 3) := by decide +kernel
theorem dX1_pass_149 : decode cX1_pass 149 = .ok (.iinc 6 1, 3) := by decide +kernel
theorem dX1_pass_152 : decode cX1_pass 152 = .ok (.goto (-110), 3) := by decide +kernel
theorem dX1_pass_155 : decode cX1_pass 155 = .ok (.iinc 5 1, 3) := by decide +kernel
theorem dX1_pass_158 : decode cX1_pass 158 = .ok (.goto (-131), 3) := by decide +kernel
theorem dX1_pass_161 : decode cX1_pass 161 = .ok (.aload_n 1, 1) := by decide +kernel
theorem dX1_pass_162 : decode cX1_pass 162 = .ok (.dup, 1) := by decide +kernel
theorem dX1_pass_163 : decode cX1_pass 163 = .ok (.getfield 73, 3) := by decide +kernel
theorem dX1_pass_166 : decode cX1_pass 166 = .ok (.iconst 1, 1) := by decide +kernel
theorem dX1_pass_167 : decode cX1_pass 167 = .ok (.iadd, 1) := by decide +kernel
theorem dX1_pass_168 : decode cX1_pass 168 = .ok (.putfield 73, 3) := by decide +kernel
theorem dX1_pass_171 : decode cX1_pass 171 = .ok (.return_, 1) := by decide +kernel
theorem dX1_lightAndBlow_0 : decode cX1_lightAndBlow 0 = .ok (.aload_n 0, 1) := by decide +kernel
theorem dX1_lightAndBlow_1 : decode cX1_lightAndBlow 1 = .ok (.getfield 12, 3) := by decide +kernel
theorem dX1_lightAndBlow_4 : decode cX1_lightAndBlow 4 = .ok (.getfield 76, 3) := by decide +kernel
theorem dX1_lightAndBlow_7 : decode cX1_lightAndBlow 7 = .ok (.astore_n 3, 1) := by decide +kernel
theorem dX1_lightAndBlow_8 : decode cX1_lightAndBlow 8 = .ok (.iconst 0, 1) := by decide +kernel
theorem dX1_lightAndBlow_9 : decode cX1_lightAndBlow 9 = .ok (.istore 4, 2) := by decide +kernel
theorem dX1_lightAndBlow_11 : decode cX1_lightAndBlow 11 = .ok (.iload 4, 2) := by decide +kernel
theorem dX1_lightAndBlow_13 : decode cX1_lightAndBlow 13 = .ok (.aload_n 3, 1) := by decide +kernel
theorem dX1_lightAndBlow_14 : decode cX1_lightAndBlow 14 = .ok (.getfield 80, 3) := by decide +kernel
theorem dX1_lightAndBlow_17 : decode cX1_lightAndBlow 17 = .ok (.if_icmp .ge 41, 3) := by decide +kernel
theorem dX1_lightAndBlow_20 : decode cX1_lightAndBlow 20 = .ok (.aload_n 3, 1) := by decide +kernel
theorem dX1_lightAndBlow_21 : decode cX1_lightAndBlow 21 = .ok (.iload 4, 2) := by decide +kernel
theorem dX1_lightAndBlow_23 : decode cX1_lightAndBlow 23 = .ok (.aload_n 1, 1) := by decide +kernel
theorem dX1_lightAndBlow_24 : decode cX1_lightAndBlow 24 = .ok (.getfield 73, 3) := by decide +kernel
theorem dX1_lightAndBlow_27 : decode cX1_lightAndBlow 27 = .ok (.iload_n 2, 1) := by decide +kernel
theorem dX1_lightAndBlow_28 : decode cX1_lightAndBlow 28 = .ok (.invokevirtual 85, 3) := by decide +kernel
theorem dX1_lightAndBlow_31 : decode cX1_lightAndBlow 31 = .ok (.ifCond .eq 21, 3) := by decide +kernel
theorem dX1_lightAndBlow_34 : decode cX1_lightAndBlow 34 = .ok (.aload_n 1, 1) := by decide +kernel
theorem dX1_lightAndBlow_35 : decode cX1_lightAndBlow 35 = .ok (.aload_n 3, 1) := by decide +kernel
theorem dX1_lightAndBlow_36 : decode cX1_lightAndBlow 36 = .ok (.getfield 89, 3) := by decide +kernel
theorem dX1_lightAndBlow_39 : decode cX1_lightAndBlow 39 = .ok (.iload 4, 2) := by decide +kernel
theorem dX1_lightAndBlow_41 : decode cX1_lightAndBlow 41 = .ok (.iaload, 1) := by decide +kernel
theorem dX1_lightAndBlow_42 : decode cX1_lightAndBlow 42 = .ok (.aload_n 3, 1) := by decide +kernel
theorem dX1_lightAndBlow_43 : decode cX1_lightAndBlow 43 = .ok (.getfield 93, 3) := by decide +kernel
theorem dX1_lightAndBlow_46 : decode cX1_lightAndBlow 46 = .ok (.iload 4, 2) := by decide +kernel
theorem dX1_lightAndBlow_48 : decode cX1_lightAndBlow 48 = .ok (.iaload, 1) := by decide +kernel
theorem dX1_lightAndBlow_49 : decode cX1_lightAndBlow 49 = .ok (.invokevirtual 96, 3) := by decide +kernel
theorem dX1_lightAndBlow_52 : decode cX1_lightAndBlow 52 = .ok (.iinc 4 1, 3) := by decide +kernel
theorem dX1_lightAndBlow_55 : decode cX1_lightAndBlow 55 = .ok (.goto (-44), 3) := by decide +kernel
theorem dX1_lightAndBlow_58 : decode cX1_lightAndBlow 58 = .ok (.aload_n 0, 1) := by decide +kernel
theorem dX1_lightAndBlow_59 : decode cX1_lightAndBlow 59 = .ok (.getfield 12, 3) := by decide +kernel
theorem dX1_lightAndBlow_62 : decode cX1_lightAndBlow 62 = .ok (.getfield 100, 3) := by decide +kernel
theorem dX1_lightAndBlow_65 : decode cX1_lightAndBlow 65 = .ok (.astore 4, 2) := by decide +kernel
theorem dX1_lightAndBlow_67 : decode cX1_lightAndBlow 67 = .ok (.iconst 0, 1) := by decide +kernel
theorem dX1_lightAndBlow_68 : decode cX1_lightAndBlow 68 = .ok (.istore 5, 2) := by decide +kernel
theorem dX1_lightAndBlow_70 : decode cX1_lightAndBlow 70 = .ok (.iload 5, 2) := by decide +kernel
theorem dX1_lightAndBlow_72 : decode cX1_lightAndBlow 72 = .ok (.aload 4, 2) := by decide +kernel
theorem dX1_lightAndBlow_74 : decode cX1_lightAndBlow 74 = .ok (.getfield 80, 3) := by decide +kernel
theorem dX1_lightAndBlow_77 : decode cX1_lightAndBlow 77 = .ok (.if_icmp .ge 51, 3) := by decide +kernel
theorem dX1_lightAndBlow_80 : decode cX1_lightAndBlow 80 = .ok (.aload_n 0, 1) := by decide +kernel
theorem dX1_lightAndBlow_81 : decode cX1_lightAndBlow 81 = .ok (.getfield 25, 3) := by decide +kernel
theorem dX1_lightAndBlow_84 : decode cX1_lightAndBlow 84 = .ok (.ifCond .ne 44, 3) := by decide +kernel
theorem dX1_lightAndBlow_87 : decode cX1_lightAndBlow 87 = .ok (.aload 4, 2) := by decide +kernel
theorem dX1_lightAndBlow_89 : decode cX1_lightAndBlow 89 = .ok (.iload 5, 2) := by decide +kernel
theorem dX1_lightAndBlow_91 : decode cX1_lightAndBlow 91 = .ok (.aload_n 1, 1) := by decide +kernel
theorem dX1_lightAndBlow_92 : decode cX1_lightAndBlow 92 = .ok (.getfield 73, 3) := by decide +kernel
theorem dX1_lightAndBlow_95 : decode cX1_lightAndBlow 95 = .ok (.iload_n 2, 1) := by decide +kernel
theorem dX1_lightAndBlow_96 : decode cX1_lightAndBlow 96 = .ok (.invokevirtual 85, 3) := by decide +kernel
theorem dX1_lightAndBlow_99 : decode cX1_lightAndBlow 99 = .ok (.ifCond .eq 23, 3) := by decide +kernel
theorem dX1_lightAndBlow_102 : decode cX1_lightAndBlow 102 = .ok (.aload_n 1, 1) := by decide +kernel
theorem dX1_lightAndBlow_103 : decode cX1_lightAndBlow 103 = .ok (.aload 4, 2) := by decide +kernel
theorem dX1_lightAndBlow_105 : decode cX1_lightAndBlow 105 = .ok (.getfield 89, 3) := by decide +kernel
theorem dX1_lightAndBlow_108 : decode cX1_lightAndBlow 108 = .ok (.iload 5, 2) := by decide +kernel
theorem dX1_lightAndBlow_110 : decode cX1_lightAndBlow 110 = .ok (.iaload, 1) := by decide +kernel
theorem dX1_lightAndBlow_111 : decode cX1_lightAndBlow 111 = .ok (.aload 4, 2) := by decide +kernel
theorem dX1_lightAndBlow_113 : decode cX1_lightAndBlow 113 = .ok (.getfield 93, 3) := by decide +kernel
theorem dX1_lightAndBlow_116 : decode cX1_lightAndBlow 116 = .ok (.iload 5, 2) := by decide +kernel
theorem dX1_lightAndBlow_118 : decode cX1_lightAndBlow 118 = .ok (.iaload, 1) := by decide +kernel
theorem dX1_lightAndBlow_119 : decode cX1_lightAndBlow 119 = .ok (.invokevirtual 103, 3) := by decide +kernel
theorem dX1_lightAndBlow_122 : decode cX1_lightAndBlow 122 = .ok (.iinc 5 1, 3) := by decide +kernel
theorem dX1_lightAndBlow_125 : decode cX1_lightAndBlow 125 = .ok (.goto (-55), 3) := by decide +kernel
theorem dX1_lightAndBlow_128 : decode cX1_lightAndBlow 128 = .ok (.return_, 1) := by decide +kernel
theorem dX1_isWindy_0 : decode cX1_isWindy 0 = .ok (.aload_n 0, 1) := by decide +kernel
theorem dX1_isWindy_1 : decode cX1_isWindy 1 = .ok (.getfield 22, 3) := by decide +kernel
theorem dX1_isWindy_4 : decode cX1_isWindy 4 = .ok (.tableswitch 38 1 3 #[28, 34, 36], 28) := by decide +kernel
theorem dX1_isWindy_32 : decode cX1_isWindy 32 = .ok (.aload_n 0, 1) := by decide +kernel
theorem dX1_isWindy_33 : decode cX1_isWindy 33 = .ok (.aload_n 1, 1) := by decide +kernel
theorem dX1_isWindy_34 : decode cX1_isWindy 34 = .ok (.invokevirtual 106, 3) := by decide +kernel
theorem dX1_isWindy_37 : decode cX1_isWindy 37 = .ok (.ireturn, 1) := by decide +kernel
theorem dX1_isWindy_38 : decode cX1_isWindy 38 = .ok (.iconst 0, 1) := by decide +kernel
theorem dX1_isWindy_39 : decode cX1_isWindy 39 = .ok (.ireturn, 1) := by decide +kernel
theorem dX1_isWindy_40 : decode cX1_isWindy 40 = .ok (.iconst 1, 1) := by decide +kernel
theorem dX1_isWindy_41 : decode cX1_isWindy 41 = .ok (.ireturn, 1) := by decide +kernel
theorem dX1_isWindy_42 : decode cX1_isWindy 42 = .ok (.aload_n 0, 1) := by decide +kernel
theorem dX1_isWindy_43 : decode cX1_isWindy 43 = .ok (.getfield 12, 3) := by decide +kernel
theorem dX1_isWindy_46 : decode cX1_isWindy 46 = .ok (.invokevirtual 109, 3) := by decide +kernel
theorem dX1_isWindy_49 : decode cX1_isWindy 49 = .ok (.ireturn, 1) := by decide +kernel
theorem dX1_isWindyByNumber_0 : decode cX1_isWindyByNumber 0 = .ok (.aload_n 0, 1) := by decide +kernel
theorem dX1_isWindyByNumber_1 : decode cX1_isWindyByNumber 1 = .ok (.getfield 12, 3) := by decide +kernel
theorem dX1_isWindyByNumber_4 : decode cX1_isWindyByNumber 4 = .ok (.getfield 113, 3) := by decide +kernel
theorem dX1_isWindyByNumber_7 : decode cX1_isWindyByNumber 7 = .ok (.ifCond .eq 15, 3) := by decide +kernel
theorem dX1_isWindyByNumber_10 : decode cX1_isWindyByNumber 10 = .ok (.aload_n 0, 1) := by decide +kernel
theorem dX1_isWindyByNumber_11 : decode cX1_isWindyByNumber 11 = .ok (.getfield 12, 3) := by decide +kernel
theorem dX1_isWindyByNumber_14 : decode cX1_isWindyByNumber 14 = .ok (.getfield 113, 3) := by decide +kernel
theorem dX1_isWindyByNumber_17 : decode cX1_isWindyByNumber 17 = .ok (.bipush 100, 2) := by decide +kernel
theorem dX1_isWindyByNumber_19 : decode cX1_isWindyByNumber 19 = .ok (.if_icmp .ne 21, 3) := by decide +kernel
theorem dX1_isWindyByNumber_22 : decode cX1_isWindyByNumber 22 = .ok (.aload_n 0, 1) := by decide +kernel
theorem dX1_isWindyByNumber_23 : decode cX1_isWindyByNumber 23 = .ok (.getfield 12, 3) := by decide +kernel
theorem dX1_isWindyByNumber_26 : decode cX1_isWindyByNumber 26 = .ok (.getfield 113, 3) := by decide +kernel
theorem dX1_isWindyByNumber_29 : decode cX1_isWindyByNumber 29 = .ok (.bipush 100, 2) := by decide +kernel
theorem dX1_isWindyByNumber_31 : decode cX1_isWindyByNumber 31 = .ok (.if_icmp .ne 7, 3) := by decide +kernel
theorem dX1_isWindyByNumber_34 : decode cX1_isWindyByNumber 34 = .ok (.iconst 1, 1) := by decide +kernel
theorem dX1_isWindyByNumber_35 : decode cX1_isWindyByNumber 35 = .ok (.goto 4, 3) := by decide +kernel
theorem dX1_isWindyByNumber_38 : decode cX1_isWindyByNumber 38 = .ok (.iconst 0, 1) := by decide +kernel
theorem dX1_isWindyByNumber_39 : decode cX1_isWindyByNumber 39 = .ok (.ireturn, 1) := by decide +kernel
theorem dX1_isWindyByNumber_40 : decode cX1_isWindyByNumber 40 = .ok (.aload_n 1, 1) := by decide +kernel
theorem dX1_isWindyByNumber_41 : decode cX1_isWindyByNumber 41 = .ok (.aload_n 1, 1) := by decide +kernel
theorem dX1_isWindyByNumber_42 : decode cX1_isWindyByNumber 42 = .ok (.getfield 116, 3) := by decide +kernel
theorem dX1_isWindyByNumber_45 : decode cX1_isWindyByNumber 45 = .ok (.i2l, 1) := by decide +kernel
theorem dX1_isWindyByNumber_46 : decode cX1_isWindyByNumber 46 = .ok (.ldc2_w 119, 3) := by decide +kernel
theorem dX1_isWindyByNumber_49 : decode cX1_isWindyByNumber 49 = .ok (.lmul, 1) := by decide +kernel
theorem dX1_isWindyByNumber_50 : decode cX1_isWindyByNumber 50 = .ok (.ldc2_w 121, 3) := by decide +kernel
theorem dX1_isWindyByNumber_53 : decode cX1_isWindyByNumber 53 = .ok (.ladd, 1) := by decide +kernel
theorem dX1_isWindyByNumber_54 : decode cX1_isWindyByNumber 54 = .ok (.ldc2_w 123, 3) := by decide +kernel
theorem dX1_isWindyByNumber_57 : decode cX1_isWindyByNumber 57 = .ok (.land, 1) := by decide +kernel
theorem dX1_isWindyByNumber_58 : decode cX1_isWindyByNumber 58 = .ok (.l2i, 1) := by decide +kernel
theorem dX1_isWindyByNumber_59 : decode cX1_isWindyByNumber 59 = .ok (.putfield 116, 3) := by decide +kernel
theorem dX1_isWindyByNumber_62 : decode cX1_isWindyByNumber 62 = .ok (.aload_n 1, 1) := by decide +kernel
theorem dX1_isWindyByNumber_63 : decode cX1_isWindyByNumber 63 = .ok (.getfield 116, 3) := by decide +kernel
theorem dX1_isWindyByNumber_66 : decode cX1_isWindyByNumber 66 = .ok (.ldc 125, 2) := by decide +kernel
theorem dX1_isWindyByNumber_68 : decode cX1_isWindyByNumber 68 = .ok (.idiv, 1) := by decide +kernel
theorem dX1_isWindyByNumber_69 : decode cX1_isWindyByNumber 69 = .ok (.bipush 100, 2) := by decide +kernel
theorem dX1_isWindyByNumber_71 : decode cX1_isWindyByNumber 71 = .ok (.irem, 1) := by decide +kernel
theorem dX1_isWindyByNumber_72 : decode cX1_isWindyByNumber 72 = .ok (.aload_n 0, 1) := by decide +kernel
theorem dX1_isWindyByNumber_73 : decode cX1_isWindyByNumber 73 = .ok (.getfield 12, 3) := by decide +kernel
theorem dX1_isWindyByNumber_76 : decode cX1_isWindyByNumber 76 = .ok (.getfield 113, 3) := by decide +kernel
theorem dX1_isWindyByNumber_79 : decode cX1_isWindyByNumber 79 = .ok (.if_icmp .ge 7, 3) := by decide +kernel
theorem dX1_isWindyByNumber_82 : decode cX1_isWindyByNumber 82 = .ok (.iconst 1, 1) := by decide +kernel
theorem dX1_isWindyByNumber_83 : decode cX1_isWindyByNumber 83 = .ok (.goto 4, 3) := by decide +kernel
theorem dX1_isWindyByNumber_86 : decode cX1_isWindyByNumber 86 = .ok (.iconst 0, 1) := by decide +kernel
theorem dX1_isWindyByNumber_87 : decode cX1_isWindyByNumber 87 = .ok (.ireturn, 1) := by decide +kernel
theorem dX1_shine_0 : decode cX1_shine 0 = .ok (.aload_n 1, 1) := by decide +kernel
theorem dX1_shine_1 : decode cX1_shine 1 = .ok (.invokevirtual 126, 3) := by decide +kernel
theorem dX1_shine_4 : decode cX1_shine 4 = .ok (.istore_n 3, 1) := by decide +kernel
theorem dX1_shine_5 : decode cX1_shine 5 = .ok (.iconst 0, 1) := by decide +kernel
theorem dX1_shine_6 : decode cX1_shine 6 = .ok (.istore 4, 2) := by decide +kernel
theorem dX1_shine_8 : decode cX1_shine 8 = .ok (.iload 4, 2) := by decide +kernel
theorem dX1_shine_10 : decode cX1_shine 10 = .ok (.aload_n 0, 1) := by decide +kernel
theorem dX1_shine_11 : decode cX1_shine 11 = .ok (.getfield 12, 3) := by decide +kernel
theorem dX1_shine_14 : decode cX1_shine 14 = .ok (.getfield 44, 3) := by decide +kernel
theorem dX1_shine_17 : decode cX1_shine 17 = .ok (.if_icmp .ge 123, 3) := by decide +kernel
theorem dX1_shine_20 : decode cX1_shine 20 = .ok (.aload_n 0, 1) := by decide +kernel
theorem dX1_shine_21 : decode cX1_shine 21 = .ok (.getfield 12, 3) := by decide +kernel
theorem dX1_shine_24 : decode cX1_shine 24 = .ok (.iload_n 3, 1) := by decide +kernel
theorem dX1_shine_25 : decode cX1_shine 25 = .ok (.iload 4, 2) := by decide +kernel
theorem dX1_shine_27 : decode cX1_shine 27 = .ok (.invokevirtual 130, 3) := by decide +kernel
theorem dX1_shine_30 : decode cX1_shine 30 = .ok (.ifCond .eq 25, 3) := by decide +kernel
theorem dX1_shine_33 : decode cX1_shine 33 = .ok (.aload_n 1, 1) := by decide +kernel
theorem dX1_shine_34 : decode cX1_shine 34 = .ok (.getfield 133, 3) := by decide +kernel
theorem dX1_shine_37 : decode cX1_shine 37 = .ok (.iload 4, 2) := by decide +kernel
theorem dX1_shine_39 : decode cX1_shine 39 = .ok (.sipush 9999, 3) := by decide +kernel
theorem dX1_shine_42 : decode cX1_shine 42 = .ok (.aload_n 1, 1) := by decide +kernel
theorem dX1_shine_43 : decode cX1_shine 43 = .ok (.getfield 133, 3) := by decide +kernel
theorem dX1_shine_46 : decode cX1_shine 46 = .ok (.iload 4, 2) := by decide +kernel
theorem dX1_shine_48 : decode cX1_shine 48 = .ok (.iaload, 1) := by decide +kernel
theorem dX1_shine_49 : decode cX1_shine 49 = .ok (.iconst 1, 1) := by decide +kernel
theorem dX1_shine_50 : decode cX1_shine 50 = .ok (.iadd, 1) := by decide +kernel
theorem dX1_shine_51 : decode cX1_shine 51 = .ok (.invokestatic 136, 3) := by decide +kernel
theorem dX1_shine_54 : decode cX1_shine 54 = .ok (.iastore, 1) := by decide +kernel
theorem dX1_shine_55 : decode cX1_shine 55 = .ok (.aload_n 1, 1) := by decide +kernel
theorem dX1_shine_56 : decode cX1_shine 56 = .ok (.getfield 142, 3) := by decide +kernel
theorem dX1_shine_59 : decode cX1_shine 59 = .ok (.iload 4, 2) := by decide +kernel
theorem dX1_shine_61 : decode cX1_shine 61 = .ok (.iaload, 1) := by decide +kernel
theorem dX1_shine_62 : decode cX1_shine 62 = .ok (.ifCond .eq 72, 3) := by decide +kernel
theorem dX1_shine_65 : decode cX1_shine 65 = .ok (.aload_n 0, 1) := by decide +kernel
theorem dX1_shine_66 : decode cX1_shine 66 = .ok (.getfield 12, 3) := by decide +kernel
theorem dX1_shine_69 : decode cX1_shine 69 = .ok (.getfield 55, 3) := by decide +kernel
theorem dX1_shine_72 : decode cX1_shine 72 = .ok (.iconst 1, 1) := by decide +kernel
theorem dX1_shine_73 : decode cX1_shine 73 = .ok (.aload_n 1, 1) := by decide +kernel
theorem dX1_shine_74 : decode cX1_shine 74 = .ok (.iload 4, 2) := by decide +kernel
theorem dX1_shine_76 : decode cX1_shine 76 = .ok (.iload_n 2, 1) := by decide +kernel
theorem dX1_shine_77 : decode cX1_shine 77 = .ok (.invokevirtual 59, 3) := by decide +kernel
theorem dX1_shine_80 : decode cX1_shine 80 = .ok (.lstore 5, 2) := by decide +kernel
theorem dX1_shine_82 : decode cX1_shine 82 = .ok (.aload_n 1, 1) := by decide +kernel
theorem dX1_shine_83 : decode cX1_shine 83 = .ok (.getfield 142, 3) := by decide +kernel
theorem dX1_shine_86 : decode cX1_shine 86 = .ok (.iload 4, 2) := by decide +kernel
theorem dX1_shine_88 : decode cX1_shine 88 = .ok (.iaload, 1) := by decide +kernel
theorem dX1_shine_89 : decode cX1_shine 89 = .ok (.invokestatic 145, 3) := by decide +kernel
theorem dX1_shine_92 : decode cX1_shine 92 = .ok (.istore 7, 2) := by decide +kernel
theorem dX1_shine_94 : decode cX1_shine 94 = .ok (.lload 5, 2) := by decide +kernel
theorem dX1_shine_96 : decode cX1_shine 96 = .ok (.ldc2_w 53, 3) := by decide +kernel
theorem dX1_shine_99 : decode cX1_shine 99 = .ok (.lcmp, 1) := by decide +kernel
theorem dX1_shine_100 : decode cX1_shine 100 = .ok (.ifCond .ne 8, 3) := by decide +kernel
theorem dX1_shine_103 : decode cX1_shine 103 = .ok (.iload 7, 2) := by decide +kernel
theorem dX1_shine_105 : decode cX1_shine 105 = .ok (.goto 11, 3) := by decide +kernel
theorem dX1_shine_108 : decode cX1_shine 108 = .ok (.lload 5, 2) := by decide +kernel
theorem dX1_shine_110 : decode cX1_shine 110 = .ok (.sipush 999, 3) := by decide +kernel
theorem dX1_shine_113 : decode cX1_shine 113 = .ok (.invokestatic 65, 3) := by decide +kernel
theorem dX1_shine_116 : decode cX1_shine 116 = .ok (.istore 8, 2) := by decide +kernel
theorem dX1_shine_118 : decode cX1_shine 118 = .ok (.aload_n 1, 1) := by decide +kernel
theorem dX1_shine_119 : decode cX1_shine 119 = .ok (.ldc 151, 2) := by decide +kernel
theorem dX1_shine_121 : decode cX1_shine 121 = .ok (.aload_n 1, 1) := by decide +kernel
theorem dX1_shine_122 : decode cX1_shine 122 = .ok (.getfield 152, 3) := by decide +kernel
theorem dX1_shine_125 : decode cX1_shine 125 = .ok (.iload 8, 2) := by decide +kernel
theorem dX1_shine_127 : decode cX1_shine 127 = .ok (.iadd, 1) := by decide +kernel
theorem dX1_shine_128 : decode cX1_shine 128 = .ok (.invokestatic 136, 3) := by decide +kernel
theorem dX1_shine_131 : decode cX1_shine 131 = .ok (.putfield 152, 3) := by decide +kernel
theorem dX1_shine_134 : decode cX1_shine 134 = .ok (.iinc 4 1, 3) := by decide +kernel
theorem dX1_shine_137 : decode cX1_shine 137 = .ok (.goto (-129), 3) := by decide +kernel
theorem dX1_shine_140 : decode cX1_shine 140 = .ok (.return_, 1) := by decide +kernel
theorem dX2_init_0 : decode cX2_init 0 = .ok (.aload_n 0, 1) := by decide +kernel
theorem dX2_init_1 : decode cX2_init 1 = .ok (.invokespecial 3, 3) := by decide +kernel
theorem dX2_init_4 : decode cX2_init 4 = .ok (.aload_n 0, 1) := by decide +kernel
theorem dX2_init_5 : decode cX2_init 5 = .ok (.bipush 12, 2) := by decide +kernel
theorem dX2_init_7 : decode cX2_init 7 = .ok (.newarray .int, 2) := by decide +kernel
theorem dX2_init_9 : decode cX2_init 9 = .ok (.putfield 9, 3) := by decide +kernel
theorem dX2_init_12 : decode cX2_init 12 = .ok (.aload_n 0, 1) := by decide +kernel
theorem dX2_init_13 : decode cX2_init 13 = .ok (.bipush 12, 2) := by decide +kernel
theorem dX2_init_15 : decode cX2_init 15 = .ok (.newarray .int, 2) := by decide +kernel
theorem dX2_init_17 : decode cX2_init 17 = .ok (.putfield 15, 3) := by decide +kernel
theorem dX2_init_20 : decode cX2_init 20 = .ok (.aload_n 0, 1) := by decide +kernel
theorem dX2_init_21 : decode cX2_init 21 = .ok (.bipush 12, 2) := by decide +kernel
theorem dX2_init_23 : decode cX2_init 23 = .ok (.newarray .int, 2) := by decide +kernel
theorem dX2_init_25 : decode cX2_init 25 = .ok (.putfield 18, 3) := by decide +kernel
theorem dX2_init_28 : decode cX2_init 28 = .ok (.aload_n 0, 1) := by decide +kernel
theorem dX2_init_29 : decode cX2_init 29 = .ok (.iload_n 1, 1) := by decide +kernel
theorem dX2_init_30 : decode cX2_init 30 = .ok (.bipush 12, 2) := by decide +kernel
theorem dX2_init_32 : decode cX2_init 32 = .ok (.invokestatic 21, 3) := by decide +kernel
theorem dX2_init_35 : decode cX2_init 35 = .ok (.putfield 27, 3) := by decide +kernel
theorem dX2_init_38 : decode cX2_init 38 = .ok (.return_, 1) := by decide +kernel
theorem dX2_isFull_0 : decode cX2_isFull 0 = .ok (.aload_n 0, 1) := by decide +kernel
theorem dX2_isFull_1 : decode cX2_isFull 1 = .ok (.getfield 31, 3) := by decide +kernel
theorem dX2_isFull_4 : decode cX2_isFull 4 = .ok (.aload_n 0, 1) := by decide +kernel
theorem dX2_isFull_5 : decode cX2_isFull 5 = .ok (.getfield 27, 3) := by decide +kernel
theorem dX2_isFull_8 : decode cX2_isFull 8 = .ok (.if_icmp .lt 7, 3) := by decide +kernel
theorem dX2_isFull_11 : decode cX2_isFull 11 = .ok (.iconst 1, 1) := by decide +kernel
theorem dX2_isFull_12 : decode cX2_isFull 12 = .ok (.goto 4, 3) := by decide +kernel
theorem dX2_isFull_15 : decode cX2_isFull 15 = .ok (.iconst 0, 1) := by decide +kernel
theorem dX2_isFull_16 : decode cX2_isFull 16 = .ok (.ireturn, 1) := by decide +kernel
theorem dX2_isDue_0 : decode cX2_isDue 0 = .ok (.aload_n 0, 1) := by decide +kernel
theorem dX2_isDue_1 : decode cX2_isDue 1 = .ok (.getfield 18, 3) := by decide +kernel
theorem dX2_isDue_4 : decode cX2_isDue 4 = .ok (.iload_n 1, 1) := by decide +kernel
theorem dX2_isDue_5 : decode cX2_isDue 5 = .ok (.iaload, 1) := by decide +kernel
theorem dX2_isDue_6 : decode cX2_isDue 6 = .ok (.iload_n 2, 1) := by decide +kernel
theorem dX2_isDue_7 : decode cX2_isDue 7 = .ok (.if_icmp .ne 20, 3) := by decide +kernel
theorem dX2_isDue_10 : decode cX2_isDue 10 = .ok (.iload_n 3, 1) := by decide +kernel
theorem dX2_isDue_11 : decode cX2_isDue 11 = .ok (.aload_n 0, 1) := by decide +kernel
theorem dX2_isDue_12 : decode cX2_isDue 12 = .ok (.getfield 9, 3) := by decide +kernel
theorem dX2_isDue_15 : decode cX2_isDue 15 = .ok (.iload_n 1, 1) := by decide +kernel
theorem dX2_isDue_16 : decode cX2_isDue 16 = .ok (.iaload, 1) := by decide +kernel
theorem dX2_isDue_17 : decode cX2_isDue 17 = .ok (.ishr, 1) := by decide +kernel
theorem dX2_isDue_18 : decode cX2_isDue 18 = .ok (.iconst 1, 1) := by decide +kernel
theorem dX2_isDue_19 : decode cX2_isDue 19 = .ok (.iand, 1) := by decide +kernel
theorem dX2_isDue_20 : decode cX2_isDue 20 = .ok (.ifCond .eq 7, 3) := by decide +kernel
theorem dX2_isDue_23 : decode cX2_isDue 23 = .ok (.iconst 1, 1) := by decide +kernel
theorem dX2_isDue_24 : decode cX2_isDue 24 = .ok (.goto 4, 3) := by decide +kernel
theorem dX2_isDue_27 : decode cX2_isDue 27 = .ok (.iconst 0, 1) := by decide +kernel
theorem dX2_isDue_28 : decode cX2_isDue 28 = .ok (.ireturn, 1) := by decide +kernel
theorem dX2_add_0 : decode cX2_add 0 = .ok (.aload_n 0, 1) := by decide +kernel
theorem dX2_add_1 : decode cX2_add 1 = .ok (.invokevirtual 34, 3) := by decide +kernel
theorem dX2_add_4 : decode cX2_add 4 = .ok (.ifCond .ne 43, 3) := by decide +kernel
theorem dX2_add_7 : decode cX2_add 7 = .ok (.aload_n 0, 1) := by decide +kernel
theorem dX2_add_8 : decode cX2_add 8 = .ok (.getfield 9, 3) := by decide +kernel
theorem dX2_add_11 : decode cX2_add 11 = .ok (.aload_n 0, 1) := by decide +kernel
theorem dX2_add_12 : decode cX2_add 12 = .ok (.getfield 31, 3) := by decide +kernel
theorem dX2_add_15 : decode cX2_add 15 = .ok (.iload_n 1, 1) := by decide +kernel
theorem dX2_add_16 : decode cX2_add 16 = .ok (.iastore, 1) := by decide +kernel
theorem dX2_add_17 : decode cX2_add 17 = .ok (.aload_n 0, 1) := by decide +kernel
theorem dX2_add_18 : decode cX2_add 18 = .ok (.getfield 15, 3) := by decide +kernel
theorem dX2_add_21 : decode cX2_add 21 = .ok (.aload_n 0, 1) := by decide +kernel
theorem dX2_add_22 : decode cX2_add 22 = .ok (.getfield 31, 3) := by decide +kernel
theorem dX2_add_25 : decode cX2_add 25 = .ok (.iload_n 2, 1) := by decide +kernel
theorem dX2_add_26 : decode cX2_add 26 = .ok (.iastore, 1) := by decide +kernel
theorem dX2_add_27 : decode cX2_add 27 = .ok (.aload_n 0, 1) := by decide +kernel
theorem dX2_add_28 : decode cX2_add 28 = .ok (.getfield 18, 3) := by decide +kernel
theorem dX2_add_31 : decode cX2_add 31 = .ok (.aload_n 0, 1) := by decide +kernel
theorem dX2_add_32 : decode cX2_add 32 = .ok (.getfield 31, 3) := by decide +kernel
theorem dX2_add_35 : decode cX2_add 35 = .ok (.iload_n 3, 1) := by decide +kernel
theorem dX2_add_36 : decode cX2_add 36 = .ok (.iastore, 1) := by decide +kernel
theorem dX2_add_37 : decode cX2_add 37 = .ok (.aload_n 0, 1) := by decide +kernel
theorem dX2_add_38 : decode cX2_add 38 = .ok (.dup, 1) := by decide +kernel
theorem dX2_add_39 : decode cX2_add 39 = .ok (.getfield 31, 3) := by decide +kernel
theorem dX2_add_42 : decode cX2_add 42 = .ok (.iconst 1, 1) := by decide +kernel
theorem dX2_add_43 : decode cX2_add 43 = .ok (.iadd, 1) := by decide +kernel
theorem dX2_add_44 : decode cX2_add 44 = .ok (.putfield 31, 3) := by decide +kernel
theorem dX2_add_47 : decode cX2_add 47 = .ok (.return_, 1) := by decide +kernel
theorem dX3_init_0 : decode cX3_init 0 = .ok (.aload_n 0, 1) := by decide +kernel
theorem dX3_init_1 : decode cX3_init 1 = .ok (.invokespecial 3, 3) := by decide +kernel
theorem dX3_init_4 : decode cX3_init 4 = .ok (.aload_n 0, 1) := by decide +kernel
theorem dX3_init_5 : decode cX3_init 5 = .ok (.iconst (-1), 1) := by decide +kernel
theorem dX3_init_6 : decode cX3_init 6 = .ok (.putfield 9, 3) := by decide +kernel
theorem dX3_init_9 : decode cX3_init 9 = .ok (.aload_n 0, 1) := by decide +kernel
theorem dX3_init_10 : decode cX3_init 10 = .ok (.bipush 24, 2) := by decide +kernel
theorem dX3_init_12 : decode cX3_init 12 = .ok (.newarray .int, 2) := by decide +kernel
theorem dX3_init_14 : decode cX3_init 14 = .ok (.putfield 15, 3) := by decide +kernel
theorem dX3_init_17 : decode cX3_init 17 = .ok (.aload_n 0, 1) := by decide +kernel
theorem dX3_init_18 : decode cX3_init 18 = .ok (.bipush 24, 2) := by decide +kernel
theorem dX3_init_20 : decode cX3_init 20 = .ok (.newarray .int, 2) := by decide +kernel
theorem dX3_init_22 : decode cX3_init 22 = .ok (.putfield 19, 3) := by decide +kernel
theorem dX3_init_25 : decode cX3_init 25 = .ok (.aload_n 0, 1) := by decide +kernel
theorem dX3_init_26 : decode cX3_init 26 = .ok (.bipush 24, 2) := by decide +kernel
theorem dX3_init_28 : decode cX3_init 28 = .ok (.newarray .int, 2) := by decide +kernel
theorem dX3_init_30 : decode cX3_init 30 = .ok (.putfield 22, 3) := by decide +kernel
theorem dX3_init_33 : decode cX3_init 33 = .ok (.aload_n 0, 1) := by decide +kernel
theorem dX3_init_34 : decode cX3_init 34 = .ok (.bipush 24, 2) := by decide +kernel
theorem dX3_init_36 : decode cX3_init 36 = .ok (.newarray .int, 2) := by decide +kernel
theorem dX3_init_38 : decode cX3_init 38 = .ok (.putfield 25, 3) := by decide +kernel
theorem dX3_init_41 : decode cX3_init 41 = .ok (.aload_n 0, 1) := by decide +kernel
theorem dX3_init_42 : decode cX3_init 42 = .ok (.bipush 24, 2) := by decide +kernel
theorem dX3_init_44 : decode cX3_init 44 = .ok (.newarray .int, 2) := by decide +kernel
theorem dX3_init_46 : decode cX3_init 46 = .ok (.putfield 28, 3) := by decide +kernel
theorem dX3_init_49 : decode cX3_init 49 = .ok (.return_, 1) := by decide +kernel
theorem dX3_forget_0 : decode cX3_forget 0 = .ok (.aload_n 0, 1) := by decide +kernel
theorem dX3_forget_1 : decode cX3_forget 1 = .ok (.iconst 0, 1) := by decide +kernel
theorem dX3_forget_2 : decode cX3_forget 2 = .ok (.putfield 31, 3) := by decide +kernel
theorem dX3_forget_5 : decode cX3_forget 5 = .ok (.aload_n 0, 1) := by decide +kernel
theorem dX3_forget_6 : decode cX3_forget 6 = .ok (.iconst (-1), 1) := by decide +kernel
theorem dX3_forget_7 : decode cX3_forget 7 = .ok (.putfield 9, 3) := by decide +kernel
theorem dX3_forget_10 : decode cX3_forget 10 = .ok (.return_, 1) := by decide +kernel
theorem dX3_add_0 : decode cX3_add 0 = .ok (.aload_n 0, 1) := by decide +kernel
theorem dX3_add_1 : decode cX3_add 1 = .ok (.getfield 31, 3) := by decide +kernel
theorem dX3_add_4 : decode cX3_add 4 = .ok (.bipush 24, 2) := by decide +kernel
theorem dX3_add_6 : decode cX3_add 6 = .ok (.if_icmp .lt 5, 3) := by decide +kernel
theorem dX3_add_9 : decode cX3_add 9 = .ok (.iconst (-1), 1) := by decide +kernel
theorem dX3_add_10 : decode cX3_add 10 = .ok (.ireturn, 1) := by decide +kernel
theorem dX3_add_11 : decode cX3_add 11 = .ok (.aload_n 0, 1) := by decide +kernel
theorem dX3_add_12 : decode cX3_add 12 = .ok (.getfield 15, 3) := by decide +kernel
theorem dX3_add_15 : decode cX3_add 15 = .ok (.aload_n 0, 1) := by decide +kernel
theorem dX3_add_16 : decode cX3_add 16 = .ok (.getfield 31, 3) := by decide +kernel
theorem dX3_add_19 : decode cX3_add 19 = .ok (.iload_n 1, 1) := by decide +kernel
theorem dX3_add_20 : decode cX3_add 20 = .ok (.iastore, 1) := by decide +kernel
theorem dX3_add_21 : decode cX3_add 21 = .ok (.aload_n 0, 1) := by decide +kernel
theorem dX3_add_22 : decode cX3_add 22 = .ok (.getfield 19, 3) := by decide +kernel
theorem dX3_add_25 : decode cX3_add 25 = .ok (.aload_n 0, 1) := by decide +kernel
theorem dX3_add_26 : decode cX3_add 26 = .ok (.getfield 31, 3) := by decide +kernel
theorem dX3_add_29 : decode cX3_add 29 = .ok (.iload_n 2, 1) := by decide +kernel
theorem dX3_add_30 : decode cX3_add 30 = .ok (.iastore, 1) := by decide +kernel
theorem dX3_add_31 : decode cX3_add 31 = .ok (.aload_n 0, 1) := by decide +kernel
theorem dX3_add_32 : decode cX3_add 32 = .ok (.getfield 22, 3) := by decide +kernel
theorem dX3_add_35 : decode cX3_add 35 = .ok (.aload_n 0, 1) := by decide +kernel
theorem dX3_add_36 : decode cX3_add 36 = .ok (.getfield 31, 3) := by decide +kernel
theorem dX3_add_39 : decode cX3_add 39 = .ok (.iload_n 3, 1) := by decide +kernel
theorem dX3_add_40 : decode cX3_add 40 = .ok (.iastore, 1) := by decide +kernel
theorem dX3_add_41 : decode cX3_add 41 = .ok (.aload_n 0, 1) := by decide +kernel
theorem dX3_add_42 : decode cX3_add 42 = .ok (.getfield 25, 3) := by decide +kernel
theorem dX3_add_45 : decode cX3_add 45 = .ok (.aload_n 0, 1) := by decide +kernel
theorem dX3_add_46 : decode cX3_add 46 = .ok (.getfield 31, 3) := by decide +kernel
theorem dX3_add_49 : decode cX3_add 49 = .ok (.iload 4, 2) := by decide +kernel
theorem dX3_add_51 : decode cX3_add 51 = .ok (.ifCond .eq 7, 3) := by decide +kernel
theorem dX3_add_54 : decode cX3_add 54 = .ok (.iconst 1, 1) := by decide +kernel
theorem dX3_add_55 : decode cX3_add 55 = .ok (.goto 4, 3) := by decide +kernel
theorem dX3_add_58 : decode cX3_add 58 = .ok (.iconst 0, 1) := by decide +kernel
theorem dX3_add_59 : decode cX3_add 59 = .ok (.iastore, 1) := by decide +kernel
theorem dX3_add_60 : decode cX3_add 60 = .ok (.aload_n 0, 1) := by decide +kernel
theorem dX3_add_61 : decode cX3_add 61 = .ok (.getfield 28, 3) := by decide +kernel
theorem dX3_add_64 : decode cX3_add 64 = .ok (.aload_n 0, 1) := by decide +kernel
theorem dX3_add_65 : decode cX3_add 65 = .ok (.getfield 31, 3) := by decide +kernel
theorem dX3_add_68 : decode cX3_add 68 = .ok (.iconst (-1), 1) := by decide +kernel
theorem dX3_add_69 : decode cX3_add 69 = .ok (.iastore, 1) := by decide +kernel
theorem dX3_add_70 : decode cX3_add 70 = .ok (.aload_n 0, 1) := by decide +kernel
theorem dX3_add_71 : decode cX3_add 71 = .ok (.dup, 1) := by decide +kernel
theorem dX3_add_72 : decode cX3_add 72 = .ok (.getfield 31, 3) := by decide +kernel
theorem dX3_add_75 : decode cX3_add 75 = .ok (.dup_x1, 1) := by decide +kernel
theorem dX3_add_76 : decode cX3_add 76 = .ok (.iconst 1, 1) := by decide +kernel
theorem dX3_add_77 : decode cX3_add 77 = .ok (.iadd, 1) := by decide +kernel
theorem dX3_add_78 : decode cX3_add 78 = .ok (.putfield 31, 3) := by decide +kernel
theorem dX3_add_81 : decode cX3_add 81 = .ok (.ireturn, 1) := by decide +kernel
theorem dX3_addStrike_0 : decode cX3_addStrike 0 = .ok (.iload_n 1, 1) := by decide +kernel
theorem dX3_addStrike_1 : decode cX3_addStrike 1 = .ok (.ifCond .lt 20, 3) := by decide +kernel
theorem dX3_addStrike_4 : decode cX3_addStrike 4 = .ok (.iload_n 1, 1) := by decide +kernel
theorem dX3_addStrike_5 : decode cX3_addStrike 5 = .ok (.aload_n 0, 1) := by decide +kernel
theorem dX3_addStrike_6 : decode cX3_addStrike 6 = .ok (.getfield 31, 3) := by decide +kernel
theorem dX3_addStrike_9 : decode cX3_addStrike 9 = .ok (.if_icmp .ge 12, 3) := by decide +kernel
theorem dX3_addStrike_12 : decode cX3_addStrike 12 = .ok (.aload_n 0, 1) := by decide +kernel
theorem dX3_addStrike_13 : decode cX3_addStrike 13 = .ok (.getfield 31, 3) := by decide +kernel
theorem dX3_addStrike_16 : decode cX3_addStrike 16 = .ok (.bipush 24, 2) := by decide +kernel
theorem dX3_addStrike_18 : decode cX3_addStrike 18 = .ok (.if_icmp .lt 5, 3) := by decide +kernel
theorem dX3_addStrike_21 : decode cX3_addStrike 21 = .ok (.iconst (-1), 1) := by decide +kernel
theorem dX3_addStrike_22 : decode cX3_addStrike 22 = .ok (.ireturn, 1) := by decide +kernel
theorem dX3_addStrike_23 : decode cX3_addStrike 23 = .ok (.aload_n 0, 1) := by decide +kernel
theorem dX3_addStrike_24 : decode cX3_addStrike 24 = .ok (.getfield 28, 3) := by decide +kernel
theorem dX3_addStrike_27 : decode cX3_addStrike 27 = .ok (.aload_n 0, 1) := by decide +kernel
theorem dX3_addStrike_28 : decode cX3_addStrike 28 = .ok (.getfield 31, 3) := by decide +kernel
theorem dX3_addStrike_31 : decode cX3_addStrike 31 = .ok (.iload_n 1, 1) := by decide +kernel
theorem dX3_addStrike_32 : decode cX3_addStrike 32 = .ok (.iastore, 1) := by decide +kernel
theorem dX3_addStrike_33 : decode cX3_addStrike 33 = .ok (.aload_n 0, 1) := by decide +kernel
theorem dX3_addStrike_34 : decode cX3_addStrike 34 = .ok (.dup, 1) := by decide +kernel
theorem dX3_addStrike_35 : decode cX3_addStrike 35 = .ok (.getfield 31, 3) := by decide +kernel
theorem dX3_addStrike_38 : decode cX3_addStrike 38 = .ok (.dup_x1, 1) := by decide +kernel
theorem dX3_addStrike_39 : decode cX3_addStrike 39 = .ok (.iconst 1, 1) := by decide +kernel
theorem dX3_addStrike_40 : decode cX3_addStrike 40 = .ok (.iadd, 1) := by decide +kernel
theorem dX3_addStrike_41 : decode cX3_addStrike 41 = .ok (.putfield 31, 3) := by decide +kernel
theorem dX3_addStrike_44 : decode cX3_addStrike 44 = .ok (.ireturn, 1) := by decide +kernel
theorem dX3_setKnownBy_0 : decode cX3_setKnownBy 0 = .ok (.iload_n 1, 1) := by decide +kernel
theorem dX3_setKnownBy_1 : decode cX3_setKnownBy 1 = .ok (.iconst (-1), 1) := by decide +kernel
theorem dX3_setKnownBy_2 : decode cX3_setKnownBy 2 = .ok (.if_icmp .lt 11, 3) := by decide +kernel
theorem dX3_setKnownBy_5 : decode cX3_setKnownBy 5 = .ok (.iload_n 1, 1) := by decide +kernel
theorem dX3_setKnownBy_6 : decode cX3_setKnownBy 6 = .ok (.aload_n 0, 1) := by decide +kernel
theorem dX3_setKnownBy_7 : decode cX3_setKnownBy 7 = .ok (.getfield 31, 3) := by decide +kernel
theorem dX3_setKnownBy_10 : decode cX3_setKnownBy 10 = .ok (.if_icmp .le 5, 3) := by decide +kernel
theorem dX3_setKnownBy_13 : decode cX3_setKnownBy 13 = .ok (.iconst 0, 1) := by decide +kernel
theorem dX3_setKnownBy_14 : decode cX3_setKnownBy 14 = .ok (.ireturn, 1) := by decide +kernel
theorem dX3_setKnownBy_15 : decode cX3_setKnownBy 15 = .ok (.aload_n 0, 1) := by decide +kernel
theorem dX3_setKnownBy_16 : decode cX3_setKnownBy 16 = .ok (.iload_n 1, 1) := by decide +kernel
theorem dX3_setKnownBy_17 : decode cX3_setKnownBy 17 = .ok (.putfield 9, 3) := by decide +kernel
theorem dX3_setKnownBy_20 : decode cX3_setKnownBy 20 = .ok (.iconst 1, 1) := by decide +kernel
theorem dX3_setKnownBy_21 : decode cX3_setKnownBy 21 = .ok (.ireturn, 1) := by decide +kernel
theorem dX3_knownBy_0 : decode cX3_knownBy 0 = .ok (.aload_n 0, 1) := by decide +kernel
theorem dX3_knownBy_1 : decode cX3_knownBy 1 = .ok (.getfield 9, 3) := by decide +kernel
theorem dX3_knownBy_4 : decode cX3_knownBy 4 = .ok (.iconst (-1), 1) := by decide +kernel
theorem dX3_knownBy_5 : decode cX3_knownBy 5 = .ok (.if_icmp .ne 10, 3) := by decide +kernel
theorem dX3_knownBy_8 : decode cX3_knownBy 8 = .ok (.aload_n 0, 1) := by decide +kernel
theorem dX3_knownBy_9 : decode cX3_knownBy 9 = .ok (.getfield 31, 3) := by decide +kernel
theorem dX3_knownBy_12 : decode cX3_knownBy 12 = .ok (.goto 7, 3) := by decide +kernel
theorem dX3_knownBy_15 : decode cX3_knownBy 15 = .ok (.aload_n 0, 1) := by decide +kernel
theorem dX3_knownBy_16 : decode cX3_knownBy 16 = .ok (.getfield 9, 3) := by decide +kernel
theorem dX3_knownBy_19 : decode cX3_knownBy 19 = .ok (.ireturn, 1) := by decide +kernel
theorem dX3_counting_0 : decode cX3_counting 0 = .ok (.iconst 0, 1) := by decide +kernel
theorem dX3_counting_1 : decode cX3_counting 1 = .ok (.istore_n 1, 1) := by decide +kernel
theorem dX3_counting_2 : decode cX3_counting 2 = .ok (.iconst 0, 1) := by decide +kernel
theorem dX3_counting_3 : decode cX3_counting 3 = .ok (.istore_n 2, 1) := by decide +kernel
theorem dX3_counting_4 : decode cX3_counting 4 = .ok (.aload_n 0, 1) := by decide +kernel
theorem dX3_counting_5 : decode cX3_counting 5 = .ok (.invokevirtual 34, 3) := by decide +kernel
theorem dX3_counting_8 : decode cX3_counting 8 = .ok (.iconst 1, 1) := by decide +kernel
theorem dX3_counting_9 : decode cX3_counting 9 = .ok (.isub, 1) := by decide +kernel
theorem dX3_counting_10 : decode cX3_counting 10 = .ok (.istore_n 3, 1) := by decide +kernel
theorem dX3_counting_11 : decode cX3_counting 11 = .ok (.iload_n 3, 1) := by decide +kernel
theorem dX3_counting_12 : decode cX3_counting 12 = .ok (.ifCond .lt 46, 3) := by decide +kernel
theorem dX3_counting_15 : decode cX3_counting 15 = .ok (.iload_n 1, 1) := by decide +kernel
theorem dX3_counting_16 : decode cX3_counting 16 = .ok (.iload_n 3, 1) := by decide +kernel
theorem dX3_counting_17 : decode cX3_counting 17 = .ok (.ishr, 1) := by decide +kernel
theorem dX3_counting_18 : decode cX3_counting 18 = .ok (.iconst 1, 1) := by decide +kernel
theorem dX3_counting_19 : decode cX3_counting 19 = .ok (.iand, 1) := by decide +kernel
theorem dX3_counting_20 : decode cX3_counting 20 = .ok (.ifCond .ne 32, 3) := by decide +kernel
theorem dX3_counting_23 : decode cX3_counting 23 = .ok (.aload_n 0, 1) := by decide +kernel
theorem dX3_counting_24 : decode cX3_counting 24 = .ok (.getfield 28, 3) := by decide +kernel
theorem dX3_counting_27 : decode cX3_counting 27 = .ok (.iload_n 3, 1) := by decide +kernel
theorem dX3_counting_28 : decode cX3_counting 28 = .ok (.iaload, 1) := by decide +kernel
theorem dX3_counting_29 : decode cX3_counting 29 = .ok (.ifCond .lt 17, 3) := by decide +kernel
theorem dX3_counting_32 : decode cX3_counting 32 = .ok (.iload_n 1, 1) := by decide +kernel
theorem dX3_counting_33 : decode cX3_counting 33 = .ok (.iconst 1, 1) := by decide +kernel
theorem dX3_counting_34 : decode cX3_counting 34 = .ok (.aload_n 0, 1) := by decide +kernel
theorem dX3_counting_35 : decode cX3_counting 35 = .ok (.getfield 28, 3) := by decide +kernel
theorem dX3_counting_38 : decode cX3_counting 38 = .ok (.iload_n 3, 1) := by decide +kernel
theorem dX3_counting_39 : decode cX3_counting 39 = .ok (.iaload, 1) := by decide +kernel
theorem dX3_counting_40 : decode cX3_counting 40 = .ok (.ishl, 1) := by decide +kernel
theorem dX3_counting_41 : decode cX3_counting 41 = .ok (.ior, 1) := by decide +kernel
theorem dX3_counting_42 : decode cX3_counting 42 = .ok (.istore_n 1, 1) := by decide +kernel
theorem dX3_counting_43 : decode cX3_counting 43 = .ok (.goto 9, 3) := by decide +kernel
theorem dX3_counting_46 : decode cX3_counting 46 = .ok (.iload_n 2, 1) := by decide +kernel
theorem dX3_counting_47 : decode cX3_counting 47 = .ok (.iconst 1, 1) := by decide +kernel
theorem dX3_counting_48 : decode cX3_counting 48 = .ok (.iload_n 3, 1) := by decide +kernel
theorem dX3_counting_49 : decode cX3_counting 49 = .ok (.ishl, 1) := by decide +kernel
theorem dX3_counting_50 : decode cX3_counting 50 = .ok (.ior, 1) := by decide +kernel
theorem dX3_counting_51 : decode cX3_counting 51 = .ok (.istore_n 2, 1) := by decide +kernel
theorem dX3_counting_52 : decode cX3_counting 52 = .ok (.iinc 3 (-1), 3) := by decide +kernel
theorem dX3_counting_55 : decode cX3_counting 55 = .ok (.goto (-44), 3) := by decide +kernel
theorem dX3_counting_58 : decode cX3_counting 58 = .ok (.iload_n 2, 1) := by decide +kernel
theorem dX3_counting_59 : decode cX3_counting 59 = .ok (.ireturn, 1) := by decide +kernel
theorem dX3_latestHours_0 : decode cX3_latestHours 0 = .ok (.iconst 0, 1) := by decide +kernel
theorem dX3_latestHours_1 : decode cX3_latestHours 1 = .ok (.istore_n 3, 1) := by decide +kernel
theorem dX3_latestHours_2 : decode cX3_latestHours 2 = .ok (.iconst 0, 1) := by decide +kernel
theorem dX3_latestHours_3 : decode cX3_latestHours 3 = .ok (.istore 4, 2) := by decide +kernel
theorem dX3_latestHours_5 : decode cX3_latestHours 5 = .ok (.iload 4, 2) := by decide +kernel
theorem dX3_latestHours_7 : decode cX3_latestHours 7 = .ok (.aload_n 0, 1) := by decide +kernel
theorem dX3_latestHours_8 : decode cX3_latestHours 8 = .ok (.getfield 31, 3) := by decide +kernel
theorem dX3_latestHours_11 : decode cX3_latestHours 11 = .ok (.if_icmp .ge 41, 3) := by decide +kernel
theorem dX3_latestHours_14 : decode cX3_latestHours 14 = .ok (.iload_n 1, 1) := by decide +kernel
theorem dX3_latestHours_15 : decode cX3_latestHours 15 = .ok (.iload 4, 2) := by decide +kernel
theorem dX3_latestHours_17 : decode cX3_latestHours 17 = .ok (.ishr, 1) := by decide +kernel
theorem dX3_latestHours_18 : decode cX3_latestHours 18 = .ok (.iconst 1, 1) := by decide +kernel
theorem dX3_latestHours_19 : decode cX3_latestHours 19 = .ok (.iand, 1) := by decide +kernel
theorem dX3_latestHours_20 : decode cX3_latestHours 20 = .ok (.ifCond .eq 26, 3) := by decide +kernel
theorem dX3_latestHours_23 : decode cX3_latestHours 23 = .ok (.aload_n 0, 1) := by decide +kernel
theorem dX3_latestHours_24 : decode cX3_latestHours 24 = .ok (.getfield 19, 3) := by decide +kernel
theorem dX3_latestHours_27 : decode cX3_latestHours 27 = .ok (.iload 4, 2) := by decide +kernel
theorem dX3_latestHours_29 : decode cX3_latestHours 29 = .ok (.iaload, 1) := by decide +kernel
theorem dX3_latestHours_30 : decode cX3_latestHours 30 = .ok (.iload_n 2, 1) := by decide +kernel
theorem dX3_latestHours_31 : decode cX3_latestHours 31 = .ok (.if_icmp .ne 15, 3) := by decide +kernel
theorem dX3_latestHours_34 : decode cX3_latestHours 34 = .ok (.iload_n 3, 1) := by decide +kernel
theorem dX3_latestHours_35 : decode cX3_latestHours 35 = .ok (.aload_n 0, 1) := by decide +kernel
theorem dX3_latestHours_36 : decode cX3_latestHours 36 = .ok (.getfield 15, 3) := by decide +kernel
theorem dX3_latestHours_39 : decode cX3_latestHours 39 = .ok (.iload 4, 2) := by decide +kernel
theorem dX3_latestHours_41 : decode cX3_latestHours 41 = .ok (.iaload, 1) := by decide +kernel
theorem dX3_latestHours_42 : decode cX3_latestHours 42 = .ok (.invokestatic 38, 3) := by decide +kernel
theorem dX3_latestHours_45 : decode cX3_latestHours 45 = .ok (.istore_n 3, 1) := by decide +kernel
theorem dX3_latestHours_46 : decode cX3_latestHours 46 = .ok (.iinc 4 1, 3) := by decide +kernel
theorem dX3_latestHours_49 : decode cX3_latestHours 49 = .ok (.goto (-44), 3) := by decide +kernel
theorem dX3_latestHours_52 : decode cX3_latestHours 52 = .ok (.iload_n 3, 1) := by decide +kernel
theorem dX3_latestHours_53 : decode cX3_latestHours 53 = .ok (.ireturn, 1) := by decide +kernel
theorem dX3_areSo_0 : decode cX3_areSo 0 = .ok (.iconst 0, 1) := by decide +kernel
theorem dX3_areSo_1 : decode cX3_areSo 1 = .ok (.istore 5, 2) := by decide +kernel
theorem dX3_areSo_3 : decode cX3_areSo 3 = .ok (.iload 5, 2) := by decide +kernel
theorem dX3_areSo_5 : decode cX3_areSo 5 = .ok (.aload_n 0, 1) := by decide +kernel
theorem dX3_areSo_6 : decode cX3_areSo 6 = .ok (.getfield 31, 3) := by decide +kernel
theorem dX3_areSo_9 : decode cX3_areSo 9 = .ok (.if_icmp .ge 74, 3) := by decide +kernel
theorem dX3_areSo_12 : decode cX3_areSo 12 = .ok (.iload_n 1, 1) := by decide +kernel
theorem dX3_areSo_13 : decode cX3_areSo 13 = .ok (.iload 5, 2) := by decide +kernel
theorem dX3_areSo_15 : decode cX3_areSo 15 = .ok (.ishr, 1) := by decide +kernel
theorem dX3_areSo_16 : decode cX3_areSo 16 = .ok (.iconst 1, 1) := by decide +kernel
theorem dX3_areSo_17 : decode cX3_areSo 17 = .ok (.iand, 1) := by decide +kernel
theorem dX3_areSo_18 : decode cX3_areSo 18 = .ok (.ifCond .eq 59, 3) := by decide +kernel
theorem dX3_areSo_21 : decode cX3_areSo 21 = .ok (.aload_n 0, 1) := by decide +kernel
theorem dX3_areSo_22 : decode cX3_areSo 22 = .ok (.getfield 19, 3) := by decide +kernel
theorem dX3_areSo_25 : decode cX3_areSo 25 = .ok (.iload 5, 2) := by decide +kernel
theorem dX3_areSo_27 : decode cX3_areSo 27 = .ok (.iaload, 1) := by decide +kernel
theorem dX3_areSo_28 : decode cX3_areSo 28 = .ok (.iload_n 3, 1) := by decide +kernel
theorem dX3_areSo_29 : decode cX3_areSo 29 = .ok (.if_icmp .ne 48, 3) := by decide +kernel
theorem dX3_areSo_32 : decode cX3_areSo 32 = .ok (.aload_n 0, 1) := by decide +kernel
theorem dX3_areSo_33 : decode cX3_areSo 33 = .ok (.getfield 15, 3) := by decide +kernel
theorem dX3_areSo_36 : decode cX3_areSo 36 = .ok (.iload 5, 2) := by decide +kernel
theorem dX3_areSo_38 : decode cX3_areSo 38 = .ok (.iaload, 1) := by decide +kernel
theorem dX3_areSo_39 : decode cX3_areSo 39 = .ok (.iload_n 2, 1) := by decide +kernel
theorem dX3_areSo_40 : decode cX3_areSo 40 = .ok (.if_icmp .ne 37, 3) := by decide +kernel
theorem dX3_areSo_43 : decode cX3_areSo 43 = .ok (.aload 4, 2) := by decide +kernel
theorem dX3_areSo_45 : decode cX3_areSo 45 = .ok (.iload_n 3, 1) := by decide +kernel
theorem dX3_areSo_46 : decode cX3_areSo 46 = .ok (.aload_n 0, 1) := by decide +kernel
theorem dX3_areSo_47 : decode cX3_areSo 47 = .ok (.getfield 22, 3) := by decide +kernel
theorem dX3_areSo_50 : decode cX3_areSo 50 = .ok (.iload 5, 2) := by decide +kernel
theorem dX3_areSo_52 : decode cX3_areSo 52 = .ok (.iaload, 1) := by decide +kernel
theorem dX3_areSo_53 : decode cX3_areSo 53 = .ok (.invokevirtual 44, 3) := by decide +kernel
theorem dX3_areSo_56 : decode cX3_areSo 56 = .ok (.aload_n 0, 1) := by decide +kernel
theorem dX3_areSo_57 : decode cX3_areSo 57 = .ok (.getfield 25, 3) := by decide +kernel
theorem dX3_areSo_60 : decode cX3_areSo 60 = .ok (.iload 5, 2) := by decide +kernel
theorem dX3_areSo_62 : decode cX3_areSo 62 = .ok (.iaload, 1) := by decide +kernel
theorem dX3_areSo_63 : decode cX3_areSo 63 = .ok (.iconst 1, 1) := by decide +kernel
theorem dX3_areSo_64 : decode cX3_areSo 64 = .ok (.if_icmp .ne 7, 3) := by decide +kernel
theorem dX3_areSo_67 : decode cX3_areSo 67 = .ok (.iconst 1, 1) := by decide +kernel
theorem dX3_areSo_68 : decode cX3_areSo 68 = .ok (.goto 4, 3) := by decide +kernel
theorem dX3_areSo_71 : decode cX3_areSo 71 = .ok (.iconst 0, 1) := by decide +kernel
theorem dX3_areSo_72 : decode cX3_areSo 72 = .ok (.if_icmp .eq 5, 3) := by decide +kernel
theorem dX3_areSo_75 : decode cX3_areSo 75 = .ok (.iconst 0, 1) := by decide +kernel
theorem dX3_areSo_76 : decode cX3_areSo 76 = .ok (.ireturn, 1) := by decide +kernel
theorem dX3_areSo_77 : decode cX3_areSo 77 = .ok (.iinc 5 1, 3) := by decide +kernel
theorem dX3_areSo_80 : decode cX3_areSo 80 = .ok (.goto (-77), 3) := by decide +kernel
theorem dX3_areSo_83 : decode cX3_areSo 83 = .ok (.iconst 1, 1) := by decide +kernel
theorem dX3_areSo_84 : decode cX3_areSo 84 = .ok (.ireturn, 1) := by decide +kernel
theorem dX4_init_0 : decode cX4_init 0 = .ok (.aload_n 0, 1) := by decide +kernel
theorem dX4_init_1 : decode cX4_init 1 = .ok (.invokespecial 3, 3) := by decide +kernel
theorem dX4_init_4 : decode cX4_init 4 = .ok (.aload_n 0, 1) := by decide +kernel
theorem dX4_init_5 : decode cX4_init 5 = .ok (.bipush 64, 2) := by decide +kernel
theorem dX4_init_7 : decode cX4_init 7 = .ok (.newarray .int, 2) := by decide +kernel
theorem dX4_init_9 : decode cX4_init 9 = .ok (.putfield 9, 3) := by decide +kernel
theorem dX4_init_12 : decode cX4_init 12 = .ok (.aload_n 0, 1) := by decide +kernel
theorem dX4_init_13 : decode cX4_init 13 = .ok (.bipush 64, 2) := by decide +kernel
theorem dX4_init_15 : decode cX4_init 15 = .ok (.newarray .int, 2) := by decide +kernel
theorem dX4_init_17 : decode cX4_init 17 = .ok (.putfield 15, 3) := by decide +kernel
theorem dX4_init_20 : decode cX4_init 20 = .ok (.aload_n 0, 1) := by decide +kernel
theorem dX4_init_21 : decode cX4_init 21 = .ok (.iconst 3, 1) := by decide +kernel
theorem dX4_init_22 : decode cX4_init 22 = .ok (.newarray .int, 2) := by decide +kernel
theorem dX4_init_24 : decode cX4_init 24 = .ok (.putfield 18, 3) := by decide +kernel
theorem dX4_init_27 : decode cX4_init 27 = .ok (.aload_n 0, 1) := by decide +kernel
theorem dX4_init_28 : decode cX4_init 28 = .ok (.iconst 3, 1) := by decide +kernel
theorem dX4_init_29 : decode cX4_init 29 = .ok (.newarray .int, 2) := by decide +kernel
theorem dX4_init_31 : decode cX4_init 31 = .ok (.putfield 21, 3) := by decide +kernel
theorem dX4_init_34 : decode cX4_init 34 = .ok (.aload_n 0, 1) := by decide +kernel
theorem dX4_init_35 : decode cX4_init 35 = .ok (.bipush 64, 2) := by decide +kernel
theorem dX4_init_37 : decode cX4_init 37 = .ok (.newarray .long, 2) := by decide +kernel
theorem dX4_init_39 : decode cX4_init 39 = .ok (.putfield 24, 3) := by decide +kernel
theorem dX4_init_42 : decode cX4_init 42 = .ok (.return_, 1) := by decide +kernel
theorem dX4_forget_0 : decode cX4_forget 0 = .ok (.aload_n 0, 1) := by decide +kernel
theorem dX4_forget_1 : decode cX4_forget 1 = .ok (.iconst 0, 1) := by decide +kernel
theorem dX4_forget_2 : decode cX4_forget 2 = .ok (.putfield 28, 3) := by decide +kernel
theorem dX4_forget_5 : decode cX4_forget 5 = .ok (.aload_n 0, 1) := by decide +kernel
theorem dX4_forget_6 : decode cX4_forget 6 = .ok (.iconst 0, 1) := by decide +kernel
theorem dX4_forget_7 : decode cX4_forget 7 = .ok (.putfield 32, 3) := by decide +kernel
theorem dX4_forget_10 : decode cX4_forget 10 = .ok (.aload_n 0, 1) := by decide +kernel
theorem dX4_forget_11 : decode cX4_forget 11 = .ok (.getfield 18, 3) := by decide +kernel
theorem dX4_forget_14 : decode cX4_forget 14 = .ok (.iconst 0, 1) := by decide +kernel
theorem dX4_forget_15 : decode cX4_forget 15 = .ok (.invokestatic 35, 3) := by decide +kernel
theorem dX4_forget_18 : decode cX4_forget 18 = .ok (.aload_n 0, 1) := by decide +kernel
theorem dX4_forget_19 : decode cX4_forget 19 = .ok (.getfield 21, 3) := by decide +kernel
theorem dX4_forget_22 : decode cX4_forget 22 = .ok (.iconst 0, 1) := by decide +kernel
theorem dX4_forget_23 : decode cX4_forget 23 = .ok (.invokestatic 35, 3) := by decide +kernel
theorem dX4_forget_26 : decode cX4_forget 26 = .ok (.return_, 1) := by decide +kernel
theorem dX4_isTold_0 : decode cX4_isTold 0 = .ok (.iload_n 1, 1) := by decide +kernel
theorem dX4_isTold_1 : decode cX4_isTold 1 = .ok (.ifCond .lt 27, 3) := by decide +kernel
theorem dX4_isTold_4 : decode cX4_isTold 4 = .ok (.iload_n 1, 1) := by decide +kernel
theorem dX4_isTold_5 : decode cX4_isTold 5 = .ok (.iconst 3, 1) := by decide +kernel
theorem dX4_isTold_6 : decode cX4_isTold 6 = .ok (.if_icmp .ge 22, 3) := by decide +kernel
theorem dX4_isTold_9 : decode cX4_isTold 9 = .ok (.aload_n 0, 1) := by decide +kernel
theorem dX4_isTold_10 : decode cX4_isTold 10 = .ok (.getfield 18, 3) := by decide +kernel
theorem dX4_isTold_13 : decode cX4_isTold 13 = .ok (.iload_n 1, 1) := by decide +kernel
theorem dX4_isTold_14 : decode cX4_isTold 14 = .ok (.iaload, 1) := by decide +kernel
theorem dX4_isTold_15 : decode cX4_isTold 15 = .ok (.aload_n 0, 1) := by decide +kernel
theorem dX4_isTold_16 : decode cX4_isTold 16 = .ok (.getfield 21, 3) := by decide +kernel
theorem dX4_isTold_19 : decode cX4_isTold 19 = .ok (.iload_n 1, 1) := by decide +kernel
theorem dX4_isTold_20 : decode cX4_isTold 20 = .ok (.iaload, 1) := by decide +kernel
theorem dX4_isTold_21 : decode cX4_isTold 21 = .ok (.if_icmp .ge 7, 3) := by decide +kernel
theorem dX4_isTold_24 : decode cX4_isTold 24 = .ok (.iconst 1, 1) := by decide +kernel
theorem dX4_isTold_25 : decode cX4_isTold 25 = .ok (.goto 4, 3) := by decide +kernel
theorem dX4_isTold_28 : decode cX4_isTold 28 = .ok (.iconst 0, 1) := by decide +kernel
theorem dX4_isTold_29 : decode cX4_isTold 29 = .ok (.ireturn, 1) := by decide +kernel
theorem dX4_place_0 : decode cX4_place 0 = .ok (.aload_n 0, 1) := by decide +kernel
theorem dX4_place_1 : decode cX4_place 1 = .ok (.getfield 32, 3) := by decide +kernel
theorem dX4_place_4 : decode cX4_place 4 = .ok (.bipush 64, 2) := by decide +kernel
theorem dX4_place_6 : decode cX4_place 6 = .ok (.if_icmp .ge 33, 3) := by decide +kernel
theorem dX4_place_9 : decode cX4_place 9 = .ok (.aload_n 0, 1) := by decide +kernel
theorem dX4_place_10 : decode cX4_place 10 = .ok (.getfield 9, 3) := by decide +kernel
theorem dX4_place_13 : decode cX4_place 13 = .ok (.aload_n 0, 1) := by decide +kernel
theorem dX4_place_14 : decode cX4_place 14 = .ok (.getfield 32, 3) := by decide +kernel
theorem dX4_place_17 : decode cX4_place 17 = .ok (.iload_n 1, 1) := by decide +kernel
theorem dX4_place_18 : decode cX4_place 18 = .ok (.iastore, 1) := by decide +kernel
theorem dX4_place_19 : decode cX4_place 19 = .ok (.aload_n 0, 1) := by decide +kernel
theorem dX4_place_20 : decode cX4_place 20 = .ok (.getfield 15, 3) := by decide +kernel
theorem dX4_place_23 : decode cX4_place 23 = .ok (.aload_n 0, 1) := by decide +kernel
theorem dX4_place_24 : decode cX4_place 24 = .ok (.getfield 32, 3) := by decide +kernel
theorem dX4_place_27 : decode cX4_place 27 = .ok (.iload_n 2, 1) := by decide +kernel
theorem dX4_place_28 : decode cX4_place 28 = .ok (.iastore, 1) := by decide +kernel
theorem dX4_place_29 : decode cX4_place 29 = .ok (.aload_n 0, 1) := by decide +kernel
theorem dX4_place_30 : decode cX4_place 30 = .ok (.dup, 1) := by decide +kernel
theorem dX4_place_31 : decode cX4_place 31 = .ok (.getfield 32, 3) := by decide +kernel
theorem dX4_place_34 : decode cX4_place 34 = .ok (.iconst 1, 1) := by decide +kernel
theorem dX4_place_35 : decode cX4_place 35 = .ok (.iadd, 1) := by decide +kernel
theorem dX4_place_36 : decode cX4_place 36 = .ok (.putfield 32, 3) := by decide +kernel
theorem dX4_place_39 : decode cX4_place 39 = .ok (.return_, 1) := by decide +kernel
theorem dX4_placedSoFar_0 : decode cX4_placedSoFar 0 = .ok (.aload_n 0, 1) := by decide +kernel
theorem dX4_placedSoFar_1 : decode cX4_placedSoFar 1 = .ok (.getfield 32, 3) := by decide +kernel
theorem dX4_placedSoFar_4 : decode cX4_placedSoFar 4 = .ok (.ireturn, 1) := by decide +kernel
theorem dX4_setRule_0 : decode cX4_setRule 0 = .ok (.iload_n 1, 1) := by decide +kernel
theorem dX4_setRule_1 : decode cX4_setRule 1 = .ok (.ifCond .lt 25, 3) := by decide +kernel
theorem dX4_setRule_4 : decode cX4_setRule 4 = .ok (.iload_n 1, 1) := by decide +kernel
theorem dX4_setRule_5 : decode cX4_setRule 5 = .ok (.iconst 3, 1) := by decide +kernel
theorem dX4_setRule_6 : decode cX4_setRule 6 = .ok (.if_icmp .ge 20, 3) := by decide +kernel
theorem dX4_setRule_9 : decode cX4_setRule 9 = .ok (.aload_n 0, 1) := by decide +kernel
theorem dX4_setRule_10 : decode cX4_setRule 10 = .ok (.getfield 18, 3) := by decide +kernel
theorem dX4_setRule_13 : decode cX4_setRule 13 = .ok (.iload_n 1, 1) := by decide +kernel
theorem dX4_setRule_14 : decode cX4_setRule 14 = .ok (.iload_n 2, 1) := by decide +kernel
theorem dX4_setRule_15 : decode cX4_setRule 15 = .ok (.iastore, 1) := by decide +kernel
theorem dX4_setRule_16 : decode cX4_setRule 16 = .ok (.aload_n 0, 1) := by decide +kernel
theorem dX4_setRule_17 : decode cX4_setRule 17 = .ok (.getfield 21, 3) := by decide +kernel
theorem dX4_setRule_20 : decode cX4_setRule 20 = .ok (.iload_n 1, 1) := by decide +kernel
theorem dX4_setRule_21 : decode cX4_setRule 21 = .ok (.aload_n 0, 1) := by decide +kernel
theorem dX4_setRule_22 : decode cX4_setRule 22 = .ok (.getfield 32, 3) := by decide +kernel
theorem dX4_setRule_25 : decode cX4_setRule 25 = .ok (.iastore, 1) := by decide +kernel
theorem dX4_setRule_26 : decode cX4_setRule 26 = .ok (.return_, 1) := by decide +kernel
theorem dX4_worth_0 : decode cX4_worth 0 = .ok (.aload_n 0, 1) := by decide +kernel
theorem dX4_worth_1 : decode cX4_worth 1 = .ok (.iload_n 1, 1) := by decide +kernel
theorem dX4_worth_2 : decode cX4_worth 2 = .ok (.invokevirtual 41, 3) := by decide +kernel
theorem dX4_worth_5 : decode cX4_worth 5 = .ok (.ifCond .ne 7, 3) := by decide +kernel
theorem dX4_worth_8 : decode cX4_worth 8 = .ok (.ldc2_w 45, 3) := by decide +kernel
theorem dX4_worth_11 : decode cX4_worth 11 = .ok (.lreturn, 1) := by decide +kernel
theorem dX4_worth_12 : decode cX4_worth 12 = .ok (.iconst 0, 1) := by decide +kernel
theorem dX4_worth_13 : decode cX4_worth 13 = .ok (.istore 5, 2) := by decide +kernel
theorem dX4_worth_15 : decode cX4_worth 15 = .ok (.aload_n 0, 1) := by decide +kernel
theorem dX4_worth_16 : decode cX4_worth 16 = .ok (.getfield 18, 3) := by decide +kernel
theorem dX4_worth_19 : decode cX4_worth 19 = .ok (.iload_n 1, 1) := by decide +kernel
theorem dX4_worth_20 : decode cX4_worth 20 = .ok (.iaload, 1) := by decide +kernel
theorem dX4_worth_21 : decode cX4_worth 21 = .ok (.istore 6, 2) := by decide +kernel
theorem dX4_worth_23 : decode cX4_worth 23 = .ok (.iload 6, 2) := by decide +kernel
theorem dX4_worth_25 : decode cX4_worth 25 = .ok (.aload_n 0, 1) := by decide +kernel
theorem dX4_worth_26 : decode cX4_worth 26 = .ok (.getfield 21, 3) := by decide +kernel
theorem dX4_worth_29 : decode cX4_worth 29 = .ok (.iload_n 1, 1) := by decide +kernel
theorem dX4_worth_30 : decode cX4_worth 30 = .ok (.iaload, 1) := by decide +kernel
theorem dX4_worth_31 : decode cX4_worth 31 = .ok (.if_icmp .ge 139, 3) := by decide +kernel
theorem dX4_worth_34 : decode cX4_worth 34 = .ok (.aload_n 0, 1) := by decide +kernel
theorem dX4_worth_35 : decode cX4_worth 35 = .ok (.getfield 9, 3) := by decide +kernel
theorem dX4_worth_38 : decode cX4_worth 38 = .ok (.iload 6, 2) := by decide +kernel
theorem dX4_worth_40 : decode cX4_worth 40 = .ok (.iaload, 1) := by decide +kernel
theorem dX4_worth_41 : decode cX4_worth 41 = .ok (.invokestatic 47, 3) := by decide +kernel
theorem dX4_worth_44 : decode cX4_worth 44 = .ok (.istore 7, 2) := by decide +kernel
theorem dX4_worth_46 : decode cX4_worth 46 = .ok (.iload 5, 2) := by decide +kernel
theorem dX4_worth_48 : decode cX4_worth 48 = .ok (.iload 7, 2) := by decide +kernel
theorem dX4_worth_50 : decode cX4_worth 50 = .ok (.if_icmp .lt 13, 3) := by decide +kernel
theorem dX4_worth_53 : decode cX4_worth 53 = .ok (.iload 5, 2) := by decide +kernel
theorem dX4_worth_55 : decode cX4_worth 55 = .ok (.iload 7, 2) := by decide +kernel
theorem dX4_worth_57 : decode cX4_worth 57 = .ok (.isub, 1) := by decide +kernel
theorem dX4_worth_58 : decode cX4_worth 58 = .ok (.bipush 64, 2) := by decide +kernel
theorem dX4_worth_60 : decode cX4_worth 60 = .ok (.if_icmp .lt 7, 3) := by decide +kernel
theorem dX4_worth_63 : decode cX4_worth 63 = .ok (.ldc2_w 45, 3) := by decide +kernel
theorem dX4_worth_66 : decode cX4_worth 66 = .ok (.lreturn, 1) := by decide +kernel
theorem dX4_worth_67 : decode cX4_worth 67 = .ok (.iload 5, 2) := by decide +kernel
theorem dX4_worth_69 : decode cX4_worth 69 = .ok (.iload 7, 2) := by decide +kernel
theorem dX4_worth_71 : decode cX4_worth 71 = .ok (.isub, 1) := by decide +kernel
theorem dX4_worth_72 : decode cX4_worth 72 = .ok (.istore 5, 2) := by decide +kernel
theorem dX4_worth_74 : decode cX4_worth 74 = .ok (.iload 7, 2) := by decide +kernel
theorem dX4_worth_76 : decode cX4_worth 76 = .ok (.ifCond .ne 16, 3) := by decide +kernel
theorem dX4_worth_79 : decode cX4_worth 79 = .ok (.aload_n 0, 1) := by decide +kernel
theorem dX4_worth_80 : decode cX4_worth 80 = .ok (.iload 6, 2) := by decide +kernel
theorem dX4_worth_82 : decode cX4_worth 82 = .ok (.aload_n 2, 1) := by decide +kernel
theorem dX4_worth_83 : decode cX4_worth 83 = .ok (.iload_n 3, 1) := by decide +kernel
theorem dX4_worth_84 : decode cX4_worth 84 = .ok (.iload 4, 2) := by decide +kernel
theorem dX4_worth_86 : decode cX4_worth 86 = .ok (.invokevirtual 51, 3) := by decide +kernel
theorem dX4_worth_89 : decode cX4_worth 89 = .ok (.goto 39, 3) := by decide +kernel
theorem dX4_worth_92 : decode cX4_worth 92 = .ok (.aload_n 0, 1) := by decide +kernel
theorem dX4_worth_93 : decode cX4_worth 93 = .ok (.getfield 9, 3) := by decide +kernel
theorem dX4_worth_96 : decode cX4_worth 96 = .ok (.iload 6, 2) := by decide +kernel
theorem dX4_worth_98 : decode cX4_worth 98 = .ok (.iaload, 1) := by decide +kernel
theorem dX4_worth_99 : decode cX4_worth 99 = .ok (.aload_n 0, 1) := by decide +kernel
theorem dX4_worth_100 : decode cX4_worth 100 = .ok (.getfield 24, 3) := by decide +kernel
theorem dX4_worth_103 : decode cX4_worth 103 = .ok (.iload 5, 2) := by decide +kernel
theorem dX4_worth_105 : decode cX4_worth 105 = .ok (.laload, 1) := by decide +kernel
theorem dX4_worth_106 : decode cX4_worth 106 = .ok (.iload 7, 2) := by decide +kernel
theorem dX4_worth_108 : decode cX4_worth 108 = .ok (.iconst 2, 1) := by decide +kernel
theorem dX4_worth_109 : decode cX4_worth 109 = .ok (.if_icmp .ne 15, 3) := by decide +kernel
theorem dX4_worth_112 : decode cX4_worth 112 = .ok (.aload_n 0, 1) := by decide +kernel
theorem dX4_worth_113 : decode cX4_worth 113 = .ok (.getfield 24, 3) := by decide +kernel
theorem dX4_worth_116 : decode cX4_worth 116 = .ok (.iload 5, 2) := by decide +kernel
theorem dX4_worth_118 : decode cX4_worth 118 = .ok (.iconst 1, 1) := by decide +kernel
theorem dX4_worth_119 : decode cX4_worth 119 = .ok (.iadd, 1) := by decide +kernel
theorem dX4_worth_120 : decode cX4_worth 120 = .ok (.laload, 1) := by decide +kernel
theorem dX4_worth_121 : decode cX4_worth 121 = .ok (.goto 4, 3) := by decide +kernel
theorem dX4_worth_124 : decode cX4_worth 124 = .ok (.lconst 0, 1) := by decide +kernel
theorem dX4_worth_125 : decode cX4_worth 125 = .ok (.invokestatic 55, 3) := by decide +kernel
theorem dX4_worth_128 : decode cX4_worth 128 = .ok (.lstore 8, 2) := by decide +kernel
theorem dX4_worth_130 : decode cX4_worth 130 = .ok (.lload 8, 2) := by decide +kernel
theorem dX4_worth_132 : decode cX4_worth 132 = .ok (.ldc2_w 59, 3) := by decide +kernel
theorem dX4_worth_135 : decode cX4_worth 135 = .ok (.lcmp, 1) := by decide +kernel
theorem dX4_worth_136 : decode cX4_worth 136 = .ok (.ifCond .gt 12, 3) := by decide +kernel
theorem dX4_worth_139 : decode cX4_worth 139 = .ok (.lload 8, 2) := by decide +kernel
theorem dX4_worth_141 : decode cX4_worth 141 = .ok (.ldc2_w 61, 3) := by decide +kernel
theorem dX4_worth_144 : decode cX4_worth 144 = .ok (.lcmp, 1) := by decide +kernel
theorem dX4_worth_145 : decode cX4_worth 145 = .ok (.ifCond .ge 7, 3) := by decide +kernel
theorem dX4_worth_148 : decode cX4_worth 148 = .ok (.ldc2_w 45, 3) := by decide +kernel
theorem dX4_worth_151 : decode cX4_worth 151 = .ok (.lreturn, 1) := by decide +kernel
theorem dX4_worth_152 : decode cX4_worth 152 = .ok (.aload_n 0, 1) := by decide +kernel
theorem dX4_worth_153 : decode cX4_worth 153 = .ok (.getfield 24, 3) := by decide +kernel
theorem dX4_worth_156 : decode cX4_worth 156 = .ok (.iload 5, 2) := by decide +kernel
theorem dX4_worth_158 : decode cX4_worth 158 = .ok (.lload 8, 2) := by decide +kernel
theorem dX4_worth_160 : decode cX4_worth 160 = .ok (.lastore, 1) := by decide +kernel
theorem dX4_worth_161 : decode cX4_worth 161 = .ok (.iinc 5 1, 3) := by decide +kernel
theorem dX4_worth_164 : decode cX4_worth 164 = .ok (.iinc 6 1, 3) := by decide +kernel
theorem dX4_worth_167 : decode cX4_worth 167 = .ok (.goto (-144), 3) := by decide +kernel
theorem dX4_worth_170 : decode cX4_worth 170 = .ok (.iload 5, 2) := by decide +kernel
theorem dX4_worth_172 : decode cX4_worth 172 = .ok (.iconst 1, 1) := by decide +kernel
theorem dX4_worth_173 : decode cX4_worth 173 = .ok (.if_icmp .ne 12, 3) := by decide +kernel
theorem dX4_worth_176 : decode cX4_worth 176 = .ok (.aload_n 0, 1) := by decide +kernel
theorem dX4_worth_177 : decode cX4_worth 177 = .ok (.getfield 24, 3) := by decide +kernel
theorem dX4_worth_180 : decode cX4_worth 180 = .ok (.iconst 0, 1) := by decide +kernel
theorem dX4_worth_181 : decode cX4_worth 181 = .ok (.laload, 1) := by decide +kernel
theorem dX4_worth_182 : decode cX4_worth 182 = .ok (.goto 6, 3) := by decide +kernel
theorem dX4_worth_185 : decode cX4_worth 185 = .ok (.ldc2_w 45, 3) := by decide +kernel
theorem dX4_worth_188 : decode cX4_worth 188 = .ok (.lreturn, 1) := by decide +kernel
theorem dX4_takenBy_0 : decode cX4_takenBy 0 = .ok (.iload_n 0, 1) := by decide +kernel
theorem dX4_takenBy_1 : decode cX4_takenBy 1 = .ok (.bipush 20, 2) := by decide +kernel
theorem dX4_takenBy_3 : decode cX4_takenBy 3 = .ok (.if_icmp .ne 5, 3) := by decide +kernel
theorem dX4_takenBy_6 : decode cX4_takenBy 6 = .ok (.iconst 1, 1) := by decide +kernel
theorem dX4_takenBy_7 : decode cX4_takenBy 7 = .ok (.ireturn, 1) := by decide +kernel
theorem dX4_takenBy_8 : decode cX4_takenBy 8 = .ok (.iload_n 0, 1) := by decide +kernel
theorem dX4_takenBy_9 : decode cX4_takenBy 9 = .ok (.invokestatic 63, 3) := by decide +kernel
theorem dX4_takenBy_12 : decode cX4_takenBy 12 = .ok (.ifCond .eq 7, 3) := by decide +kernel
theorem dX4_takenBy_15 : decode cX4_takenBy 15 = .ok (.iconst 2, 1) := by decide +kernel
theorem dX4_takenBy_16 : decode cX4_takenBy 16 = .ok (.goto 4, 3) := by decide +kernel
theorem dX4_takenBy_19 : decode cX4_takenBy 19 = .ok (.iconst 0, 1) := by decide +kernel
theorem dX4_takenBy_20 : decode cX4_takenBy 20 = .ok (.ireturn, 1) := by decide +kernel
theorem dX4_ownWorth_0 : decode cX4_ownWorth 0 = .ok (.aload_n 0, 1) := by decide +kernel
theorem dX4_ownWorth_1 : decode cX4_ownWorth 1 = .ok (.getfield 9, 3) := by decide +kernel
theorem dX4_ownWorth_4 : decode cX4_ownWorth 4 = .ok (.iload_n 1, 1) := by decide +kernel
theorem dX4_ownWorth_5 : decode cX4_ownWorth 5 = .ok (.iaload, 1) := by decide +kernel
theorem dX4_ownWorth_6 : decode cX4_ownWorth 6 = .ok (.tableswitch 103 11 17 #[42, 49, 60, 70, 81, 89, 97], 42) := by decide +kernel
theorem dX4_ownWorth_48 : decode cX4_ownWorth 48 = .ok (.aload_n 2, 1) := by decide +kernel
theorem dX4_ownWorth_49 : decode cX4_ownWorth 49 = .ok (.iload_n 3, 1) := by decide +kernel
theorem dX4_ownWorth_50 : decode cX4_ownWorth 50 = .ok (.invokevirtual 68, 3) := by decide +kernel
theorem dX4_ownWorth_53 : decode cX4_ownWorth 53 = .ok (.i2l, 1) := by decide +kernel
theorem dX4_ownWorth_54 : decode cX4_ownWorth 54 = .ok (.lreturn, 1) := by decide +kernel
theorem dX4_ownWorth_55 : decode cX4_ownWorth 55 = .ok (.aload_n 2, 1) := by decide +kernel
theorem dX4_ownWorth_56 : decode cX4_ownWorth 56 = .ok (.getfield 73, 3) := by decide +kernel
theorem dX4_ownWorth_59 : decode cX4_ownWorth 59 = .ok (.iload_n 3, 1) := by decide +kernel
theorem dX4_ownWorth_60 : decode cX4_ownWorth 60 = .ok (.iaload, 1) := by decide +kernel
theorem dX4_ownWorth_61 : decode cX4_ownWorth 61 = .ok (.invokestatic 76, 3) := by decide +kernel
theorem dX4_ownWorth_64 : decode cX4_ownWorth 64 = .ok (.i2l, 1) := by decide +kernel
theorem dX4_ownWorth_65 : decode cX4_ownWorth 65 = .ok (.lreturn, 1) := by decide +kernel
theorem dX4_ownWorth_66 : decode cX4_ownWorth 66 = .ok (.aload_n 2, 1) := by decide +kernel
theorem dX4_ownWorth_67 : decode cX4_ownWorth 67 = .ok (.iload_n 3, 1) := by decide +kernel
theorem dX4_ownWorth_68 : decode cX4_ownWorth 68 = .ok (.invokevirtual 81, 3) := by decide +kernel
theorem dX4_ownWorth_71 : decode cX4_ownWorth 71 = .ok (.invokestatic 85, 3) := by decide +kernel
theorem dX4_ownWorth_74 : decode cX4_ownWorth 74 = .ok (.i2l, 1) := by decide +kernel
theorem dX4_ownWorth_75 : decode cX4_ownWorth 75 = .ok (.lreturn, 1) := by decide +kernel
theorem dX4_ownWorth_76 : decode cX4_ownWorth 76 = .ok (.iload 4, 2) := by decide +kernel
theorem dX4_ownWorth_78 : decode cX4_ownWorth 78 = .ok (.ifCond .eq 7, 3) := by decide +kernel
theorem dX4_ownWorth_81 : decode cX4_ownWorth 81 = .ok (.lconst 1, 1) := by decide +kernel
theorem dX4_ownWorth_82 : decode cX4_ownWorth 82 = .ok (.goto 4, 3) := by decide +kernel
theorem dX4_ownWorth_85 : decode cX4_ownWorth 85 = .ok (.lconst 0, 1) := by decide +kernel
theorem dX4_ownWorth_86 : decode cX4_ownWorth 86 = .ok (.lreturn, 1) := by decide +kernel
theorem dX4_ownWorth_87 : decode cX4_ownWorth 87 = .ok (.aload_n 2, 1) := by decide +kernel
theorem dX4_ownWorth_88 : decode cX4_ownWorth 88 = .ok (.getfield 90, 3) := by decide +kernel
theorem dX4_ownWorth_91 : decode cX4_ownWorth 91 = .ok (.iload_n 3, 1) := by decide +kernel
theorem dX4_ownWorth_92 : decode cX4_ownWorth 92 = .ok (.iaload, 1) := by decide +kernel
theorem dX4_ownWorth_93 : decode cX4_ownWorth 93 = .ok (.i2l, 1) := by decide +kernel
theorem dX4_ownWorth_94 : decode cX4_ownWorth 94 = .ok (.lreturn, 1) := by decide +kernel
theorem dX4_ownWorth_95 : decode cX4_ownWorth 95 = .ok (.aload_n 2, 1) := by decide +kernel
theorem dX4_ownWorth_96 : decode cX4_ownWorth 96 = .ok (.getfield 93, 3) := by decide +kernel
theorem dX4_ownWorth_99 : decode cX4_ownWorth 99 = .ok (.iload_n 3, 1) := by decide +kernel
theorem dX4_ownWorth_100 : decode cX4_ownWorth 100 = .ok (.iaload, 1) := by decide +kernel
theorem dX4_ownWorth_101 : decode cX4_ownWorth 101 = .ok (.i2l, 1) := by decide +kernel
theorem dX4_ownWorth_102 : decode cX4_ownWorth 102 = .ok (.lreturn, 1) := by decide +kernel
theorem dX4_ownWorth_103 : decode cX4_ownWorth 103 = .ok (.aload_n 2, 1) := by decide +kernel
theorem dX4_ownWorth_104 : decode cX4_ownWorth 104 = .ok (.getfield 96, 3) := by decide +kernel
theorem dX4_ownWorth_107 : decode cX4_ownWorth 107 = .ok (.i2l, 1) := by decide +kernel
theorem dX4_ownWorth_108 : decode cX4_ownWorth 108 = .ok (.lreturn, 1) := by decide +kernel
theorem dX4_ownWorth_109 : decode cX4_ownWorth 109 = .ok (.aload_n 0, 1) := by decide +kernel
theorem dX4_ownWorth_110 : decode cX4_ownWorth 110 = .ok (.getfield 15, 3) := by decide +kernel
theorem dX4_ownWorth_113 : decode cX4_ownWorth 113 = .ok (.iload_n 1, 1) := by decide +kernel
theorem dX4_ownWorth_114 : decode cX4_ownWorth 114 = .ok (.iaload, 1) := by decide +kernel
theorem dX4_ownWorth_115 : decode cX4_ownWorth 115 = .ok (.i2l, 1) := by decide +kernel
theorem dX4_ownWorth_116 : decode cX4_ownWorth 116 = .ok (.lreturn, 1) := by decide +kernel
theorem dX4_joined_0 : decode cX4_joined 0 = .ok (.iload_n 0, 1) := by decide +kernel
theorem dX4_joined_1 : decode cX4_joined 1 = .ok (.tableswitch 193 18 42 #[127, 145, 115, 193, 193, 193, 193, 193, 193, 193, 193, 193, 193, 193, 193, 193, 193, 193, 193, 193, 193, 163, 167, 171, 177], 115) := by decide +kernel
theorem dX4_joined_116 : decode cX4_joined 116 = .ok (.lload_n 1, 1) := by decide +kernel
theorem dX4_joined_117 : decode cX4_joined 117 = .ok (.lconst 0, 1) := by decide +kernel
theorem dX4_joined_118 : decode cX4_joined 118 = .ok (.lcmp, 1) := by decide +kernel
theorem dX4_joined_119 : decode cX4_joined 119 = .ok (.ifCond .ne 7, 3) := by decide +kernel
theorem dX4_joined_122 : decode cX4_joined 122 = .ok (.lconst 1, 1) := by decide +kernel
theorem dX4_joined_123 : decode cX4_joined 123 = .ok (.goto 4, 3) := by decide +kernel
theorem dX4_joined_126 : decode cX4_joined 126 = .ok (.lconst 0, 1) := by decide +kernel
theorem dX4_joined_127 : decode cX4_joined 127 = .ok (.lreturn, 1) := by decide +kernel
theorem dX4_joined_128 : decode cX4_joined 128 = .ok (.lload_n 1, 1) := by decide +kernel
theorem dX4_joined_129 : decode cX4_joined 129 = .ok (.lconst 0, 1) := by decide +kernel
theorem dX4_joined_130 : decode cX4_joined 130 = .ok (.lcmp, 1) := by decide +kernel
theorem dX4_joined_131 : decode cX4_joined 131 = .ok (.ifCond .ne 9, 3) := by decide +kernel
theorem dX4_joined_134 : decode cX4_joined 134 = .ok (.lload_n 3, 1) := by decide +kernel
theorem dX4_joined_135 : decode cX4_joined 135 = .ok (.lconst 0, 1) := by decide +kernel
theorem dX4_joined_136 : decode cX4_joined 136 = .ok (.lcmp, 1) := by decide +kernel
theorem dX4_joined_137 : decode cX4_joined 137 = .ok (.ifCond .eq 7, 3) := by decide +kernel
theorem dX4_joined_140 : decode cX4_joined 140 = .ok (.lconst 1, 1) := by decide +kernel
theorem dX4_joined_141 : decode cX4_joined 141 = .ok (.goto 4, 3) := by decide +kernel
theorem dX4_joined_144 : decode cX4_joined 144 = .ok (.lconst 0, 1) := by decide +kernel
theorem dX4_joined_145 : decode cX4_joined 145 = .ok (.lreturn, 1) := by decide +kernel
theorem dX4_joined_146 : decode cX4_joined 146 = .ok (.lload_n 1, 1) := by decide +kernel
theorem dX4_joined_147 : decode cX4_joined 147 = .ok (.lconst 0, 1) := by decide +kernel
theorem dX4_joined_148 : decode cX4_joined 148 = .ok (.lcmp, 1) := by decide +kernel
theorem dX4_joined_149 : decode cX4_joined 149 = .ok (.ifCond .eq 13, 3) := by decide +kernel
theorem dX4_joined_152 : decode cX4_joined 152 = .ok (.lload_n 3, 1) := by decide +kernel
theorem dX4_joined_153 : decode cX4_joined 153 = .ok (.lconst 0, 1) := by decide +kernel
theorem dX4_joined_154 : decode cX4_joined 154 = .ok (.lcmp, 1) := by decide +kernel
theorem dX4_joined_155 : decode cX4_joined 155 = .ok (.ifCond .eq 7, 3) := by decide +kernel
theorem dX4_joined_158 : decode cX4_joined 158 = .ok (.lconst 1, 1) := by decide +kernel
theorem dX4_joined_159 : decode cX4_joined 159 = .ok (.goto 4, 3) := by decide +kernel
theorem dX4_joined_162 : decode cX4_joined 162 = .ok (.lconst 0, 1) := by decide +kernel
theorem dX4_joined_163 : decode cX4_joined 163 = .ok (.lreturn, 1) := by decide +kernel
theorem dX4_joined_164 : decode cX4_joined 164 = .ok (.lload_n 1, 1) := by decide +kernel
theorem dX4_joined_165 : decode cX4_joined 165 = .ok (.lload_n 3, 1) := by decide +kernel
theorem dX4_joined_166 : decode cX4_joined 166 = .ok (.ladd, 1) := by decide +kernel
theorem dX4_joined_167 : decode cX4_joined 167 = .ok (.lreturn, 1) := by decide +kernel
theorem dX4_joined_168 : decode cX4_joined 168 = .ok (.lload_n 1, 1) := by decide +kernel
theorem dX4_joined_169 : decode cX4_joined 169 = .ok (.lload_n 3, 1) := by decide +kernel
theorem dX4_joined_170 : decode cX4_joined 170 = .ok (.lsub, 1) := by decide +kernel
theorem dX4_joined_171 : decode cX4_joined 171 = .ok (.lreturn, 1) := by decide +kernel
theorem dX4_joined_172 : decode cX4_joined 172 = .ok (.lload_n 1, 1) := by decide +kernel
theorem dX4_joined_173 : decode cX4_joined 173 = .ok (.lload_n 3, 1) := by decide +kernel
theorem dX4_joined_174 : decode cX4_joined 174 = .ok (.invokestatic 99, 3) := by decide +kernel
theorem dX4_joined_177 : decode cX4_joined 177 = .ok (.lreturn, 1) := by decide +kernel
theorem dX4_joined_178 : decode cX4_joined 178 = .ok (.lload_n 3, 1) := by decide +kernel
theorem dX4_joined_179 : decode cX4_joined 179 = .ok (.lconst 0, 1) := by decide +kernel
theorem dX4_joined_180 : decode cX4_joined 180 = .ok (.lcmp, 1) := by decide +kernel
theorem dX4_joined_181 : decode cX4_joined 181 = .ok (.ifCond .ne 9, 3) := by decide +kernel
theorem dX4_joined_184 : decode cX4_joined 184 = .ok (.ldc2_w 45, 3) := by decide +kernel
theorem dX4_joined_187 : decode cX4_joined 187 = .ok (.goto 6, 3) := by decide +kernel
theorem dX4_joined_190 : decode cX4_joined 190 = .ok (.lload_n 1, 1) := by decide +kernel
theorem dX4_joined_191 : decode cX4_joined 191 = .ok (.lload_n 3, 1) := by decide +kernel
theorem dX4_joined_192 : decode cX4_joined 192 = .ok (.ldiv, 1) := by decide +kernel
theorem dX4_joined_193 : decode cX4_joined 193 = .ok (.lreturn, 1) := by decide +kernel
theorem dX4_joined_194 : decode cX4_joined 194 = .ok (.iload_n 0, 1) := by decide +kernel
theorem dX4_joined_195 : decode cX4_joined 195 = .ok (.lload_n 1, 1) := by decide +kernel
theorem dX4_joined_196 : decode cX4_joined 196 = .ok (.lload_n 3, 1) := by decide +kernel
theorem dX4_joined_197 : decode cX4_joined 197 = .ok (.invokestatic 103, 3) := by decide +kernel
theorem dX4_joined_200 : decode cX4_joined 200 = .ok (.ifCond .eq 7, 3) := by decide +kernel
theorem dX4_joined_203 : decode cX4_joined 203 = .ok (.lconst 1, 1) := by decide +kernel
theorem dX4_joined_204 : decode cX4_joined 204 = .ok (.goto 4, 3) := by decide +kernel
theorem dX4_joined_207 : decode cX4_joined 207 = .ok (.lconst 0, 1) := by decide +kernel
theorem dX4_joined_208 : decode cX4_joined 208 = .ok (.lreturn, 1) := by decide +kernel
theorem dX4_product_0 : decode cX4_product 0 = .ok (.lload_n 0, 1) := by decide +kernel
theorem dX4_product_1 : decode cX4_product 1 = .ok (.lconst 0, 1) := by decide +kernel
theorem dX4_product_2 : decode cX4_product 2 = .ok (.lcmp, 1) := by decide +kernel
theorem dX4_product_3 : decode cX4_product 3 = .ok (.ifCond .ge 8, 3) := by decide +kernel
theorem dX4_product_6 : decode cX4_product 6 = .ok (.lload_n 0, 1) := by decide +kernel
theorem dX4_product_7 : decode cX4_product 7 = .ok (.lneg, 1) := by decide +kernel
theorem dX4_product_8 : decode cX4_product 8 = .ok (.goto 4, 3) := by decide +kernel
theorem dX4_product_11 : decode cX4_product 11 = .ok (.lload_n 0, 1) := by decide +kernel
theorem dX4_product_12 : decode cX4_product 12 = .ok (.lstore 4, 2) := by decide +kernel
theorem dX4_product_14 : decode cX4_product 14 = .ok (.lload_n 2, 1) := by decide +kernel
theorem dX4_product_15 : decode cX4_product 15 = .ok (.lconst 0, 1) := by decide +kernel
theorem dX4_product_16 : decode cX4_product 16 = .ok (.lcmp, 1) := by decide +kernel
theorem dX4_product_17 : decode cX4_product 17 = .ok (.ifCond .ge 8, 3) := by decide +kernel
theorem dX4_product_20 : decode cX4_product 20 = .ok (.lload_n 2, 1) := by decide +kernel
theorem dX4_product_21 : decode cX4_product 21 = .ok (.lneg, 1) := by decide +kernel
theorem dX4_product_22 : decode cX4_product 22 = .ok (.goto 4, 3) := by decide +kernel
theorem dX4_product_25 : decode cX4_product 25 = .ok (.lload_n 2, 1) := by decide +kernel
theorem dX4_product_26 : decode cX4_product 26 = .ok (.lstore 6, 2) := by decide +kernel
theorem dX4_product_28 : decode cX4_product 28 = .ok (.lload 4, 2) := by decide +kernel
theorem dX4_product_30 : decode cX4_product 30 = .ok (.lconst 0, 1) := by decide +kernel
theorem dX4_product_31 : decode cX4_product 31 = .ok (.lcmp, 1) := by decide +kernel
theorem dX4_product_32 : decode cX4_product 32 = .ok (.ifCond .eq 21, 3) := by decide +kernel
theorem dX4_product_35 : decode cX4_product 35 = .ok (.lload 6, 2) := by decide +kernel
theorem dX4_product_37 : decode cX4_product 37 = .ok (.ldc2_w 59, 3) := by decide +kernel
theorem dX4_product_40 : decode cX4_product 40 = .ok (.lload 4, 2) := by decide +kernel
theorem dX4_product_42 : decode cX4_product 42 = .ok (.ldiv, 1) := by decide +kernel
theorem dX4_product_43 : decode cX4_product 43 = .ok (.lcmp, 1) := by decide +kernel
theorem dX4_product_44 : decode cX4_product 44 = .ok (.ifCond .le 9, 3) := by decide +kernel
theorem dX4_product_47 : decode cX4_product 47 = .ok (.ldc2_w 45, 3) := by decide +kernel
theorem dX4_product_50 : decode cX4_product 50 = .ok (.goto 6, 3) := by decide +kernel
theorem dX4_product_53 : decode cX4_product 53 = .ok (.lload_n 0, 1) := by decide +kernel
theorem dX4_product_54 : decode cX4_product 54 = .ok (.lload_n 2, 1) := by decide +kernel
theorem dX4_product_55 : decode cX4_product 55 = .ok (.lmul, 1) := by decide +kernel
theorem dX4_product_56 : decode cX4_product 56 = .ok (.lreturn, 1) := by decide +kernel
theorem dX4_isSo_0 : decode cX4_isSo 0 = .ok (.iload_n 0, 1) := by decide +kernel
theorem dX4_isSo_1 : decode cX4_isSo 1 = .ok (.tableswitch 95 33 37 #[35, 47, 59, 71, 83], 35) := by decide +kernel
theorem dX4_isSo_36 : decode cX4_isSo 36 = .ok (.lload_n 1, 1) := by decide +kernel
theorem dX4_isSo_37 : decode cX4_isSo 37 = .ok (.lload_n 3, 1) := by decide +kernel
theorem dX4_isSo_38 : decode cX4_isSo 38 = .ok (.lcmp, 1) := by decide +kernel
theorem dX4_isSo_39 : decode cX4_isSo 39 = .ok (.ifCond .ge 7, 3) := by decide +kernel
theorem dX4_isSo_42 : decode cX4_isSo 42 = .ok (.iconst 1, 1) := by decide +kernel
theorem dX4_isSo_43 : decode cX4_isSo 43 = .ok (.goto 4, 3) := by decide +kernel
theorem dX4_isSo_46 : decode cX4_isSo 46 = .ok (.iconst 0, 1) := by decide +kernel
theorem dX4_isSo_47 : decode cX4_isSo 47 = .ok (.ireturn, 1) := by decide +kernel
theorem dX4_isSo_48 : decode cX4_isSo 48 = .ok (.lload_n 1, 1) := by decide +kernel
theorem dX4_isSo_49 : decode cX4_isSo 49 = .ok (.lload_n 3, 1) := by decide +kernel
theorem dX4_isSo_50 : decode cX4_isSo 50 = .ok (.lcmp, 1) := by decide +kernel
theorem dX4_isSo_51 : decode cX4_isSo 51 = .ok (.ifCond .gt 7, 3) := by decide +kernel
theorem dX4_isSo_54 : decode cX4_isSo 54 = .ok (.iconst 1, 1) := by decide +kernel
theorem dX4_isSo_55 : decode cX4_isSo 55 = .ok (.goto 4, 3) := by decide +kernel
theorem dX4_isSo_58 : decode cX4_isSo 58 = .ok (.iconst 0, 1) := by decide +kernel
theorem dX4_isSo_59 : decode cX4_isSo 59 = .ok (.ireturn, 1) := by decide +kernel
theorem dX4_isSo_60 : decode cX4_isSo 60 = .ok (.lload_n 1, 1) := by decide +kernel
theorem dX4_isSo_61 : decode cX4_isSo 61 = .ok (.lload_n 3, 1) := by decide +kernel
theorem dX4_isSo_62 : decode cX4_isSo 62 = .ok (.lcmp, 1) := by decide +kernel
theorem dX4_isSo_63 : decode cX4_isSo 63 = .ok (.ifCond .ne 7, 3) := by decide +kernel
theorem dX4_isSo_66 : decode cX4_isSo 66 = .ok (.iconst 1, 1) := by decide +kernel
theorem dX4_isSo_67 : decode cX4_isSo 67 = .ok (.goto 4, 3) := by decide +kernel
theorem dX4_isSo_70 : decode cX4_isSo 70 = .ok (.iconst 0, 1) := by decide +kernel
theorem dX4_isSo_71 : decode cX4_isSo 71 = .ok (.ireturn, 1) := by decide +kernel
theorem dX4_isSo_72 : decode cX4_isSo 72 = .ok (.lload_n 1, 1) := by decide +kernel
theorem dX4_isSo_73 : decode cX4_isSo 73 = .ok (.lload_n 3, 1) := by decide +kernel
theorem dX4_isSo_74 : decode cX4_isSo 74 = .ok (.lcmp, 1) := by decide +kernel
theorem dX4_isSo_75 : decode cX4_isSo 75 = .ok (.ifCond .eq 7, 3) := by decide +kernel
theorem dX4_isSo_78 : decode cX4_isSo 78 = .ok (.iconst 1, 1) := by decide +kernel
theorem dX4_isSo_79 : decode cX4_isSo 79 = .ok (.goto 4, 3) := by decide +kernel
theorem dX4_isSo_82 : decode cX4_isSo 82 = .ok (.iconst 0, 1) := by decide +kernel
theorem dX4_isSo_83 : decode cX4_isSo 83 = .ok (.ireturn, 1) := by decide +kernel
theorem dX4_isSo_84 : decode cX4_isSo 84 = .ok (.lload_n 1, 1) := by decide +kernel
theorem dX4_isSo_85 : decode cX4_isSo 85 = .ok (.lload_n 3, 1) := by decide +kernel
theorem dX4_isSo_86 : decode cX4_isSo 86 = .ok (.lcmp, 1) := by decide +kernel
theorem dX4_isSo_87 : decode cX4_isSo 87 = .ok (.ifCond .lt 7, 3) := by decide +kernel
theorem dX4_isSo_90 : decode cX4_isSo 90 = .ok (.iconst 1, 1) := by decide +kernel
theorem dX4_isSo_91 : decode cX4_isSo 91 = .ok (.goto 4, 3) := by decide +kernel
theorem dX4_isSo_94 : decode cX4_isSo 94 = .ok (.iconst 0, 1) := by decide +kernel
theorem dX4_isSo_95 : decode cX4_isSo 95 = .ok (.ireturn, 1) := by decide +kernel
theorem dX4_isSo_96 : decode cX4_isSo 96 = .ok (.lload_n 1, 1) := by decide +kernel
theorem dX4_isSo_97 : decode cX4_isSo 97 = .ok (.lload_n 3, 1) := by decide +kernel
theorem dX4_isSo_98 : decode cX4_isSo 98 = .ok (.lcmp, 1) := by decide +kernel
theorem dX4_isSo_99 : decode cX4_isSo 99 = .ok (.ifCond .le 7, 3) := by decide +kernel
theorem dX4_isSo_102 : decode cX4_isSo 102 = .ok (.iconst 1, 1) := by decide +kernel
theorem dX4_isSo_103 : decode cX4_isSo 103 = .ok (.goto 4, 3) := by decide +kernel
theorem dX4_isSo_106 : decode cX4_isSo 106 = .ok (.iconst 0, 1) := by decide +kernel
theorem dX4_isSo_107 : decode cX4_isSo 107 = .ok (.ireturn, 1) := by decide +kernel
theorem dX5_init_0 : decode cX5_init 0 = .ok (.aload_n 0, 1) := by decide +kernel
theorem dX5_init_1 : decode cX5_init 1 = .ok (.invokespecial 3, 3) := by decide +kernel
theorem dX5_init_4 : decode cX5_init 4 = .ok (.aload_n 0, 1) := by decide +kernel
theorem dX5_init_5 : decode cX5_init 5 = .ok (.bipush 61, 2) := by decide +kernel
theorem dX5_init_7 : decode cX5_init 7 = .ok (.newarray .int, 2) := by decide +kernel
theorem dX5_init_9 : decode cX5_init 9 = .ok (.putfield 9, 3) := by decide +kernel
theorem dX5_init_12 : decode cX5_init 12 = .ok (.return_, 1) := by decide +kernel
theorem dX5_burn_0 : decode cX5_burn 0 = .ok (.aload_n 0, 1) := by decide +kernel
theorem dX5_burn_1 : decode cX5_burn 1 = .ok (.getfield 9, 3) := by decide +kernel
theorem dX5_burn_4 : decode cX5_burn 4 = .ok (.iconst 0, 1) := by decide +kernel
theorem dX5_burn_5 : decode cX5_burn 5 = .ok (.invokestatic 15, 3) := by decide +kernel
theorem dX5_burn_8 : decode cX5_burn 8 = .ok (.iconst 0, 1) := by decide +kernel
theorem dX5_burn_9 : decode cX5_burn 9 = .ok (.istore_n 3, 1) := by decide +kernel
theorem dX5_burn_10 : decode cX5_burn 10 = .ok (.iload_n 3, 1) := by decide +kernel
theorem dX5_burn_11 : decode cX5_burn 11 = .ok (.iconst 2, 1) := by decide +kernel
theorem dX5_burn_12 : decode cX5_burn 12 = .ok (.if_icmp .gt 50, 3) := by decide +kernel
theorem dX5_burn_15 : decode cX5_burn 15 = .ok (.iconst 0, 1) := by decide +kernel
theorem dX5_burn_16 : decode cX5_burn 16 = .ok (.istore 4, 2) := by decide +kernel
theorem dX5_burn_18 : decode cX5_burn 18 = .ok (.iload 4, 2) := by decide +kernel
theorem dX5_burn_20 : decode cX5_burn 20 = .ok (.iconst 2, 1) := by decide +kernel
theorem dX5_burn_21 : decode cX5_burn 21 = .ok (.if_icmp .gt 35, 3) := by decide +kernel
theorem dX5_burn_24 : decode cX5_burn 24 = .ok (.iload_n 1, 1) := by decide +kernel
theorem dX5_burn_25 : decode cX5_burn 25 = .ok (.iload_n 3, 1) := by decide +kernel
theorem dX5_burn_26 : decode cX5_burn 26 = .ok (.invokestatic 21, 3) := by decide +kernel
theorem dX5_burn_29 : decode cX5_burn 29 = .ok (.ifCond .eq 21, 3) := by decide +kernel
theorem dX5_burn_32 : decode cX5_burn 32 = .ok (.iload_n 2, 1) := by decide +kernel
theorem dX5_burn_33 : decode cX5_burn 33 = .ok (.iload 4, 2) := by decide +kernel
theorem dX5_burn_35 : decode cX5_burn 35 = .ok (.invokestatic 21, 3) := by decide +kernel
theorem dX5_burn_38 : decode cX5_burn 38 = .ok (.ifCond .eq 12, 3) := by decide +kernel
theorem dX5_burn_41 : decode cX5_burn 41 = .ok (.aload_n 0, 1) := by decide +kernel
theorem dX5_burn_42 : decode cX5_burn 42 = .ok (.iload_n 1, 1) := by decide +kernel
theorem dX5_burn_43 : decode cX5_burn 43 = .ok (.iload_n 3, 1) := by decide +kernel
theorem dX5_burn_44 : decode cX5_burn 44 = .ok (.iload_n 2, 1) := by decide +kernel
theorem dX5_burn_45 : decode cX5_burn 45 = .ok (.iload 4, 2) := by decide +kernel
theorem dX5_burn_47 : decode cX5_burn 47 = .ok (.invokevirtual 25, 3) := by decide +kernel
theorem dX5_burn_50 : decode cX5_burn 50 = .ok (.iinc 4 1, 3) := by decide +kernel
theorem dX5_burn_53 : decode cX5_burn 53 = .ok (.goto (-35), 3) := by decide +kernel
theorem dX5_burn_56 : decode cX5_burn 56 = .ok (.iinc 3 1, 3) := by decide +kernel
theorem dX5_burn_59 : decode cX5_burn 59 = .ok (.goto (-49), 3) := by decide +kernel
theorem dX5_burn_62 : decode cX5_burn 62 = .ok (.return_, 1) := by decide +kernel
theorem dX5_canHave_0 : decode cX5_canHave 0 = .ok (.iload_n 0, 1) := by decide +kernel
theorem dX5_canHave_1 : decode cX5_canHave 1 = .ok (.ifCond .gt 7, 3) := by decide +kernel
theorem dX5_canHave_4 : decode cX5_canHave 4 = .ok (.iload_n 1, 1) := by decide +kernel
theorem dX5_canHave_5 : decode cX5_canHave 5 = .ok (.ifCond .ne 7, 3) := by decide +kernel
theorem dX5_canHave_8 : decode cX5_canHave 8 = .ok (.iconst 1, 1) := by decide +kernel
theorem dX5_canHave_9 : decode cX5_canHave 9 = .ok (.goto 4, 3) := by decide +kernel
theorem dX5_canHave_12 : decode cX5_canHave 12 = .ok (.iconst 0, 1) := by decide +kernel
theorem dX5_canHave_13 : decode cX5_canHave 13 = .ok (.ireturn, 1) := by decide +kernel
theorem dX5_burnSo_0 : decode cX5_burnSo 0 = .ok (.iload_n 1, 1) := by decide +kernel
theorem dX5_burnSo_1 : decode cX5_burnSo 1 = .ok (.iload_n 2, 1) := by decide +kernel
theorem dX5_burnSo_2 : decode cX5_burnSo 2 = .ok (.invokestatic 29, 3) := by decide +kernel
theorem dX5_burnSo_5 : decode cX5_burnSo 5 = .ok (.istore 5, 2) := by decide +kernel
theorem dX5_burnSo_7 : decode cX5_burnSo 7 = .ok (.iload_n 3, 1) := by decide +kernel
theorem dX5_burnSo_8 : decode cX5_burnSo 8 = .ok (.iload 4, 2) := by decide +kernel
theorem dX5_burnSo_10 : decode cX5_burnSo 10 = .ok (.invokestatic 29, 3) := by decide +kernel
theorem dX5_burnSo_13 : decode cX5_burnSo 13 = .ok (.istore 6, 2) := by decide +kernel
theorem dX5_burnSo_15 : decode cX5_burnSo 15 = .ok (.iload 5, 2) := by decide +kernel
theorem dX5_burnSo_17 : decode cX5_burnSo 17 = .ok (.ifCond .le 41, 3) := by decide +kernel
theorem dX5_burnSo_20 : decode cX5_burnSo 20 = .ok (.iload 6, 2) := by decide +kernel
theorem dX5_burnSo_22 : decode cX5_burnSo 22 = .ok (.ifCond .eq 10, 3) := by decide +kernel
theorem dX5_burnSo_25 : decode cX5_burnSo 25 = .ok (.iload 5, 2) := by decide +kernel
theorem dX5_burnSo_27 : decode cX5_burnSo 27 = .ok (.iload 6, 2) := by decide +kernel
theorem dX5_burnSo_29 : decode cX5_burnSo 29 = .ok (.if_icmp .gt 29, 3) := by decide +kernel
theorem dX5_burnSo_32 : decode cX5_burnSo 32 = .ok (.aload_n 0, 1) := by decide +kernel
theorem dX5_burnSo_33 : decode cX5_burnSo 33 = .ok (.iload 5, 2) := by decide +kernel
theorem dX5_burnSo_35 : decode cX5_burnSo 35 = .ok (.iload_n 2, 1) := by decide +kernel
theorem dX5_burnSo_36 : decode cX5_burnSo 36 = .ok (.iload 4, 2) := by decide +kernel
theorem dX5_burnSo_38 : decode cX5_burnSo 38 = .ok (.iadd, 1) := by decide +kernel
theorem dX5_burnSo_39 : decode cX5_burnSo 39 = .ok (.invokevirtual 33, 3) := by decide +kernel
theorem dX5_burnSo_42 : decode cX5_burnSo 42 = .ok (.aload_n 0, 1) := by decide +kernel
theorem dX5_burnSo_43 : decode cX5_burnSo 43 = .ok (.iload 5, 2) := by decide +kernel
theorem dX5_burnSo_45 : decode cX5_burnSo 45 = .ok (.iload_n 2, 1) := by decide +kernel
theorem dX5_burnSo_46 : decode cX5_burnSo 46 = .ok (.iload_n 3, 1) := by decide +kernel
theorem dX5_burnSo_47 : decode cX5_burnSo 47 = .ok (.iload 4, 2) := by decide +kernel
theorem dX5_burnSo_49 : decode cX5_burnSo 49 = .ok (.iload 5, 2) := by decide +kernel
theorem dX5_burnSo_51 : decode cX5_burnSo 51 = .ok (.imul, 1) := by decide +kernel
theorem dX5_burnSo_52 : decode cX5_burnSo 52 = .ok (.isub, 1) := by decide +kernel
theorem dX5_burnSo_53 : decode cX5_burnSo 53 = .ok (.iload 4, 2) := by decide +kernel
theorem dX5_burnSo_55 : decode cX5_burnSo 55 = .ok (.invokevirtual 37, 3) := by decide +kernel
theorem dX5_burnSo_58 : decode cX5_burnSo 58 = .ok (.iload 6, 2) := by decide +kernel
theorem dX5_burnSo_60 : decode cX5_burnSo 60 = .ok (.ifCond .le 40, 3) := by decide +kernel
theorem dX5_burnSo_63 : decode cX5_burnSo 63 = .ok (.iload 5, 2) := by decide +kernel
theorem dX5_burnSo_65 : decode cX5_burnSo 65 = .ok (.ifCond .eq 10, 3) := by decide +kernel
theorem dX5_burnSo_68 : decode cX5_burnSo 68 = .ok (.iload 6, 2) := by decide +kernel
theorem dX5_burnSo_70 : decode cX5_burnSo 70 = .ok (.iload 5, 2) := by decide +kernel
theorem dX5_burnSo_72 : decode cX5_burnSo 72 = .ok (.if_icmp .gt 28, 3) := by decide +kernel
theorem dX5_burnSo_75 : decode cX5_burnSo 75 = .ok (.aload_n 0, 1) := by decide +kernel
theorem dX5_burnSo_76 : decode cX5_burnSo 76 = .ok (.iload 6, 2) := by decide +kernel
theorem dX5_burnSo_78 : decode cX5_burnSo 78 = .ok (.iload_n 2, 1) := by decide +kernel
theorem dX5_burnSo_79 : decode cX5_burnSo 79 = .ok (.iload 4, 2) := by decide +kernel
theorem dX5_burnSo_81 : decode cX5_burnSo 81 = .ok (.iadd, 1) := by decide +kernel
theorem dX5_burnSo_82 : decode cX5_burnSo 82 = .ok (.invokevirtual 33, 3) := by decide +kernel
theorem dX5_burnSo_85 : decode cX5_burnSo 85 = .ok (.aload_n 0, 1) := by decide +kernel
theorem dX5_burnSo_86 : decode cX5_burnSo 86 = .ok (.iload 6, 2) := by decide +kernel
theorem dX5_burnSo_88 : decode cX5_burnSo 88 = .ok (.iload 4, 2) := by decide +kernel
theorem dX5_burnSo_90 : decode cX5_burnSo 90 = .ok (.iload_n 1, 1) := by decide +kernel
theorem dX5_burnSo_91 : decode cX5_burnSo 91 = .ok (.iload_n 2, 1) := by decide +kernel
theorem dX5_burnSo_92 : decode cX5_burnSo 92 = .ok (.iload 6, 2) := by decide +kernel
theorem dX5_burnSo_94 : decode cX5_burnSo 94 = .ok (.imul, 1) := by decide +kernel
theorem dX5_burnSo_95 : decode cX5_burnSo 95 = .ok (.isub, 1) := by decide +kernel
theorem dX5_burnSo_96 : decode cX5_burnSo 96 = .ok (.iload_n 2, 1) := by decide +kernel
theorem dX5_burnSo_97 : decode cX5_burnSo 97 = .ok (.invokevirtual 37, 3) := by decide +kernel
theorem dX5_burnSo_100 : decode cX5_burnSo 100 = .ok (.return_, 1) := by decide +kernel
theorem dX5_timeOf_0 : decode cX5_timeOf 0 = .ok (.iload_n 1, 1) := by decide +kernel
theorem dX5_timeOf_1 : decode cX5_timeOf 1 = .ok (.ifCond .ne 7, 3) := by decide +kernel
theorem dX5_timeOf_4 : decode cX5_timeOf 4 = .ok (.iconst 0, 1) := by decide +kernel
theorem dX5_timeOf_5 : decode cX5_timeOf 5 = .ok (.goto 10, 3) := by decide +kernel
theorem dX5_timeOf_8 : decode cX5_timeOf 8 = .ok (.iload_n 0, 1) := by decide +kernel
theorem dX5_timeOf_9 : decode cX5_timeOf 9 = .ok (.iload_n 1, 1) := by decide +kernel
theorem dX5_timeOf_10 : decode cX5_timeOf 10 = .ok (.iadd, 1) := by decide +kernel
theorem dX5_timeOf_11 : decode cX5_timeOf 11 = .ok (.iconst 1, 1) := by decide +kernel
theorem dX5_timeOf_12 : decode cX5_timeOf 12 = .ok (.isub, 1) := by decide +kernel
theorem dX5_timeOf_13 : decode cX5_timeOf 13 = .ok (.iload_n 1, 1) := by decide +kernel
theorem dX5_timeOf_14 : decode cX5_timeOf 14 = .ok (.idiv, 1) := by decide +kernel
theorem dX5_timeOf_15 : decode cX5_timeOf 15 = .ok (.ireturn, 1) := by decide +kernel
theorem dX5_burnOn_0 : decode cX5_burnOn 0 = .ok (.iconst 1, 1) := by decide +kernel
theorem dX5_burnOn_1 : decode cX5_burnOn 1 = .ok (.iload 4, 2) := by decide +kernel
theorem dX5_burnOn_3 : decode cX5_burnOn 3 = .ok (.invokestatic 40, 3) := by decide +kernel
theorem dX5_burnOn_6 : decode cX5_burnOn 6 = .ok (.istore 5, 2) := by decide +kernel
theorem dX5_burnOn_8 : decode cX5_burnOn 8 = .ok (.iload 5, 2) := by decide +kernel
theorem dX5_burnOn_10 : decode cX5_burnOn 10 = .ok (.iconst 2, 1) := by decide +kernel
theorem dX5_burnOn_11 : decode cX5_burnOn 11 = .ok (.if_icmp .gt 29, 3) := by decide +kernel
theorem dX5_burnOn_14 : decode cX5_burnOn 14 = .ok (.iload_n 3, 1) := by decide +kernel
theorem dX5_burnOn_15 : decode cX5_burnOn 15 = .ok (.ifCond .le 25, 3) := by decide +kernel
theorem dX5_burnOn_18 : decode cX5_burnOn 18 = .ok (.aload_n 0, 1) := by decide +kernel
theorem dX5_burnOn_19 : decode cX5_burnOn 19 = .ok (.iload_n 1, 1) := by decide +kernel
theorem dX5_burnOn_20 : decode cX5_burnOn 20 = .ok (.iload_n 3, 1) := by decide +kernel
theorem dX5_burnOn_21 : decode cX5_burnOn 21 = .ok (.iload 5, 2) := by decide +kernel
theorem dX5_burnOn_23 : decode cX5_burnOn 23 = .ok (.invokestatic 29, 3) := by decide +kernel
theorem dX5_burnOn_26 : decode cX5_burnOn 26 = .ok (.iadd, 1) := by decide +kernel
theorem dX5_burnOn_27 : decode cX5_burnOn 27 = .ok (.iload_n 2, 1) := by decide +kernel
theorem dX5_burnOn_28 : decode cX5_burnOn 28 = .ok (.iload 5, 2) := by decide +kernel
theorem dX5_burnOn_30 : decode cX5_burnOn 30 = .ok (.iadd, 1) := by decide +kernel
theorem dX5_burnOn_31 : decode cX5_burnOn 31 = .ok (.invokevirtual 33, 3) := by decide +kernel
theorem dX5_burnOn_34 : decode cX5_burnOn 34 = .ok (.iinc 5 1, 3) := by decide +kernel
theorem dX5_burnOn_37 : decode cX5_burnOn 37 = .ok (.goto (-29), 3) := by decide +kernel
theorem dX5_burnOn_40 : decode cX5_burnOn 40 = .ok (.return_, 1) := by decide +kernel
theorem dX5_note_0 : decode cX5_note 0 = .ok (.iload_n 1, 1) := by decide +kernel
theorem dX5_note_1 : decode cX5_note 1 = .ok (.iconst 1, 1) := by decide +kernel
theorem dX5_note_2 : decode cX5_note 2 = .ok (.if_icmp .lt 35, 3) := by decide +kernel
theorem dX5_note_5 : decode cX5_note 5 = .ok (.iload_n 1, 1) := by decide +kernel
theorem dX5_note_6 : decode cX5_note 6 = .ok (.bipush 60, 2) := by decide +kernel
theorem dX5_note_8 : decode cX5_note 8 = .ok (.if_icmp .gt 29, 3) := by decide +kernel
theorem dX5_note_11 : decode cX5_note 11 = .ok (.aload_n 0, 1) := by decide +kernel
theorem dX5_note_12 : decode cX5_note 12 = .ok (.getfield 9, 3) := by decide +kernel
theorem dX5_note_15 : decode cX5_note 15 = .ok (.iload_n 1, 1) := by decide +kernel
theorem dX5_note_16 : decode cX5_note 16 = .ok (.iaload, 1) := by decide +kernel
theorem dX5_note_17 : decode cX5_note 17 = .ok (.ifCond .eq 13, 3) := by decide +kernel
theorem dX5_note_20 : decode cX5_note 20 = .ok (.iload_n 2, 1) := by decide +kernel
theorem dX5_note_21 : decode cX5_note 21 = .ok (.aload_n 0, 1) := by decide +kernel
theorem dX5_note_22 : decode cX5_note 22 = .ok (.getfield 9, 3) := by decide +kernel
theorem dX5_note_25 : decode cX5_note 25 = .ok (.iload_n 1, 1) := by decide +kernel
theorem dX5_note_26 : decode cX5_note 26 = .ok (.iaload, 1) := by decide +kernel
theorem dX5_note_27 : decode cX5_note 27 = .ok (.if_icmp .ge 10, 3) := by decide +kernel
theorem dX5_note_30 : decode cX5_note 30 = .ok (.aload_n 0, 1) := by decide +kernel
theorem dX5_note_31 : decode cX5_note 31 = .ok (.getfield 9, 3) := by decide +kernel
theorem dX5_note_34 : decode cX5_note 34 = .ok (.iload_n 1, 1) := by decide +kernel
theorem dX5_note_35 : decode cX5_note 35 = .ok (.iload_n 2, 1) := by decide +kernel
theorem dX5_note_36 : decode cX5_note 36 = .ok (.iastore, 1) := by decide +kernel
theorem dX5_note_37 : decode cX5_note 37 = .ok (.return_, 1) := by decide +kernel
theorem dX6_init_0 : decode cX6_init 0 = .ok (.aload_n 0, 1) := by decide +kernel
theorem dX6_init_1 : decode cX6_init 1 = .ok (.invokespecial 3, 3) := by decide +kernel
theorem dX6_init_4 : decode cX6_init 4 = .ok (.aload_n 0, 1) := by decide +kernel
theorem dX6_init_5 : decode cX6_init 5 = .ok (.iconst (-1), 1) := by decide +kernel
theorem dX6_init_6 : decode cX6_init 6 = .ok (.putfield 9, 3) := by decide +kernel
theorem dX6_init_9 : decode cX6_init 9 = .ok (.aload_n 0, 1) := by decide +kernel
theorem dX6_init_10 : decode cX6_init 10 = .ok (.new 15, 3) := by decide +kernel
theorem dX6_init_13 : decode cX6_init 13 = .ok (.dup, 1) := by decide +kernel
theorem dX6_init_14 : decode cX6_init 14 = .ok (.invokespecial 17, 3) := by decide +kernel
theorem dX6_init_17 : decode cX6_init 17 = .ok (.putfield 18, 3) := by decide +kernel
theorem dX6_init_20 : decode cX6_init 20 = .ok (.aload_n 0, 1) := by decide +kernel
theorem dX6_init_21 : decode cX6_init 21 = .ok (.new 22, 3) := by decide +kernel
theorem dX6_init_24 : decode cX6_init 24 = .ok (.dup, 1) := by decide +kernel
theorem dX6_init_25 : decode cX6_init 25 = .ok (.invokespecial 24, 3) := by decide +kernel
theorem dX6_init_28 : decode cX6_init 28 = .ok (.putfield 25, 3) := by decide +kernel
theorem dX6_init_31 : decode cX6_init 31 = .ok (.aload_n 0, 1) := by decide +kernel
theorem dX6_init_32 : decode cX6_init 32 = .ok (.bipush 72, 2) := by decide +kernel
theorem dX6_init_34 : decode cX6_init 34 = .ok (.newarray .int, 2) := by decide +kernel
theorem dX6_init_36 : decode cX6_init 36 = .ok (.putfield 29, 3) := by decide +kernel
theorem dX6_init_39 : decode cX6_init 39 = .ok (.return_, 1) := by decide +kernel
theorem dX6_read_0 : decode cX6_read 0 = .ok (.aload_n 0, 1) := by decide +kernel
theorem dX6_read_1 : decode cX6_read 1 = .ok (.aload_n 3, 1) := by decide +kernel
theorem dX6_read_2 : decode cX6_read 2 = .ok (.putfield 25, 3) := by decide +kernel
theorem dX6_read_5 : decode cX6_read 5 = .ok (.aload_n 0, 1) := by decide +kernel
theorem dX6_read_6 : decode cX6_read 6 = .ok (.getfield 25, 3) := by decide +kernel
theorem dX6_read_9 : decode cX6_read 9 = .ok (.invokevirtual 33, 3) := by decide +kernel
theorem dX6_read_12 : decode cX6_read 12 = .ok (.aload_n 0, 1) := by decide +kernel
theorem dX6_read_13 : decode cX6_read 13 = .ok (.iconst 0, 1) := by decide +kernel
theorem dX6_read_14 : decode cX6_read 14 = .ok (.putfield 36, 3) := by decide +kernel
theorem dX6_read_17 : decode cX6_read 17 = .ok (.aload_n 0, 1) := by decide +kernel
theorem dX6_read_18 : decode cX6_read 18 = .ok (.iconst (-1), 1) := by decide +kernel
theorem dX6_read_19 : decode cX6_read 19 = .ok (.putfield 9, 3) := by decide +kernel
theorem dX6_read_22 : decode cX6_read 22 = .ok (.aload_n 0, 1) := by decide +kernel
theorem dX6_read_23 : decode cX6_read 23 = .ok (.getfield 18, 3) := by decide +kernel
theorem dX6_read_26 : decode cX6_read 26 = .ok (.aload_n 1, 1) := by decide +kernel
theorem dX6_read_27 : decode cX6_read 27 = .ok (.iload_n 2, 1) := by decide +kernel
theorem dX6_read_28 : decode cX6_read 28 = .ok (.invokevirtual 39, 3) := by decide +kernel
theorem dX6_read_31 : decode cX6_read 31 = .ok (.iconst 0, 1) := by decide +kernel
theorem dX6_read_32 : decode cX6_read 32 = .ok (.istore 4, 2) := by decide +kernel
theorem dX6_read_34 : decode cX6_read 34 = .ok (.iload 4, 2) := by decide +kernel
theorem dX6_read_36 : decode cX6_read 36 = .ok (.iload_n 2, 1) := by decide +kernel
theorem dX6_read_37 : decode cX6_read 37 = .ok (.if_icmp .gt 45, 3) := by decide +kernel
theorem dX6_read_40 : decode cX6_read 40 = .ok (.aload_n 0, 1) := by decide +kernel
theorem dX6_read_41 : decode cX6_read 41 = .ok (.getfield 18, 3) := by decide +kernel
theorem dX6_read_44 : decode cX6_read 44 = .ok (.getfield 43, 3) := by decide +kernel
theorem dX6_read_47 : decode cX6_read 47 = .ok (.iconst (-1), 1) := by decide +kernel
theorem dX6_read_48 : decode cX6_read 48 = .ok (.if_icmp .eq 34, 3) := by decide +kernel
theorem dX6_read_51 : decode cX6_read 51 = .ok (.aload_n 0, 1) := by decide +kernel
theorem dX6_read_52 : decode cX6_read 52 = .ok (.invokevirtual 46, 3) := by decide +kernel
theorem dX6_read_55 : decode cX6_read 55 = .ok (.ifCond .eq 12, 3) := by decide +kernel
theorem dX6_read_58 : decode cX6_read 58 = .ok (.aload_n 0, 1) := by decide +kernel
theorem dX6_read_59 : decode cX6_read 59 = .ok (.bipush 30, 2) := by decide +kernel
theorem dX6_read_61 : decode cX6_read 61 = .ok (.invokevirtual 50, 3) := by decide +kernel
theorem dX6_read_64 : decode cX6_read 64 = .ok (.ifCond .ne 5, 3) := by decide +kernel
theorem dX6_read_67 : decode cX6_read 67 = .ok (.iconst (-1), 1) := by decide +kernel
theorem dX6_read_68 : decode cX6_read 68 = .ok (.ireturn, 1) := by decide +kernel
theorem dX6_read_69 : decode cX6_read 69 = .ok (.aload_n 0, 1) := by decide +kernel
theorem dX6_read_70 : decode cX6_read 70 = .ok (.getfield 18, 3) := by decide +kernel
theorem dX6_read_73 : decode cX6_read 73 = .ok (.invokevirtual 54, 3) := by decide +kernel
theorem dX6_read_76 : decode cX6_read 76 = .ok (.iinc 4 1, 3) := by decide +kernel
theorem dX6_read_79 : decode cX6_read 79 = .ok (.goto (-45), 3) := by decide +kernel
theorem dX6_read_82 : decode cX6_read 82 = .ok (.iload 4, 2) := by decide +kernel
theorem dX6_read_84 : decode cX6_read 84 = .ok (.ireturn, 1) := by decide +kernel
theorem dX6_fails_0 : decode cX6_fails 0 = .ok (.aload_n 0, 1) := by decide +kernel
theorem dX6_fails_1 : decode cX6_fails 1 = .ok (.iload_n 1, 1) := by decide +kernel
theorem dX6_fails_2 : decode cX6_fails 2 = .ok (.putfield 36, 3) := by decide +kernel
theorem dX6_fails_5 : decode cX6_fails 5 = .ok (.aload_n 0, 1) := by decide +kernel
theorem dX6_fails_6 : decode cX6_fails 6 = .ok (.aload_n 0, 1) := by decide +kernel
theorem dX6_fails_7 : decode cX6_fails 7 = .ok (.getfield 18, 3) := by decide +kernel
theorem dX6_fails_10 : decode cX6_fails 10 = .ok (.getfield 57, 3) := by decide +kernel
theorem dX6_fails_13 : decode cX6_fails 13 = .ok (.putfield 9, 3) := by decide +kernel
theorem dX6_fails_16 : decode cX6_fails 16 = .ok (.iconst 0, 1) := by decide +kernel
theorem dX6_fails_17 : decode cX6_fails 17 = .ok (.ireturn, 1) := by decide +kernel
theorem dX6_isNext_0 : decode cX6_isNext 0 = .ok (.aload_n 0, 1) := by decide +kernel
theorem dX6_isNext_1 : decode cX6_isNext 1 = .ok (.getfield 18, 3) := by decide +kernel
theorem dX6_isNext_4 : decode cX6_isNext 4 = .ok (.getfield 43, 3) := by decide +kernel
theorem dX6_isNext_7 : decode cX6_isNext 7 = .ok (.iload_n 1, 1) := by decide +kernel
theorem dX6_isNext_8 : decode cX6_isNext 8 = .ok (.if_icmp .eq 11, 3) := by decide +kernel
theorem dX6_isNext_11 : decode cX6_isNext 11 = .ok (.aload_n 0, 1) := by decide +kernel
theorem dX6_isNext_12 : decode cX6_isNext 12 = .ok (.iconst 1, 1) := by decide +kernel
theorem dX6_isNext_13 : decode cX6_isNext 13 = .ok (.invokevirtual 60, 3) := by decide +kernel
theorem dX6_isNext_16 : decode cX6_isNext 16 = .ok (.ifCond .eq 7, 3) := by decide +kernel
theorem dX6_isNext_19 : decode cX6_isNext 19 = .ok (.iconst 1, 1) := by decide +kernel
theorem dX6_isNext_20 : decode cX6_isNext 20 = .ok (.goto 4, 3) := by decide +kernel
theorem dX6_isNext_23 : decode cX6_isNext 23 = .ok (.iconst 0, 1) := by decide +kernel
theorem dX6_isNext_24 : decode cX6_isNext 24 = .ok (.ireturn, 1) := by decide +kernel
theorem dX6_isNumber_0 : decode cX6_isNumber 0 = .ok (.aload_n 0, 1) := by decide +kernel
theorem dX6_isNumber_1 : decode cX6_isNumber 1 = .ok (.bipush (-3), 2) := by decide +kernel
theorem dX6_isNumber_3 : decode cX6_isNumber 3 = .ok (.invokevirtual 50, 3) := by decide +kernel
theorem dX6_isNumber_6 : decode cX6_isNumber 6 = .ok (.ifCond .ne 5, 3) := by decide +kernel
theorem dX6_isNumber_9 : decode cX6_isNumber 9 = .ok (.iconst 0, 1) := by decide +kernel
theorem dX6_isNumber_10 : decode cX6_isNumber 10 = .ok (.ireturn, 1) := by decide +kernel
theorem dX6_isNumber_11 : decode cX6_isNumber 11 = .ok (.aload_n 0, 1) := by decide +kernel
theorem dX6_isNumber_12 : decode cX6_isNumber 12 = .ok (.getfield 18, 3) := by decide +kernel
theorem dX6_isNumber_15 : decode cX6_isNumber 15 = .ok (.getfield 63, 3) := by decide +kernel
theorem dX6_isNumber_18 : decode cX6_isNumber 18 = .ok (.iload_n 1, 1) := by decide +kernel
theorem dX6_isNumber_19 : decode cX6_isNumber 19 = .ok (.if_icmp .lt 14, 3) := by decide +kernel
theorem dX6_isNumber_22 : decode cX6_isNumber 22 = .ok (.aload_n 0, 1) := by decide +kernel
theorem dX6_isNumber_23 : decode cX6_isNumber 23 = .ok (.getfield 18, 3) := by decide +kernel
theorem dX6_isNumber_26 : decode cX6_isNumber 26 = .ok (.getfield 63, 3) := by decide +kernel
theorem dX6_isNumber_29 : decode cX6_isNumber 29 = .ok (.iload_n 2, 1) := by decide +kernel
theorem dX6_isNumber_30 : decode cX6_isNumber 30 = .ok (.if_icmp .le 11, 3) := by decide +kernel
theorem dX6_isNumber_33 : decode cX6_isNumber 33 = .ok (.aload_n 0, 1) := by decide +kernel
theorem dX6_isNumber_34 : decode cX6_isNumber 34 = .ok (.iconst 2, 1) := by decide +kernel
theorem dX6_isNumber_35 : decode cX6_isNumber 35 = .ok (.invokevirtual 60, 3) := by decide +kernel
theorem dX6_isNumber_38 : decode cX6_isNumber 38 = .ok (.ifCond .eq 7, 3) := by decide +kernel
theorem dX6_isNumber_41 : decode cX6_isNumber 41 = .ok (.iconst 1, 1) := by decide +kernel
theorem dX6_isNumber_42 : decode cX6_isNumber 42 = .ok (.goto 4, 3) := by decide +kernel
theorem dX6_isNumber_45 : decode cX6_isNumber 45 = .ok (.iconst 0, 1) := by decide +kernel
theorem dX6_isNumber_46 : decode cX6_isNumber 46 = .ok (.ireturn, 1) := by decide +kernel
theorem dX6_isPersonTold_0 : decode cX6_isPersonTold 0 = .ok (.aload_n 0, 1) := by decide +kernel
theorem dX6_isPersonTold_1 : decode cX6_isPersonTold 1 = .ok (.bipush (-4), 2) := by decide +kernel
theorem dX6_isPersonTold_3 : decode cX6_isPersonTold 3 = .ok (.invokevirtual 50, 3) := by decide +kernel
theorem dX6_isPersonTold_6 : decode cX6_isPersonTold 6 = .ok (.ifCond .ne 5, 3) := by decide +kernel
theorem dX6_isPersonTold_9 : decode cX6_isPersonTold 9 = .ok (.iconst 0, 1) := by decide +kernel
theorem dX6_isPersonTold_10 : decode cX6_isPersonTold 10 = .ok (.ireturn, 1) := by decide +kernel
theorem dX6_isPersonTold_11 : decode cX6_isPersonTold 11 = .ok (.aload_n 0, 1) := by decide +kernel
theorem dX6_isPersonTold_12 : decode cX6_isPersonTold 12 = .ok (.getfield 25, 3) := by decide +kernel
theorem dX6_isPersonTold_15 : decode cX6_isPersonTold 15 = .ok (.aload_n 0, 1) := by decide +kernel
theorem dX6_isPersonTold_16 : decode cX6_isPersonTold 16 = .ok (.getfield 18, 3) := by decide +kernel
theorem dX6_isPersonTold_19 : decode cX6_isPersonTold 19 = .ok (.getfield 63, 3) := by decide +kernel
theorem dX6_isPersonTold_22 : decode cX6_isPersonTold 22 = .ok (.invokevirtual 66, 3) := by decide +kernel
theorem dX6_isPersonTold_25 : decode cX6_isPersonTold 25 = .ok (.ifCond .ge 11, 3) := by decide +kernel
theorem dX6_isPersonTold_28 : decode cX6_isPersonTold 28 = .ok (.aload_n 0, 1) := by decide +kernel
theorem dX6_isPersonTold_29 : decode cX6_isPersonTold 29 = .ok (.iconst 4, 1) := by decide +kernel
theorem dX6_isPersonTold_30 : decode cX6_isPersonTold 30 = .ok (.invokevirtual 60, 3) := by decide +kernel
theorem dX6_isPersonTold_33 : decode cX6_isPersonTold 33 = .ok (.ifCond .eq 7, 3) := by decide +kernel
theorem dX6_isPersonTold_36 : decode cX6_isPersonTold 36 = .ok (.iconst 1, 1) := by decide +kernel
theorem dX6_isPersonTold_37 : decode cX6_isPersonTold 37 = .ok (.goto 4, 3) := by decide +kernel
theorem dX6_isPersonTold_40 : decode cX6_isPersonTold 40 = .ok (.iconst 0, 1) := by decide +kernel
theorem dX6_isPersonTold_41 : decode cX6_isPersonTold 41 = .ok (.ireturn, 1) := by decide +kernel
theorem dX6_readLine_0 : decode cX6_readLine 0 = .ok (.aload_n 0, 1) := by decide +kernel
theorem dX6_readLine_1 : decode cX6_readLine 1 = .ok (.getfield 18, 3) := by decide +kernel
theorem dX6_readLine_4 : decode cX6_readLine 4 = .ok (.getfield 43, 3) := by decide +kernel
theorem dX6_readLine_7 : decode cX6_readLine 7 = .ok (.tableswitch 99 0 7 #[45, 50, 55, 67, 79, 84, 89, 94], 45) := by decide +kernel
theorem dX6_readLine_52 : decode cX6_readLine 52 = .ok (.aload_n 0, 1) := by decide +kernel
theorem dX6_readLine_53 : decode cX6_readLine 53 = .ok (.invokevirtual 70, 3) := by decide +kernel
theorem dX6_readLine_56 : decode cX6_readLine 56 = .ok (.ireturn, 1) := by decide +kernel
theorem dX6_readLine_57 : decode cX6_readLine 57 = .ok (.aload_n 0, 1) := by decide +kernel
theorem dX6_readLine_58 : decode cX6_readLine 58 = .ok (.invokevirtual 73, 3) := by decide +kernel
theorem dX6_readLine_61 : decode cX6_readLine 61 = .ok (.ireturn, 1) := by decide +kernel
theorem dX6_readLine_62 : decode cX6_readLine 62 = .ok (.aload_n 0, 1) := by decide +kernel
theorem dX6_readLine_63 : decode cX6_readLine 63 = .ok (.aload_n 0, 1) := by decide +kernel
theorem dX6_readLine_64 : decode cX6_readLine 64 = .ok (.getfield 25, 3) := by decide +kernel
theorem dX6_readLine_67 : decode cX6_readLine 67 = .ok (.getfield 76, 3) := by decide +kernel
theorem dX6_readLine_70 : decode cX6_readLine 70 = .ok (.invokevirtual 80, 3) := by decide +kernel
theorem dX6_readLine_73 : decode cX6_readLine 73 = .ok (.ireturn, 1) := by decide +kernel
theorem dX6_readLine_74 : decode cX6_readLine 74 = .ok (.aload_n 0, 1) := by decide +kernel
theorem dX6_readLine_75 : decode cX6_readLine 75 = .ok (.aload_n 0, 1) := by decide +kernel
theorem dX6_readLine_76 : decode cX6_readLine 76 = .ok (.getfield 25, 3) := by decide +kernel
theorem dX6_readLine_79 : decode cX6_readLine 79 = .ok (.getfield 84, 3) := by decide +kernel
theorem dX6_readLine_82 : decode cX6_readLine 82 = .ok (.invokevirtual 80, 3) := by decide +kernel
theorem dX6_readLine_85 : decode cX6_readLine 85 = .ok (.ireturn, 1) := by decide +kernel
theorem dX6_readLine_86 : decode cX6_readLine 86 = .ok (.aload_n 0, 1) := by decide +kernel
theorem dX6_readLine_87 : decode cX6_readLine 87 = .ok (.invokevirtual 87, 3) := by decide +kernel
theorem dX6_readLine_90 : decode cX6_readLine 90 = .ok (.ireturn, 1) := by decide +kernel
theorem dX6_readLine_91 : decode cX6_readLine 91 = .ok (.aload_n 0, 1) := by decide +kernel
theorem dX6_readLine_92 : decode cX6_readLine 92 = .ok (.invokevirtual 90, 3) := by decide +kernel
theorem dX6_readLine_95 : decode cX6_readLine 95 = .ok (.ireturn, 1) := by decide +kernel
theorem dX6_readLine_96 : decode cX6_readLine 96 = .ok (.aload_n 0, 1) := by decide +kernel
theorem dX6_readLine_97 : decode cX6_readLine 97 = .ok (.invokevirtual 93, 3) := by decide +kernel
theorem dX6_readLine_100 : decode cX6_readLine 100 = .ok (.ireturn, 1) := by decide +kernel
theorem dX6_readLine_101 : decode cX6_readLine 101 = .ok (.aload_n 0, 1) := by decide +kernel
theorem dX6_readLine_102 : decode cX6_readLine 102 = .ok (.invokevirtual 96, 3) := by decide +kernel
theorem dX6_readLine_105 : decode cX6_readLine 105 = .ok (.ireturn, 1) := by decide +kernel
theorem dX6_readLine_106 : decode cX6_readLine 106 = .ok (.aload_n 0, 1) := by decide +kernel
theorem dX6_readLine_107 : decode cX6_readLine 107 = .ok (.iconst 1, 1) := by decide +kernel
theorem dX6_readLine_108 : decode cX6_readLine 108 = .ok (.invokevirtual 60, 3) := by decide +kernel
theorem dX6_readLine_111 : decode cX6_readLine 111 = .ok (.ireturn, 1) := by decide +kernel
theorem dX6_readPerson_0 : decode cX6_readPerson 0 = .ok (.aload_n 0, 1) := by decide +kernel
theorem dX6_readPerson_1 : decode cX6_readPerson 1 = .ok (.getfield 25, 3) := by decide +kernel
theorem dX6_readPerson_4 : decode cX6_readPerson 4 = .ok (.getfield 99, 3) := by decide +kernel
theorem dX6_readPerson_7 : decode cX6_readPerson 7 = .ok (.bipush 6, 2) := by decide +kernel
theorem dX6_readPerson_9 : decode cX6_readPerson 9 = .ok (.if_icmp .lt 9, 3) := by decide +kernel
theorem dX6_readPerson_12 : decode cX6_readPerson 12 = .ok (.aload_n 0, 1) := by decide +kernel
theorem dX6_readPerson_13 : decode cX6_readPerson 13 = .ok (.iconst 2, 1) := by decide +kernel
theorem dX6_readPerson_14 : decode cX6_readPerson 14 = .ok (.invokevirtual 60, 3) := by decide +kernel
theorem dX6_readPerson_17 : decode cX6_readPerson 17 = .ok (.ireturn, 1) := by decide +kernel
theorem dX6_readPerson_18 : decode cX6_readPerson 18 = .ok (.aload_n 0, 1) := by decide +kernel
theorem dX6_readPerson_19 : decode cX6_readPerson 19 = .ok (.getfield 18, 3) := by decide +kernel
theorem dX6_readPerson_22 : decode cX6_readPerson 22 = .ok (.invokevirtual 54, 3) := by decide +kernel
theorem dX6_readPerson_25 : decode cX6_readPerson 25 = .ok (.aload_n 0, 1) := by decide +kernel
theorem dX6_readPerson_26 : decode cX6_readPerson 26 = .ok (.bipush (-4), 2) := by decide +kernel
theorem dX6_readPerson_28 : decode cX6_readPerson 28 = .ok (.invokevirtual 50, 3) := by decide +kernel
theorem dX6_readPerson_31 : decode cX6_readPerson 31 = .ok (.ifCond .ne 5, 3) := by decide +kernel
theorem dX6_readPerson_34 : decode cX6_readPerson 34 = .ok (.iconst 0, 1) := by decide +kernel
theorem dX6_readPerson_35 : decode cX6_readPerson 35 = .ok (.ireturn, 1) := by decide +kernel
theorem dX6_readPerson_36 : decode cX6_readPerson 36 = .ok (.aload_n 0, 1) := by decide +kernel
theorem dX6_readPerson_37 : decode cX6_readPerson 37 = .ok (.getfield 18, 3) := by decide +kernel
theorem dX6_readPerson_40 : decode cX6_readPerson 40 = .ok (.getfield 63, 3) := by decide +kernel
theorem dX6_readPerson_43 : decode cX6_readPerson 43 = .ok (.istore_n 1, 1) := by decide +kernel
theorem dX6_readPerson_44 : decode cX6_readPerson 44 = .ok (.aload_n 0, 1) := by decide +kernel
theorem dX6_readPerson_45 : decode cX6_readPerson 45 = .ok (.getfield 25, 3) := by decide +kernel
theorem dX6_readPerson_48 : decode cX6_readPerson 48 = .ok (.iload_n 1, 1) := by decide +kernel
theorem dX6_readPerson_49 : decode cX6_readPerson 49 = .ok (.invokevirtual 66, 3) := by decide +kernel
theorem dX6_readPerson_52 : decode cX6_readPerson 52 = .ok (.ifCond .lt 9, 3) := by decide +kernel
theorem dX6_readPerson_55 : decode cX6_readPerson 55 = .ok (.aload_n 0, 1) := by decide +kernel
theorem dX6_readPerson_56 : decode cX6_readPerson 56 = .ok (.iconst 3, 1) := by decide +kernel
theorem dX6_readPerson_57 : decode cX6_readPerson 57 = .ok (.invokevirtual 60, 3) := by decide +kernel
theorem dX6_readPerson_60 : decode cX6_readPerson 60 = .ok (.ireturn, 1) := by decide +kernel
theorem dX6_readPerson_61 : decode cX6_readPerson 61 = .ok (.aload_n 0, 1) := by decide +kernel
theorem dX6_readPerson_62 : decode cX6_readPerson 62 = .ok (.getfield 18, 3) := by decide +kernel
theorem dX6_readPerson_65 : decode cX6_readPerson 65 = .ok (.invokevirtual 54, 3) := by decide +kernel
theorem dX6_readPerson_68 : decode cX6_readPerson 68 = .ok (.aload_n 0, 1) := by decide +kernel
theorem dX6_readPerson_69 : decode cX6_readPerson 69 = .ok (.iconst 1, 1) := by decide +kernel
theorem dX6_readPerson_70 : decode cX6_readPerson 70 = .ok (.bipush 60, 2) := by decide +kernel
theorem dX6_readPerson_72 : decode cX6_readPerson 72 = .ok (.invokevirtual 102, 3) := by decide +kernel
theorem dX6_readPerson_75 : decode cX6_readPerson 75 = .ok (.ifCond .ne 5, 3) := by decide +kernel
theorem dX6_readPerson_78 : decode cX6_readPerson 78 = .ok (.iconst 0, 1) := by decide +kernel
theorem dX6_readPerson_79 : decode cX6_readPerson 79 = .ok (.ireturn, 1) := by decide +kernel
theorem dX6_readPerson_80 : decode cX6_readPerson 80 = .ok (.aload_n 0, 1) := by decide +kernel
theorem dX6_readPerson_81 : decode cX6_readPerson 81 = .ok (.getfield 25, 3) := by decide +kernel
theorem dX6_readPerson_84 : decode cX6_readPerson 84 = .ok (.iload_n 1, 1) := by decide +kernel
theorem dX6_readPerson_85 : decode cX6_readPerson 85 = .ok (.aload_n 0, 1) := by decide +kernel
theorem dX6_readPerson_86 : decode cX6_readPerson 86 = .ok (.getfield 18, 3) := by decide +kernel
theorem dX6_readPerson_89 : decode cX6_readPerson 89 = .ok (.getfield 63, 3) := by decide +kernel
theorem dX6_readPerson_92 : decode cX6_readPerson 92 = .ok (.invokevirtual 106, 3) := by decide +kernel
theorem dX6_readPerson_95 : decode cX6_readPerson 95 = .ok (.aload_n 0, 1) := by decide +kernel
theorem dX6_readPerson_96 : decode cX6_readPerson 96 = .ok (.getfield 18, 3) := by decide +kernel
theorem dX6_readPerson_99 : decode cX6_readPerson 99 = .ok (.invokevirtual 54, 3) := by decide +kernel
theorem dX6_readPerson_102 : decode cX6_readPerson 102 = .ok (.iconst 1, 1) := by decide +kernel
theorem dX6_readPerson_103 : decode cX6_readPerson 103 = .ok (.ireturn, 1) := by decide +kernel
theorem dX6_readJune_0 : decode cX6_readJune 0 = .ok (.aload_n 0, 1) := by decide +kernel
theorem dX6_readJune_1 : decode cX6_readJune 1 = .ok (.getfield 25, 3) := by decide +kernel
theorem dX6_readJune_4 : decode cX6_readJune 4 = .ok (.getfield 110, 3) := by decide +kernel
theorem dX6_readJune_7 : decode cX6_readJune 7 = .ok (.bipush 12, 2) := by decide +kernel
theorem dX6_readJune_9 : decode cX6_readJune 9 = .ok (.if_icmp .lt 9, 3) := by decide +kernel
theorem dX6_readJune_12 : decode cX6_readJune 12 = .ok (.aload_n 0, 1) := by decide +kernel
theorem dX6_readJune_13 : decode cX6_readJune 13 = .ok (.iconst 2, 1) := by decide +kernel
theorem dX6_readJune_14 : decode cX6_readJune 14 = .ok (.invokevirtual 60, 3) := by decide +kernel
theorem dX6_readJune_17 : decode cX6_readJune 17 = .ok (.ireturn, 1) := by decide +kernel
theorem dX6_readJune_18 : decode cX6_readJune 18 = .ok (.aload_n 0, 1) := by decide +kernel
theorem dX6_readJune_19 : decode cX6_readJune 19 = .ok (.getfield 18, 3) := by decide +kernel
theorem dX6_readJune_22 : decode cX6_readJune 22 = .ok (.invokevirtual 54, 3) := by decide +kernel
theorem dX6_readJune_25 : decode cX6_readJune 25 = .ok (.aload_n 0, 1) := by decide +kernel
theorem dX6_readJune_26 : decode cX6_readJune 26 = .ok (.invokevirtual 113, 3) := by decide +kernel
theorem dX6_readJune_29 : decode cX6_readJune 29 = .ok (.ifCond .ne 5, 3) := by decide +kernel
theorem dX6_readJune_32 : decode cX6_readJune 32 = .ok (.iconst 0, 1) := by decide +kernel
theorem dX6_readJune_33 : decode cX6_readJune 33 = .ok (.ireturn, 1) := by decide +kernel
theorem dX6_readJune_34 : decode cX6_readJune 34 = .ok (.aload_n 0, 1) := by decide +kernel
theorem dX6_readJune_35 : decode cX6_readJune 35 = .ok (.getfield 25, 3) := by decide +kernel
theorem dX6_readJune_38 : decode cX6_readJune 38 = .ok (.aload_n 0, 1) := by decide +kernel
theorem dX6_readJune_39 : decode cX6_readJune 39 = .ok (.getfield 18, 3) := by decide +kernel
theorem dX6_readJune_42 : decode cX6_readJune 42 = .ok (.getfield 63, 3) := by decide +kernel
theorem dX6_readJune_45 : decode cX6_readJune 45 = .ok (.invokevirtual 66, 3) := by decide +kernel
theorem dX6_readJune_48 : decode cX6_readJune 48 = .ok (.istore_n 1, 1) := by decide +kernel
theorem dX6_readJune_49 : decode cX6_readJune 49 = .ok (.aload_n 0, 1) := by decide +kernel
theorem dX6_readJune_50 : decode cX6_readJune 50 = .ok (.getfield 18, 3) := by decide +kernel
theorem dX6_readJune_53 : decode cX6_readJune 53 = .ok (.invokevirtual 54, 3) := by decide +kernel
theorem dX6_readJune_56 : decode cX6_readJune 56 = .ok (.aload_n 0, 1) := by decide +kernel
theorem dX6_readJune_57 : decode cX6_readJune 57 = .ok (.iconst 0, 1) := by decide +kernel
theorem dX6_readJune_58 : decode cX6_readJune 58 = .ok (.bipush 59, 2) := by decide +kernel
theorem dX6_readJune_60 : decode cX6_readJune 60 = .ok (.invokevirtual 102, 3) := by decide +kernel
theorem dX6_readJune_63 : decode cX6_readJune 63 = .ok (.ifCond .ne 5, 3) := by decide +kernel
theorem dX6_readJune_66 : decode cX6_readJune 66 = .ok (.iconst 0, 1) := by decide +kernel
theorem dX6_readJune_67 : decode cX6_readJune 67 = .ok (.ireturn, 1) := by decide +kernel
theorem dX6_readJune_68 : decode cX6_readJune 68 = .ok (.aload_n 0, 1) := by decide +kernel
theorem dX6_readJune_69 : decode cX6_readJune 69 = .ok (.getfield 25, 3) := by decide +kernel
theorem dX6_readJune_72 : decode cX6_readJune 72 = .ok (.iload_n 1, 1) := by decide +kernel
theorem dX6_readJune_73 : decode cX6_readJune 73 = .ok (.aload_n 0, 1) := by decide +kernel
theorem dX6_readJune_74 : decode cX6_readJune 74 = .ok (.getfield 18, 3) := by decide +kernel
theorem dX6_readJune_77 : decode cX6_readJune 77 = .ok (.getfield 63, 3) := by decide +kernel
theorem dX6_readJune_80 : decode cX6_readJune 80 = .ok (.invokevirtual 116, 3) := by decide +kernel
theorem dX6_readJune_83 : decode cX6_readJune 83 = .ok (.ifCond .eq 9, 3) := by decide +kernel
theorem dX6_readJune_86 : decode cX6_readJune 86 = .ok (.aload_n 0, 1) := by decide +kernel
theorem dX6_readJune_87 : decode cX6_readJune 87 = .ok (.iconst 3, 1) := by decide +kernel
theorem dX6_readJune_88 : decode cX6_readJune 88 = .ok (.invokevirtual 60, 3) := by decide +kernel
theorem dX6_readJune_91 : decode cX6_readJune 91 = .ok (.ireturn, 1) := by decide +kernel
theorem dX6_readJune_92 : decode cX6_readJune 92 = .ok (.aload_n 0, 1) := by decide +kernel
theorem dX6_readJune_93 : decode cX6_readJune 93 = .ok (.getfield 25, 3) := by decide +kernel
theorem dX6_readJune_96 : decode cX6_readJune 96 = .ok (.getfield 119, 3) := by decide +kernel
theorem dX6_readJune_99 : decode cX6_readJune 99 = .ok (.iload_n 1, 1) := by decide +kernel
theorem dX6_readJune_100 : decode cX6_readJune 100 = .ok (.dup2, 1) := by decide +kernel
theorem dX6_readJune_101 : decode cX6_readJune 101 = .ok (.laload, 1) := by decide +kernel
theorem dX6_readJune_102 : decode cX6_readJune 102 = .ok (.lconst 1, 1) := by decide +kernel
theorem dX6_readJune_103 : decode cX6_readJune 103 = .ok (.aload_n 0, 1) := by decide +kernel
theorem dX6_readJune_104 : decode cX6_readJune 104 = .ok (.getfield 18, 3) := by decide +kernel
theorem dX6_readJune_107 : decode cX6_readJune 107 = .ok (.getfield 63, 3) := by decide +kernel
theorem dX6_readJune_110 : decode cX6_readJune 110 = .ok (.lshl, 1) := by decide +kernel
theorem dX6_readJune_111 : decode cX6_readJune 111 = .ok (.lor, 1) := by decide +kernel
theorem dX6_readJune_112 : decode cX6_readJune 112 = .ok (.lastore, 1) := by decide +kernel
theorem dX6_readJune_113 : decode cX6_readJune 113 = .ok (.aload_n 0, 1) := by decide +kernel
theorem dX6_readJune_114 : decode cX6_readJune 114 = .ok (.getfield 25, 3) := by decide +kernel
theorem dX6_readJune_117 : decode cX6_readJune 117 = .ok (.dup, 1) := by decide +kernel
theorem dX6_readJune_118 : decode cX6_readJune 118 = .ok (.getfield 110, 3) := by decide +kernel
theorem dX6_readJune_121 : decode cX6_readJune 121 = .ok (.iconst 1, 1) := by decide +kernel
theorem dX6_readJune_122 : decode cX6_readJune 122 = .ok (.iadd, 1) := by decide +kernel
theorem dX6_readJune_123 : decode cX6_readJune 123 = .ok (.putfield 110, 3) := by decide +kernel
theorem dX6_readJune_126 : decode cX6_readJune 126 = .ok (.aload_n 0, 1) := by decide +kernel
theorem dX6_readJune_127 : decode cX6_readJune 127 = .ok (.getfield 18, 3) := by decide +kernel
theorem dX6_readJune_130 : decode cX6_readJune 130 = .ok (.invokevirtual 54, 3) := by decide +kernel
theorem dX6_readJune_133 : decode cX6_readJune 133 = .ok (.iconst 1, 1) := by decide +kernel
theorem dX6_readJune_134 : decode cX6_readJune 134 = .ok (.ireturn, 1) := by decide +kernel
theorem dX6_readDeed_0 : decode cX6_readDeed 0 = .ok (.aload_n 1, 1) := by decide +kernel
theorem dX6_readDeed_1 : decode cX6_readDeed 1 = .ok (.invokevirtual 123, 3) := by decide +kernel
theorem dX6_readDeed_4 : decode cX6_readDeed 4 = .ok (.ifCond .eq 9, 3) := by decide +kernel
theorem dX6_readDeed_7 : decode cX6_readDeed 7 = .ok (.aload_n 0, 1) := by decide +kernel
theorem dX6_readDeed_8 : decode cX6_readDeed 8 = .ok (.iconst 2, 1) := by decide +kernel
theorem dX6_readDeed_9 : decode cX6_readDeed 9 = .ok (.invokevirtual 60, 3) := by decide +kernel
theorem dX6_readDeed_12 : decode cX6_readDeed 12 = .ok (.ireturn, 1) := by decide +kernel
theorem dX6_readDeed_13 : decode cX6_readDeed 13 = .ok (.aload_n 0, 1) := by decide +kernel
theorem dX6_readDeed_14 : decode cX6_readDeed 14 = .ok (.getfield 18, 3) := by decide +kernel
theorem dX6_readDeed_17 : decode cX6_readDeed 17 = .ok (.invokevirtual 54, 3) := by decide +kernel
theorem dX6_readDeed_20 : decode cX6_readDeed 20 = .ok (.aload_n 0, 1) := by decide +kernel
theorem dX6_readDeed_21 : decode cX6_readDeed 21 = .ok (.invokevirtual 113, 3) := by decide +kernel
theorem dX6_readDeed_24 : decode cX6_readDeed 24 = .ok (.ifCond .ne 5, 3) := by decide +kernel
theorem dX6_readDeed_27 : decode cX6_readDeed 27 = .ok (.iconst 0, 1) := by decide +kernel
theorem dX6_readDeed_28 : decode cX6_readDeed 28 = .ok (.ireturn, 1) := by decide +kernel
theorem dX6_readDeed_29 : decode cX6_readDeed 29 = .ok (.aload_n 0, 1) := by decide +kernel
theorem dX6_readDeed_30 : decode cX6_readDeed 30 = .ok (.getfield 25, 3) := by decide +kernel
theorem dX6_readDeed_33 : decode cX6_readDeed 33 = .ok (.aload_n 0, 1) := by decide +kernel
theorem dX6_readDeed_34 : decode cX6_readDeed 34 = .ok (.getfield 18, 3) := by decide +kernel
theorem dX6_readDeed_37 : decode cX6_readDeed 37 = .ok (.getfield 63, 3) := by decide +kernel
theorem dX6_readDeed_40 : decode cX6_readDeed 40 = .ok (.invokevirtual 66, 3) := by decide +kernel
theorem dX6_readDeed_43 : decode cX6_readDeed 43 = .ok (.istore_n 2, 1) := by decide +kernel
theorem dX6_readDeed_44 : decode cX6_readDeed 44 = .ok (.aload_n 0, 1) := by decide +kernel
theorem dX6_readDeed_45 : decode cX6_readDeed 45 = .ok (.getfield 18, 3) := by decide +kernel
theorem dX6_readDeed_48 : decode cX6_readDeed 48 = .ok (.invokevirtual 54, 3) := by decide +kernel
theorem dX6_readDeed_51 : decode cX6_readDeed 51 = .ok (.aload_n 0, 1) := by decide +kernel
theorem dX6_readDeed_52 : decode cX6_readDeed 52 = .ok (.iconst 0, 1) := by decide +kernel
theorem dX6_readDeed_53 : decode cX6_readDeed 53 = .ok (.iconst 1, 1) := by decide +kernel
theorem dX6_readDeed_54 : decode cX6_readDeed 54 = .ok (.invokevirtual 102, 3) := by decide +kernel
theorem dX6_readDeed_57 : decode cX6_readDeed 57 = .ok (.ifCond .ne 5, 3) := by decide +kernel
theorem dX6_readDeed_60 : decode cX6_readDeed 60 = .ok (.iconst 0, 1) := by decide +kernel
theorem dX6_readDeed_61 : decode cX6_readDeed 61 = .ok (.ireturn, 1) := by decide +kernel
theorem dX6_readDeed_62 : decode cX6_readDeed 62 = .ok (.aload_n 0, 1) := by decide +kernel
theorem dX6_readDeed_63 : decode cX6_readDeed 63 = .ok (.getfield 18, 3) := by decide +kernel
theorem dX6_readDeed_66 : decode cX6_readDeed 66 = .ok (.getfield 63, 3) := by decide +kernel
theorem dX6_readDeed_69 : decode cX6_readDeed 69 = .ok (.istore_n 3, 1) := by decide +kernel
theorem dX6_readDeed_70 : decode cX6_readDeed 70 = .ok (.aload_n 0, 1) := by decide +kernel
theorem dX6_readDeed_71 : decode cX6_readDeed 71 = .ok (.getfield 18, 3) := by decide +kernel
theorem dX6_readDeed_74 : decode cX6_readDeed 74 = .ok (.invokevirtual 54, 3) := by decide +kernel
theorem dX6_readDeed_77 : decode cX6_readDeed 77 = .ok (.aload_n 0, 1) := by decide +kernel
theorem dX6_readDeed_78 : decode cX6_readDeed 78 = .ok (.iconst 0, 1) := by decide +kernel
theorem dX6_readDeed_79 : decode cX6_readDeed 79 = .ok (.bipush 99, 2) := by decide +kernel
theorem dX6_readDeed_81 : decode cX6_readDeed 81 = .ok (.invokevirtual 102, 3) := by decide +kernel
theorem dX6_readDeed_84 : decode cX6_readDeed 84 = .ok (.ifCond .ne 5, 3) := by decide +kernel
theorem dX6_readDeed_87 : decode cX6_readDeed 87 = .ok (.iconst 0, 1) := by decide +kernel
theorem dX6_readDeed_88 : decode cX6_readDeed 88 = .ok (.ireturn, 1) := by decide +kernel
theorem dX6_readDeed_89 : decode cX6_readDeed 89 = .ok (.aload_n 1, 1) := by decide +kernel
theorem dX6_readDeed_90 : decode cX6_readDeed 90 = .ok (.iload_n 2, 1) := by decide +kernel
theorem dX6_readDeed_91 : decode cX6_readDeed 91 = .ok (.iload_n 3, 1) := by decide +kernel
theorem dX6_readDeed_92 : decode cX6_readDeed 92 = .ok (.aload_n 0, 1) := by decide +kernel
theorem dX6_readDeed_93 : decode cX6_readDeed 93 = .ok (.getfield 18, 3) := by decide +kernel
theorem dX6_readDeed_96 : decode cX6_readDeed 96 = .ok (.getfield 63, 3) := by decide +kernel
theorem dX6_readDeed_99 : decode cX6_readDeed 99 = .ok (.invokevirtual 128, 3) := by decide +kernel
theorem dX6_readDeed_102 : decode cX6_readDeed 102 = .ok (.aload_n 0, 1) := by decide +kernel
theorem dX6_readDeed_103 : decode cX6_readDeed 103 = .ok (.getfield 18, 3) := by decide +kernel
theorem dX6_readDeed_106 : decode cX6_readDeed 106 = .ok (.invokevirtual 54, 3) := by decide +kernel
theorem dX6_readDeed_109 : decode cX6_readDeed 109 = .ok (.iconst 1, 1) := by decide +kernel
theorem dX6_readDeed_110 : decode cX6_readDeed 110 = .ok (.ireturn, 1) := by decide +kernel
theorem dX6_readLend_0 : decode cX6_readLend 0 = .ok (.aload_n 0, 1) := by decide +kernel
theorem dX6_readLend_1 : decode cX6_readLend 1 = .ok (.getfield 25, 3) := by decide +kernel
theorem dX6_readLend_4 : decode cX6_readLend 4 = .ok (.getfield 132, 3) := by decide +kernel
theorem dX6_readLend_7 : decode cX6_readLend 7 = .ok (.bipush 8, 2) := by decide +kernel
theorem dX6_readLend_9 : decode cX6_readLend 9 = .ok (.if_icmp .lt 9, 3) := by decide +kernel
theorem dX6_readLend_12 : decode cX6_readLend 12 = .ok (.aload_n 0, 1) := by decide +kernel
theorem dX6_readLend_13 : decode cX6_readLend 13 = .ok (.iconst 2, 1) := by decide +kernel
theorem dX6_readLend_14 : decode cX6_readLend 14 = .ok (.invokevirtual 60, 3) := by decide +kernel
theorem dX6_readLend_17 : decode cX6_readLend 17 = .ok (.ireturn, 1) := by decide +kernel
theorem dX6_readLend_18 : decode cX6_readLend 18 = .ok (.aload_n 0, 1) := by decide +kernel
theorem dX6_readLend_19 : decode cX6_readLend 19 = .ok (.getfield 18, 3) := by decide +kernel
theorem dX6_readLend_22 : decode cX6_readLend 22 = .ok (.invokevirtual 54, 3) := by decide +kernel
theorem dX6_readLend_25 : decode cX6_readLend 25 = .ok (.aload_n 0, 1) := by decide +kernel
theorem dX6_readLend_26 : decode cX6_readLend 26 = .ok (.invokevirtual 113, 3) := by decide +kernel
theorem dX6_readLend_29 : decode cX6_readLend 29 = .ok (.ifCond .ne 5, 3) := by decide +kernel
theorem dX6_readLend_32 : decode cX6_readLend 32 = .ok (.iconst 0, 1) := by decide +kernel
theorem dX6_readLend_33 : decode cX6_readLend 33 = .ok (.ireturn, 1) := by decide +kernel
theorem dX6_readLend_34 : decode cX6_readLend 34 = .ok (.aload_n 0, 1) := by decide +kernel
theorem dX6_readLend_35 : decode cX6_readLend 35 = .ok (.getfield 25, 3) := by decide +kernel
theorem dX6_readLend_38 : decode cX6_readLend 38 = .ok (.aload_n 0, 1) := by decide +kernel
theorem dX6_readLend_39 : decode cX6_readLend 39 = .ok (.getfield 18, 3) := by decide +kernel
theorem dX6_readLend_42 : decode cX6_readLend 42 = .ok (.getfield 63, 3) := by decide +kernel
theorem dX6_readLend_45 : decode cX6_readLend 45 = .ok (.invokevirtual 66, 3) := by decide +kernel
theorem dX6_readLend_48 : decode cX6_readLend 48 = .ok (.istore_n 1, 1) := by decide +kernel
theorem dX6_readLend_49 : decode cX6_readLend 49 = .ok (.aload_n 0, 1) := by decide +kernel
theorem dX6_readLend_50 : decode cX6_readLend 50 = .ok (.getfield 18, 3) := by decide +kernel
theorem dX6_readLend_53 : decode cX6_readLend 53 = .ok (.invokevirtual 54, 3) := by decide +kernel
theorem dX6_readLend_56 : decode cX6_readLend 56 = .ok (.aload_n 0, 1) := by decide +kernel
theorem dX6_readLend_57 : decode cX6_readLend 57 = .ok (.invokevirtual 113, 3) := by decide +kernel
theorem dX6_readLend_60 : decode cX6_readLend 60 = .ok (.ifCond .ne 5, 3) := by decide +kernel
theorem dX6_readLend_63 : decode cX6_readLend 63 = .ok (.iconst 0, 1) := by decide +kernel
theorem dX6_readLend_64 : decode cX6_readLend 64 = .ok (.ireturn, 1) := by decide +kernel
theorem dX6_readLend_65 : decode cX6_readLend 65 = .ok (.aload_n 0, 1) := by decide +kernel
theorem dX6_readLend_66 : decode cX6_readLend 66 = .ok (.getfield 25, 3) := by decide +kernel
theorem dX6_readLend_69 : decode cX6_readLend 69 = .ok (.aload_n 0, 1) := by decide +kernel
theorem dX6_readLend_70 : decode cX6_readLend 70 = .ok (.getfield 18, 3) := by decide +kernel
theorem dX6_readLend_73 : decode cX6_readLend 73 = .ok (.getfield 63, 3) := by decide +kernel
theorem dX6_readLend_76 : decode cX6_readLend 76 = .ok (.invokevirtual 66, 3) := by decide +kernel
theorem dX6_readLend_79 : decode cX6_readLend 79 = .ok (.istore_n 2, 1) := by decide +kernel
theorem dX6_readLend_80 : decode cX6_readLend 80 = .ok (.iload_n 1, 1) := by decide +kernel
theorem dX6_readLend_81 : decode cX6_readLend 81 = .ok (.iload_n 2, 1) := by decide +kernel
theorem dX6_readLend_82 : decode cX6_readLend 82 = .ok (.if_icmp .ne 9, 3) := by decide +kernel
theorem dX6_readLend_85 : decode cX6_readLend 85 = .ok (.aload_n 0, 1) := by decide +kernel
theorem dX6_readLend_86 : decode cX6_readLend 86 = .ok (.iconst 5, 1) := by decide +kernel
theorem dX6_readLend_87 : decode cX6_readLend 87 = .ok (.invokevirtual 60, 3) := by decide +kernel
theorem dX6_readLend_90 : decode cX6_readLend 90 = .ok (.ireturn, 1) := by decide +kernel
theorem dX6_readLend_91 : decode cX6_readLend 91 = .ok (.aload_n 0, 1) := by decide +kernel
theorem dX6_readLend_92 : decode cX6_readLend 92 = .ok (.getfield 25, 3) := by decide +kernel
theorem dX6_readLend_95 : decode cX6_readLend 95 = .ok (.getfield 135, 3) := by decide +kernel
theorem dX6_readLend_98 : decode cX6_readLend 98 = .ok (.iload_n 2, 1) := by decide +kernel
theorem dX6_readLend_99 : decode cX6_readLend 99 = .ok (.iaload, 1) := by decide +kernel
theorem dX6_readLend_100 : decode cX6_readLend 100 = .ok (.iload_n 1, 1) := by decide +kernel
theorem dX6_readLend_101 : decode cX6_readLend 101 = .ok (.ishr, 1) := by decide +kernel
theorem dX6_readLend_102 : decode cX6_readLend 102 = .ok (.iconst 1, 1) := by decide +kernel
theorem dX6_readLend_103 : decode cX6_readLend 103 = .ok (.iand, 1) := by decide +kernel
theorem dX6_readLend_104 : decode cX6_readLend 104 = .ok (.ifCond .eq 9, 3) := by decide +kernel
theorem dX6_readLend_107 : decode cX6_readLend 107 = .ok (.aload_n 0, 1) := by decide +kernel
theorem dX6_readLend_108 : decode cX6_readLend 108 = .ok (.iconst 3, 1) := by decide +kernel
theorem dX6_readLend_109 : decode cX6_readLend 109 = .ok (.invokevirtual 60, 3) := by decide +kernel
theorem dX6_readLend_112 : decode cX6_readLend 112 = .ok (.ireturn, 1) := by decide +kernel
theorem dX6_readLend_113 : decode cX6_readLend 113 = .ok (.aload_n 0, 1) := by decide +kernel
theorem dX6_readLend_114 : decode cX6_readLend 114 = .ok (.getfield 25, 3) := by decide +kernel
theorem dX6_readLend_117 : decode cX6_readLend 117 = .ok (.getfield 135, 3) := by decide +kernel
theorem dX6_readLend_120 : decode cX6_readLend 120 = .ok (.iload_n 2, 1) := by decide +kernel
theorem dX6_readLend_121 : decode cX6_readLend 121 = .ok (.dup2, 1) := by decide +kernel
theorem dX6_readLend_122 : decode cX6_readLend 122 = .ok (.iaload, 1) := by decide +kernel
theorem dX6_readLend_123 : decode cX6_readLend 123 = .ok (.iconst 1, 1) := by decide +kernel
theorem dX6_readLend_124 : decode cX6_readLend 124 = .ok (.iload_n 1, 1) := by decide +kernel
theorem dX6_readLend_125 : decode cX6_readLend 125 = .ok (.ishl, 1) := by decide +kernel
theorem dX6_readLend_126 : decode cX6_readLend 126 = .ok (.ior, 1) := by decide +kernel
theorem dX6_readLend_127 : decode cX6_readLend 127 = .ok (.iastore, 1) := by decide +kernel
theorem dX6_readLend_128 : decode cX6_readLend 128 = .ok (.aload_n 0, 1) := by decide +kernel
theorem dX6_readLend_129 : decode cX6_readLend 129 = .ok (.getfield 25, 3) := by decide +kernel
theorem dX6_readLend_132 : decode cX6_readLend 132 = .ok (.dup, 1) := by decide +kernel
theorem dX6_readLend_133 : decode cX6_readLend 133 = .ok (.getfield 132, 3) := by decide +kernel
theorem dX6_readLend_136 : decode cX6_readLend 136 = .ok (.iconst 1, 1) := by decide +kernel
theorem dX6_readLend_137 : decode cX6_readLend 137 = .ok (.iadd, 1) := by decide +kernel
theorem dX6_readLend_138 : decode cX6_readLend 138 = .ok (.putfield 132, 3) := by decide +kernel
theorem dX6_readLend_141 : decode cX6_readLend 141 = .ok (.aload_n 0, 1) := by decide +kernel
theorem dX6_readLend_142 : decode cX6_readLend 142 = .ok (.getfield 18, 3) := by decide +kernel
theorem dX6_readLend_145 : decode cX6_readLend 145 = .ok (.invokevirtual 54, 3) := by decide +kernel
theorem dX6_readLend_148 : decode cX6_readLend 148 = .ok (.iconst 1, 1) := by decide +kernel
theorem dX6_readLend_149 : decode cX6_readLend 149 = .ok (.ireturn, 1) := by decide +kernel
theorem dX6_readDraft_0 : decode cX6_readDraft 0 = .ok (.aload_n 0, 1) := by decide +kernel
theorem dX6_readDraft_1 : decode cX6_readDraft 1 = .ok (.getfield 25, 3) := by decide +kernel
theorem dX6_readDraft_4 : decode cX6_readDraft 4 = .ok (.getfield 138, 3) := by decide +kernel
theorem dX6_readDraft_7 : decode cX6_readDraft 7 = .ok (.ifCond .eq 9, 3) := by decide +kernel
theorem dX6_readDraft_10 : decode cX6_readDraft 10 = .ok (.aload_n 0, 1) := by decide +kernel
theorem dX6_readDraft_11 : decode cX6_readDraft 11 = .ok (.iconst 3, 1) := by decide +kernel
theorem dX6_readDraft_12 : decode cX6_readDraft 12 = .ok (.invokevirtual 60, 3) := by decide +kernel
theorem dX6_readDraft_15 : decode cX6_readDraft 15 = .ok (.ireturn, 1) := by decide +kernel
theorem dX6_readDraft_16 : decode cX6_readDraft 16 = .ok (.aload_n 0, 1) := by decide +kernel
theorem dX6_readDraft_17 : decode cX6_readDraft 17 = .ok (.getfield 18, 3) := by decide +kernel
theorem dX6_readDraft_20 : decode cX6_readDraft 20 = .ok (.invokevirtual 54, 3) := by decide +kernel
theorem dX6_readDraft_23 : decode cX6_readDraft 23 = .ok (.aload_n 0, 1) := by decide +kernel
theorem dX6_readDraft_24 : decode cX6_readDraft 24 = .ok (.iconst 0, 1) := by decide +kernel
theorem dX6_readDraft_25 : decode cX6_readDraft 25 = .ok (.bipush 100, 2) := by decide +kernel
theorem dX6_readDraft_27 : decode cX6_readDraft 27 = .ok (.invokevirtual 102, 3) := by decide +kernel
theorem dX6_readDraft_30 : decode cX6_readDraft 30 = .ok (.ifCond .ne 5, 3) := by decide +kernel
theorem dX6_readDraft_33 : decode cX6_readDraft 33 = .ok (.iconst 0, 1) := by decide +kernel
theorem dX6_readDraft_34 : decode cX6_readDraft 34 = .ok (.ireturn, 1) := by decide +kernel
theorem dX6_readDraft_35 : decode cX6_readDraft 35 = .ok (.aload_n 0, 1) := by decide +kernel
theorem dX6_readDraft_36 : decode cX6_readDraft 36 = .ok (.getfield 25, 3) := by decide +kernel
theorem dX6_readDraft_39 : decode cX6_readDraft 39 = .ok (.iconst 1, 1) := by decide +kernel
theorem dX6_readDraft_40 : decode cX6_readDraft 40 = .ok (.putfield 138, 3) := by decide +kernel
theorem dX6_readDraft_43 : decode cX6_readDraft 43 = .ok (.aload_n 0, 1) := by decide +kernel
theorem dX6_readDraft_44 : decode cX6_readDraft 44 = .ok (.getfield 25, 3) := by decide +kernel
theorem dX6_readDraft_47 : decode cX6_readDraft 47 = .ok (.aload_n 0, 1) := by decide +kernel
theorem dX6_readDraft_48 : decode cX6_readDraft 48 = .ok (.getfield 18, 3) := by decide +kernel
theorem dX6_readDraft_51 : decode cX6_readDraft 51 = .ok (.getfield 63, 3) := by decide +kernel
theorem dX6_readDraft_54 : decode cX6_readDraft 54 = .ok (.putfield 142, 3) := by decide +kernel
theorem dX6_readDraft_57 : decode cX6_readDraft 57 = .ok (.aload_n 0, 1) := by decide +kernel
theorem dX6_readDraft_58 : decode cX6_readDraft 58 = .ok (.getfield 18, 3) := by decide +kernel
theorem dX6_readDraft_61 : decode cX6_readDraft 61 = .ok (.invokevirtual 54, 3) := by decide +kernel
theorem dX6_readDraft_64 : decode cX6_readDraft 64 = .ok (.iconst 1, 1) := by decide +kernel
theorem dX6_readDraft_65 : decode cX6_readDraft 65 = .ok (.ireturn, 1) := by decide +kernel
theorem dX6_readSeed_0 : decode cX6_readSeed 0 = .ok (.aload_n 0, 1) := by decide +kernel
theorem dX6_readSeed_1 : decode cX6_readSeed 1 = .ok (.getfield 25, 3) := by decide +kernel
theorem dX6_readSeed_4 : decode cX6_readSeed 4 = .ok (.getfield 145, 3) := by decide +kernel
theorem dX6_readSeed_7 : decode cX6_readSeed 7 = .ok (.ifCond .eq 9, 3) := by decide +kernel
theorem dX6_readSeed_10 : decode cX6_readSeed 10 = .ok (.aload_n 0, 1) := by decide +kernel
theorem dX6_readSeed_11 : decode cX6_readSeed 11 = .ok (.iconst 3, 1) := by decide +kernel
theorem dX6_readSeed_12 : decode cX6_readSeed 12 = .ok (.invokevirtual 60, 3) := by decide +kernel
theorem dX6_readSeed_15 : decode cX6_readSeed 15 = .ok (.ireturn, 1) := by decide +kernel
theorem dX6_readSeed_16 : decode cX6_readSeed 16 = .ok (.aload_n 0, 1) := by decide +kernel
theorem dX6_readSeed_17 : decode cX6_readSeed 17 = .ok (.getfield 18, 3) := by decide +kernel
theorem dX6_readSeed_20 : decode cX6_readSeed 20 = .ok (.invokevirtual 54, 3) := by decide +kernel
theorem dX6_readSeed_23 : decode cX6_readSeed 23 = .ok (.aload_n 0, 1) := by decide +kernel
theorem dX6_readSeed_24 : decode cX6_readSeed 24 = .ok (.iconst 0, 1) := by decide +kernel
theorem dX6_readSeed_25 : decode cX6_readSeed 25 = .ok (.ldc 148, 2) := by decide +kernel
theorem dX6_readSeed_27 : decode cX6_readSeed 27 = .ok (.invokevirtual 102, 3) := by decide +kernel
theorem dX6_readSeed_30 : decode cX6_readSeed 30 = .ok (.ifCond .ne 5, 3) := by decide +kernel
theorem dX6_readSeed_33 : decode cX6_readSeed 33 = .ok (.iconst 0, 1) := by decide +kernel
theorem dX6_readSeed_34 : decode cX6_readSeed 34 = .ok (.ireturn, 1) := by decide +kernel
theorem dX6_readSeed_35 : decode cX6_readSeed 35 = .ok (.aload_n 0, 1) := by decide +kernel
theorem dX6_readSeed_36 : decode cX6_readSeed 36 = .ok (.getfield 25, 3) := by decide +kernel
theorem dX6_readSeed_39 : decode cX6_readSeed 39 = .ok (.iconst 1, 1) := by decide +kernel
theorem dX6_readSeed_40 : decode cX6_readSeed 40 = .ok (.putfield 145, 3) := by decide +kernel
theorem dX6_readSeed_43 : decode cX6_readSeed 43 = .ok (.aload_n 0, 1) := by decide +kernel
theorem dX6_readSeed_44 : decode cX6_readSeed 44 = .ok (.getfield 25, 3) := by decide +kernel
theorem dX6_readSeed_47 : decode cX6_readSeed 47 = .ok (.aload_n 0, 1) := by decide +kernel
theorem dX6_readSeed_48 : decode cX6_readSeed 48 = .ok (.getfield 18, 3) := by decide +kernel
theorem dX6_readSeed_51 : decode cX6_readSeed 51 = .ok (.getfield 63, 3) := by decide +kernel
theorem dX6_readSeed_54 : decode cX6_readSeed 54 = .ok (.putfield 149, 3) := by decide +kernel
theorem dX6_readSeed_57 : decode cX6_readSeed 57 = .ok (.aload_n 0, 1) := by decide +kernel
theorem dX6_readSeed_58 : decode cX6_readSeed 58 = .ok (.getfield 18, 3) := by decide +kernel
theorem dX6_readSeed_61 : decode cX6_readSeed 61 = .ok (.invokevirtual 54, 3) := by decide +kernel
theorem dX6_readSeed_64 : decode cX6_readSeed 64 = .ok (.iconst 1, 1) := by decide +kernel
theorem dX6_readSeed_65 : decode cX6_readSeed 65 = .ok (.ireturn, 1) := by decide +kernel
theorem dX6_readLaw_0 : decode cX6_readLaw 0 = .ok (.aload_n 0, 1) := by decide +kernel
theorem dX6_readLaw_1 : decode cX6_readLaw 1 = .ok (.getfield 18, 3) := by decide +kernel
theorem dX6_readLaw_4 : decode cX6_readLaw 4 = .ok (.invokevirtual 54, 3) := by decide +kernel
theorem dX6_readLaw_7 : decode cX6_readLaw 7 = .ok (.aload_n 0, 1) := by decide +kernel
theorem dX6_readLaw_8 : decode cX6_readLaw 8 = .ok (.getfield 18, 3) := by decide +kernel
theorem dX6_readLaw_11 : decode cX6_readLaw 11 = .ok (.getfield 43, 3) := by decide +kernel
theorem dX6_readLaw_14 : decode cX6_readLaw 14 = .ok (.bipush 8, 2) := by decide +kernel
theorem dX6_readLaw_16 : decode cX6_readLaw 16 = .ok (.if_icmp .lt 15, 3) := by decide +kernel
theorem dX6_readLaw_19 : decode cX6_readLaw 19 = .ok (.aload_n 0, 1) := by decide +kernel
theorem dX6_readLaw_20 : decode cX6_readLaw 20 = .ok (.getfield 18, 3) := by decide +kernel
theorem dX6_readLaw_23 : decode cX6_readLaw 23 = .ok (.getfield 43, 3) := by decide +kernel
theorem dX6_readLaw_26 : decode cX6_readLaw 26 = .ok (.bipush 10, 2) := by decide +kernel
theorem dX6_readLaw_28 : decode cX6_readLaw 28 = .ok (.if_icmp .le 9, 3) := by decide +kernel
theorem dX6_readLaw_31 : decode cX6_readLaw 31 = .ok (.aload_n 0, 1) := by decide +kernel
theorem dX6_readLaw_32 : decode cX6_readLaw 32 = .ok (.iconst 1, 1) := by decide +kernel
theorem dX6_readLaw_33 : decode cX6_readLaw 33 = .ok (.invokevirtual 60, 3) := by decide +kernel
theorem dX6_readLaw_36 : decode cX6_readLaw 36 = .ok (.ireturn, 1) := by decide +kernel
theorem dX6_readLaw_37 : decode cX6_readLaw 37 = .ok (.aload_n 0, 1) := by decide +kernel
theorem dX6_readLaw_38 : decode cX6_readLaw 38 = .ok (.getfield 18, 3) := by decide +kernel
theorem dX6_readLaw_41 : decode cX6_readLaw 41 = .ok (.getfield 43, 3) := by decide +kernel
theorem dX6_readLaw_44 : decode cX6_readLaw 44 = .ok (.bipush 8, 2) := by decide +kernel
theorem dX6_readLaw_46 : decode cX6_readLaw 46 = .ok (.isub, 1) := by decide +kernel
theorem dX6_readLaw_47 : decode cX6_readLaw 47 = .ok (.istore_n 1, 1) := by decide +kernel
theorem dX6_readLaw_48 : decode cX6_readLaw 48 = .ok (.aload_n 0, 1) := by decide +kernel
theorem dX6_readLaw_49 : decode cX6_readLaw 49 = .ok (.getfield 25, 3) := by decide +kernel
theorem dX6_readLaw_52 : decode cX6_readLaw 52 = .ok (.getfield 152, 3) := by decide +kernel
theorem dX6_readLaw_55 : decode cX6_readLaw 55 = .ok (.iload_n 1, 1) := by decide +kernel
theorem dX6_readLaw_56 : decode cX6_readLaw 56 = .ok (.invokevirtual 156, 3) := by decide +kernel
theorem dX6_readLaw_59 : decode cX6_readLaw 59 = .ok (.ifCond .eq 9, 3) := by decide +kernel
theorem dX6_readLaw_62 : decode cX6_readLaw 62 = .ok (.aload_n 0, 1) := by decide +kernel
theorem dX6_readLaw_63 : decode cX6_readLaw 63 = .ok (.iconst 3, 1) := by decide +kernel
theorem dX6_readLaw_64 : decode cX6_readLaw 64 = .ok (.invokevirtual 60, 3) := by decide +kernel
theorem dX6_readLaw_67 : decode cX6_readLaw 67 = .ok (.ireturn, 1) := by decide +kernel
theorem dX6_readLaw_68 : decode cX6_readLaw 68 = .ok (.aload_n 0, 1) := by decide +kernel
theorem dX6_readLaw_69 : decode cX6_readLaw 69 = .ok (.getfield 18, 3) := by decide +kernel
theorem dX6_readLaw_72 : decode cX6_readLaw 72 = .ok (.invokevirtual 54, 3) := by decide +kernel
theorem dX6_readLaw_75 : decode cX6_readLaw 75 = .ok (.aload_n 0, 1) := by decide +kernel
theorem dX6_readLaw_76 : decode cX6_readLaw 76 = .ok (.getfield 25, 3) := by decide +kernel
theorem dX6_readLaw_79 : decode cX6_readLaw 79 = .ok (.getfield 152, 3) := by decide +kernel
theorem dX6_readLaw_82 : decode cX6_readLaw 82 = .ok (.invokevirtual 161, 3) := by decide +kernel
theorem dX6_readLaw_85 : decode cX6_readLaw 85 = .ok (.istore_n 2, 1) := by decide +kernel
theorem dX6_readLaw_86 : decode cX6_readLaw 86 = .ok (.aload_n 0, 1) := by decide +kernel
theorem dX6_readLaw_87 : decode cX6_readLaw 87 = .ok (.invokevirtual 165, 3) := by decide +kernel
theorem dX6_readLaw_90 : decode cX6_readLaw 90 = .ok (.ifCond .ne 5, 3) := by decide +kernel
theorem dX6_readLaw_93 : decode cX6_readLaw 93 = .ok (.iconst 0, 1) := by decide +kernel
theorem dX6_readLaw_94 : decode cX6_readLaw 94 = .ok (.ireturn, 1) := by decide +kernel
theorem dX6_readLaw_95 : decode cX6_readLaw 95 = .ok (.aload_n 0, 1) := by decide +kernel
theorem dX6_readLaw_96 : decode cX6_readLaw 96 = .ok (.getfield 25, 3) := by decide +kernel
theorem dX6_readLaw_99 : decode cX6_readLaw 99 = .ok (.getfield 152, 3) := by decide +kernel
theorem dX6_readLaw_102 : decode cX6_readLaw 102 = .ok (.iload_n 1, 1) := by decide +kernel
theorem dX6_readLaw_103 : decode cX6_readLaw 103 = .ok (.iload_n 2, 1) := by decide +kernel
theorem dX6_readLaw_104 : decode cX6_readLaw 104 = .ok (.invokevirtual 168, 3) := by decide +kernel
theorem dX6_readLaw_107 : decode cX6_readLaw 107 = .ok (.iconst 1, 1) := by decide +kernel
theorem dX6_readLaw_108 : decode cX6_readLaw 108 = .ok (.ireturn, 1) := by decide +kernel
theorem dX6_readExpression_0 : decode cX6_readExpression 0 = .ok (.aload_n 0, 1) := by decide +kernel
theorem dX6_readExpression_1 : decode cX6_readExpression 1 = .ok (.iconst 0, 1) := by decide +kernel
theorem dX6_readExpression_2 : decode cX6_readExpression 2 = .ok (.putfield 171, 3) := by decide +kernel
theorem dX6_readExpression_5 : decode cX6_readExpression 5 = .ok (.aload_n 0, 1) := by decide +kernel
theorem dX6_readExpression_6 : decode cX6_readExpression 6 = .ok (.iconst 0, 1) := by decide +kernel
theorem dX6_readExpression_7 : decode cX6_readExpression 7 = .ok (.putfield 174, 3) := by decide +kernel
theorem dX6_readExpression_10 : decode cX6_readExpression 10 = .ok (.iconst 1, 1) := by decide +kernel
theorem dX6_readExpression_11 : decode cX6_readExpression 11 = .ok (.istore_n 1, 1) := by decide +kernel
theorem dX6_readExpression_12 : decode cX6_readExpression 12 = .ok (.iconst 1, 1) := by decide +kernel
theorem dX6_readExpression_13 : decode cX6_readExpression 13 = .ok (.istore_n 2, 1) := by decide +kernel
theorem dX6_readExpression_14 : decode cX6_readExpression 14 = .ok (.iconst 0, 1) := by decide +kernel
theorem dX6_readExpression_15 : decode cX6_readExpression 15 = .ok (.istore_n 3, 1) := by decide +kernel
theorem dX6_readExpression_16 : decode cX6_readExpression 16 = .ok (.iload_n 3, 1) := by decide +kernel
theorem dX6_readExpression_17 : decode cX6_readExpression 17 = .ok (.sipush 700, 3) := by decide +kernel
theorem dX6_readExpression_20 : decode cX6_readExpression 20 = .ok (.if_icmp .gt 163, 3) := by decide +kernel
theorem dX6_readExpression_23 : decode cX6_readExpression 23 = .ok (.aload_n 0, 1) := by decide +kernel
theorem dX6_readExpression_24 : decode cX6_readExpression 24 = .ok (.getfield 18, 3) := by decide +kernel
theorem dX6_readExpression_27 : decode cX6_readExpression 27 = .ok (.getfield 43, 3) := by decide +kernel
theorem dX6_readExpression_30 : decode cX6_readExpression 30 = .ok (.istore 4, 2) := by decide +kernel
theorem dX6_readExpression_32 : decode cX6_readExpression 32 = .ok (.iload_n 1, 1) := by decide +kernel
theorem dX6_readExpression_33 : decode cX6_readExpression 33 = .ok (.ifCond .eq 38, 3) := by decide +kernel
theorem dX6_readExpression_36 : decode cX6_readExpression 36 = .ok (.aload_n 0, 1) := by decide +kernel
theorem dX6_readExpression_37 : decode cX6_readExpression 37 = .ok (.iload_n 2, 1) := by decide +kernel
theorem dX6_readExpression_38 : decode cX6_readExpression 38 = .ok (.invokevirtual 177, 3) := by decide +kernel
theorem dX6_readExpression_41 : decode cX6_readExpression 41 = .ok (.ifCond .ne 5, 3) := by decide +kernel
theorem dX6_readExpression_44 : decode cX6_readExpression 44 = .ok (.iconst 0, 1) := by decide +kernel
theorem dX6_readExpression_45 : decode cX6_readExpression 45 = .ok (.ireturn, 1) := by decide +kernel
theorem dX6_readExpression_46 : decode cX6_readExpression 46 = .ok (.iload 4, 2) := by decide +kernel
theorem dX6_readExpression_48 : decode cX6_readExpression 48 = .ok (.bipush 20, 2) := by decide +kernel
theorem dX6_readExpression_50 : decode cX6_readExpression 50 = .ok (.if_icmp .eq 10, 3) := by decide +kernel
theorem dX6_readExpression_53 : decode cX6_readExpression 53 = .ok (.iload 4, 2) := by decide +kernel
theorem dX6_readExpression_55 : decode cX6_readExpression 55 = .ok (.bipush 31, 2) := by decide +kernel
theorem dX6_readExpression_57 : decode cX6_readExpression 57 = .ok (.if_icmp .ne 7, 3) := by decide +kernel
theorem dX6_readExpression_60 : decode cX6_readExpression 60 = .ok (.iconst 1, 1) := by decide +kernel
theorem dX6_readExpression_61 : decode cX6_readExpression 61 = .ok (.goto 4, 3) := by decide +kernel
theorem dX6_readExpression_64 : decode cX6_readExpression 64 = .ok (.iconst 0, 1) := by decide +kernel
theorem dX6_readExpression_65 : decode cX6_readExpression 65 = .ok (.istore_n 2, 1) := by decide +kernel
theorem dX6_readExpression_66 : decode cX6_readExpression 66 = .ok (.iload_n 2, 1) := by decide +kernel
theorem dX6_readExpression_67 : decode cX6_readExpression 67 = .ok (.istore_n 1, 1) := by decide +kernel
theorem dX6_readExpression_68 : decode cX6_readExpression 68 = .ok (.goto 102, 3) := by decide +kernel
theorem dX6_readExpression_71 : decode cX6_readExpression 71 = .ok (.iload 4, 2) := by decide +kernel
theorem dX6_readExpression_73 : decode cX6_readExpression 73 = .ok (.invokestatic 181, 3) := by decide +kernel
theorem dX6_readExpression_76 : decode cX6_readExpression 76 = .ok (.ifCond .eq 39, 3) := by decide +kernel
theorem dX6_readExpression_79 : decode cX6_readExpression 79 = .ok (.aload_n 0, 1) := by decide +kernel
theorem dX6_readExpression_80 : decode cX6_readExpression 80 = .ok (.iload 4, 2) := by decide +kernel
theorem dX6_readExpression_82 : decode cX6_readExpression 82 = .ok (.invokevirtual 184, 3) := by decide +kernel
theorem dX6_readExpression_85 : decode cX6_readExpression 85 = .ok (.ifCond .ne 5, 3) := by decide +kernel
theorem dX6_readExpression_88 : decode cX6_readExpression 88 = .ok (.iconst 0, 1) := by decide +kernel
theorem dX6_readExpression_89 : decode cX6_readExpression 89 = .ok (.ireturn, 1) := by decide +kernel
theorem dX6_readExpression_90 : decode cX6_readExpression 90 = .ok (.iload 4, 2) := by decide +kernel
theorem dX6_readExpression_92 : decode cX6_readExpression 92 = .ok (.bipush 19, 2) := by decide +kernel
theorem dX6_readExpression_94 : decode cX6_readExpression 94 = .ok (.if_icmp .eq 10, 3) := by decide +kernel
theorem dX6_readExpression_97 : decode cX6_readExpression 97 = .ok (.iload 4, 2) := by decide +kernel
theorem dX6_readExpression_99 : decode cX6_readExpression 99 = .ok (.bipush 18, 2) := by decide +kernel
theorem dX6_readExpression_101 : decode cX6_readExpression 101 = .ok (.if_icmp .ne 7, 3) := by decide +kernel
theorem dX6_readExpression_104 : decode cX6_readExpression 104 = .ok (.iconst 1, 1) := by decide +kernel
theorem dX6_readExpression_105 : decode cX6_readExpression 105 = .ok (.goto 4, 3) := by decide +kernel
theorem dX6_readExpression_108 : decode cX6_readExpression 108 = .ok (.iconst 0, 1) := by decide +kernel
theorem dX6_readExpression_109 : decode cX6_readExpression 109 = .ok (.istore_n 2, 1) := by decide +kernel
theorem dX6_readExpression_110 : decode cX6_readExpression 110 = .ok (.iconst 1, 1) := by decide +kernel
theorem dX6_readExpression_111 : decode cX6_readExpression 111 = .ok (.istore_n 1, 1) := by decide +kernel
theorem dX6_readExpression_112 : decode cX6_readExpression 112 = .ok (.goto 58, 3) := by decide +kernel
theorem dX6_readExpression_115 : decode cX6_readExpression 115 = .ok (.aload_n 0, 1) := by decide +kernel
theorem dX6_readExpression_116 : decode cX6_readExpression 116 = .ok (.getfield 174, 3) := by decide +kernel
theorem dX6_readExpression_119 : decode cX6_readExpression 119 = .ok (.ifCond .ne 10, 3) := by decide +kernel
theorem dX6_readExpression_122 : decode cX6_readExpression 122 = .ok (.aload_n 0, 1) := by decide +kernel
theorem dX6_readExpression_123 : decode cX6_readExpression 123 = .ok (.iconst 1, 1) := by decide +kernel
theorem dX6_readExpression_124 : decode cX6_readExpression 124 = .ok (.invokevirtual 187, 3) := by decide +kernel
theorem dX6_readExpression_127 : decode cX6_readExpression 127 = .ok (.iconst 1, 1) := by decide +kernel
theorem dX6_readExpression_128 : decode cX6_readExpression 128 = .ok (.ireturn, 1) := by decide +kernel
theorem dX6_readExpression_129 : decode cX6_readExpression 129 = .ok (.iload 4, 2) := by decide +kernel
theorem dX6_readExpression_131 : decode cX6_readExpression 131 = .ok (.bipush 32, 2) := by decide +kernel
theorem dX6_readExpression_133 : decode cX6_readExpression 133 = .ok (.if_icmp .ne 31, 3) := by decide +kernel
theorem dX6_readExpression_136 : decode cX6_readExpression 136 = .ok (.aload_n 0, 1) := by decide +kernel
theorem dX6_readExpression_137 : decode cX6_readExpression 137 = .ok (.iconst 1, 1) := by decide +kernel
theorem dX6_readExpression_138 : decode cX6_readExpression 138 = .ok (.invokevirtual 187, 3) := by decide +kernel
theorem dX6_readExpression_141 : decode cX6_readExpression 141 = .ok (.aload_n 0, 1) := by decide +kernel
theorem dX6_readExpression_142 : decode cX6_readExpression 142 = .ok (.dup, 1) := by decide +kernel
theorem dX6_readExpression_143 : decode cX6_readExpression 143 = .ok (.getfield 171, 3) := by decide +kernel
theorem dX6_readExpression_146 : decode cX6_readExpression 146 = .ok (.iconst 1, 1) := by decide +kernel
theorem dX6_readExpression_147 : decode cX6_readExpression 147 = .ok (.isub, 1) := by decide +kernel
theorem dX6_readExpression_148 : decode cX6_readExpression 148 = .ok (.putfield 171, 3) := by decide +kernel
theorem dX6_readExpression_151 : decode cX6_readExpression 151 = .ok (.aload_n 0, 1) := by decide +kernel
theorem dX6_readExpression_152 : decode cX6_readExpression 152 = .ok (.dup, 1) := by decide +kernel
theorem dX6_readExpression_153 : decode cX6_readExpression 153 = .ok (.getfield 174, 3) := by decide +kernel
theorem dX6_readExpression_156 : decode cX6_readExpression 156 = .ok (.iconst 1, 1) := by decide +kernel
theorem dX6_readExpression_157 : decode cX6_readExpression 157 = .ok (.isub, 1) := by decide +kernel
theorem dX6_readExpression_158 : decode cX6_readExpression 158 = .ok (.putfield 174, 3) := by decide +kernel
theorem dX6_readExpression_161 : decode cX6_readExpression 161 = .ok (.goto 9, 3) := by decide +kernel
theorem dX6_readExpression_164 : decode cX6_readExpression 164 = .ok (.aload_n 0, 1) := by decide +kernel
theorem dX6_readExpression_165 : decode cX6_readExpression 165 = .ok (.iconst 1, 1) := by decide +kernel
theorem dX6_readExpression_166 : decode cX6_readExpression 166 = .ok (.invokevirtual 60, 3) := by decide +kernel
theorem dX6_readExpression_169 : decode cX6_readExpression 169 = .ok (.ireturn, 1) := by decide +kernel
theorem dX6_readExpression_170 : decode cX6_readExpression 170 = .ok (.aload_n 0, 1) := by decide +kernel
theorem dX6_readExpression_171 : decode cX6_readExpression 171 = .ok (.getfield 18, 3) := by decide +kernel
theorem dX6_readExpression_174 : decode cX6_readExpression 174 = .ok (.invokevirtual 54, 3) := by decide +kernel
theorem dX6_readExpression_177 : decode cX6_readExpression 177 = .ok (.iinc 3 1, 3) := by decide +kernel
theorem dX6_readExpression_180 : decode cX6_readExpression 180 = .ok (.goto (-164), 3) := by decide +kernel
theorem dX6_readExpression_183 : decode cX6_readExpression 183 = .ok (.aload_n 0, 1) := by decide +kernel
theorem dX6_readExpression_184 : decode cX6_readExpression 184 = .ok (.iconst 1, 1) := by decide +kernel
theorem dX6_readExpression_185 : decode cX6_readExpression 185 = .ok (.invokevirtual 60, 3) := by decide +kernel
theorem dX6_readExpression_188 : decode cX6_readExpression 188 = .ok (.ireturn, 1) := by decide +kernel
theorem dX6_takesPart_0 : decode cX6_takesPart 0 = .ok (.aload_n 0, 1) := by decide +kernel
theorem dX6_takesPart_1 : decode cX6_takesPart 1 = .ok (.getfield 18, 3) := by decide +kernel
theorem dX6_takesPart_4 : decode cX6_takesPart 4 = .ok (.getfield 43, 3) := by decide +kernel
theorem dX6_takesPart_7 : decode cX6_takesPart 7 = .ok (.istore_n 2, 1) := by decide +kernel
theorem dX6_takesPart_8 : decode cX6_takesPart 8 = .ok (.iload_n 2, 1) := by decide +kernel
theorem dX6_takesPart_9 : decode cX6_takesPart 9 = .ok (.bipush 31, 2) := by decide +kernel
theorem dX6_takesPart_11 : decode cX6_takesPart 11 = .ok (.if_icmp .ne 35, 3) := by decide +kernel
theorem dX6_takesPart_14 : decode cX6_takesPart 14 = .ok (.aload_n 0, 1) := by decide +kernel
theorem dX6_takesPart_15 : decode cX6_takesPart 15 = .ok (.getfield 174, 3) := by decide +kernel
theorem dX6_takesPart_18 : decode cX6_takesPart 18 = .ok (.bipush 8, 2) := by decide +kernel
theorem dX6_takesPart_20 : decode cX6_takesPart 20 = .ok (.if_icmp .lt 9, 3) := by decide +kernel
theorem dX6_takesPart_23 : decode cX6_takesPart 23 = .ok (.aload_n 0, 1) := by decide +kernel
theorem dX6_takesPart_24 : decode cX6_takesPart 24 = .ok (.iconst 2, 1) := by decide +kernel
theorem dX6_takesPart_25 : decode cX6_takesPart 25 = .ok (.invokevirtual 60, 3) := by decide +kernel
theorem dX6_takesPart_28 : decode cX6_takesPart 28 = .ok (.ireturn, 1) := by decide +kernel
theorem dX6_takesPart_29 : decode cX6_takesPart 29 = .ok (.aload_n 0, 1) := by decide +kernel
theorem dX6_takesPart_30 : decode cX6_takesPart 30 = .ok (.dup, 1) := by decide +kernel
theorem dX6_takesPart_31 : decode cX6_takesPart 31 = .ok (.getfield 174, 3) := by decide +kernel
theorem dX6_takesPart_34 : decode cX6_takesPart 34 = .ok (.iconst 1, 1) := by decide +kernel
theorem dX6_takesPart_35 : decode cX6_takesPart 35 = .ok (.iadd, 1) := by decide +kernel
theorem dX6_takesPart_36 : decode cX6_takesPart 36 = .ok (.putfield 174, 3) := by decide +kernel
theorem dX6_takesPart_39 : decode cX6_takesPart 39 = .ok (.aload_n 0, 1) := by decide +kernel
theorem dX6_takesPart_40 : decode cX6_takesPart 40 = .ok (.iload_n 2, 1) := by decide +kernel
theorem dX6_takesPart_41 : decode cX6_takesPart 41 = .ok (.invokevirtual 191, 3) := by decide +kernel
theorem dX6_takesPart_44 : decode cX6_takesPart 44 = .ok (.iconst 1, 1) := by decide +kernel
theorem dX6_takesPart_45 : decode cX6_takesPart 45 = .ok (.ireturn, 1) := by decide +kernel
theorem dX6_takesPart_46 : decode cX6_takesPart 46 = .ok (.iload_n 2, 1) := by decide +kernel
theorem dX6_takesPart_47 : decode cX6_takesPart 47 = .ok (.bipush 20, 2) := by decide +kernel
theorem dX6_takesPart_49 : decode cX6_takesPart 49 = .ok (.if_icmp .ne 23, 3) := by decide +kernel
theorem dX6_takesPart_52 : decode cX6_takesPart 52 = .ok (.iload_n 1, 1) := by decide +kernel
theorem dX6_takesPart_53 : decode cX6_takesPart 53 = .ok (.ifCond .eq 19, 3) := by decide +kernel
theorem dX6_takesPart_56 : decode cX6_takesPart 56 = .ok (.aload_n 0, 1) := by decide +kernel
theorem dX6_takesPart_57 : decode cX6_takesPart 57 = .ok (.invokevirtual 194, 3) := by decide +kernel
theorem dX6_takesPart_60 : decode cX6_takesPart 60 = .ok (.ifCond .ne 5, 3) := by decide +kernel
theorem dX6_takesPart_63 : decode cX6_takesPart 63 = .ok (.iconst 0, 1) := by decide +kernel
theorem dX6_takesPart_64 : decode cX6_takesPart 64 = .ok (.ireturn, 1) := by decide +kernel
theorem dX6_takesPart_65 : decode cX6_takesPart 65 = .ok (.aload_n 0, 1) := by decide +kernel
theorem dX6_takesPart_66 : decode cX6_takesPart 66 = .ok (.iload_n 2, 1) := by decide +kernel
theorem dX6_takesPart_67 : decode cX6_takesPart 67 = .ok (.invokevirtual 191, 3) := by decide +kernel
theorem dX6_takesPart_70 : decode cX6_takesPart 70 = .ok (.iconst 1, 1) := by decide +kernel
theorem dX6_takesPart_71 : decode cX6_takesPart 71 = .ok (.ireturn, 1) := by decide +kernel
theorem dX6_takesPart_72 : decode cX6_takesPart 72 = .ok (.iload_n 2, 1) := by decide +kernel
theorem dX6_takesPart_73 : decode cX6_takesPart 73 = .ok (.bipush (-3), 2) := by decide +kernel
theorem dX6_takesPart_75 : decode cX6_takesPart 75 = .ok (.if_icmp .eq 21, 3) := by decide +kernel
theorem dX6_takesPart_78 : decode cX6_takesPart 78 = .ok (.iload_n 2, 1) := by decide +kernel
theorem dX6_takesPart_79 : decode cX6_takesPart 79 = .ok (.bipush 11, 2) := by decide +kernel
theorem dX6_takesPart_81 : decode cX6_takesPart 81 = .ok (.if_icmp .lt 9, 3) := by decide +kernel
theorem dX6_takesPart_84 : decode cX6_takesPart 84 = .ok (.iload_n 2, 1) := by decide +kernel
theorem dX6_takesPart_85 : decode cX6_takesPart 85 = .ok (.bipush 17, 2) := by decide +kernel
theorem dX6_takesPart_87 : decode cX6_takesPart 87 = .ok (.if_icmp .le 9, 3) := by decide +kernel
theorem dX6_takesPart_90 : decode cX6_takesPart 90 = .ok (.aload_n 0, 1) := by decide +kernel
theorem dX6_takesPart_91 : decode cX6_takesPart 91 = .ok (.iconst 1, 1) := by decide +kernel
theorem dX6_takesPart_92 : decode cX6_takesPart 92 = .ok (.invokevirtual 60, 3) := by decide +kernel
theorem dX6_takesPart_95 : decode cX6_takesPart 95 = .ok (.ireturn, 1) := by decide +kernel
theorem dX6_takesPart_96 : decode cX6_takesPart 96 = .ok (.iload_n 2, 1) := by decide +kernel
theorem dX6_takesPart_97 : decode cX6_takesPart 97 = .ok (.bipush (-3), 2) := by decide +kernel
theorem dX6_takesPart_99 : decode cX6_takesPart 99 = .ok (.if_icmp .ne 22, 3) := by decide +kernel
theorem dX6_takesPart_102 : decode cX6_takesPart 102 = .ok (.aload_n 0, 1) := by decide +kernel
theorem dX6_takesPart_103 : decode cX6_takesPart 103 = .ok (.getfield 18, 3) := by decide +kernel
theorem dX6_takesPart_106 : decode cX6_takesPart 106 = .ok (.getfield 63, 3) := by decide +kernel
theorem dX6_takesPart_109 : decode cX6_takesPart 109 = .ok (.sipush 9999, 3) := by decide +kernel
theorem dX6_takesPart_112 : decode cX6_takesPart 112 = .ok (.if_icmp .le 9, 3) := by decide +kernel
theorem dX6_takesPart_115 : decode cX6_takesPart 115 = .ok (.aload_n 0, 1) := by decide +kernel
theorem dX6_takesPart_116 : decode cX6_takesPart 116 = .ok (.iconst 2, 1) := by decide +kernel
theorem dX6_takesPart_117 : decode cX6_takesPart 117 = .ok (.invokevirtual 60, 3) := by decide +kernel
theorem dX6_takesPart_120 : decode cX6_takesPart 120 = .ok (.ireturn, 1) := by decide +kernel
theorem dX6_takesPart_121 : decode cX6_takesPart 121 = .ok (.aload_n 0, 1) := by decide +kernel
theorem dX6_takesPart_122 : decode cX6_takesPart 122 = .ok (.invokevirtual 194, 3) := by decide +kernel
theorem dX6_takesPart_125 : decode cX6_takesPart 125 = .ok (.ifCond .ne 5, 3) := by decide +kernel
theorem dX6_takesPart_128 : decode cX6_takesPart 128 = .ok (.iconst 0, 1) := by decide +kernel
theorem dX6_takesPart_129 : decode cX6_takesPart 129 = .ok (.ireturn, 1) := by decide +kernel
theorem dX6_takesPart_130 : decode cX6_takesPart 130 = .ok (.aload_n 0, 1) := by decide +kernel
theorem dX6_takesPart_131 : decode cX6_takesPart 131 = .ok (.getfield 25, 3) := by decide +kernel
theorem dX6_takesPart_134 : decode cX6_takesPart 134 = .ok (.getfield 152, 3) := by decide +kernel
theorem dX6_takesPart_137 : decode cX6_takesPart 137 = .ok (.iload_n 2, 1) := by decide +kernel
theorem dX6_takesPart_138 : decode cX6_takesPart 138 = .ok (.aload_n 0, 1) := by decide +kernel
theorem dX6_takesPart_139 : decode cX6_takesPart 139 = .ok (.getfield 18, 3) := by decide +kernel
theorem dX6_takesPart_142 : decode cX6_takesPart 142 = .ok (.getfield 63, 3) := by decide +kernel
theorem dX6_takesPart_145 : decode cX6_takesPart 145 = .ok (.invokevirtual 197, 3) := by decide +kernel
theorem dX6_takesPart_148 : decode cX6_takesPart 148 = .ok (.iconst 1, 1) := by decide +kernel
theorem dX6_takesPart_149 : decode cX6_takesPart 149 = .ok (.ireturn, 1) := by decide +kernel
theorem dX6_takesBinary_0 : decode cX6_takesBinary 0 = .ok (.iload_n 1, 1) := by decide +kernel
theorem dX6_takesBinary_1 : decode cX6_takesBinary 1 = .ok (.invokestatic 199, 3) := by decide +kernel
theorem dX6_takesBinary_4 : decode cX6_takesBinary 4 = .ok (.istore_n 2, 1) := by decide +kernel
theorem dX6_takesBinary_5 : decode cX6_takesBinary 5 = .ok (.aload_n 0, 1) := by decide +kernel
theorem dX6_takesBinary_6 : decode cX6_takesBinary 6 = .ok (.iload_n 2, 1) := by decide +kernel
theorem dX6_takesBinary_7 : decode cX6_takesBinary 7 = .ok (.iconst 1, 1) := by decide +kernel
theorem dX6_takesBinary_8 : decode cX6_takesBinary 8 = .ok (.iadd, 1) := by decide +kernel
theorem dX6_takesBinary_9 : decode cX6_takesBinary 9 = .ok (.invokevirtual 187, 3) := by decide +kernel
theorem dX6_takesBinary_12 : decode cX6_takesBinary 12 = .ok (.iload_n 2, 1) := by decide +kernel
theorem dX6_takesBinary_13 : decode cX6_takesBinary 13 = .ok (.bipush 35, 2) := by decide +kernel
theorem dX6_takesBinary_15 : decode cX6_takesBinary 15 = .ok (.invokestatic 199, 3) := by decide +kernel
theorem dX6_takesBinary_18 : decode cX6_takesBinary 18 = .ok (.if_icmp .ne 7, 3) := by decide +kernel
theorem dX6_takesBinary_21 : decode cX6_takesBinary 21 = .ok (.iconst 1, 1) := by decide +kernel
theorem dX6_takesBinary_22 : decode cX6_takesBinary 22 = .ok (.goto 4, 3) := by decide +kernel
theorem dX6_takesBinary_25 : decode cX6_takesBinary 25 = .ok (.iconst 0, 1) := by decide +kernel
theorem dX6_takesBinary_26 : decode cX6_takesBinary 26 = .ok (.istore_n 3, 1) := by decide +kernel
theorem dX6_takesBinary_27 : decode cX6_takesBinary 27 = .ok (.iload_n 3, 1) := by decide +kernel
theorem dX6_takesBinary_28 : decode cX6_takesBinary 28 = .ok (.ifCond .eq 34, 3) := by decide +kernel
theorem dX6_takesBinary_31 : decode cX6_takesBinary 31 = .ok (.aload_n 0, 1) := by decide +kernel
theorem dX6_takesBinary_32 : decode cX6_takesBinary 32 = .ok (.getfield 171, 3) := by decide +kernel
theorem dX6_takesBinary_35 : decode cX6_takesBinary 35 = .ok (.ifCond .le 27, 3) := by decide +kernel
theorem dX6_takesBinary_38 : decode cX6_takesBinary 38 = .ok (.aload_n 0, 1) := by decide +kernel
theorem dX6_takesBinary_39 : decode cX6_takesBinary 39 = .ok (.getfield 29, 3) := by decide +kernel
theorem dX6_takesBinary_42 : decode cX6_takesBinary 42 = .ok (.aload_n 0, 1) := by decide +kernel
theorem dX6_takesBinary_43 : decode cX6_takesBinary 43 = .ok (.getfield 171, 3) := by decide +kernel
theorem dX6_takesBinary_46 : decode cX6_takesBinary 46 = .ok (.iconst 1, 1) := by decide +kernel
theorem dX6_takesBinary_47 : decode cX6_takesBinary 47 = .ok (.isub, 1) := by decide +kernel
theorem dX6_takesBinary_48 : decode cX6_takesBinary 48 = .ok (.iaload, 1) := by decide +kernel
theorem dX6_takesBinary_49 : decode cX6_takesBinary 49 = .ok (.invokestatic 199, 3) := by decide +kernel
theorem dX6_takesBinary_52 : decode cX6_takesBinary 52 = .ok (.iload_n 2, 1) := by decide +kernel
theorem dX6_takesBinary_53 : decode cX6_takesBinary 53 = .ok (.if_icmp .ne 9, 3) := by decide +kernel
theorem dX6_takesBinary_56 : decode cX6_takesBinary 56 = .ok (.aload_n 0, 1) := by decide +kernel
theorem dX6_takesBinary_57 : decode cX6_takesBinary 57 = .ok (.iconst 1, 1) := by decide +kernel
theorem dX6_takesBinary_58 : decode cX6_takesBinary 58 = .ok (.invokevirtual 60, 3) := by decide +kernel
theorem dX6_takesBinary_61 : decode cX6_takesBinary 61 = .ok (.ireturn, 1) := by decide +kernel
theorem dX6_takesBinary_62 : decode cX6_takesBinary 62 = .ok (.aload_n 0, 1) := by decide +kernel
theorem dX6_takesBinary_63 : decode cX6_takesBinary 63 = .ok (.invokevirtual 194, 3) := by decide +kernel
theorem dX6_takesBinary_66 : decode cX6_takesBinary 66 = .ok (.ifCond .ne 5, 3) := by decide +kernel
theorem dX6_takesBinary_69 : decode cX6_takesBinary 69 = .ok (.iconst 0, 1) := by decide +kernel
theorem dX6_takesBinary_70 : decode cX6_takesBinary 70 = .ok (.ireturn, 1) := by decide +kernel
theorem dX6_takesBinary_71 : decode cX6_takesBinary 71 = .ok (.aload_n 0, 1) := by decide +kernel
theorem dX6_takesBinary_72 : decode cX6_takesBinary 72 = .ok (.iload_n 2, 1) := by decide +kernel
theorem dX6_takesBinary_73 : decode cX6_takesBinary 73 = .ok (.invokevirtual 187, 3) := by decide +kernel
theorem dX6_takesBinary_76 : decode cX6_takesBinary 76 = .ok (.aload_n 0, 1) := by decide +kernel
theorem dX6_takesBinary_77 : decode cX6_takesBinary 77 = .ok (.iload_n 1, 1) := by decide +kernel
theorem dX6_takesBinary_78 : decode cX6_takesBinary 78 = .ok (.invokevirtual 191, 3) := by decide +kernel
theorem dX6_takesBinary_81 : decode cX6_takesBinary 81 = .ok (.iconst 1, 1) := by decide +kernel
theorem dX6_takesBinary_82 : decode cX6_takesBinary 82 = .ok (.ireturn, 1) := by decide +kernel
theorem dX6_takesKnot_0 : decode cX6_takesKnot 0 = .ok (.aload_n 0, 1) := by decide +kernel
theorem dX6_takesKnot_1 : decode cX6_takesKnot 1 = .ok (.getfield 25, 3) := by decide +kernel
theorem dX6_takesKnot_4 : decode cX6_takesKnot 4 = .ok (.getfield 152, 3) := by decide +kernel
theorem dX6_takesKnot_7 : decode cX6_takesKnot 7 = .ok (.getfield 202, 3) := by decide +kernel
theorem dX6_takesKnot_10 : decode cX6_takesKnot 10 = .ok (.bipush 64, 2) := by decide +kernel
theorem dX6_takesKnot_12 : decode cX6_takesKnot 12 = .ok (.if_icmp .lt 9, 3) := by decide +kernel
theorem dX6_takesKnot_15 : decode cX6_takesKnot 15 = .ok (.aload_n 0, 1) := by decide +kernel
theorem dX6_takesKnot_16 : decode cX6_takesKnot 16 = .ok (.iconst 2, 1) := by decide +kernel
theorem dX6_takesKnot_17 : decode cX6_takesKnot 17 = .ok (.invokevirtual 60, 3) := by decide +kernel
theorem dX6_takesKnot_20 : decode cX6_takesKnot 20 = .ok (.ireturn, 1) := by decide +kernel
theorem dX6_takesKnot_21 : decode cX6_takesKnot 21 = .ok (.aload_n 0, 1) := by decide +kernel
theorem dX6_takesKnot_22 : decode cX6_takesKnot 22 = .ok (.getfield 25, 3) := by decide +kernel
theorem dX6_takesKnot_25 : decode cX6_takesKnot 25 = .ok (.getfield 152, 3) := by decide +kernel
theorem dX6_takesKnot_28 : decode cX6_takesKnot 28 = .ok (.dup, 1) := by decide +kernel
theorem dX6_takesKnot_29 : decode cX6_takesKnot 29 = .ok (.getfield 202, 3) := by decide +kernel
theorem dX6_takesKnot_32 : decode cX6_takesKnot 32 = .ok (.iconst 1, 1) := by decide +kernel
theorem dX6_takesKnot_33 : decode cX6_takesKnot 33 = .ok (.iadd, 1) := by decide +kernel
theorem dX6_takesKnot_34 : decode cX6_takesKnot 34 = .ok (.putfield 202, 3) := by decide +kernel
theorem dX6_takesKnot_37 : decode cX6_takesKnot 37 = .ok (.iconst 1, 1) := by decide +kernel
theorem dX6_takesKnot_38 : decode cX6_takesKnot 38 = .ok (.ireturn, 1) := by decide +kernel
theorem dX6_holdBack_0 : decode cX6_holdBack 0 = .ok (.aload_n 0, 1) := by decide +kernel
theorem dX6_holdBack_1 : decode cX6_holdBack 1 = .ok (.getfield 171, 3) := by decide +kernel
theorem dX6_holdBack_4 : decode cX6_holdBack 4 = .ok (.aload_n 0, 1) := by decide +kernel
theorem dX6_holdBack_5 : decode cX6_holdBack 5 = .ok (.getfield 29, 3) := by decide +kernel
theorem dX6_holdBack_8 : decode cX6_holdBack 8 = .ok (.arraylength, 1) := by decide +kernel
theorem dX6_holdBack_9 : decode cX6_holdBack 9 = .ok (.if_icmp .ge 23, 3) := by decide +kernel
theorem dX6_holdBack_12 : decode cX6_holdBack 12 = .ok (.aload_n 0, 1) := by decide +kernel
theorem dX6_holdBack_13 : decode cX6_holdBack 13 = .ok (.getfield 29, 3) := by decide +kernel
theorem dX6_holdBack_16 : decode cX6_holdBack 16 = .ok (.aload_n 0, 1) := by decide +kernel
theorem dX6_holdBack_17 : decode cX6_holdBack 17 = .ok (.getfield 171, 3) := by decide +kernel
theorem dX6_holdBack_20 : decode cX6_holdBack 20 = .ok (.iload_n 1, 1) := by decide +kernel
theorem dX6_holdBack_21 : decode cX6_holdBack 21 = .ok (.iastore, 1) := by decide +kernel
theorem dX6_holdBack_22 : decode cX6_holdBack 22 = .ok (.aload_n 0, 1) := by decide +kernel
theorem dX6_holdBack_23 : decode cX6_holdBack 23 = .ok (.dup, 1) := by decide +kernel
theorem dX6_holdBack_24 : decode cX6_holdBack 24 = .ok (.getfield 171, 3) := by decide +kernel
theorem dX6_holdBack_27 : decode cX6_holdBack 27 = .ok (.iconst 1, 1) := by decide +kernel
theorem dX6_holdBack_28 : decode cX6_holdBack 28 = .ok (.iadd, 1) := by decide +kernel
theorem dX6_holdBack_29 : decode cX6_holdBack 29 = .ok (.putfield 171, 3) := by decide +kernel
theorem dX6_holdBack_32 : decode cX6_holdBack 32 = .ok (.return_, 1) := by decide +kernel
theorem dX6_placeDownTo_0 : decode cX6_placeDownTo 0 = .ok (.aload_n 0, 1) := by decide +kernel
theorem dX6_placeDownTo_1 : decode cX6_placeDownTo 1 = .ok (.getfield 171, 3) := by decide +kernel
theorem dX6_placeDownTo_4 : decode cX6_placeDownTo 4 = .ok (.ifCond .le 54, 3) := by decide +kernel
theorem dX6_placeDownTo_7 : decode cX6_placeDownTo 7 = .ok (.aload_n 0, 1) := by decide +kernel
theorem dX6_placeDownTo_8 : decode cX6_placeDownTo 8 = .ok (.getfield 29, 3) := by decide +kernel
theorem dX6_placeDownTo_11 : decode cX6_placeDownTo 11 = .ok (.aload_n 0, 1) := by decide +kernel
theorem dX6_placeDownTo_12 : decode cX6_placeDownTo 12 = .ok (.getfield 171, 3) := by decide +kernel
theorem dX6_placeDownTo_15 : decode cX6_placeDownTo 15 = .ok (.iconst 1, 1) := by decide +kernel
theorem dX6_placeDownTo_16 : decode cX6_placeDownTo 16 = .ok (.isub, 1) := by decide +kernel
theorem dX6_placeDownTo_17 : decode cX6_placeDownTo 17 = .ok (.iaload, 1) := by decide +kernel
theorem dX6_placeDownTo_18 : decode cX6_placeDownTo 18 = .ok (.invokestatic 199, 3) := by decide +kernel
theorem dX6_placeDownTo_21 : decode cX6_placeDownTo 21 = .ok (.iload_n 1, 1) := by decide +kernel
theorem dX6_placeDownTo_22 : decode cX6_placeDownTo 22 = .ok (.if_icmp .lt 36, 3) := by decide +kernel
theorem dX6_placeDownTo_25 : decode cX6_placeDownTo 25 = .ok (.aload_n 0, 1) := by decide +kernel
theorem dX6_placeDownTo_26 : decode cX6_placeDownTo 26 = .ok (.dup, 1) := by decide +kernel
theorem dX6_placeDownTo_27 : decode cX6_placeDownTo 27 = .ok (.getfield 171, 3) := by decide +kernel
theorem dX6_placeDownTo_30 : decode cX6_placeDownTo 30 = .ok (.iconst 1, 1) := by decide +kernel
theorem dX6_placeDownTo_31 : decode cX6_placeDownTo 31 = .ok (.isub, 1) := by decide +kernel
theorem dX6_placeDownTo_32 : decode cX6_placeDownTo 32 = .ok (.putfield 171, 3) := by decide +kernel
theorem dX6_placeDownTo_35 : decode cX6_placeDownTo 35 = .ok (.aload_n 0, 1) := by decide +kernel
theorem dX6_placeDownTo_36 : decode cX6_placeDownTo 36 = .ok (.getfield 25, 3) := by decide +kernel
theorem dX6_placeDownTo_39 : decode cX6_placeDownTo 39 = .ok (.getfield 152, 3) := by decide +kernel
theorem dX6_placeDownTo_42 : decode cX6_placeDownTo 42 = .ok (.aload_n 0, 1) := by decide +kernel
theorem dX6_placeDownTo_43 : decode cX6_placeDownTo 43 = .ok (.getfield 29, 3) := by decide +kernel
theorem dX6_placeDownTo_46 : decode cX6_placeDownTo 46 = .ok (.aload_n 0, 1) := by decide +kernel
theorem dX6_placeDownTo_47 : decode cX6_placeDownTo 47 = .ok (.getfield 171, 3) := by decide +kernel
theorem dX6_placeDownTo_50 : decode cX6_placeDownTo 50 = .ok (.iaload, 1) := by decide +kernel
theorem dX6_placeDownTo_51 : decode cX6_placeDownTo 51 = .ok (.iconst 0, 1) := by decide +kernel
theorem dX6_placeDownTo_52 : decode cX6_placeDownTo 52 = .ok (.invokevirtual 197, 3) := by decide +kernel
theorem dX6_placeDownTo_55 : decode cX6_placeDownTo 55 = .ok (.goto (-55), 3) := by decide +kernel
theorem dX6_placeDownTo_58 : decode cX6_placeDownTo 58 = .ok (.return_, 1) := by decide +kernel
theorem dX6_isBinary_0 : decode cX6_isBinary 0 = .ok (.iload_n 0, 1) := by decide +kernel
theorem dX6_isBinary_1 : decode cX6_isBinary 1 = .ok (.bipush 18, 2) := by decide +kernel
theorem dX6_isBinary_3 : decode cX6_isBinary 3 = .ok (.if_icmp .eq 21, 3) := by decide +kernel
theorem dX6_isBinary_6 : decode cX6_isBinary 6 = .ok (.iload_n 0, 1) := by decide +kernel
theorem dX6_isBinary_7 : decode cX6_isBinary 7 = .ok (.bipush 19, 2) := by decide +kernel
theorem dX6_isBinary_9 : decode cX6_isBinary 9 = .ok (.if_icmp .eq 15, 3) := by decide +kernel
theorem dX6_isBinary_12 : decode cX6_isBinary 12 = .ok (.iload_n 0, 1) := by decide +kernel
theorem dX6_isBinary_13 : decode cX6_isBinary 13 = .ok (.bipush 33, 2) := by decide +kernel
theorem dX6_isBinary_15 : decode cX6_isBinary 15 = .ok (.if_icmp .lt 13, 3) := by decide +kernel
theorem dX6_isBinary_18 : decode cX6_isBinary 18 = .ok (.iload_n 0, 1) := by decide +kernel
theorem dX6_isBinary_19 : decode cX6_isBinary 19 = .ok (.bipush 42, 2) := by decide +kernel
theorem dX6_isBinary_21 : decode cX6_isBinary 21 = .ok (.if_icmp .gt 7, 3) := by decide +kernel
theorem dX6_isBinary_24 : decode cX6_isBinary 24 = .ok (.iconst 1, 1) := by decide +kernel
theorem dX6_isBinary_25 : decode cX6_isBinary 25 = .ok (.goto 4, 3) := by decide +kernel
theorem dX6_isBinary_28 : decode cX6_isBinary 28 = .ok (.iconst 0, 1) := by decide +kernel
theorem dX6_isBinary_29 : decode cX6_isBinary 29 = .ok (.ireturn, 1) := by decide +kernel
theorem dX6_levelOf_0 : decode cX6_levelOf 0 = .ok (.iload_n 0, 1) := by decide +kernel
theorem dX6_levelOf_1 : decode cX6_levelOf 1 = .ok (.tableswitch 128 18 42 #[117, 119, 121, 128, 128, 128, 128, 128, 128, 128, 128, 128, 128, 115, 128, 128, 128, 128, 128, 128, 128, 123, 123, 125, 125], 115) := by decide +kernel
theorem dX6_levelOf_116 : decode cX6_levelOf 116 = .ok (.iconst 0, 1) := by decide +kernel
theorem dX6_levelOf_117 : decode cX6_levelOf 117 = .ok (.ireturn, 1) := by decide +kernel
theorem dX6_levelOf_118 : decode cX6_levelOf 118 = .ok (.iconst 1, 1) := by decide +kernel
theorem dX6_levelOf_119 : decode cX6_levelOf 119 = .ok (.ireturn, 1) := by decide +kernel
theorem dX6_levelOf_120 : decode cX6_levelOf 120 = .ok (.iconst 2, 1) := by decide +kernel
theorem dX6_levelOf_121 : decode cX6_levelOf 121 = .ok (.ireturn, 1) := by decide +kernel
theorem dX6_levelOf_122 : decode cX6_levelOf 122 = .ok (.iconst 3, 1) := by decide +kernel
theorem dX6_levelOf_123 : decode cX6_levelOf 123 = .ok (.ireturn, 1) := by decide +kernel
theorem dX6_levelOf_124 : decode cX6_levelOf 124 = .ok (.iconst 5, 1) := by decide +kernel
theorem dX6_levelOf_125 : decode cX6_levelOf 125 = .ok (.ireturn, 1) := by decide +kernel
theorem dX6_levelOf_126 : decode cX6_levelOf 126 = .ok (.bipush 6, 2) := by decide +kernel
theorem dX6_levelOf_128 : decode cX6_levelOf 128 = .ok (.ireturn, 1) := by decide +kernel
theorem dX6_levelOf_129 : decode cX6_levelOf 129 = .ok (.iconst 4, 1) := by decide +kernel
theorem dX6_levelOf_130 : decode cX6_levelOf 130 = .ok (.ireturn, 1) := by decide +kernel
theorem dX7_init_0 : decode cX7_init 0 = .ok (.aload_n 0, 1) := by decide +kernel
theorem dX7_init_1 : decode cX7_init 1 = .ok (.invokespecial 3, 3) := by decide +kernel
theorem dX7_init_4 : decode cX7_init 4 = .ok (.aload_n 0, 1) := by decide +kernel
theorem dX7_init_5 : decode cX7_init 5 = .ok (.iconst 0, 1) := by decide +kernel
theorem dX7_init_6 : decode cX7_init 6 = .ok (.newarray .int, 2) := by decide +kernel
theorem dX7_init_8 : decode cX7_init 8 = .ok (.putfield 9, 3) := by decide +kernel
theorem dX7_init_11 : decode cX7_init 11 = .ok (.return_, 1) := by decide +kernel
theorem dX7_begin_0 : decode cX7_begin 0 = .ok (.aload_n 0, 1) := by decide +kernel
theorem dX7_begin_1 : decode cX7_begin 1 = .ok (.aload_n 1, 1) := by decide +kernel
theorem dX7_begin_2 : decode cX7_begin 2 = .ok (.putfield 9, 3) := by decide +kernel
theorem dX7_begin_5 : decode cX7_begin 5 = .ok (.aload_n 0, 1) := by decide +kernel
theorem dX7_begin_6 : decode cX7_begin 6 = .ok (.iload_n 2, 1) := by decide +kernel
theorem dX7_begin_7 : decode cX7_begin 7 = .ok (.aload_n 1, 1) := by decide +kernel
theorem dX7_begin_8 : decode cX7_begin 8 = .ok (.arraylength, 1) := by decide +kernel
theorem dX7_begin_9 : decode cX7_begin 9 = .ok (.invokestatic 15, 3) := by decide +kernel
theorem dX7_begin_12 : decode cX7_begin 12 = .ok (.putfield 21, 3) := by decide +kernel
theorem dX7_begin_15 : decode cX7_begin 15 = .ok (.aload_n 0, 1) := by decide +kernel
theorem dX7_begin_16 : decode cX7_begin 16 = .ok (.iconst 0, 1) := by decide +kernel
theorem dX7_begin_17 : decode cX7_begin 17 = .ok (.putfield 25, 3) := by decide +kernel
theorem dX7_begin_20 : decode cX7_begin 20 = .ok (.aload_n 0, 1) := by decide +kernel
theorem dX7_begin_21 : decode cX7_begin 21 = .ok (.invokevirtual 28, 3) := by decide +kernel
theorem dX7_begin_24 : decode cX7_begin 24 = .ok (.return_, 1) := by decide +kernel
theorem dX7_signAt_0 : decode cX7_signAt 0 = .ok (.iload_n 1, 1) := by decide +kernel
theorem dX7_signAt_1 : decode cX7_signAt 1 = .ok (.ifCond .lt 20, 3) := by decide +kernel
theorem dX7_signAt_4 : decode cX7_signAt 4 = .ok (.iload_n 1, 1) := by decide +kernel
theorem dX7_signAt_5 : decode cX7_signAt 5 = .ok (.aload_n 0, 1) := by decide +kernel
theorem dX7_signAt_6 : decode cX7_signAt 6 = .ok (.getfield 21, 3) := by decide +kernel
theorem dX7_signAt_9 : decode cX7_signAt 9 = .ok (.if_icmp .ge 12, 3) := by decide +kernel
theorem dX7_signAt_12 : decode cX7_signAt 12 = .ok (.aload_n 0, 1) := by decide +kernel
theorem dX7_signAt_13 : decode cX7_signAt 13 = .ok (.getfield 9, 3) := by decide +kernel
theorem dX7_signAt_16 : decode cX7_signAt 16 = .ok (.iload_n 1, 1) := by decide +kernel
theorem dX7_signAt_17 : decode cX7_signAt 17 = .ok (.iaload, 1) := by decide +kernel
theorem dX7_signAt_18 : decode cX7_signAt 18 = .ok (.goto 4, 3) := by decide +kernel
theorem dX7_signAt_21 : decode cX7_signAt 21 = .ok (.iconst (-1), 1) := by decide +kernel
theorem dX7_signAt_22 : decode cX7_signAt 22 = .ok (.ireturn, 1) := by decide +kernel
theorem dX7_step_0 : decode cX7_step 0 = .ok (.aload_n 0, 1) := by decide +kernel
theorem dX7_step_1 : decode cX7_step 1 = .ok (.getfield 25, 3) := by decide +kernel
theorem dX7_step_4 : decode cX7_step 4 = .ok (.aload_n 0, 1) := by decide +kernel
theorem dX7_step_5 : decode cX7_step 5 = .ok (.getfield 21, 3) := by decide +kernel
theorem dX7_step_8 : decode cX7_step 8 = .ok (.if_icmp .ge 44, 3) := by decide +kernel
theorem dX7_step_11 : decode cX7_step 11 = .ok (.aload_n 0, 1) := by decide +kernel
theorem dX7_step_12 : decode cX7_step 12 = .ok (.getfield 9, 3) := by decide +kernel
theorem dX7_step_15 : decode cX7_step 15 = .ok (.aload_n 0, 1) := by decide +kernel
theorem dX7_step_16 : decode cX7_step 16 = .ok (.getfield 25, 3) := by decide +kernel
theorem dX7_step_19 : decode cX7_step 19 = .ok (.iaload, 1) := by decide +kernel
theorem dX7_step_20 : decode cX7_step 20 = .ok (.bipush 10, 2) := by decide +kernel
theorem dX7_step_22 : decode cX7_step 22 = .ok (.if_icmp .eq 17, 3) := by decide +kernel
theorem dX7_step_25 : decode cX7_step 25 = .ok (.aload_n 0, 1) := by decide +kernel
theorem dX7_step_26 : decode cX7_step 26 = .ok (.getfield 9, 3) := by decide +kernel
theorem dX7_step_29 : decode cX7_step 29 = .ok (.aload_n 0, 1) := by decide +kernel
theorem dX7_step_30 : decode cX7_step 30 = .ok (.getfield 25, 3) := by decide +kernel
theorem dX7_step_33 : decode cX7_step 33 = .ok (.iaload, 1) := by decide +kernel
theorem dX7_step_34 : decode cX7_step 34 = .ok (.bipush 32, 2) := by decide +kernel
theorem dX7_step_36 : decode cX7_step 36 = .ok (.if_icmp .ne 16, 3) := by decide +kernel
theorem dX7_step_39 : decode cX7_step 39 = .ok (.aload_n 0, 1) := by decide +kernel
theorem dX7_step_40 : decode cX7_step 40 = .ok (.dup, 1) := by decide +kernel
theorem dX7_step_41 : decode cX7_step 41 = .ok (.getfield 25, 3) := by decide +kernel
theorem dX7_step_44 : decode cX7_step 44 = .ok (.iconst 1, 1) := by decide +kernel
theorem dX7_step_45 : decode cX7_step 45 = .ok (.iadd, 1) := by decide +kernel
theorem dX7_step_46 : decode cX7_step 46 = .ok (.putfield 25, 3) := by decide +kernel
theorem dX7_step_49 : decode cX7_step 49 = .ok (.goto (-49), 3) := by decide +kernel
theorem dX7_step_52 : decode cX7_step 52 = .ok (.aload_n 0, 1) := by decide +kernel
theorem dX7_step_53 : decode cX7_step 53 = .ok (.aload_n 0, 1) := by decide +kernel
theorem dX7_step_54 : decode cX7_step 54 = .ok (.getfield 25, 3) := by decide +kernel
theorem dX7_step_57 : decode cX7_step 57 = .ok (.putfield 31, 3) := by decide +kernel
theorem dX7_step_60 : decode cX7_step 60 = .ok (.aload_n 0, 1) := by decide +kernel
theorem dX7_step_61 : decode cX7_step 61 = .ok (.aload_n 0, 1) := by decide +kernel
theorem dX7_step_62 : decode cX7_step 62 = .ok (.getfield 25, 3) := by decide +kernel
theorem dX7_step_65 : decode cX7_step 65 = .ok (.invokevirtual 34, 3) := by decide +kernel
theorem dX7_step_68 : decode cX7_step 68 = .ok (.istore_n 1, 1) := by decide +kernel
theorem dX7_step_69 : decode cX7_step 69 = .ok (.iload_n 1, 1) := by decide +kernel
theorem dX7_step_70 : decode cX7_step 70 = .ok (.iconst (-1), 1) := by decide +kernel
theorem dX7_step_71 : decode cX7_step 71 = .ok (.if_icmp .ne 11, 3) := by decide +kernel
theorem dX7_step_74 : decode cX7_step 74 = .ok (.aload_n 0, 1) := by decide +kernel
theorem dX7_step_75 : decode cX7_step 75 = .ok (.iconst (-1), 1) := by decide +kernel
theorem dX7_step_76 : decode cX7_step 76 = .ok (.putfield 38, 3) := by decide +kernel
theorem dX7_step_79 : decode cX7_step 79 = .ok (.goto 73, 3) := by decide +kernel
theorem dX7_step_82 : decode cX7_step 82 = .ok (.iload_n 1, 1) := by decide +kernel
theorem dX7_step_83 : decode cX7_step 83 = .ok (.invokestatic 41, 3) := by decide +kernel
theorem dX7_step_86 : decode cX7_step 86 = .ok (.ifCond .eq 10, 3) := by decide +kernel
theorem dX7_step_89 : decode cX7_step 89 = .ok (.aload_n 0, 1) := by decide +kernel
theorem dX7_step_90 : decode cX7_step 90 = .ok (.invokevirtual 45, 3) := by decide +kernel
theorem dX7_step_93 : decode cX7_step 93 = .ok (.goto 59, 3) := by decide +kernel
theorem dX7_step_96 : decode cX7_step 96 = .ok (.iload_n 1, 1) := by decide +kernel
theorem dX7_step_97 : decode cX7_step 97 = .ok (.invokestatic 48, 3) := by decide +kernel
theorem dX7_step_100 : decode cX7_step 100 = .ok (.ifCond .eq 10, 3) := by decide +kernel
theorem dX7_step_103 : decode cX7_step 103 = .ok (.aload_n 0, 1) := by decide +kernel
theorem dX7_step_104 : decode cX7_step 104 = .ok (.invokevirtual 51, 3) := by decide +kernel
theorem dX7_step_107 : decode cX7_step 107 = .ok (.goto 45, 3) := by decide +kernel
theorem dX7_step_110 : decode cX7_step 110 = .ok (.aload_n 0, 1) := by decide +kernel
theorem dX7_step_111 : decode cX7_step 111 = .ok (.iload_n 1, 1) := by decide +kernel
theorem dX7_step_112 : decode cX7_step 112 = .ok (.aload_n 0, 1) := by decide +kernel
theorem dX7_step_113 : decode cX7_step 113 = .ok (.aload_n 0, 1) := by decide +kernel
theorem dX7_step_114 : decode cX7_step 114 = .ok (.getfield 25, 3) := by decide +kernel
theorem dX7_step_117 : decode cX7_step 117 = .ok (.iconst 1, 1) := by decide +kernel
theorem dX7_step_118 : decode cX7_step 118 = .ok (.iadd, 1) := by decide +kernel
theorem dX7_step_119 : decode cX7_step 119 = .ok (.invokevirtual 34, 3) := by decide +kernel
theorem dX7_step_122 : decode cX7_step 122 = .ok (.invokestatic 54, 3) := by decide +kernel
theorem dX7_step_125 : decode cX7_step 125 = .ok (.putfield 38, 3) := by decide +kernel
theorem dX7_step_128 : decode cX7_step 128 = .ok (.aload_n 0, 1) := by decide +kernel
theorem dX7_step_129 : decode cX7_step 129 = .ok (.dup, 1) := by decide +kernel
theorem dX7_step_130 : decode cX7_step 130 = .ok (.getfield 25, 3) := by decide +kernel
theorem dX7_step_133 : decode cX7_step 133 = .ok (.aload_n 0, 1) := by decide +kernel
theorem dX7_step_134 : decode cX7_step 134 = .ok (.getfield 38, 3) := by decide +kernel
theorem dX7_step_137 : decode cX7_step 137 = .ok (.invokestatic 57, 3) := by decide +kernel
theorem dX7_step_140 : decode cX7_step 140 = .ok (.ifCond .eq 7, 3) := by decide +kernel
theorem dX7_step_143 : decode cX7_step 143 = .ok (.iconst 2, 1) := by decide +kernel
theorem dX7_step_144 : decode cX7_step 144 = .ok (.goto 4, 3) := by decide +kernel
theorem dX7_step_147 : decode cX7_step 147 = .ok (.iconst 1, 1) := by decide +kernel
theorem dX7_step_148 : decode cX7_step 148 = .ok (.iadd, 1) := by decide +kernel
theorem dX7_step_149 : decode cX7_step 149 = .ok (.putfield 25, 3) := by decide +kernel
theorem dX7_step_152 : decode cX7_step 152 = .ok (.return_, 1) := by decide +kernel
theorem dX7_isLetter_0 : decode cX7_isLetter 0 = .ok (.iload_n 0, 1) := by decide +kernel
theorem dX7_isLetter_1 : decode cX7_isLetter 1 = .ok (.bipush 97, 2) := by decide +kernel
theorem dX7_isLetter_3 : decode cX7_isLetter 3 = .ok (.if_icmp .lt 13, 3) := by decide +kernel
theorem dX7_isLetter_6 : decode cX7_isLetter 6 = .ok (.iload_n 0, 1) := by decide +kernel
theorem dX7_isLetter_7 : decode cX7_isLetter 7 = .ok (.bipush 122, 2) := by decide +kernel
theorem dX7_isLetter_9 : decode cX7_isLetter 9 = .ok (.if_icmp .gt 7, 3) := by decide +kernel
theorem dX7_isLetter_12 : decode cX7_isLetter 12 = .ok (.iconst 1, 1) := by decide +kernel
theorem dX7_isLetter_13 : decode cX7_isLetter 13 = .ok (.goto 4, 3) := by decide +kernel
theorem dX7_isLetter_16 : decode cX7_isLetter 16 = .ok (.iconst 0, 1) := by decide +kernel
theorem dX7_isLetter_17 : decode cX7_isLetter 17 = .ok (.ireturn, 1) := by decide +kernel
theorem dX7_isDigit_0 : decode cX7_isDigit 0 = .ok (.iload_n 0, 1) := by decide +kernel
theorem dX7_isDigit_1 : decode cX7_isDigit 1 = .ok (.bipush 48, 2) := by decide +kernel
theorem dX7_isDigit_3 : decode cX7_isDigit 3 = .ok (.if_icmp .lt 13, 3) := by decide +kernel
theorem dX7_isDigit_6 : decode cX7_isDigit 6 = .ok (.iload_n 0, 1) := by decide +kernel
theorem dX7_isDigit_7 : decode cX7_isDigit 7 = .ok (.bipush 57, 2) := by decide +kernel
theorem dX7_isDigit_9 : decode cX7_isDigit 9 = .ok (.if_icmp .gt 7, 3) := by decide +kernel
theorem dX7_isDigit_12 : decode cX7_isDigit 12 = .ok (.iconst 1, 1) := by decide +kernel
theorem dX7_isDigit_13 : decode cX7_isDigit 13 = .ok (.goto 4, 3) := by decide +kernel
theorem dX7_isDigit_16 : decode cX7_isDigit 16 = .ok (.iconst 0, 1) := by decide +kernel
theorem dX7_isDigit_17 : decode cX7_isDigit 17 = .ok (.ireturn, 1) := by decide +kernel
theorem dX7_stepWord_0 : decode cX7_stepWord 0 = .ok (.aload_n 0, 1) := by decide +kernel
theorem dX7_stepWord_1 : decode cX7_stepWord 1 = .ok (.iconst 0, 1) := by decide +kernel
theorem dX7_stepWord_2 : decode cX7_stepWord 2 = .ok (.putfield 60, 3) := by decide +kernel
theorem dX7_stepWord_5 : decode cX7_stepWord 5 = .ok (.aload_n 0, 1) := by decide +kernel
theorem dX7_stepWord_6 : decode cX7_stepWord 6 = .ok (.getfield 25, 3) := by decide +kernel
theorem dX7_stepWord_9 : decode cX7_stepWord 9 = .ok (.aload_n 0, 1) := by decide +kernel
theorem dX7_stepWord_10 : decode cX7_stepWord 10 = .ok (.getfield 21, 3) := by decide +kernel
theorem dX7_stepWord_13 : decode cX7_stepWord 13 = .ok (.if_icmp .ge 74, 3) := by decide +kernel
theorem dX7_stepWord_16 : decode cX7_stepWord 16 = .ok (.aload_n 0, 1) := by decide +kernel
theorem dX7_stepWord_17 : decode cX7_stepWord 17 = .ok (.getfield 9, 3) := by decide +kernel
theorem dX7_stepWord_20 : decode cX7_stepWord 20 = .ok (.aload_n 0, 1) := by decide +kernel
theorem dX7_stepWord_21 : decode cX7_stepWord 21 = .ok (.getfield 25, 3) := by decide +kernel
theorem dX7_stepWord_24 : decode cX7_stepWord 24 = .ok (.iaload, 1) := by decide +kernel
theorem dX7_stepWord_25 : decode cX7_stepWord 25 = .ok (.invokestatic 41, 3) := by decide +kernel
theorem dX7_stepWord_28 : decode cX7_stepWord 28 = .ok (.ifCond .eq 59, 3) := by decide +kernel
theorem dX7_stepWord_31 : decode cX7_stepWord 31 = .ok (.iconst 5, 1) := by decide +kernel
theorem dX7_stepWord_32 : decode cX7_stepWord 32 = .ok (.aload_n 0, 1) := by decide +kernel
theorem dX7_stepWord_33 : decode cX7_stepWord 33 = .ok (.getfield 25, 3) := by decide +kernel
theorem dX7_stepWord_36 : decode cX7_stepWord 36 = .ok (.aload_n 0, 1) := by decide +kernel
theorem dX7_stepWord_37 : decode cX7_stepWord 37 = .ok (.getfield 31, 3) := by decide +kernel
theorem dX7_stepWord_40 : decode cX7_stepWord 40 = .ok (.isub, 1) := by decide +kernel
theorem dX7_stepWord_41 : decode cX7_stepWord 41 = .ok (.isub, 1) := by decide +kernel
theorem dX7_stepWord_42 : decode cX7_stepWord 42 = .ok (.istore_n 1, 1) := by decide +kernel
theorem dX7_stepWord_43 : decode cX7_stepWord 43 = .ok (.iload_n 1, 1) := by decide +kernel
theorem dX7_stepWord_44 : decode cX7_stepWord 44 = .ok (.ifCond .lt 30, 3) := by decide +kernel
theorem dX7_stepWord_47 : decode cX7_stepWord 47 = .ok (.aload_n 0, 1) := by decide +kernel
theorem dX7_stepWord_48 : decode cX7_stepWord 48 = .ok (.dup, 1) := by decide +kernel
theorem dX7_stepWord_49 : decode cX7_stepWord 49 = .ok (.getfield 60, 3) := by decide +kernel
theorem dX7_stepWord_52 : decode cX7_stepWord 52 = .ok (.aload_n 0, 1) := by decide +kernel
theorem dX7_stepWord_53 : decode cX7_stepWord 53 = .ok (.getfield 9, 3) := by decide +kernel
theorem dX7_stepWord_56 : decode cX7_stepWord 56 = .ok (.aload_n 0, 1) := by decide +kernel
theorem dX7_stepWord_57 : decode cX7_stepWord 57 = .ok (.getfield 25, 3) := by decide +kernel
theorem dX7_stepWord_60 : decode cX7_stepWord 60 = .ok (.iaload, 1) := by decide +kernel
theorem dX7_stepWord_61 : decode cX7_stepWord 61 = .ok (.bipush 97, 2) := by decide +kernel
theorem dX7_stepWord_63 : decode cX7_stepWord 63 = .ok (.isub, 1) := by decide +kernel
theorem dX7_stepWord_64 : decode cX7_stepWord 64 = .ok (.iconst 1, 1) := by decide +kernel
theorem dX7_stepWord_65 : decode cX7_stepWord 65 = .ok (.iadd, 1) := by decide +kernel
theorem dX7_stepWord_66 : decode cX7_stepWord 66 = .ok (.iconst 5, 1) := by decide +kernel
theorem dX7_stepWord_67 : decode cX7_stepWord 67 = .ok (.iload_n 1, 1) := by decide +kernel
theorem dX7_stepWord_68 : decode cX7_stepWord 68 = .ok (.imul, 1) := by decide +kernel
theorem dX7_stepWord_69 : decode cX7_stepWord 69 = .ok (.ishl, 1) := by decide +kernel
theorem dX7_stepWord_70 : decode cX7_stepWord 70 = .ok (.ior, 1) := by decide +kernel
theorem dX7_stepWord_71 : decode cX7_stepWord 71 = .ok (.putfield 60, 3) := by decide +kernel
theorem dX7_stepWord_74 : decode cX7_stepWord 74 = .ok (.aload_n 0, 1) := by decide +kernel
theorem dX7_stepWord_75 : decode cX7_stepWord 75 = .ok (.dup, 1) := by decide +kernel
theorem dX7_stepWord_76 : decode cX7_stepWord 76 = .ok (.getfield 25, 3) := by decide +kernel
theorem dX7_stepWord_79 : decode cX7_stepWord 79 = .ok (.iconst 1, 1) := by decide +kernel
theorem dX7_stepWord_80 : decode cX7_stepWord 80 = .ok (.iadd, 1) := by decide +kernel
theorem dX7_stepWord_81 : decode cX7_stepWord 81 = .ok (.putfield 25, 3) := by decide +kernel
theorem dX7_stepWord_84 : decode cX7_stepWord 84 = .ok (.goto (-79), 3) := by decide +kernel
theorem dX7_stepWord_87 : decode cX7_stepWord 87 = .ok (.aload_n 0, 1) := by decide +kernel
theorem dX7_stepWord_88 : decode cX7_stepWord 88 = .ok (.aload_n 0, 1) := by decide +kernel
theorem dX7_stepWord_89 : decode cX7_stepWord 89 = .ok (.getfield 25, 3) := by decide +kernel
theorem dX7_stepWord_92 : decode cX7_stepWord 92 = .ok (.aload_n 0, 1) := by decide +kernel
theorem dX7_stepWord_93 : decode cX7_stepWord 93 = .ok (.getfield 31, 3) := by decide +kernel
theorem dX7_stepWord_96 : decode cX7_stepWord 96 = .ok (.isub, 1) := by decide +kernel
theorem dX7_stepWord_97 : decode cX7_stepWord 97 = .ok (.bipush 6, 2) := by decide +kernel
theorem dX7_stepWord_99 : decode cX7_stepWord 99 = .ok (.if_icmp .le 8, 3) := by decide +kernel
theorem dX7_stepWord_102 : decode cX7_stepWord 102 = .ok (.bipush (-2), 2) := by decide +kernel
theorem dX7_stepWord_104 : decode cX7_stepWord 104 = .ok (.goto 10, 3) := by decide +kernel
theorem dX7_stepWord_107 : decode cX7_stepWord 107 = .ok (.aload_n 0, 1) := by decide +kernel
theorem dX7_stepWord_108 : decode cX7_stepWord 108 = .ok (.getfield 60, 3) := by decide +kernel
theorem dX7_stepWord_111 : decode cX7_stepWord 111 = .ok (.invokestatic 63, 3) := by decide +kernel
theorem dX7_stepWord_114 : decode cX7_stepWord 114 = .ok (.putfield 38, 3) := by decide +kernel
theorem dX7_stepWord_117 : decode cX7_stepWord 117 = .ok (.return_, 1) := by decide +kernel
theorem dX7_wordKind_0 : decode cX7_wordKind 0 = .ok (.iconst 0, 1) := by decide +kernel
theorem dX7_wordKind_1 : decode cX7_wordKind 1 = .ok (.istore_n 1, 1) := by decide +kernel
theorem dX7_wordKind_2 : decode cX7_wordKind 2 = .ok (.iload_n 1, 1) := by decide +kernel
theorem dX7_wordKind_3 : decode cX7_wordKind 3 = .ok (.getstatic 66, 3) := by decide +kernel
theorem dX7_wordKind_6 : decode cX7_wordKind 6 = .ok (.arraylength, 1) := by decide +kernel
theorem dX7_wordKind_7 : decode cX7_wordKind 7 = .ok (.if_icmp .ge 20, 3) := by decide +kernel
theorem dX7_wordKind_10 : decode cX7_wordKind 10 = .ok (.getstatic 66, 3) := by decide +kernel
theorem dX7_wordKind_13 : decode cX7_wordKind 13 = .ok (.iload_n 1, 1) := by decide +kernel
theorem dX7_wordKind_14 : decode cX7_wordKind 14 = .ok (.iaload, 1) := by decide +kernel
theorem dX7_wordKind_15 : decode cX7_wordKind 15 = .ok (.iload_n 0, 1) := by decide +kernel
theorem dX7_wordKind_16 : decode cX7_wordKind 16 = .ok (.if_icmp .ne 5, 3) := by decide +kernel
theorem dX7_wordKind_19 : decode cX7_wordKind 19 = .ok (.iload_n 1, 1) := by decide +kernel
theorem dX7_wordKind_20 : decode cX7_wordKind 20 = .ok (.ireturn, 1) := by decide +kernel
theorem dX7_wordKind_21 : decode cX7_wordKind 21 = .ok (.iinc 1 1, 3) := by decide +kernel
theorem dX7_wordKind_24 : decode cX7_wordKind 24 = .ok (.goto (-22), 3) := by decide +kernel
theorem dX7_wordKind_27 : decode cX7_wordKind 27 = .ok (.bipush (-4), 2) := by decide +kernel
theorem dX7_wordKind_29 : decode cX7_wordKind 29 = .ok (.ireturn, 1) := by decide +kernel
theorem dX7_stepNumber_0 : decode cX7_stepNumber 0 = .ok (.aload_n 0, 1) := by decide +kernel
theorem dX7_stepNumber_1 : decode cX7_stepNumber 1 = .ok (.iconst 0, 1) := by decide +kernel
theorem dX7_stepNumber_2 : decode cX7_stepNumber 2 = .ok (.putfield 60, 3) := by decide +kernel
theorem dX7_stepNumber_5 : decode cX7_stepNumber 5 = .ok (.aload_n 0, 1) := by decide +kernel
theorem dX7_stepNumber_6 : decode cX7_stepNumber 6 = .ok (.getfield 25, 3) := by decide +kernel
theorem dX7_stepNumber_9 : decode cX7_stepNumber 9 = .ok (.aload_n 0, 1) := by decide +kernel
theorem dX7_stepNumber_10 : decode cX7_stepNumber 10 = .ok (.getfield 21, 3) := by decide +kernel
theorem dX7_stepNumber_13 : decode cX7_stepNumber 13 = .ok (.if_icmp .ge 60, 3) := by decide +kernel
theorem dX7_stepNumber_16 : decode cX7_stepNumber 16 = .ok (.aload_n 0, 1) := by decide +kernel
theorem dX7_stepNumber_17 : decode cX7_stepNumber 17 = .ok (.getfield 9, 3) := by decide +kernel
theorem dX7_stepNumber_20 : decode cX7_stepNumber 20 = .ok (.aload_n 0, 1) := by decide +kernel
theorem dX7_stepNumber_21 : decode cX7_stepNumber 21 = .ok (.getfield 25, 3) := by decide +kernel
theorem dX7_stepNumber_24 : decode cX7_stepNumber 24 = .ok (.iaload, 1) := by decide +kernel
theorem dX7_stepNumber_25 : decode cX7_stepNumber 25 = .ok (.invokestatic 48, 3) := by decide +kernel
theorem dX7_stepNumber_28 : decode cX7_stepNumber 28 = .ok (.ifCond .eq 45, 3) := by decide +kernel
theorem dX7_stepNumber_31 : decode cX7_stepNumber 31 = .ok (.aload_n 0, 1) := by decide +kernel
theorem dX7_stepNumber_32 : decode cX7_stepNumber 32 = .ok (.ldc 69, 2) := by decide +kernel
theorem dX7_stepNumber_34 : decode cX7_stepNumber 34 = .ok (.aload_n 0, 1) := by decide +kernel
theorem dX7_stepNumber_35 : decode cX7_stepNumber 35 = .ok (.getfield 60, 3) := by decide +kernel
theorem dX7_stepNumber_38 : decode cX7_stepNumber 38 = .ok (.bipush 10, 2) := by decide +kernel
theorem dX7_stepNumber_40 : decode cX7_stepNumber 40 = .ok (.imul, 1) := by decide +kernel
theorem dX7_stepNumber_41 : decode cX7_stepNumber 41 = .ok (.aload_n 0, 1) := by decide +kernel
theorem dX7_stepNumber_42 : decode cX7_stepNumber 42 = .ok (.getfield 9, 3) := by decide +kernel
theorem dX7_stepNumber_45 : decode cX7_stepNumber 45 = .ok (.aload_n 0, 1) := by decide +kernel
theorem dX7_stepNumber_46 : decode cX7_stepNumber 46 = .ok (.getfield 25, 3) := by decide +kernel
theorem dX7_stepNumber_49 : decode cX7_stepNumber 49 = .ok (.iaload, 1) := by decide +kernel
theorem dX7_stepNumber_50 : decode cX7_stepNumber 50 = .ok (.iadd, 1) := by decide +kernel
theorem dX7_stepNumber_51 : decode cX7_stepNumber 51 = .ok (.bipush 48, 2) := by decide +kernel
theorem dX7_stepNumber_53 : decode cX7_stepNumber 53 = .ok (.isub, 1) := by decide +kernel
theorem dX7_stepNumber_54 : decode cX7_stepNumber 54 = .ok (.invokestatic 15, 3) := by decide +kernel
theorem dX7_stepNumber_57 : decode cX7_stepNumber 57 = .ok (.putfield 60, 3) := by decide +kernel
theorem dX7_stepNumber_60 : decode cX7_stepNumber 60 = .ok (.aload_n 0, 1) := by decide +kernel
theorem dX7_stepNumber_61 : decode cX7_stepNumber 61 = .ok (.dup, 1) := by decide +kernel
theorem dX7_stepNumber_62 : decode cX7_stepNumber 62 = .ok (.getfield 25, 3) := by decide +kernel
theorem dX7_stepNumber_65 : decode cX7_stepNumber 65 = .ok (.iconst 1, 1) := by decide +kernel
theorem dX7_stepNumber_66 : decode cX7_stepNumber 66 = .ok (.iadd, 1) := by decide +kernel
theorem dX7_stepNumber_67 : decode cX7_stepNumber 67 = .ok (.putfield 25, 3) := by decide +kernel
theorem dX7_stepNumber_70 : decode cX7_stepNumber 70 = .ok (.goto (-65), 3) := by decide +kernel
theorem dX7_stepNumber_73 : decode cX7_stepNumber 73 = .ok (.aload_n 0, 1) := by decide +kernel
theorem dX7_stepNumber_74 : decode cX7_stepNumber 74 = .ok (.bipush (-3), 2) := by decide +kernel
theorem dX7_stepNumber_76 : decode cX7_stepNumber 76 = .ok (.putfield 38, 3) := by decide +kernel
theorem dX7_stepNumber_79 : decode cX7_stepNumber 79 = .ok (.return_, 1) := by decide +kernel
theorem dX7_isTwoSigns_0 : decode cX7_isTwoSigns 0 = .ok (.iload_n 0, 1) := by decide +kernel
theorem dX7_isTwoSigns_1 : decode cX7_isTwoSigns 1 = .ok (.bipush 34, 2) := by decide +kernel
theorem dX7_isTwoSigns_3 : decode cX7_isTwoSigns 3 = .ok (.if_icmp .eq 15, 3) := by decide +kernel
theorem dX7_isTwoSigns_6 : decode cX7_isTwoSigns 6 = .ok (.iload_n 0, 1) := by decide +kernel
theorem dX7_isTwoSigns_7 : decode cX7_isTwoSigns 7 = .ok (.bipush 36, 2) := by decide +kernel
theorem dX7_isTwoSigns_9 : decode cX7_isTwoSigns 9 = .ok (.if_icmp .eq 9, 3) := by decide +kernel
theorem dX7_isTwoSigns_12 : decode cX7_isTwoSigns 12 = .ok (.iload_n 0, 1) := by decide +kernel
theorem dX7_isTwoSigns_13 : decode cX7_isTwoSigns 13 = .ok (.bipush 37, 2) := by decide +kernel
theorem dX7_isTwoSigns_15 : decode cX7_isTwoSigns 15 = .ok (.if_icmp .ne 7, 3) := by decide +kernel
theorem dX7_isTwoSigns_18 : decode cX7_isTwoSigns 18 = .ok (.iconst 1, 1) := by decide +kernel
theorem dX7_isTwoSigns_19 : decode cX7_isTwoSigns 19 = .ok (.goto 4, 3) := by decide +kernel
theorem dX7_isTwoSigns_22 : decode cX7_isTwoSigns 22 = .ok (.iconst 0, 1) := by decide +kernel
theorem dX7_isTwoSigns_23 : decode cX7_isTwoSigns 23 = .ok (.ireturn, 1) := by decide +kernel
theorem dX7_signKind_0 : decode cX7_signKind 0 = .ok (.iload_n 0, 1) := by decide +kernel
theorem dX7_signKind_1 : decode cX7_signKind 1 = .ok (.tableswitch 170 40 62 #[110, 113, 164, 158, 170, 161, 170, 167, 170, 170, 170, 170, 170, 170, 170, 170, 170, 170, 170, 107, 116, 141, 144], 107) := by decide +kernel
theorem dX7_signKind_108 : decode cX7_signKind 108 = .ok (.bipush 30, 2) := by decide +kernel
theorem dX7_signKind_110 : decode cX7_signKind 110 = .ok (.ireturn, 1) := by decide +kernel
theorem dX7_signKind_111 : decode cX7_signKind 111 = .ok (.bipush 31, 2) := by decide +kernel
theorem dX7_signKind_113 : decode cX7_signKind 113 = .ok (.ireturn, 1) := by decide +kernel
theorem dX7_signKind_114 : decode cX7_signKind 114 = .ok (.bipush 32, 2) := by decide +kernel
theorem dX7_signKind_116 : decode cX7_signKind 116 = .ok (.ireturn, 1) := by decide +kernel
theorem dX7_signKind_117 : decode cX7_signKind 117 = .ok (.iload_n 1, 1) := by decide +kernel
theorem dX7_signKind_118 : decode cX7_signKind 118 = .ok (.bipush 61, 2) := by decide +kernel
theorem dX7_signKind_120 : decode cX7_signKind 120 = .ok (.if_icmp .ne 8, 3) := by decide +kernel
theorem dX7_signKind_123 : decode cX7_signKind 123 = .ok (.bipush 34, 2) := by decide +kernel
theorem dX7_signKind_125 : decode cX7_signKind 125 = .ok (.goto 16, 3) := by decide +kernel
theorem dX7_signKind_128 : decode cX7_signKind 128 = .ok (.iload_n 1, 1) := by decide +kernel
theorem dX7_signKind_129 : decode cX7_signKind 129 = .ok (.bipush 62, 2) := by decide +kernel
theorem dX7_signKind_131 : decode cX7_signKind 131 = .ok (.if_icmp .ne 8, 3) := by decide +kernel
theorem dX7_signKind_134 : decode cX7_signKind 134 = .ok (.bipush 36, 2) := by decide +kernel
theorem dX7_signKind_136 : decode cX7_signKind 136 = .ok (.goto 5, 3) := by decide +kernel
theorem dX7_signKind_139 : decode cX7_signKind 139 = .ok (.bipush 33, 2) := by decide +kernel
theorem dX7_signKind_141 : decode cX7_signKind 141 = .ok (.ireturn, 1) := by decide +kernel
theorem dX7_signKind_142 : decode cX7_signKind 142 = .ok (.bipush 35, 2) := by decide +kernel
theorem dX7_signKind_144 : decode cX7_signKind 144 = .ok (.ireturn, 1) := by decide +kernel
theorem dX7_signKind_145 : decode cX7_signKind 145 = .ok (.iload_n 1, 1) := by decide +kernel
theorem dX7_signKind_146 : decode cX7_signKind 146 = .ok (.bipush 61, 2) := by decide +kernel
theorem dX7_signKind_148 : decode cX7_signKind 148 = .ok (.if_icmp .ne 8, 3) := by decide +kernel
theorem dX7_signKind_151 : decode cX7_signKind 151 = .ok (.bipush 37, 2) := by decide +kernel
theorem dX7_signKind_153 : decode cX7_signKind 153 = .ok (.goto 5, 3) := by decide +kernel
theorem dX7_signKind_156 : decode cX7_signKind 156 = .ok (.bipush 38, 2) := by decide +kernel
theorem dX7_signKind_158 : decode cX7_signKind 158 = .ok (.ireturn, 1) := by decide +kernel
theorem dX7_signKind_159 : decode cX7_signKind 159 = .ok (.bipush 39, 2) := by decide +kernel
theorem dX7_signKind_161 : decode cX7_signKind 161 = .ok (.ireturn, 1) := by decide +kernel
theorem dX7_signKind_162 : decode cX7_signKind 162 = .ok (.bipush 40, 2) := by decide +kernel
theorem dX7_signKind_164 : decode cX7_signKind 164 = .ok (.ireturn, 1) := by decide +kernel
theorem dX7_signKind_165 : decode cX7_signKind 165 = .ok (.bipush 41, 2) := by decide +kernel
theorem dX7_signKind_167 : decode cX7_signKind 167 = .ok (.ireturn, 1) := by decide +kernel
theorem dX7_signKind_168 : decode cX7_signKind 168 = .ok (.bipush 42, 2) := by decide +kernel
theorem dX7_signKind_170 : decode cX7_signKind 170 = .ok (.ireturn, 1) := by decide +kernel
theorem dX7_signKind_171 : decode cX7_signKind 171 = .ok (.bipush (-2), 2) := by decide +kernel
theorem dX7_signKind_173 : decode cX7_signKind 173 = .ok (.ireturn, 1) := by decide +kernel
theorem dX8_init_0 : decode cX8_init 0 = .ok (.aload_n 0, 1) := by decide +kernel
theorem dX8_init_1 : decode cX8_init 1 = .ok (.invokespecial 3, 3) := by decide +kernel
theorem dX8_init_4 : decode cX8_init 4 = .ok (.aload_n 0, 1) := by decide +kernel
theorem dX8_init_5 : decode cX8_init 5 = .ok (.bipush 6, 2) := by decide +kernel
theorem dX8_init_7 : decode cX8_init 7 = .ok (.newarray .int, 2) := by decide +kernel
theorem dX8_init_9 : decode cX8_init 9 = .ok (.putfield 9, 3) := by decide +kernel
theorem dX8_init_12 : decode cX8_init 12 = .ok (.aload_n 0, 1) := by decide +kernel
theorem dX8_init_13 : decode cX8_init 13 = .ok (.bipush 6, 2) := by decide +kernel
theorem dX8_init_15 : decode cX8_init 15 = .ok (.newarray .int, 2) := by decide +kernel
theorem dX8_init_17 : decode cX8_init 17 = .ok (.putfield 15, 3) := by decide +kernel
theorem dX8_init_20 : decode cX8_init 20 = .ok (.aload_n 0, 1) := by decide +kernel
theorem dX8_init_21 : decode cX8_init 21 = .ok (.bipush 6, 2) := by decide +kernel
theorem dX8_init_23 : decode cX8_init 23 = .ok (.newarray .long, 2) := by decide +kernel
theorem dX8_init_25 : decode cX8_init 25 = .ok (.putfield 18, 3) := by decide +kernel
theorem dX8_init_28 : decode cX8_init 28 = .ok (.aload_n 0, 1) := by decide +kernel
theorem dX8_init_29 : decode cX8_init 29 = .ok (.bipush 6, 2) := by decide +kernel
theorem dX8_init_31 : decode cX8_init 31 = .ok (.newarray .int, 2) := by decide +kernel
theorem dX8_init_33 : decode cX8_init 33 = .ok (.putfield 22, 3) := by decide +kernel
theorem dX8_init_36 : decode cX8_init 36 = .ok (.aload_n 0, 1) := by decide +kernel
theorem dX8_init_37 : decode cX8_init 37 = .ok (.new 25, 3) := by decide +kernel
theorem dX8_init_40 : decode cX8_init 40 = .ok (.dup, 1) := by decide +kernel
theorem dX8_init_41 : decode cX8_init 41 = .ok (.bipush 12, 2) := by decide +kernel
theorem dX8_init_43 : decode cX8_init 43 = .ok (.invokespecial 27, 3) := by decide +kernel
theorem dX8_init_46 : decode cX8_init 46 = .ok (.putfield 30, 3) := by decide +kernel
theorem dX8_init_49 : decode cX8_init 49 = .ok (.aload_n 0, 1) := by decide +kernel
theorem dX8_init_50 : decode cX8_init 50 = .ok (.new 25, 3) := by decide +kernel
theorem dX8_init_53 : decode cX8_init 53 = .ok (.dup, 1) := by decide +kernel
theorem dX8_init_54 : decode cX8_init 54 = .ok (.bipush 8, 2) := by decide +kernel
theorem dX8_init_56 : decode cX8_init 56 = .ok (.invokespecial 27, 3) := by decide +kernel
theorem dX8_init_59 : decode cX8_init 59 = .ok (.putfield 34, 3) := by decide +kernel
theorem dX8_init_62 : decode cX8_init 62 = .ok (.aload_n 0, 1) := by decide +kernel
theorem dX8_init_63 : decode cX8_init 63 = .ok (.new 37, 3) := by decide +kernel
theorem dX8_init_66 : decode cX8_init 66 = .ok (.dup, 1) := by decide +kernel
theorem dX8_init_67 : decode cX8_init 67 = .ok (.invokespecial 39, 3) := by decide +kernel
theorem dX8_init_70 : decode cX8_init 70 = .ok (.putfield 40, 3) := by decide +kernel
theorem dX8_init_73 : decode cX8_init 73 = .ok (.return_, 1) := by decide +kernel
theorem dX8_forget_0 : decode cX8_forget 0 = .ok (.aload_n 0, 1) := by decide +kernel
theorem dX8_forget_1 : decode cX8_forget 1 = .ok (.iconst 0, 1) := by decide +kernel
theorem dX8_forget_2 : decode cX8_forget 2 = .ok (.putfield 44, 3) := by decide +kernel
theorem dX8_forget_5 : decode cX8_forget 5 = .ok (.aload_n 0, 1) := by decide +kernel
theorem dX8_forget_6 : decode cX8_forget 6 = .ok (.getfield 18, 3) := by decide +kernel
theorem dX8_forget_9 : decode cX8_forget 9 = .ok (.lconst 0, 1) := by decide +kernel
theorem dX8_forget_10 : decode cX8_forget 10 = .ok (.invokestatic 48, 3) := by decide +kernel
theorem dX8_forget_13 : decode cX8_forget 13 = .ok (.aload_n 0, 1) := by decide +kernel
theorem dX8_forget_14 : decode cX8_forget 14 = .ok (.getfield 22, 3) := by decide +kernel
theorem dX8_forget_17 : decode cX8_forget 17 = .ok (.iconst 0, 1) := by decide +kernel
theorem dX8_forget_18 : decode cX8_forget 18 = .ok (.invokestatic 54, 3) := by decide +kernel
theorem dX8_forget_21 : decode cX8_forget 21 = .ok (.aload_n 0, 1) := by decide +kernel
theorem dX8_forget_22 : decode cX8_forget 22 = .ok (.iconst 0, 1) := by decide +kernel
theorem dX8_forget_23 : decode cX8_forget 23 = .ok (.putfield 57, 3) := by decide +kernel
theorem dX8_forget_26 : decode cX8_forget 26 = .ok (.aload_n 0, 1) := by decide +kernel
theorem dX8_forget_27 : decode cX8_forget 27 = .ok (.iconst 0, 1) := by decide +kernel
theorem dX8_forget_28 : decode cX8_forget 28 = .ok (.putfield 60, 3) := by decide +kernel
theorem dX8_forget_31 : decode cX8_forget 31 = .ok (.aload_n 0, 1) := by decide +kernel
theorem dX8_forget_32 : decode cX8_forget 32 = .ok (.getfield 30, 3) := by decide +kernel
theorem dX8_forget_35 : decode cX8_forget 35 = .ok (.iconst 0, 1) := by decide +kernel
theorem dX8_forget_36 : decode cX8_forget 36 = .ok (.putfield 63, 3) := by decide +kernel
theorem dX8_forget_39 : decode cX8_forget 39 = .ok (.aload_n 0, 1) := by decide +kernel
theorem dX8_forget_40 : decode cX8_forget 40 = .ok (.getfield 34, 3) := by decide +kernel
theorem dX8_forget_43 : decode cX8_forget 43 = .ok (.iconst 0, 1) := by decide +kernel
theorem dX8_forget_44 : decode cX8_forget 44 = .ok (.putfield 63, 3) := by decide +kernel
theorem dX8_forget_47 : decode cX8_forget 47 = .ok (.aload_n 0, 1) := by decide +kernel
theorem dX8_forget_48 : decode cX8_forget 48 = .ok (.getfield 40, 3) := by decide +kernel
theorem dX8_forget_51 : decode cX8_forget 51 = .ok (.invokevirtual 66, 3) := by decide +kernel
theorem dX8_forget_54 : decode cX8_forget 54 = .ok (.aload_n 0, 1) := by decide +kernel
theorem dX8_forget_55 : decode cX8_forget 55 = .ok (.iconst 0, 1) := by decide +kernel
theorem dX8_forget_56 : decode cX8_forget 56 = .ok (.putfield 69, 3) := by decide +kernel
theorem dX8_forget_59 : decode cX8_forget 59 = .ok (.aload_n 0, 1) := by decide +kernel
theorem dX8_forget_60 : decode cX8_forget 60 = .ok (.iconst 0, 1) := by decide +kernel
theorem dX8_forget_61 : decode cX8_forget 61 = .ok (.putfield 72, 3) := by decide +kernel
theorem dX8_forget_64 : decode cX8_forget 64 = .ok (.aload_n 0, 1) := by decide +kernel
theorem dX8_forget_65 : decode cX8_forget 65 = .ok (.iconst 0, 1) := by decide +kernel
theorem dX8_forget_66 : decode cX8_forget 66 = .ok (.putfield 75, 3) := by decide +kernel
theorem dX8_forget_69 : decode cX8_forget 69 = .ok (.aload_n 0, 1) := by decide +kernel
theorem dX8_forget_70 : decode cX8_forget 70 = .ok (.iconst 0, 1) := by decide +kernel
theorem dX8_forget_71 : decode cX8_forget 71 = .ok (.putfield 79, 3) := by decide +kernel
theorem dX8_forget_74 : decode cX8_forget 74 = .ok (.return_, 1) := by decide +kernel
theorem dX8_find_0 : decode cX8_find 0 = .ok (.iconst 0, 1) := by decide +kernel
theorem dX8_find_1 : decode cX8_find 1 = .ok (.istore_n 2, 1) := by decide +kernel
theorem dX8_find_2 : decode cX8_find 2 = .ok (.iload_n 2, 1) := by decide +kernel
theorem dX8_find_3 : decode cX8_find 3 = .ok (.aload_n 0, 1) := by decide +kernel
theorem dX8_find_4 : decode cX8_find 4 = .ok (.getfield 44, 3) := by decide +kernel
theorem dX8_find_7 : decode cX8_find 7 = .ok (.if_icmp .ge 21, 3) := by decide +kernel
theorem dX8_find_10 : decode cX8_find 10 = .ok (.aload_n 0, 1) := by decide +kernel
theorem dX8_find_11 : decode cX8_find 11 = .ok (.getfield 9, 3) := by decide +kernel
theorem dX8_find_14 : decode cX8_find 14 = .ok (.iload_n 2, 1) := by decide +kernel
theorem dX8_find_15 : decode cX8_find 15 = .ok (.iaload, 1) := by decide +kernel
theorem dX8_find_16 : decode cX8_find 16 = .ok (.iload_n 1, 1) := by decide +kernel
theorem dX8_find_17 : decode cX8_find 17 = .ok (.if_icmp .ne 5, 3) := by decide +kernel
theorem dX8_find_20 : decode cX8_find 20 = .ok (.iload_n 2, 1) := by decide +kernel
theorem dX8_find_21 : decode cX8_find 21 = .ok (.ireturn, 1) := by decide +kernel
theorem dX8_find_22 : decode cX8_find 22 = .ok (.iinc 2 1, 3) := by decide +kernel
theorem dX8_find_25 : decode cX8_find 25 = .ok (.goto (-23), 3) := by decide +kernel
theorem dX8_find_28 : decode cX8_find 28 = .ok (.iconst (-1), 1) := by decide +kernel
theorem dX8_find_29 : decode cX8_find 29 = .ok (.ireturn, 1) := by decide +kernel
theorem dX8_addPerson_0 : decode cX8_addPerson 0 = .ok (.aload_n 0, 1) := by decide +kernel
theorem dX8_addPerson_1 : decode cX8_addPerson 1 = .ok (.getfield 44, 3) := by decide +kernel
theorem dX8_addPerson_4 : decode cX8_addPerson 4 = .ok (.bipush 6, 2) := by decide +kernel
theorem dX8_addPerson_6 : decode cX8_addPerson 6 = .ok (.if_icmp .ge 33, 3) := by decide +kernel
theorem dX8_addPerson_9 : decode cX8_addPerson 9 = .ok (.aload_n 0, 1) := by decide +kernel
theorem dX8_addPerson_10 : decode cX8_addPerson 10 = .ok (.getfield 9, 3) := by decide +kernel
theorem dX8_addPerson_13 : decode cX8_addPerson 13 = .ok (.aload_n 0, 1) := by decide +kernel
theorem dX8_addPerson_14 : decode cX8_addPerson 14 = .ok (.getfield 44, 3) := by decide +kernel
theorem dX8_addPerson_17 : decode cX8_addPerson 17 = .ok (.iload_n 1, 1) := by decide +kernel
theorem dX8_addPerson_18 : decode cX8_addPerson 18 = .ok (.iastore, 1) := by decide +kernel
theorem dX8_addPerson_19 : decode cX8_addPerson 19 = .ok (.aload_n 0, 1) := by decide +kernel
theorem dX8_addPerson_20 : decode cX8_addPerson 20 = .ok (.getfield 15, 3) := by decide +kernel
theorem dX8_addPerson_23 : decode cX8_addPerson 23 = .ok (.aload_n 0, 1) := by decide +kernel
theorem dX8_addPerson_24 : decode cX8_addPerson 24 = .ok (.getfield 44, 3) := by decide +kernel
theorem dX8_addPerson_27 : decode cX8_addPerson 27 = .ok (.iload_n 2, 1) := by decide +kernel
theorem dX8_addPerson_28 : decode cX8_addPerson 28 = .ok (.iastore, 1) := by decide +kernel
theorem dX8_addPerson_29 : decode cX8_addPerson 29 = .ok (.aload_n 0, 1) := by decide +kernel
theorem dX8_addPerson_30 : decode cX8_addPerson 30 = .ok (.dup, 1) := by decide +kernel
theorem dX8_addPerson_31 : decode cX8_addPerson 31 = .ok (.getfield 44, 3) := by decide +kernel
theorem dX8_addPerson_34 : decode cX8_addPerson 34 = .ok (.iconst 1, 1) := by decide +kernel
theorem dX8_addPerson_35 : decode cX8_addPerson 35 = .ok (.iadd, 1) := by decide +kernel
theorem dX8_addPerson_36 : decode cX8_addPerson 36 = .ok (.putfield 44, 3) := by decide +kernel
theorem dX8_addPerson_39 : decode cX8_addPerson 39 = .ok (.return_, 1) := by decide +kernel
theorem dX8_isJune_0 : decode cX8_isJune 0 = .ok (.aload_n 0, 1) := by decide +kernel
theorem dX8_isJune_1 : decode cX8_isJune 1 = .ok (.getfield 18, 3) := by decide +kernel
theorem dX8_isJune_4 : decode cX8_isJune 4 = .ok (.iload_n 1, 1) := by decide +kernel
theorem dX8_isJune_5 : decode cX8_isJune 5 = .ok (.laload, 1) := by decide +kernel
theorem dX8_isJune_6 : decode cX8_isJune 6 = .ok (.iload_n 2, 1) := by decide +kernel
theorem dX8_isJune_7 : decode cX8_isJune 7 = .ok (.lshr, 1) := by decide +kernel
theorem dX8_isJune_8 : decode cX8_isJune 8 = .ok (.lconst 1, 1) := by decide +kernel
theorem dX8_isJune_9 : decode cX8_isJune 9 = .ok (.land, 1) := by decide +kernel
theorem dX8_isJune_10 : decode cX8_isJune 10 = .ok (.lconst 0, 1) := by decide +kernel
theorem dX8_isJune_11 : decode cX8_isJune 11 = .ok (.lcmp, 1) := by decide +kernel
theorem dX8_isJune_12 : decode cX8_isJune 12 = .ok (.ifCond .eq 7, 3) := by decide +kernel
