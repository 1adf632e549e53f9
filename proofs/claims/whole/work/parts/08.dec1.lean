theorem dX0_init_0 : decode cX0_init 0 = .ok (.aload_n 0, 1) := by decide +kernel
theorem dX0_init_1 : decode cX0_init 1 = .ok (.invokespecial 1, 3) := by decide +kernel
theorem dX0_init_4 : decode cX0_init 4 = .ok (.aload_n 0, 1) := by decide +kernel
theorem dX0_init_5 : decode cX0_init 5 = .ok (.bipush 20, 2) := by decide +kernel
theorem dX0_init_7 : decode cX0_init 7 = .ok (.newarray .int, 2) := by decide +kernel
theorem dX0_init_9 : decode cX0_init 9 = .ok (.putfield 9, 3) := by decide +kernel
theorem dX0_init_12 : decode cX0_init 12 = .ok (.aload_n 0, 1) := by decide +kernel
theorem dX0_init_13 : decode cX0_init 13 = .ok (.bipush 20, 2) := by decide +kernel
theorem dX0_init_15 : decode cX0_init 15 = .ok (.newarray .int, 2) := by decide +kernel
theorem dX0_init_17 : decode cX0_init 17 = .ok (.putfield 13, 3) := by decide +kernel
theorem dX0_init_20 : decode cX0_init 20 = .ok (.aload_n 0, 1) := by decide +kernel
theorem dX0_init_21 : decode cX0_init 21 = .ok (.bipush 20, 2) := by decide +kernel
theorem dX0_init_23 : decode cX0_init 23 = .ok (.newarray .int, 2) := by decide +kernel
theorem dX0_init_25 : decode cX0_init 25 = .ok (.putfield 16, 3) := by decide +kernel
theorem dX0_init_28 : decode cX0_init 28 = .ok (.aload_n 0, 1) := by decide +kernel
theorem dX0_init_29 : decode cX0_init 29 = .ok (.bipush 20, 2) := by decide +kernel
theorem dX0_init_31 : decode cX0_init 31 = .ok (.newarray .int, 2) := by decide +kernel
theorem dX0_init_33 : decode cX0_init 33 = .ok (.putfield 19, 3) := by decide +kernel
theorem dX0_init_36 : decode cX0_init 36 = .ok (.aload_n 0, 1) := by decide +kernel
theorem dX0_init_37 : decode cX0_init 37 = .ok (.bipush 20, 2) := by decide +kernel
theorem dX0_init_39 : decode cX0_init 39 = .ok (.newarray .int, 2) := by decide +kernel
theorem dX0_init_41 : decode cX0_init 41 = .ok (.putfield 22, 3) := by decide +kernel
theorem dX0_init_44 : decode cX0_init 44 = .ok (.aload_n 0, 1) := by decide +kernel
theorem dX0_init_45 : decode cX0_init 45 = .ok (.bipush 20, 2) := by decide +kernel
theorem dX0_init_47 : decode cX0_init 47 = .ok (.newarray .int, 2) := by decide +kernel
theorem dX0_init_49 : decode cX0_init 49 = .ok (.putfield 25, 3) := by decide +kernel
theorem dX0_init_52 : decode cX0_init 52 = .ok (.aload_n 0, 1) := by decide +kernel
theorem dX0_init_53 : decode cX0_init 53 = .ok (.bipush 20, 2) := by decide +kernel
theorem dX0_init_55 : decode cX0_init 55 = .ok (.newarray .int, 2) := by decide +kernel
theorem dX0_init_57 : decode cX0_init 57 = .ok (.putfield 28, 3) := by decide +kernel
theorem dX0_init_60 : decode cX0_init 60 = .ok (.aload_n 0, 1) := by decide +kernel
theorem dX0_init_61 : decode cX0_init 61 = .ok (.bipush 20, 2) := by decide +kernel
theorem dX0_init_63 : decode cX0_init 63 = .ok (.newarray .int, 2) := by decide +kernel
theorem dX0_init_65 : decode cX0_init 65 = .ok (.putfield 31, 3) := by decide +kernel
theorem dX0_init_68 : decode cX0_init 68 = .ok (.aload_n 0, 1) := by decide +kernel
theorem dX0_init_69 : decode cX0_init 69 = .ok (.bipush 20, 2) := by decide +kernel
theorem dX0_init_71 : decode cX0_init 71 = .ok (.newarray .int, 2) := by decide +kernel
theorem dX0_init_73 : decode cX0_init 73 = .ok (.putfield 34, 3) := by decide +kernel
theorem dX0_init_76 : decode cX0_init 76 = .ok (.aload_n 0, 1) := by decide +kernel
theorem dX0_init_77 : decode cX0_init 77 = .ok (.bipush 20, 2) := by decide +kernel
theorem dX0_init_79 : decode cX0_init 79 = .ok (.newarray .int, 2) := by decide +kernel
theorem dX0_init_81 : decode cX0_init 81 = .ok (.putfield 37, 3) := by decide +kernel
theorem dX0_init_84 : decode cX0_init 84 = .ok (.aload_n 0, 1) := by decide +kernel
theorem dX0_init_85 : decode cX0_init 85 = .ok (.bipush 20, 2) := by decide +kernel
theorem dX0_init_87 : decode cX0_init 87 = .ok (.newarray .int, 2) := by decide +kernel
theorem dX0_init_89 : decode cX0_init 89 = .ok (.putfield 40, 3) := by decide +kernel
theorem dX0_init_92 : decode cX0_init 92 = .ok (.aload_n 0, 1) := by decide +kernel
theorem dX0_init_93 : decode cX0_init 93 = .ok (.bipush 20, 2) := by decide +kernel
theorem dX0_init_95 : decode cX0_init 95 = .ok (.newarray .int, 2) := by decide +kernel
theorem dX0_init_97 : decode cX0_init 97 = .ok (.putfield 43, 3) := by decide +kernel
theorem dX0_init_100 : decode cX0_init 100 = .ok (.aload_n 0, 1) := by decide +kernel
theorem dX0_init_101 : decode cX0_init 101 = .ok (.iconst 0, 1) := by decide +kernel
theorem dX0_init_102 : decode cX0_init 102 = .ok (.putfield 46, 3) := by decide +kernel
theorem dX0_init_105 : decode cX0_init 105 = .ok (.return_, 1) := by decide +kernel
theorem dX0_has_0 : decode cX0_has 0 = .ok (.iload_n 1, 1) := by decide +kernel
theorem dX0_has_1 : decode cX0_has 1 = .ok (.iconst 0, 1) := by decide +kernel
theorem dX0_has_2 : decode cX0_has 2 = .ok (.aload_n 0, 1) := by decide +kernel
theorem dX0_has_3 : decode cX0_has 3 = .ok (.getfield 46, 3) := by decide +kernel
theorem dX0_has_6 : decode cX0_has 6 = .ok (.iconst 1, 1) := by decide +kernel
theorem dX0_has_7 : decode cX0_has 7 = .ok (.isub, 1) := by decide +kernel
theorem dX0_has_8 : decode cX0_has 8 = .ok (.invokestatic 50, 3) := by decide +kernel
theorem dX0_has_11 : decode cX0_has 11 = .ok (.ireturn, 1) := by decide +kernel
theorem dX0_add_0 : decode cX0_add 0 = .ok (.aload_n 0, 1) := by decide +kernel
theorem dX0_add_1 : decode cX0_add 1 = .ok (.getfield 46, 3) := by decide +kernel
theorem dX0_add_4 : decode cX0_add 4 = .ok (.istore 6, 2) := by decide +kernel
theorem dX0_add_6 : decode cX0_add 6 = .ok (.aload_n 0, 1) := by decide +kernel
theorem dX0_add_7 : decode cX0_add 7 = .ok (.getfield 9, 3) := by decide +kernel
theorem dX0_add_10 : decode cX0_add 10 = .ok (.iload 6, 2) := by decide +kernel
theorem dX0_add_12 : decode cX0_add 12 = .ok (.iload_n 1, 1) := by decide +kernel
theorem dX0_add_13 : decode cX0_add 13 = .ok (.iastore, 1) := by decide +kernel
theorem dX0_add_14 : decode cX0_add 14 = .ok (.aload_n 0, 1) := by decide +kernel
theorem dX0_add_15 : decode cX0_add 15 = .ok (.getfield 13, 3) := by decide +kernel
theorem dX0_add_18 : decode cX0_add 18 = .ok (.iload 6, 2) := by decide +kernel
theorem dX0_add_20 : decode cX0_add 20 = .ok (.iload_n 2, 1) := by decide +kernel
theorem dX0_add_21 : decode cX0_add 21 = .ok (.iastore, 1) := by decide +kernel
theorem dX0_add_22 : decode cX0_add 22 = .ok (.aload_n 0, 1) := by decide +kernel
theorem dX0_add_23 : decode cX0_add 23 = .ok (.getfield 16, 3) := by decide +kernel
theorem dX0_add_26 : decode cX0_add 26 = .ok (.iload 6, 2) := by decide +kernel
theorem dX0_add_28 : decode cX0_add 28 = .ok (.iload_n 3, 1) := by decide +kernel
theorem dX0_add_29 : decode cX0_add 29 = .ok (.iastore, 1) := by decide +kernel
theorem dX0_add_30 : decode cX0_add 30 = .ok (.aload_n 0, 1) := by decide +kernel
theorem dX0_add_31 : decode cX0_add 31 = .ok (.getfield 19, 3) := by decide +kernel
theorem dX0_add_34 : decode cX0_add 34 = .ok (.iload 6, 2) := by decide +kernel
theorem dX0_add_36 : decode cX0_add 36 = .ok (.iload 4, 2) := by decide +kernel
theorem dX0_add_38 : decode cX0_add 38 = .ok (.bipush 10, 2) := by decide +kernel
theorem dX0_add_40 : decode cX0_add 40 = .ok (.irem, 1) := by decide +kernel
theorem dX0_add_41 : decode cX0_add 41 = .ok (.iastore, 1) := by decide +kernel
theorem dX0_add_42 : decode cX0_add 42 = .ok (.aload_n 0, 1) := by decide +kernel
theorem dX0_add_43 : decode cX0_add 43 = .ok (.getfield 22, 3) := by decide +kernel
theorem dX0_add_46 : decode cX0_add 46 = .ok (.iload 6, 2) := by decide +kernel
theorem dX0_add_48 : decode cX0_add 48 = .ok (.iload 4, 2) := by decide +kernel
theorem dX0_add_50 : decode cX0_add 50 = .ok (.bipush 10, 2) := by decide +kernel
theorem dX0_add_52 : decode cX0_add 52 = .ok (.idiv, 1) := by decide +kernel
theorem dX0_add_53 : decode cX0_add 53 = .ok (.iastore, 1) := by decide +kernel
theorem dX0_add_54 : decode cX0_add 54 = .ok (.aload_n 0, 1) := by decide +kernel
theorem dX0_add_55 : decode cX0_add 55 = .ok (.getfield 25, 3) := by decide +kernel
theorem dX0_add_58 : decode cX0_add 58 = .ok (.iload 6, 2) := by decide +kernel
theorem dX0_add_60 : decode cX0_add 60 = .ok (.iload 5, 2) := by decide +kernel
theorem dX0_add_62 : decode cX0_add 62 = .ok (.iastore, 1) := by decide +kernel
theorem dX0_add_63 : decode cX0_add 63 = .ok (.aload_n 0, 1) := by decide +kernel
theorem dX0_add_64 : decode cX0_add 64 = .ok (.getfield 28, 3) := by decide +kernel
theorem dX0_add_67 : decode cX0_add 67 = .ok (.iload 6, 2) := by decide +kernel
theorem dX0_add_69 : decode cX0_add 69 = .ok (.aload_n 0, 1) := by decide +kernel
theorem dX0_add_70 : decode cX0_add 70 = .ok (.getfield 19, 3) := by decide +kernel
theorem dX0_add_73 : decode cX0_add 73 = .ok (.iload 6, 2) := by decide +kernel
theorem dX0_add_75 : decode cX0_add 75 = .ok (.iaload, 1) := by decide +kernel
theorem dX0_add_76 : decode cX0_add 76 = .ok (.iconst 2, 1) := by decide +kernel
theorem dX0_add_77 : decode cX0_add 77 = .ok (.invokestatic 58, 3) := by decide +kernel
theorem dX0_add_80 : decode cX0_add 80 = .ok (.ifCond .eq 7, 3) := by decide +kernel
theorem dX0_add_83 : decode cX0_add 83 = .ok (.iconst 1, 1) := by decide +kernel
theorem dX0_add_84 : decode cX0_add 84 = .ok (.goto 4, 3) := by decide +kernel
theorem dX0_add_87 : decode cX0_add 87 = .ok (.iconst 0, 1) := by decide +kernel
theorem dX0_add_88 : decode cX0_add 88 = .ok (.iastore, 1) := by decide +kernel
theorem dX0_add_89 : decode cX0_add 89 = .ok (.aload_n 0, 1) := by decide +kernel
theorem dX0_add_90 : decode cX0_add 90 = .ok (.getfield 31, 3) := by decide +kernel
theorem dX0_add_93 : decode cX0_add 93 = .ok (.iload 6, 2) := by decide +kernel
theorem dX0_add_95 : decode cX0_add 95 = .ok (.aload_n 0, 1) := by decide +kernel
theorem dX0_add_96 : decode cX0_add 96 = .ok (.getfield 19, 3) := by decide +kernel
theorem dX0_add_99 : decode cX0_add 99 = .ok (.iload 6, 2) := by decide +kernel
theorem dX0_add_101 : decode cX0_add 101 = .ok (.iaload, 1) := by decide +kernel
theorem dX0_add_102 : decode cX0_add 102 = .ok (.aload_n 0, 1) := by decide +kernel
theorem dX0_add_103 : decode cX0_add 103 = .ok (.getfield 22, 3) := by decide +kernel
theorem dX0_add_106 : decode cX0_add 106 = .ok (.iload 6, 2) := by decide +kernel
theorem dX0_add_108 : decode cX0_add 108 = .ok (.iaload, 1) := by decide +kernel
theorem dX0_add_109 : decode cX0_add 109 = .ok (.invokestatic 64, 3) := by decide +kernel
theorem dX0_add_112 : decode cX0_add 112 = .ok (.iastore, 1) := by decide +kernel
theorem dX0_add_113 : decode cX0_add 113 = .ok (.aload_n 0, 1) := by decide +kernel
theorem dX0_add_114 : decode cX0_add 114 = .ok (.getfield 34, 3) := by decide +kernel
theorem dX0_add_117 : decode cX0_add 117 = .ok (.iload 6, 2) := by decide +kernel
theorem dX0_add_119 : decode cX0_add 119 = .ok (.iconst 0, 1) := by decide +kernel
theorem dX0_add_120 : decode cX0_add 120 = .ok (.iastore, 1) := by decide +kernel
theorem dX0_add_121 : decode cX0_add 121 = .ok (.aload_n 0, 1) := by decide +kernel
theorem dX0_add_122 : decode cX0_add 122 = .ok (.getfield 37, 3) := by decide +kernel
theorem dX0_add_125 : decode cX0_add 125 = .ok (.iload 6, 2) := by decide +kernel
theorem dX0_add_127 : decode cX0_add 127 = .ok (.iconst (-1), 1) := by decide +kernel
theorem dX0_add_128 : decode cX0_add 128 = .ok (.iastore, 1) := by decide +kernel
theorem dX0_add_129 : decode cX0_add 129 = .ok (.aload_n 0, 1) := by decide +kernel
theorem dX0_add_130 : decode cX0_add 130 = .ok (.getfield 40, 3) := by decide +kernel
theorem dX0_add_133 : decode cX0_add 133 = .ok (.iload 6, 2) := by decide +kernel
theorem dX0_add_135 : decode cX0_add 135 = .ok (.iconst (-1), 1) := by decide +kernel
theorem dX0_add_136 : decode cX0_add 136 = .ok (.iastore, 1) := by decide +kernel
theorem dX0_add_137 : decode cX0_add 137 = .ok (.aload_n 0, 1) := by decide +kernel
theorem dX0_add_138 : decode cX0_add 138 = .ok (.getfield 43, 3) := by decide +kernel
theorem dX0_add_141 : decode cX0_add 141 = .ok (.iload 6, 2) := by decide +kernel
theorem dX0_add_143 : decode cX0_add 143 = .ok (.iconst (-1), 1) := by decide +kernel
theorem dX0_add_144 : decode cX0_add 144 = .ok (.iastore, 1) := by decide +kernel
theorem dX0_add_145 : decode cX0_add 145 = .ok (.aload_n 0, 1) := by decide +kernel
theorem dX0_add_146 : decode cX0_add 146 = .ok (.iload 6, 2) := by decide +kernel
theorem dX0_add_148 : decode cX0_add 148 = .ok (.iconst 1, 1) := by decide +kernel
theorem dX0_add_149 : decode cX0_add 149 = .ok (.iadd, 1) := by decide +kernel
theorem dX0_add_150 : decode cX0_add 150 = .ok (.putfield 46, 3) := by decide +kernel
theorem dX0_add_153 : decode cX0_add 153 = .ok (.iload 6, 2) := by decide +kernel
theorem dX0_add_155 : decode cX0_add 155 = .ok (.ireturn, 1) := by decide +kernel
theorem dX0_tell_0 : decode cX0_tell 0 = .ok (.iload_n 2, 1) := by decide +kernel
theorem dX0_tell_1 : decode cX0_tell 1 = .ok (.tableswitch 114 0 8 #[51, 58, 65, 72, 79, 86, 93, 100, 107], 51) := by decide +kernel
theorem dX0_tell_52 : decode cX0_tell 52 = .ok (.aload_n 0, 1) := by decide +kernel
theorem dX0_tell_53 : decode cX0_tell 53 = .ok (.getfield 9, 3) := by decide +kernel
theorem dX0_tell_56 : decode cX0_tell 56 = .ok (.iload_n 1, 1) := by decide +kernel
theorem dX0_tell_57 : decode cX0_tell 57 = .ok (.iaload, 1) := by decide +kernel
theorem dX0_tell_58 : decode cX0_tell 58 = .ok (.ireturn, 1) := by decide +kernel
theorem dX0_tell_59 : decode cX0_tell 59 = .ok (.aload_n 0, 1) := by decide +kernel
theorem dX0_tell_60 : decode cX0_tell 60 = .ok (.getfield 13, 3) := by decide +kernel
theorem dX0_tell_63 : decode cX0_tell 63 = .ok (.iload_n 1, 1) := by decide +kernel
theorem dX0_tell_64 : decode cX0_tell 64 = .ok (.iaload, 1) := by decide +kernel
theorem dX0_tell_65 : decode cX0_tell 65 = .ok (.ireturn, 1) := by decide +kernel
theorem dX0_tell_66 : decode cX0_tell 66 = .ok (.aload_n 0, 1) := by decide +kernel
theorem dX0_tell_67 : decode cX0_tell 67 = .ok (.getfield 16, 3) := by decide +kernel
theorem dX0_tell_70 : decode cX0_tell 70 = .ok (.iload_n 1, 1) := by decide +kernel
theorem dX0_tell_71 : decode cX0_tell 71 = .ok (.iaload, 1) := by decide +kernel
theorem dX0_tell_72 : decode cX0_tell 72 = .ok (.ireturn, 1) := by decide +kernel
theorem dX0_tell_73 : decode cX0_tell 73 = .ok (.aload_n 0, 1) := by decide +kernel
theorem dX0_tell_74 : decode cX0_tell 74 = .ok (.getfield 19, 3) := by decide +kernel
theorem dX0_tell_77 : decode cX0_tell 77 = .ok (.iload_n 1, 1) := by decide +kernel
theorem dX0_tell_78 : decode cX0_tell 78 = .ok (.iaload, 1) := by decide +kernel
theorem dX0_tell_79 : decode cX0_tell 79 = .ok (.ireturn, 1) := by decide +kernel
theorem dX0_tell_80 : decode cX0_tell 80 = .ok (.aload_n 0, 1) := by decide +kernel
theorem dX0_tell_81 : decode cX0_tell 81 = .ok (.getfield 22, 3) := by decide +kernel
theorem dX0_tell_84 : decode cX0_tell 84 = .ok (.iload_n 1, 1) := by decide +kernel
theorem dX0_tell_85 : decode cX0_tell 85 = .ok (.iaload, 1) := by decide +kernel
theorem dX0_tell_86 : decode cX0_tell 86 = .ok (.ireturn, 1) := by decide +kernel
theorem dX0_tell_87 : decode cX0_tell 87 = .ok (.aload_n 0, 1) := by decide +kernel
theorem dX0_tell_88 : decode cX0_tell 88 = .ok (.getfield 25, 3) := by decide +kernel
theorem dX0_tell_91 : decode cX0_tell 91 = .ok (.iload_n 1, 1) := by decide +kernel
theorem dX0_tell_92 : decode cX0_tell 92 = .ok (.iaload, 1) := by decide +kernel
theorem dX0_tell_93 : decode cX0_tell 93 = .ok (.ireturn, 1) := by decide +kernel
theorem dX0_tell_94 : decode cX0_tell 94 = .ok (.aload_n 0, 1) := by decide +kernel
theorem dX0_tell_95 : decode cX0_tell 95 = .ok (.getfield 34, 3) := by decide +kernel
theorem dX0_tell_98 : decode cX0_tell 98 = .ok (.iload_n 1, 1) := by decide +kernel
theorem dX0_tell_99 : decode cX0_tell 99 = .ok (.iaload, 1) := by decide +kernel
theorem dX0_tell_100 : decode cX0_tell 100 = .ok (.ireturn, 1) := by decide +kernel
theorem dX0_tell_101 : decode cX0_tell 101 = .ok (.aload_n 0, 1) := by decide +kernel
theorem dX0_tell_102 : decode cX0_tell 102 = .ok (.getfield 37, 3) := by decide +kernel
theorem dX0_tell_105 : decode cX0_tell 105 = .ok (.iload_n 1, 1) := by decide +kernel
theorem dX0_tell_106 : decode cX0_tell 106 = .ok (.iaload, 1) := by decide +kernel
theorem dX0_tell_107 : decode cX0_tell 107 = .ok (.ireturn, 1) := by decide +kernel
theorem dX0_tell_108 : decode cX0_tell 108 = .ok (.aload_n 0, 1) := by decide +kernel
theorem dX0_tell_109 : decode cX0_tell 109 = .ok (.getfield 40, 3) := by decide +kernel
theorem dX0_tell_112 : decode cX0_tell 112 = .ok (.iload_n 1, 1) := by decide +kernel
theorem dX0_tell_113 : decode cX0_tell 113 = .ok (.iaload, 1) := by decide +kernel
theorem dX0_tell_114 : decode cX0_tell 114 = .ok (.ireturn, 1) := by decide +kernel
theorem dX0_tell_115 : decode cX0_tell 115 = .ok (.aload_n 0, 1) := by decide +kernel
theorem dX0_tell_116 : decode cX0_tell 116 = .ok (.getfield 43, 3) := by decide +kernel
theorem dX0_tell_119 : decode cX0_tell 119 = .ok (.iload_n 1, 1) := by decide +kernel
theorem dX0_tell_120 : decode cX0_tell 120 = .ok (.iaload, 1) := by decide +kernel
theorem dX0_tell_121 : decode cX0_tell 121 = .ok (.ireturn, 1) := by decide +kernel
theorem dX0_thatAre_0 : decode cX0_thatAre 0 = .ok (.iconst 0, 1) := by decide +kernel
theorem dX0_thatAre_1 : decode cX0_thatAre 1 = .ok (.istore_n 2, 1) := by decide +kernel
theorem dX0_thatAre_2 : decode cX0_thatAre 2 = .ok (.iconst 0, 1) := by decide +kernel
theorem dX0_thatAre_3 : decode cX0_thatAre 3 = .ok (.istore_n 3, 1) := by decide +kernel
theorem dX0_thatAre_4 : decode cX0_thatAre 4 = .ok (.iload_n 3, 1) := by decide +kernel
theorem dX0_thatAre_5 : decode cX0_thatAre 5 = .ok (.aload_n 0, 1) := by decide +kernel
theorem dX0_thatAre_6 : decode cX0_thatAre 6 = .ok (.getfield 46, 3) := by decide +kernel
theorem dX0_thatAre_9 : decode cX0_thatAre 9 = .ok (.if_icmp .ge 25, 3) := by decide +kernel
theorem dX0_thatAre_12 : decode cX0_thatAre 12 = .ok (.aload_n 0, 1) := by decide +kernel
theorem dX0_thatAre_13 : decode cX0_thatAre 13 = .ok (.getfield 34, 3) := by decide +kernel
theorem dX0_thatAre_16 : decode cX0_thatAre 16 = .ok (.iload_n 3, 1) := by decide +kernel
theorem dX0_thatAre_17 : decode cX0_thatAre 17 = .ok (.iaload, 1) := by decide +kernel
theorem dX0_thatAre_18 : decode cX0_thatAre 18 = .ok (.iload_n 1, 1) := by decide +kernel
theorem dX0_thatAre_19 : decode cX0_thatAre 19 = .ok (.if_icmp .ne 9, 3) := by decide +kernel
theorem dX0_thatAre_22 : decode cX0_thatAre 22 = .ok (.iload_n 2, 1) := by decide +kernel
theorem dX0_thatAre_23 : decode cX0_thatAre 23 = .ok (.iconst 1, 1) := by decide +kernel
theorem dX0_thatAre_24 : decode cX0_thatAre 24 = .ok (.iload_n 3, 1) := by decide +kernel
theorem dX0_thatAre_25 : decode cX0_thatAre 25 = .ok (.ishl, 1) := by decide +kernel
theorem dX0_thatAre_26 : decode cX0_thatAre 26 = .ok (.ior, 1) := by decide +kernel
theorem dX0_thatAre_27 : decode cX0_thatAre 27 = .ok (.istore_n 2, 1) := by decide +kernel
theorem dX0_thatAre_28 : decode cX0_thatAre 28 = .ok (.iinc 3 1, 3) := by decide +kernel
theorem dX0_thatAre_31 : decode cX0_thatAre 31 = .ok (.goto (-27), 3) := by decide +kernel
theorem dX0_thatAre_34 : decode cX0_thatAre 34 = .ok (.iload_n 2, 1) := by decide +kernel
theorem dX0_thatAre_35 : decode cX0_thatAre 35 = .ok (.ireturn, 1) := by decide +kernel
theorem dX0_crew_0 : decode cX0_crew 0 = .ok (.iconst 1, 1) := by decide +kernel
theorem dX0_crew_1 : decode cX0_crew 1 = .ok (.aload_n 0, 1) := by decide +kernel
theorem dX0_crew_2 : decode cX0_crew 2 = .ok (.getfield 9, 3) := by decide +kernel
theorem dX0_crew_5 : decode cX0_crew 5 = .ok (.iload_n 1, 1) := by decide +kernel
theorem dX0_crew_6 : decode cX0_crew 6 = .ok (.iaload, 1) := by decide +kernel
theorem dX0_crew_7 : decode cX0_crew 7 = .ok (.ishl, 1) := by decide +kernel
theorem dX0_crew_8 : decode cX0_crew 8 = .ok (.istore_n 2, 1) := by decide +kernel
theorem dX0_crew_9 : decode cX0_crew 9 = .ok (.aload_n 0, 1) := by decide +kernel
theorem dX0_crew_10 : decode cX0_crew 10 = .ok (.getfield 13, 3) := by decide +kernel
theorem dX0_crew_13 : decode cX0_crew 13 = .ok (.iload_n 1, 1) := by decide +kernel
theorem dX0_crew_14 : decode cX0_crew 14 = .ok (.iaload, 1) := by decide +kernel
theorem dX0_crew_15 : decode cX0_crew 15 = .ok (.ifCond .ge 7, 3) := by decide +kernel
theorem dX0_crew_18 : decode cX0_crew 18 = .ok (.iload_n 2, 1) := by decide +kernel
theorem dX0_crew_19 : decode cX0_crew 19 = .ok (.goto 13, 3) := by decide +kernel
theorem dX0_crew_22 : decode cX0_crew 22 = .ok (.iload_n 2, 1) := by decide +kernel
theorem dX0_crew_23 : decode cX0_crew 23 = .ok (.iconst 1, 1) := by decide +kernel
theorem dX0_crew_24 : decode cX0_crew 24 = .ok (.aload_n 0, 1) := by decide +kernel
theorem dX0_crew_25 : decode cX0_crew 25 = .ok (.getfield 13, 3) := by decide +kernel
theorem dX0_crew_28 : decode cX0_crew 28 = .ok (.iload_n 1, 1) := by decide +kernel
theorem dX0_crew_29 : decode cX0_crew 29 = .ok (.iaload, 1) := by decide +kernel
theorem dX0_crew_30 : decode cX0_crew 30 = .ok (.ishl, 1) := by decide +kernel
theorem dX0_crew_31 : decode cX0_crew 31 = .ok (.ior, 1) := by decide +kernel
theorem dX0_crew_32 : decode cX0_crew 32 = .ok (.ireturn, 1) := by decide +kernel
theorem dX0_firstDue_0 : decode cX0_firstDue 0 = .ok (.iconst (-1), 1) := by decide +kernel
theorem dX0_firstDue_1 : decode cX0_firstDue 1 = .ok (.istore_n 3, 1) := by decide +kernel
theorem dX0_firstDue_2 : decode cX0_firstDue 2 = .ok (.iconst 0, 1) := by decide +kernel
theorem dX0_firstDue_3 : decode cX0_firstDue 3 = .ok (.istore 4, 2) := by decide +kernel
theorem dX0_firstDue_5 : decode cX0_firstDue 5 = .ok (.iconst 0, 1) := by decide +kernel
theorem dX0_firstDue_6 : decode cX0_firstDue 6 = .ok (.istore 5, 2) := by decide +kernel
theorem dX0_firstDue_8 : decode cX0_firstDue 8 = .ok (.iload 5, 2) := by decide +kernel
theorem dX0_firstDue_10 : decode cX0_firstDue 10 = .ok (.aload_n 0, 1) := by decide +kernel
theorem dX0_firstDue_11 : decode cX0_firstDue 11 = .ok (.getfield 46, 3) := by decide +kernel
theorem dX0_firstDue_14 : decode cX0_firstDue 14 = .ok (.if_icmp .ge 73, 3) := by decide +kernel
theorem dX0_firstDue_17 : decode cX0_firstDue 17 = .ok (.aload_n 0, 1) := by decide +kernel
theorem dX0_firstDue_18 : decode cX0_firstDue 18 = .ok (.getfield 34, 3) := by decide +kernel
theorem dX0_firstDue_21 : decode cX0_firstDue 21 = .ok (.iload 5, 2) := by decide +kernel
theorem dX0_firstDue_23 : decode cX0_firstDue 23 = .ok (.iaload, 1) := by decide +kernel
theorem dX0_firstDue_24 : decode cX0_firstDue 24 = .ok (.iconst 1, 1) := by decide +kernel
theorem dX0_firstDue_25 : decode cX0_firstDue 25 = .ok (.if_icmp .ne 56, 3) := by decide +kernel
theorem dX0_firstDue_28 : decode cX0_firstDue 28 = .ok (.aload_n 0, 1) := by decide +kernel
theorem dX0_firstDue_29 : decode cX0_firstDue 29 = .ok (.getfield 37, 3) := by decide +kernel
theorem dX0_firstDue_32 : decode cX0_firstDue 32 = .ok (.iload 5, 2) := by decide +kernel
theorem dX0_firstDue_34 : decode cX0_firstDue 34 = .ok (.iaload, 1) := by decide +kernel
theorem dX0_firstDue_35 : decode cX0_firstDue 35 = .ok (.aload_n 0, 1) := by decide +kernel
theorem dX0_firstDue_36 : decode cX0_firstDue 36 = .ok (.getfield 31, 3) := by decide +kernel
theorem dX0_firstDue_39 : decode cX0_firstDue 39 = .ok (.iload 5, 2) := by decide +kernel
theorem dX0_firstDue_41 : decode cX0_firstDue 41 = .ok (.iaload, 1) := by decide +kernel
theorem dX0_firstDue_42 : decode cX0_firstDue 42 = .ok (.iadd, 1) := by decide +kernel
theorem dX0_firstDue_43 : decode cX0_firstDue 43 = .ok (.aload_n 0, 1) := by decide +kernel
theorem dX0_firstDue_44 : decode cX0_firstDue 44 = .ok (.getfield 25, 3) := by decide +kernel
theorem dX0_firstDue_47 : decode cX0_firstDue 47 = .ok (.iload 5, 2) := by decide +kernel
theorem dX0_firstDue_49 : decode cX0_firstDue 49 = .ok (.iaload, 1) := by decide +kernel
theorem dX0_firstDue_50 : decode cX0_firstDue 50 = .ok (.iload_n 2, 1) := by decide +kernel
theorem dX0_firstDue_51 : decode cX0_firstDue 51 = .ok (.invokestatic 68, 3) := by decide +kernel
theorem dX0_firstDue_54 : decode cX0_firstDue 54 = .ok (.iadd, 1) := by decide +kernel
theorem dX0_firstDue_55 : decode cX0_firstDue 55 = .ok (.istore 6, 2) := by decide +kernel
theorem dX0_firstDue_57 : decode cX0_firstDue 57 = .ok (.iload 6, 2) := by decide +kernel
theorem dX0_firstDue_59 : decode cX0_firstDue 59 = .ok (.iload_n 1, 1) := by decide +kernel
theorem dX0_firstDue_60 : decode cX0_firstDue 60 = .ok (.if_icmp .gt 21, 3) := by decide +kernel
theorem dX0_firstDue_63 : decode cX0_firstDue 63 = .ok (.iload_n 3, 1) := by decide +kernel
theorem dX0_firstDue_64 : decode cX0_firstDue 64 = .ok (.ifCond .lt 10, 3) := by decide +kernel
theorem dX0_firstDue_67 : decode cX0_firstDue 67 = .ok (.iload 6, 2) := by decide +kernel
theorem dX0_firstDue_69 : decode cX0_firstDue 69 = .ok (.iload 4, 2) := by decide +kernel
theorem dX0_firstDue_71 : decode cX0_firstDue 71 = .ok (.if_icmp .ge 10, 3) := by decide +kernel
theorem dX0_firstDue_74 : decode cX0_firstDue 74 = .ok (.iload 5, 2) := by decide +kernel
theorem dX0_firstDue_76 : decode cX0_firstDue 76 = .ok (.istore_n 3, 1) := by decide +kernel
theorem dX0_firstDue_77 : decode cX0_firstDue 77 = .ok (.iload 6, 2) := by decide +kernel
theorem dX0_firstDue_79 : decode cX0_firstDue 79 = .ok (.istore 4, 2) := by decide +kernel
theorem dX0_firstDue_81 : decode cX0_firstDue 81 = .ok (.iinc 5 1, 3) := by decide +kernel
theorem dX0_firstDue_84 : decode cX0_firstDue 84 = .ok (.goto (-76), 3) := by decide +kernel
theorem dX0_firstDue_87 : decode cX0_firstDue 87 = .ok (.iload_n 3, 1) := by decide +kernel
theorem dX0_firstDue_88 : decode cX0_firstDue 88 = .ok (.ireturn, 1) := by decide +kernel
theorem dX0_become_0 : decode cX0_become 0 = .ok (.aload_n 0, 1) := by decide +kernel
theorem dX0_become_1 : decode cX0_become 1 = .ok (.aload_n 1, 1) := by decide +kernel
theorem dX0_become_2 : decode cX0_become 2 = .ok (.getfield 46, 3) := by decide +kernel
theorem dX0_become_5 : decode cX0_become 5 = .ok (.putfield 46, 3) := by decide +kernel
theorem dX0_become_8 : decode cX0_become 8 = .ok (.aload_n 1, 1) := by decide +kernel
theorem dX0_become_9 : decode cX0_become 9 = .ok (.getfield 9, 3) := by decide +kernel
theorem dX0_become_12 : decode cX0_become 12 = .ok (.iconst 0, 1) := by decide +kernel
theorem dX0_become_13 : decode cX0_become 13 = .ok (.aload_n 0, 1) := by decide +kernel
theorem dX0_become_14 : decode cX0_become 14 = .ok (.getfield 9, 3) := by decide +kernel
theorem dX0_become_17 : decode cX0_become 17 = .ok (.iconst 0, 1) := by decide +kernel
theorem dX0_become_18 : decode cX0_become 18 = .ok (.aload_n 0, 1) := by decide +kernel
theorem dX0_become_19 : decode cX0_become 19 = .ok (.getfield 46, 3) := by decide +kernel
theorem dX0_become_22 : decode cX0_become 22 = .ok (.invokestatic 73, 3) := by decide +kernel
theorem dX0_become_25 : decode cX0_become 25 = .ok (.aload_n 1, 1) := by decide +kernel
theorem dX0_become_26 : decode cX0_become 26 = .ok (.getfield 13, 3) := by decide +kernel
theorem dX0_become_29 : decode cX0_become 29 = .ok (.iconst 0, 1) := by decide +kernel
theorem dX0_become_30 : decode cX0_become 30 = .ok (.aload_n 0, 1) := by decide +kernel
theorem dX0_become_31 : decode cX0_become 31 = .ok (.getfield 13, 3) := by decide +kernel
theorem dX0_become_34 : decode cX0_become 34 = .ok (.iconst 0, 1) := by decide +kernel
theorem dX0_become_35 : decode cX0_become 35 = .ok (.aload_n 0, 1) := by decide +kernel
theorem dX0_become_36 : decode cX0_become 36 = .ok (.getfield 46, 3) := by decide +kernel
theorem dX0_become_39 : decode cX0_become 39 = .ok (.invokestatic 73, 3) := by decide +kernel
theorem dX0_become_42 : decode cX0_become 42 = .ok (.aload_n 1, 1) := by decide +kernel
theorem dX0_become_43 : decode cX0_become 43 = .ok (.getfield 16, 3) := by decide +kernel
theorem dX0_become_46 : decode cX0_become 46 = .ok (.iconst 0, 1) := by decide +kernel
theorem dX0_become_47 : decode cX0_become 47 = .ok (.aload_n 0, 1) := by decide +kernel
theorem dX0_become_48 : decode cX0_become 48 = .ok (.getfield 16, 3) := by decide +kernel
theorem dX0_become_51 : decode cX0_become 51 = .ok (.iconst 0, 1) := by decide +kernel
theorem dX0_become_52 : decode cX0_become 52 = .ok (.aload_n 0, 1) := by decide +kernel
theorem dX0_become_53 : decode cX0_become 53 = .ok (.getfield 46, 3) := by decide +kernel
theorem dX0_become_56 : decode cX0_become 56 = .ok (.invokestatic 73, 3) := by decide +kernel
theorem dX0_become_59 : decode cX0_become 59 = .ok (.aload_n 1, 1) := by decide +kernel
theorem dX0_become_60 : decode cX0_become 60 = .ok (.getfield 19, 3) := by decide +kernel
theorem dX0_become_63 : decode cX0_become 63 = .ok (.iconst 0, 1) := by decide +kernel
theorem dX0_become_64 : decode cX0_become 64 = .ok (.aload_n 0, 1) := by decide +kernel
theorem dX0_become_65 : decode cX0_become 65 = .ok (.getfield 19, 3) := by decide +kernel
theorem dX0_become_68 : decode cX0_become 68 = .ok (.iconst 0, 1) := by decide +kernel
theorem dX0_become_69 : decode cX0_become 69 = .ok (.aload_n 0, 1) := by decide +kernel
theorem dX0_become_70 : decode cX0_become 70 = .ok (.getfield 46, 3) := by decide +kernel
theorem dX0_become_73 : decode cX0_become 73 = .ok (.invokestatic 73, 3) := by decide +kernel
theorem dX0_become_76 : decode cX0_become 76 = .ok (.aload_n 1, 1) := by decide +kernel
theorem dX0_become_77 : decode cX0_become 77 = .ok (.getfield 22, 3) := by decide +kernel
theorem dX0_become_80 : decode cX0_become 80 = .ok (.iconst 0, 1) := by decide +kernel
theorem dX0_become_81 : decode cX0_become 81 = .ok (.aload_n 0, 1) := by decide +kernel
theorem dX0_become_82 : decode cX0_become 82 = .ok (.getfield 22, 3) := by decide +kernel
theorem dX0_become_85 : decode cX0_become 85 = .ok (.iconst 0, 1) := by decide +kernel
theorem dX0_become_86 : decode cX0_become 86 = .ok (.aload_n 0, 1) := by decide +kernel
theorem dX0_become_87 : decode cX0_become 87 = .ok (.getfield 46, 3) := by decide +kernel
theorem dX0_become_90 : decode cX0_become 90 = .ok (.invokestatic 73, 3) := by decide +kernel
theorem dX0_become_93 : decode cX0_become 93 = .ok (.aload_n 1, 1) := by decide +kernel
theorem dX0_become_94 : decode cX0_become 94 = .ok (.getfield 25, 3) := by decide +kernel
theorem dX0_become_97 : decode cX0_become 97 = .ok (.iconst 0, 1) := by decide +kernel
theorem dX0_become_98 : decode cX0_become 98 = .ok (.aload_n 0, 1) := by decide +kernel
theorem dX0_become_99 : decode cX0_become 99 = .ok (.getfield 25, 3) := by decide +kernel
theorem dX0_become_102 : decode cX0_become 102 = .ok (.iconst 0, 1) := by decide +kernel
theorem dX0_become_103 : decode cX0_become 103 = .ok (.aload_n 0, 1) := by decide +kernel
theorem dX0_become_104 : decode cX0_become 104 = .ok (.getfield 46, 3) := by decide +kernel
theorem dX0_become_107 : decode cX0_become 107 = .ok (.invokestatic 73, 3) := by decide +kernel
theorem dX0_become_110 : decode cX0_become 110 = .ok (.aload_n 1, 1) := by decide +kernel
theorem dX0_become_111 : decode cX0_become 111 = .ok (.getfield 28, 3) := by decide +kernel
theorem dX0_become_114 : decode cX0_become 114 = .ok (.iconst 0, 1) := by decide +kernel
theorem dX0_become_115 : decode cX0_become 115 = .ok (.aload_n 0, 1) := by decide +kernel
theorem dX0_become_116 : decode cX0_become 116 = .ok (.getfield 28, 3) := by decide +kernel
theorem dX0_become_119 : decode cX0_become 119 = .ok (.iconst 0, 1) := by decide +kernel
theorem dX0_become_120 : decode cX0_become 120 = .ok (.aload_n 0, 1) := by decide +kernel
theorem dX0_become_121 : decode cX0_become 121 = .ok (.getfield 46, 3) := by decide +kernel
theorem dX0_become_124 : decode cX0_become 124 = .ok (.invokestatic 73, 3) := by decide +kernel
theorem dX0_become_127 : decode cX0_become 127 = .ok (.aload_n 1, 1) := by decide +kernel
theorem dX0_become_128 : decode cX0_become 128 = .ok (.getfield 31, 3) := by decide +kernel
theorem dX0_become_131 : decode cX0_become 131 = .ok (.iconst 0, 1) := by decide +kernel
theorem dX0_become_132 : decode cX0_become 132 = .ok (.aload_n 0, 1) := by decide +kernel
theorem dX0_become_133 : decode cX0_become 133 = .ok (.getfield 31, 3) := by decide +kernel
theorem dX0_become_136 : decode cX0_become 136 = .ok (.iconst 0, 1) := by decide +kernel
theorem dX0_become_137 : decode cX0_become 137 = .ok (.aload_n 0, 1) := by decide +kernel
theorem dX0_become_138 : decode cX0_become 138 = .ok (.getfield 46, 3) := by decide +kernel
theorem dX0_become_141 : decode cX0_become 141 = .ok (.invokestatic 73, 3) := by decide +kernel
theorem dX0_become_144 : decode cX0_become 144 = .ok (.aload_n 1, 1) := by decide +kernel
theorem dX0_become_145 : decode cX0_become 145 = .ok (.getfield 34, 3) := by decide +kernel
theorem dX0_become_148 : decode cX0_become 148 = .ok (.iconst 0, 1) := by decide +kernel
theorem dX0_become_149 : decode cX0_become 149 = .ok (.aload_n 0, 1) := by decide +kernel
theorem dX0_become_150 : decode cX0_become 150 = .ok (.getfield 34, 3) := by decide +kernel
theorem dX0_become_153 : decode cX0_become 153 = .ok (.iconst 0, 1) := by decide +kernel
theorem dX0_become_154 : decode cX0_become 154 = .ok (.aload_n 0, 1) := by decide +kernel
theorem dX0_become_155 : decode cX0_become 155 = .ok (.getfield 46, 3) := by decide +kernel
theorem dX0_become_158 : decode cX0_become 158 = .ok (.invokestatic 73, 3) := by decide +kernel
theorem dX0_become_161 : decode cX0_become 161 = .ok (.aload_n 1, 1) := by decide +kernel
theorem dX0_become_162 : decode cX0_become 162 = .ok (.getfield 37, 3) := by decide +kernel
theorem dX0_become_165 : decode cX0_become 165 = .ok (.iconst 0, 1) := by decide +kernel
theorem dX0_become_166 : decode cX0_become 166 = .ok (.aload_n 0, 1) := by decide +kernel
theorem dX0_become_167 : decode cX0_become 167 = .ok (.getfield 37, 3) := by decide +kernel
theorem dX0_become_170 : decode cX0_become 170 = .ok (.iconst 0, 1) := by decide +kernel
theorem dX0_become_171 : decode cX0_become 171 = .ok (.aload_n 0, 1) := by decide +kernel
theorem dX0_become_172 : decode cX0_become 172 = .ok (.getfield 46, 3) := by decide +kernel
theorem dX0_become_175 : decode cX0_become 175 = .ok (.invokestatic 73, 3) := by decide +kernel
theorem dX0_become_178 : decode cX0_become 178 = .ok (.aload_n 1, 1) := by decide +kernel
theorem dX0_become_179 : decode cX0_become 179 = .ok (.getfield 40, 3) := by decide +kernel
theorem dX0_become_182 : decode cX0_become 182 = .ok (.iconst 0, 1) := by decide +kernel
theorem dX0_become_183 : decode cX0_become 183 = .ok (.aload_n 0, 1) := by decide +kernel
theorem dX0_become_184 : decode cX0_become 184 = .ok (.getfield 40, 3) := by decide +kernel
theorem dX0_become_187 : decode cX0_become 187 = .ok (.iconst 0, 1) := by decide +kernel
theorem dX0_become_188 : decode cX0_become 188 = .ok (.aload_n 0, 1) := by decide +kernel
theorem dX0_become_189 : decode cX0_become 189 = .ok (.getfield 46, 3) := by decide +kernel
theorem dX0_become_192 : decode cX0_become 192 = .ok (.invokestatic 73, 3) := by decide +kernel
theorem dX0_become_195 : decode cX0_become 195 = .ok (.aload_n 1, 1) := by decide +kernel
theorem dX0_become_196 : decode cX0_become 196 = .ok (.getfield 43, 3) := by decide +kernel
theorem dX0_become_199 : decode cX0_become 199 = .ok (.iconst 0, 1) := by decide +kernel
theorem dX0_become_200 : decode cX0_become 200 = .ok (.aload_n 0, 1) := by decide +kernel
theorem dX0_become_201 : decode cX0_become 201 = .ok (.getfield 43, 3) := by decide +kernel
theorem dX0_become_204 : decode cX0_become 204 = .ok (.iconst 0, 1) := by decide +kernel
theorem dX0_become_205 : decode cX0_become 205 = .ok (.aload_n 0, 1) := by decide +kernel
theorem dX0_become_206 : decode cX0_become 206 = .ok (.getfield 46, 3) := by decide +kernel
theorem dX0_become_209 : decode cX0_become 209 = .ok (.invokestatic 73, 3) := by decide +kernel
theorem dX0_become_212 : decode cX0_become 212 = .ok (.return_, 1) := by decide +kernel
theorem dX1_init_0 : decode cX1_init 0 = .ok (.aload_n 0, 1) := by decide +kernel
theorem dX1_init_1 : decode cX1_init 1 = .ok (.invokespecial 1, 3) := by decide +kernel
theorem dX1_init_4 : decode cX1_init 4 = .ok (.aload_n 0, 1) := by decide +kernel
theorem dX1_init_5 : decode cX1_init 5 = .ok (.bipush 10, 2) := by decide +kernel
theorem dX1_init_7 : decode cX1_init 7 = .ok (.newarray .int, 2) := by decide +kernel
theorem dX1_init_9 : decode cX1_init 9 = .ok (.putfield 9, 3) := by decide +kernel
theorem dX1_init_12 : decode cX1_init 12 = .ok (.aload_n 0, 1) := by decide +kernel
theorem dX1_init_13 : decode cX1_init 13 = .ok (.bipush 10, 2) := by decide +kernel
theorem dX1_init_15 : decode cX1_init 15 = .ok (.newarray .int, 2) := by decide +kernel
theorem dX1_init_17 : decode cX1_init 17 = .ok (.putfield 13, 3) := by decide +kernel
theorem dX1_init_20 : decode cX1_init 20 = .ok (.aload_n 0, 1) := by decide +kernel
theorem dX1_init_21 : decode cX1_init 21 = .ok (.bipush 10, 2) := by decide +kernel
theorem dX1_init_23 : decode cX1_init 23 = .ok (.newarray .int, 2) := by decide +kernel
theorem dX1_init_25 : decode cX1_init 25 = .ok (.putfield 16, 3) := by decide +kernel
theorem dX1_init_28 : decode cX1_init 28 = .ok (.aload_n 0, 1) := by decide +kernel
theorem dX1_init_29 : decode cX1_init 29 = .ok (.bipush 10, 2) := by decide +kernel
theorem dX1_init_31 : decode cX1_init 31 = .ok (.newarray .int, 2) := by decide +kernel
theorem dX1_init_33 : decode cX1_init 33 = .ok (.putfield 19, 3) := by decide +kernel
theorem dX1_init_36 : decode cX1_init 36 = .ok (.aload_n 0, 1) := by decide +kernel
theorem dX1_init_37 : decode cX1_init 37 = .ok (.iconst 0, 1) := by decide +kernel
theorem dX1_init_38 : decode cX1_init 38 = .ok (.putfield 22, 3) := by decide +kernel
theorem dX1_init_41 : decode cX1_init 41 = .ok (.aload_n 0, 1) := by decide +kernel
theorem dX1_init_42 : decode cX1_init 42 = .ok (.iconst 0, 1) := by decide +kernel
theorem dX1_init_43 : decode cX1_init 43 = .ok (.putfield 26, 3) := by decide +kernel
theorem dX1_init_46 : decode cX1_init 46 = .ok (.return_, 1) := by decide +kernel
theorem dX1_has_0 : decode cX1_has 0 = .ok (.iload_n 1, 1) := by decide +kernel
theorem dX1_has_1 : decode cX1_has 1 = .ok (.iconst 0, 1) := by decide +kernel
theorem dX1_has_2 : decode cX1_has 2 = .ok (.aload_n 0, 1) := by decide +kernel
theorem dX1_has_3 : decode cX1_has 3 = .ok (.getfield 22, 3) := by decide +kernel
theorem dX1_has_6 : decode cX1_has 6 = .ok (.iconst 1, 1) := by decide +kernel
theorem dX1_has_7 : decode cX1_has 7 = .ok (.isub, 1) := by decide +kernel
theorem dX1_has_8 : decode cX1_has 8 = .ok (.invokestatic 29, 3) := by decide +kernel
theorem dX1_has_11 : decode cX1_has 11 = .ok (.ireturn, 1) := by decide +kernel
theorem dX1_add_0 : decode cX1_add 0 = .ok (.aload_n 0, 1) := by decide +kernel
theorem dX1_add_1 : decode cX1_add 1 = .ok (.getfield 22, 3) := by decide +kernel
theorem dX1_add_4 : decode cX1_add 4 = .ok (.istore 5, 2) := by decide +kernel
theorem dX1_add_6 : decode cX1_add 6 = .ok (.aload_n 0, 1) := by decide +kernel
theorem dX1_add_7 : decode cX1_add 7 = .ok (.getfield 9, 3) := by decide +kernel
theorem dX1_add_10 : decode cX1_add 10 = .ok (.iload 5, 2) := by decide +kernel
theorem dX1_add_12 : decode cX1_add 12 = .ok (.iload_n 1, 1) := by decide +kernel
theorem dX1_add_13 : decode cX1_add 13 = .ok (.iastore, 1) := by decide +kernel
theorem dX1_add_14 : decode cX1_add 14 = .ok (.aload_n 0, 1) := by decide +kernel
theorem dX1_add_15 : decode cX1_add 15 = .ok (.getfield 13, 3) := by decide +kernel
theorem dX1_add_18 : decode cX1_add 18 = .ok (.iload 5, 2) := by decide +kernel
theorem dX1_add_20 : decode cX1_add 20 = .ok (.iload_n 2, 1) := by decide +kernel
theorem dX1_add_21 : decode cX1_add 21 = .ok (.iastore, 1) := by decide +kernel
theorem dX1_add_22 : decode cX1_add 22 = .ok (.aload_n 0, 1) := by decide +kernel
theorem dX1_add_23 : decode cX1_add 23 = .ok (.getfield 16, 3) := by decide +kernel
theorem dX1_add_26 : decode cX1_add 26 = .ok (.iload 5, 2) := by decide +kernel
theorem dX1_add_28 : decode cX1_add 28 = .ok (.iload_n 3, 1) := by decide +kernel
theorem dX1_add_29 : decode cX1_add 29 = .ok (.iastore, 1) := by decide +kernel
theorem dX1_add_30 : decode cX1_add 30 = .ok (.aload_n 0, 1) := by decide +kernel
theorem dX1_add_31 : decode cX1_add 31 = .ok (.getfield 19, 3) := by decide +kernel
theorem dX1_add_34 : decode cX1_add 34 = .ok (.iload 5, 2) := by decide +kernel
theorem dX1_add_36 : decode cX1_add 36 = .ok (.iload 4, 2) := by decide +kernel
theorem dX1_add_38 : decode cX1_add 38 = .ok (.iastore, 1) := by decide +kernel
theorem dX1_add_39 : decode cX1_add 39 = .ok (.aload_n 0, 1) := by decide +kernel
theorem dX1_add_40 : decode cX1_add 40 = .ok (.iload 5, 2) := by decide +kernel
theorem dX1_add_42 : decode cX1_add 42 = .ok (.iconst 1, 1) := by decide +kernel
theorem dX1_add_43 : decode cX1_add 43 = .ok (.iadd, 1) := by decide +kernel
theorem dX1_add_44 : decode cX1_add 44 = .ok (.putfield 22, 3) := by decide +kernel
theorem dX1_add_47 : decode cX1_add 47 = .ok (.iload 5, 2) := by decide +kernel
theorem dX1_add_49 : decode cX1_add 49 = .ok (.ireturn, 1) := by decide +kernel
theorem dX1_tell_0 : decode cX1_tell 0 = .ok (.iload_n 2, 1) := by decide +kernel
theorem dX1_tell_1 : decode cX1_tell 1 = .ok (.tableswitch 59 0 3 #[31, 38, 45, 52], 31) := by decide +kernel
theorem dX1_tell_32 : decode cX1_tell 32 = .ok (.aload_n 0, 1) := by decide +kernel
theorem dX1_tell_33 : decode cX1_tell 33 = .ok (.getfield 9, 3) := by decide +kernel
theorem dX1_tell_36 : decode cX1_tell 36 = .ok (.iload_n 1, 1) := by decide +kernel
theorem dX1_tell_37 : decode cX1_tell 37 = .ok (.iaload, 1) := by decide +kernel
theorem dX1_tell_38 : decode cX1_tell 38 = .ok (.ireturn, 1) := by decide +kernel
theorem dX1_tell_39 : decode cX1_tell 39 = .ok (.aload_n 0, 1) := by decide +kernel
theorem dX1_tell_40 : decode cX1_tell 40 = .ok (.getfield 13, 3) := by decide +kernel
theorem dX1_tell_43 : decode cX1_tell 43 = .ok (.iload_n 1, 1) := by decide +kernel
theorem dX1_tell_44 : decode cX1_tell 44 = .ok (.iaload, 1) := by decide +kernel
theorem dX1_tell_45 : decode cX1_tell 45 = .ok (.ireturn, 1) := by decide +kernel
theorem dX1_tell_46 : decode cX1_tell 46 = .ok (.aload_n 0, 1) := by decide +kernel
theorem dX1_tell_47 : decode cX1_tell 47 = .ok (.getfield 16, 3) := by decide +kernel
theorem dX1_tell_50 : decode cX1_tell 50 = .ok (.iload_n 1, 1) := by decide +kernel
theorem dX1_tell_51 : decode cX1_tell 51 = .ok (.iaload, 1) := by decide +kernel
theorem dX1_tell_52 : decode cX1_tell 52 = .ok (.ireturn, 1) := by decide +kernel
theorem dX1_tell_53 : decode cX1_tell 53 = .ok (.aload_n 0, 1) := by decide +kernel
theorem dX1_tell_54 : decode cX1_tell 54 = .ok (.getfield 19, 3) := by decide +kernel
theorem dX1_tell_57 : decode cX1_tell 57 = .ok (.iload_n 1, 1) := by decide +kernel
theorem dX1_tell_58 : decode cX1_tell 58 = .ok (.iaload, 1) := by decide +kernel
theorem dX1_tell_59 : decode cX1_tell 59 = .ok (.ireturn, 1) := by decide +kernel
theorem dX1_tell_60 : decode cX1_tell 60 = .ok (.aload_n 0, 1) := by decide +kernel
theorem dX1_tell_61 : decode cX1_tell 61 = .ok (.getfield 26, 3) := by decide +kernel
theorem dX1_tell_64 : decode cX1_tell 64 = .ok (.iload_n 1, 1) := by decide +kernel
theorem dX1_tell_65 : decode cX1_tell 65 = .ok (.invokestatic 35, 3) := by decide +kernel
theorem dX1_tell_68 : decode cX1_tell 68 = .ok (.ifCond .eq 7, 3) := by decide +kernel
theorem dX1_tell_71 : decode cX1_tell 71 = .ok (.iconst 0, 1) := by decide +kernel
theorem dX1_tell_72 : decode cX1_tell 72 = .ok (.goto 4, 3) := by decide +kernel
theorem dX1_tell_75 : decode cX1_tell 75 = .ok (.iconst 1, 1) := by decide +kernel
theorem dX1_tell_76 : decode cX1_tell 76 = .ok (.ireturn, 1) := by decide +kernel
theorem dX1_become_0 : decode cX1_become 0 = .ok (.aload_n 0, 1) := by decide +kernel
theorem dX1_become_1 : decode cX1_become 1 = .ok (.aload_n 1, 1) := by decide +kernel
theorem dX1_become_2 : decode cX1_become 2 = .ok (.getfield 22, 3) := by decide +kernel
theorem dX1_become_5 : decode cX1_become 5 = .ok (.putfield 22, 3) := by decide +kernel
theorem dX1_become_8 : decode cX1_become 8 = .ok (.aload_n 0, 1) := by decide +kernel
theorem dX1_become_9 : decode cX1_become 9 = .ok (.aload_n 1, 1) := by decide +kernel
theorem dX1_become_10 : decode cX1_become 10 = .ok (.getfield 26, 3) := by decide +kernel
theorem dX1_become_13 : decode cX1_become 13 = .ok (.putfield 26, 3) := by decide +kernel
theorem dX1_become_16 : decode cX1_become 16 = .ok (.aload_n 1, 1) := by decide +kernel
theorem dX1_become_17 : decode cX1_become 17 = .ok (.getfield 9, 3) := by decide +kernel
theorem dX1_become_20 : decode cX1_become 20 = .ok (.iconst 0, 1) := by decide +kernel
theorem dX1_become_21 : decode cX1_become 21 = .ok (.aload_n 0, 1) := by decide +kernel
theorem dX1_become_22 : decode cX1_become 22 = .ok (.getfield 9, 3) := by decide +kernel
theorem dX1_become_25 : decode cX1_become 25 = .ok (.iconst 0, 1) := by decide +kernel
theorem dX1_become_26 : decode cX1_become 26 = .ok (.aload_n 0, 1) := by decide +kernel
theorem dX1_become_27 : decode cX1_become 27 = .ok (.getfield 22, 3) := by decide +kernel
theorem dX1_become_30 : decode cX1_become 30 = .ok (.invokestatic 39, 3) := by decide +kernel
theorem dX1_become_33 : decode cX1_become 33 = .ok (.aload_n 1, 1) := by decide +kernel
theorem dX1_become_34 : decode cX1_become 34 = .ok (.getfield 13, 3) := by decide +kernel
theorem dX1_become_37 : decode cX1_become 37 = .ok (.iconst 0, 1) := by decide +kernel
theorem dX1_become_38 : decode cX1_become 38 = .ok (.aload_n 0, 1) := by decide +kernel
theorem dX1_become_39 : decode cX1_become 39 = .ok (.getfield 13, 3) := by decide +kernel
theorem dX1_become_42 : decode cX1_become 42 = .ok (.iconst 0, 1) := by decide +kernel
theorem dX1_become_43 : decode cX1_become 43 = .ok (.aload_n 0, 1) := by decide +kernel
theorem dX1_become_44 : decode cX1_become 44 = .ok (.getfield 22, 3) := by decide +kernel
theorem dX1_become_47 : decode cX1_become 47 = .ok (.invokestatic 39, 3) := by decide +kernel
theorem dX1_become_50 : decode cX1_become 50 = .ok (.aload_n 1, 1) := by decide +kernel
theorem dX1_become_51 : decode cX1_become 51 = .ok (.getfield 16, 3) := by decide +kernel
theorem dX1_become_54 : decode cX1_become 54 = .ok (.iconst 0, 1) := by decide +kernel
theorem dX1_become_55 : decode cX1_become 55 = .ok (.aload_n 0, 1) := by decide +kernel
theorem dX1_become_56 : decode cX1_become 56 = .ok (.getfield 16, 3) := by decide +kernel
theorem dX1_become_59 : decode cX1_become 59 = .ok (.iconst 0, 1) := by decide +kernel
theorem dX1_become_60 : decode cX1_become 60 = .ok (.aload_n 0, 1) := by decide +kernel
theorem dX1_become_61 : decode cX1_become 61 = .ok (.getfield 22, 3) := by decide +kernel
theorem dX1_become_64 : decode cX1_become 64 = .ok (.invokestatic 39, 3) := by decide +kernel
theorem dX1_become_67 : decode cX1_become 67 = .ok (.aload_n 1, 1) := by decide +kernel
theorem dX1_become_68 : decode cX1_become 68 = .ok (.getfield 19, 3) := by decide +kernel
theorem dX1_become_71 : decode cX1_become 71 = .ok (.iconst 0, 1) := by decide +kernel
theorem dX1_become_72 : decode cX1_become 72 = .ok (.aload_n 0, 1) := by decide +kernel
theorem dX1_become_73 : decode cX1_become 73 = .ok (.getfield 19, 3) := by decide +kernel
theorem dX1_become_76 : decode cX1_become 76 = .ok (.iconst 0, 1) := by decide +kernel
theorem dX1_become_77 : decode cX1_become 77 = .ok (.aload_n 0, 1) := by decide +kernel
theorem dX1_become_78 : decode cX1_become 78 = .ok (.getfield 22, 3) := by decide +kernel
theorem dX1_become_81 : decode cX1_become 81 = .ok (.invokestatic 39, 3) := by decide +kernel
theorem dX1_become_84 : decode cX1_become 84 = .ok (.return_, 1) := by decide +kernel
theorem dX2_has_0 : decode cX2_has 0 = .ok (.iload_n 0, 1) := by decide +kernel
theorem dX2_has_1 : decode cX2_has 1 = .ok (.iconst 0, 1) := by decide +kernel
theorem dX2_has_2 : decode cX2_has 2 = .ok (.iconst 5, 1) := by decide +kernel
theorem dX2_has_3 : decode cX2_has 3 = .ok (.invokestatic 9, 3) := by decide +kernel
theorem dX2_has_6 : decode cX2_has 6 = .ok (.ireturn, 1) := by decide +kernel
theorem dX2_isOrUnder_0 : decode cX2_isOrUnder 0 = .ok (.iload_n 0, 1) := by decide +kernel
theorem dX2_isOrUnder_1 : decode cX2_isOrUnder 1 = .ok (.istore_n 2, 1) := by decide +kernel
theorem dX2_isOrUnder_2 : decode cX2_isOrUnder 2 = .ok (.iconst 0, 1) := by decide +kernel
theorem dX2_isOrUnder_3 : decode cX2_isOrUnder 3 = .ok (.istore_n 3, 1) := by decide +kernel
theorem dX2_isOrUnder_4 : decode cX2_isOrUnder 4 = .ok (.iload_n 3, 1) := by decide +kernel
theorem dX2_isOrUnder_5 : decode cX2_isOrUnder 5 = .ok (.iconst 5, 1) := by decide +kernel
theorem dX2_isOrUnder_6 : decode cX2_isOrUnder 6 = .ok (.if_icmp .gt 29, 3) := by decide +kernel
theorem dX2_isOrUnder_9 : decode cX2_isOrUnder 9 = .ok (.iload_n 2, 1) := by decide +kernel
theorem dX2_isOrUnder_10 : decode cX2_isOrUnder 10 = .ok (.invokestatic 15, 3) := by decide +kernel
theorem dX2_isOrUnder_13 : decode cX2_isOrUnder 13 = .ok (.ifCond .eq 22, 3) := by decide +kernel
theorem dX2_isOrUnder_16 : decode cX2_isOrUnder 16 = .ok (.iload_n 2, 1) := by decide +kernel
theorem dX2_isOrUnder_17 : decode cX2_isOrUnder 17 = .ok (.iload_n 1, 1) := by decide +kernel
theorem dX2_isOrUnder_18 : decode cX2_isOrUnder 18 = .ok (.if_icmp .ne 5, 3) := by decide +kernel
theorem dX2_isOrUnder_21 : decode cX2_isOrUnder 21 = .ok (.iconst 1, 1) := by decide +kernel
theorem dX2_isOrUnder_22 : decode cX2_isOrUnder 22 = .ok (.ireturn, 1) := by decide +kernel
theorem dX2_isOrUnder_23 : decode cX2_isOrUnder 23 = .ok (.getstatic 19, 3) := by decide +kernel
theorem dX2_isOrUnder_26 : decode cX2_isOrUnder 26 = .ok (.iload_n 2, 1) := by decide +kernel
theorem dX2_isOrUnder_27 : decode cX2_isOrUnder 27 = .ok (.iaload, 1) := by decide +kernel
theorem dX2_isOrUnder_28 : decode cX2_isOrUnder 28 = .ok (.istore_n 2, 1) := by decide +kernel
theorem dX2_isOrUnder_29 : decode cX2_isOrUnder 29 = .ok (.iinc 3 1, 3) := by decide +kernel
theorem dX2_isOrUnder_32 : decode cX2_isOrUnder 32 = .ok (.goto (-28), 3) := by decide +kernel
theorem dX2_isOrUnder_35 : decode cX2_isOrUnder 35 = .ok (.iconst 0, 1) := by decide +kernel
theorem dX2_isOrUnder_36 : decode cX2_isOrUnder 36 = .ok (.ireturn, 1) := by decide +kernel
theorem dX2_mostWind_0 : decode cX2_mostWind 0 = .ok (.iload_n 0, 1) := by decide +kernel
theorem dX2_mostWind_1 : decode cX2_mostWind 1 = .ok (.tableswitch 50 1 5 #[35, 38, 41, 44, 47], 35) := by decide +kernel
theorem dX2_mostWind_36 : decode cX2_mostWind 36 = .ok (.bipush 20, 2) := by decide +kernel
theorem dX2_mostWind_38 : decode cX2_mostWind 38 = .ok (.ireturn, 1) := by decide +kernel
theorem dX2_mostWind_39 : decode cX2_mostWind 39 = .ok (.bipush 25, 2) := by decide +kernel
theorem dX2_mostWind_41 : decode cX2_mostWind 41 = .ok (.ireturn, 1) := by decide +kernel
theorem dX2_mostWind_42 : decode cX2_mostWind 42 = .ok (.bipush 10, 2) := by decide +kernel
theorem dX2_mostWind_44 : decode cX2_mostWind 44 = .ok (.ireturn, 1) := by decide +kernel
theorem dX2_mostWind_45 : decode cX2_mostWind 45 = .ok (.bipush 15, 2) := by decide +kernel
theorem dX2_mostWind_47 : decode cX2_mostWind 47 = .ok (.ireturn, 1) := by decide +kernel
theorem dX2_mostWind_48 : decode cX2_mostWind 48 = .ok (.bipush 28, 2) := by decide +kernel
theorem dX2_mostWind_50 : decode cX2_mostWind 50 = .ok (.ireturn, 1) := by decide +kernel
theorem dX2_mostWind_51 : decode cX2_mostWind 51 = .ok (.bipush 25, 2) := by decide +kernel
theorem dX2_mostWind_53 : decode cX2_mostWind 53 = .ok (.ireturn, 1) := by decide +kernel
theorem dX2_minutesOnLane_0 : decode cX2_minutesOnLane 0 = .ok (.iconst 1, 1) := by decide +kernel
theorem dX2_minutesOnLane_1 : decode cX2_minutesOnLane 1 = .ok (.iload_n 1, 1) := by decide +kernel
theorem dX2_minutesOnLane_2 : decode cX2_minutesOnLane 2 = .ok (.iconst 5, 1) := by decide +kernel
theorem dX2_minutesOnLane_3 : decode cX2_minutesOnLane 3 = .ok (.idiv, 1) := by decide +kernel
theorem dX2_minutesOnLane_4 : decode cX2_minutesOnLane 4 = .ok (.iadd, 1) := by decide +kernel
theorem dX2_minutesOnLane_5 : decode cX2_minutesOnLane 5 = .ok (.istore_n 2, 1) := by decide +kernel
theorem dX2_minutesOnLane_6 : decode cX2_minutesOnLane 6 = .ok (.iload_n 0, 1) := by decide +kernel
theorem dX2_minutesOnLane_7 : decode cX2_minutesOnLane 7 = .ok (.tableswitch 51 1 5 #[33, 35, 37, 39, 47], 33) := by decide +kernel
theorem dX2_minutesOnLane_40 : decode cX2_minutesOnLane 40 = .ok (.iconst 2, 1) := by decide +kernel
theorem dX2_minutesOnLane_41 : decode cX2_minutesOnLane 41 = .ok (.ireturn, 1) := by decide +kernel
theorem dX2_minutesOnLane_42 : decode cX2_minutesOnLane 42 = .ok (.iload_n 2, 1) := by decide +kernel
theorem dX2_minutesOnLane_43 : decode cX2_minutesOnLane 43 = .ok (.ireturn, 1) := by decide +kernel
theorem dX2_minutesOnLane_44 : decode cX2_minutesOnLane 44 = .ok (.iconst 4, 1) := by decide +kernel
theorem dX2_minutesOnLane_45 : decode cX2_minutesOnLane 45 = .ok (.ireturn, 1) := by decide +kernel
theorem dX2_minutesOnLane_46 : decode cX2_minutesOnLane 46 = .ok (.iconst 1, 1) := by decide +kernel
theorem dX2_minutesOnLane_47 : decode cX2_minutesOnLane 47 = .ok (.iload_n 2, 1) := by decide +kernel
theorem dX2_minutesOnLane_48 : decode cX2_minutesOnLane 48 = .ok (.iconst 1, 1) := by decide +kernel
theorem dX2_minutesOnLane_49 : decode cX2_minutesOnLane 49 = .ok (.isub, 1) := by decide +kernel
theorem dX2_minutesOnLane_50 : decode cX2_minutesOnLane 50 = .ok (.invokestatic 23, 3) := by decide +kernel
theorem dX2_minutesOnLane_53 : decode cX2_minutesOnLane 53 = .ok (.ireturn, 1) := by decide +kernel
theorem dX2_minutesOnLane_54 : decode cX2_minutesOnLane 54 = .ok (.iload_n 2, 1) := by decide +kernel
theorem dX2_minutesOnLane_55 : decode cX2_minutesOnLane 55 = .ok (.iconst 4, 1) := by decide +kernel
theorem dX2_minutesOnLane_56 : decode cX2_minutesOnLane 56 = .ok (.iadd, 1) := by decide +kernel
theorem dX2_minutesOnLane_57 : decode cX2_minutesOnLane 57 = .ok (.ireturn, 1) := by decide +kernel
theorem dX2_minutesOnLane_58 : decode cX2_minutesOnLane 58 = .ok (.iconst 1, 1) := by decide +kernel
theorem dX2_minutesOnLane_59 : decode cX2_minutesOnLane 59 = .ok (.ireturn, 1) := by decide +kernel
theorem dX3_init_0 : decode cX3_init 0 = .ok (.aload_n 0, 1) := by decide +kernel
theorem dX3_init_1 : decode cX3_init 1 = .ok (.invokespecial 3, 3) := by decide +kernel
theorem dX3_init_4 : decode cX3_init 4 = .ok (.aload_n 0, 1) := by decide +kernel
theorem dX3_init_5 : decode cX3_init 5 = .ok (.bipush 6, 2) := by decide +kernel
theorem dX3_init_7 : decode cX3_init 7 = .ok (.newarray .int, 2) := by decide +kernel
theorem dX3_init_9 : decode cX3_init 9 = .ok (.putfield 9, 3) := by decide +kernel
theorem dX3_init_12 : decode cX3_init 12 = .ok (.aload_n 0, 1) := by decide +kernel
theorem dX3_init_13 : decode cX3_init 13 = .ok (.iconst 4, 1) := by decide +kernel
theorem dX3_init_14 : decode cX3_init 14 = .ok (.newarray .int, 2) := by decide +kernel
theorem dX3_init_16 : decode cX3_init 16 = .ok (.putfield 13, 3) := by decide +kernel
theorem dX3_init_19 : decode cX3_init 19 = .ok (.aload_n 0, 1) := by decide +kernel
theorem dX3_init_20 : decode cX3_init 20 = .ok (.bipush 6, 2) := by decide +kernel
theorem dX3_init_22 : decode cX3_init 22 = .ok (.newarray .int, 2) := by decide +kernel
theorem dX3_init_24 : decode cX3_init 24 = .ok (.putfield 16, 3) := by decide +kernel
theorem dX3_init_27 : decode cX3_init 27 = .ok (.aload_n 0, 1) := by decide +kernel
theorem dX3_init_28 : decode cX3_init 28 = .ok (.bipush 6, 2) := by decide +kernel
theorem dX3_init_30 : decode cX3_init 30 = .ok (.newarray .int, 2) := by decide +kernel
theorem dX3_init_32 : decode cX3_init 32 = .ok (.putfield 19, 3) := by decide +kernel
theorem dX3_init_35 : decode cX3_init 35 = .ok (.aload_n 0, 1) := by decide +kernel
theorem dX3_init_36 : decode cX3_init 36 = .ok (.bipush 6, 2) := by decide +kernel
theorem dX3_init_38 : decode cX3_init 38 = .ok (.newarray .int, 2) := by decide +kernel
theorem dX3_init_40 : decode cX3_init 40 = .ok (.putfield 22, 3) := by decide +kernel
theorem dX3_init_43 : decode cX3_init 43 = .ok (.aload_n 0, 1) := by decide +kernel
theorem dX3_init_44 : decode cX3_init 44 = .ok (.iconst 0, 1) := by decide +kernel
theorem dX3_init_45 : decode cX3_init 45 = .ok (.putfield 25, 3) := by decide +kernel
theorem dX3_init_48 : decode cX3_init 48 = .ok (.iconst 0, 1) := by decide +kernel
theorem dX3_init_49 : decode cX3_init 49 = .ok (.istore_n 1, 1) := by decide +kernel
theorem dX3_init_50 : decode cX3_init 50 = .ok (.iload_n 1, 1) := by decide +kernel
theorem dX3_init_51 : decode cX3_init 51 = .ok (.bipush 6, 2) := by decide +kernel
theorem dX3_init_53 : decode cX3_init 53 = .ok (.if_icmp .ge 18, 3) := by decide +kernel
theorem dX3_init_56 : decode cX3_init 56 = .ok (.aload_n 0, 1) := by decide +kernel
theorem dX3_init_57 : decode cX3_init 57 = .ok (.getfield 9, 3) := by decide +kernel
theorem dX3_init_60 : decode cX3_init 60 = .ok (.iload_n 1, 1) := by decide +kernel
theorem dX3_init_61 : decode cX3_init 61 = .ok (.iconst 1, 1) := by decide +kernel
theorem dX3_init_62 : decode cX3_init 62 = .ok (.iload_n 1, 1) := by decide +kernel
theorem dX3_init_63 : decode cX3_init 63 = .ok (.ishl, 1) := by decide +kernel
theorem dX3_init_64 : decode cX3_init 64 = .ok (.iastore, 1) := by decide +kernel
theorem dX3_init_65 : decode cX3_init 65 = .ok (.iinc 1 1, 3) := by decide +kernel
theorem dX3_init_68 : decode cX3_init 68 = .ok (.goto (-18), 3) := by decide +kernel
theorem dX3_init_71 : decode cX3_init 71 = .ok (.iconst 0, 1) := by decide +kernel
theorem dX3_init_72 : decode cX3_init 72 = .ok (.istore_n 1, 1) := by decide +kernel
theorem dX3_init_73 : decode cX3_init 73 = .ok (.iload_n 1, 1) := by decide +kernel
theorem dX3_init_74 : decode cX3_init 74 = .ok (.iconst 4, 1) := by decide +kernel
theorem dX3_init_75 : decode cX3_init 75 = .ok (.if_icmp .ge 16, 3) := by decide +kernel
theorem dX3_init_78 : decode cX3_init 78 = .ok (.aload_n 0, 1) := by decide +kernel
theorem dX3_init_79 : decode cX3_init 79 = .ok (.getfield 13, 3) := by decide +kernel
theorem dX3_init_82 : decode cX3_init 82 = .ok (.iload_n 1, 1) := by decide +kernel
theorem dX3_init_83 : decode cX3_init 83 = .ok (.iload_n 1, 1) := by decide +kernel
theorem dX3_init_84 : decode cX3_init 84 = .ok (.iastore, 1) := by decide +kernel
theorem dX3_init_85 : decode cX3_init 85 = .ok (.iinc 1 1, 3) := by decide +kernel
theorem dX3_init_88 : decode cX3_init 88 = .ok (.goto (-15), 3) := by decide +kernel
theorem dX3_init_91 : decode cX3_init 91 = .ok (.return_, 1) := by decide +kernel
theorem dX3_has_0 : decode cX3_has 0 = .ok (.iload_n 0, 1) := by decide +kernel
theorem dX3_has_1 : decode cX3_has 1 = .ok (.iconst 0, 1) := by decide +kernel
theorem dX3_has_2 : decode cX3_has 2 = .ok (.iconst 5, 1) := by decide +kernel
theorem dX3_has_3 : decode cX3_has 3 = .ok (.invokestatic 29, 3) := by decide +kernel
theorem dX3_has_6 : decode cX3_has 6 = .ok (.ireturn, 1) := by decide +kernel
theorem dX3_isClear_0 : decode cX3_isClear 0 = .ok (.aload_n 0, 1) := by decide +kernel
theorem dX3_isClear_1 : decode cX3_isClear 1 = .ok (.getfield 9, 3) := by decide +kernel
theorem dX3_isClear_4 : decode cX3_isClear 4 = .ok (.iload_n 1, 1) := by decide +kernel
theorem dX3_isClear_5 : decode cX3_isClear 5 = .ok (.iaload, 1) := by decide +kernel
theorem dX3_isClear_6 : decode cX3_isClear 6 = .ok (.istore 4, 2) := by decide +kernel
theorem dX3_isClear_8 : decode cX3_isClear 8 = .ok (.iconst 0, 1) := by decide +kernel
theorem dX3_isClear_9 : decode cX3_isClear 9 = .ok (.istore 5, 2) := by decide +kernel
theorem dX3_isClear_11 : decode cX3_isClear 11 = .ok (.iload 5, 2) := by decide +kernel
theorem dX3_isClear_13 : decode cX3_isClear 13 = .ok (.aload_n 0, 1) := by decide +kernel
theorem dX3_isClear_14 : decode cX3_isClear 14 = .ok (.getfield 25, 3) := by decide +kernel
theorem dX3_isClear_17 : decode cX3_isClear 17 = .ok (.if_icmp .ge 50, 3) := by decide +kernel
theorem dX3_isClear_20 : decode cX3_isClear 20 = .ok (.iload 4, 2) := by decide +kernel
theorem dX3_isClear_22 : decode cX3_isClear 22 = .ok (.aload_n 0, 1) := by decide +kernel
theorem dX3_isClear_23 : decode cX3_isClear 23 = .ok (.getfield 16, 3) := by decide +kernel
theorem dX3_isClear_26 : decode cX3_isClear 26 = .ok (.iload 5, 2) := by decide +kernel
theorem dX3_isClear_28 : decode cX3_isClear 28 = .ok (.iaload, 1) := by decide +kernel
theorem dX3_isClear_29 : decode cX3_isClear 29 = .ok (.invokestatic 35, 3) := by decide +kernel
theorem dX3_isClear_32 : decode cX3_isClear 32 = .ok (.ifCond .eq 29, 3) := by decide +kernel
theorem dX3_isClear_35 : decode cX3_isClear 35 = .ok (.aload_n 0, 1) := by decide +kernel
theorem dX3_isClear_36 : decode cX3_isClear 36 = .ok (.getfield 19, 3) := by decide +kernel
theorem dX3_isClear_39 : decode cX3_isClear 39 = .ok (.iload 5, 2) := by decide +kernel
theorem dX3_isClear_41 : decode cX3_isClear 41 = .ok (.iaload, 1) := by decide +kernel
theorem dX3_isClear_42 : decode cX3_isClear 42 = .ok (.iload_n 2, 1) := by decide +kernel
theorem dX3_isClear_43 : decode cX3_isClear 43 = .ok (.iload_n 3, 1) := by decide +kernel
theorem dX3_isClear_44 : decode cX3_isClear 44 = .ok (.iadd, 1) := by decide +kernel
theorem dX3_isClear_45 : decode cX3_isClear 45 = .ok (.if_icmp .ge 16, 3) := by decide +kernel
theorem dX3_isClear_48 : decode cX3_isClear 48 = .ok (.aload_n 0, 1) := by decide +kernel
theorem dX3_isClear_49 : decode cX3_isClear 49 = .ok (.getfield 22, 3) := by decide +kernel
theorem dX3_isClear_52 : decode cX3_isClear 52 = .ok (.iload 5, 2) := by decide +kernel
theorem dX3_isClear_54 : decode cX3_isClear 54 = .ok (.iaload, 1) := by decide +kernel
theorem dX3_isClear_55 : decode cX3_isClear 55 = .ok (.iload_n 2, 1) := by decide +kernel
theorem dX3_isClear_56 : decode cX3_isClear 56 = .ok (.if_icmp .le 5, 3) := by decide +kernel
theorem dX3_isClear_59 : decode cX3_isClear 59 = .ok (.iconst 0, 1) := by decide +kernel
theorem dX3_isClear_60 : decode cX3_isClear 60 = .ok (.ireturn, 1) := by decide +kernel
theorem dX3_isClear_61 : decode cX3_isClear 61 = .ok (.iinc 5 1, 3) := by decide +kernel
theorem dX3_isClear_64 : decode cX3_isClear 64 = .ok (.goto (-53), 3) := by decide +kernel
theorem dX3_isClear_67 : decode cX3_isClear 67 = .ok (.iconst 1, 1) := by decide +kernel
theorem dX3_isClear_68 : decode cX3_isClear 68 = .ok (.ireturn, 1) := by decide +kernel
theorem dX3_move_0 : decode cX3_move 0 = .ok (.aload_n 0, 1) := by decide +kernel
theorem dX3_move_1 : decode cX3_move 1 = .ok (.getfield 25, 3) := by decide +kernel
theorem dX3_move_4 : decode cX3_move 4 = .ok (.bipush 6, 2) := by decide +kernel
theorem dX3_move_6 : decode cX3_move 6 = .ok (.if_icmp .ge 50, 3) := by decide +kernel
theorem dX3_move_9 : decode cX3_move 9 = .ok (.aload_n 0, 1) := by decide +kernel
theorem dX3_move_10 : decode cX3_move 10 = .ok (.getfield 16, 3) := by decide +kernel
theorem dX3_move_13 : decode cX3_move 13 = .ok (.aload_n 0, 1) := by decide +kernel
theorem dX3_move_14 : decode cX3_move 14 = .ok (.getfield 25, 3) := by decide +kernel
theorem dX3_move_17 : decode cX3_move 17 = .ok (.aload_n 0, 1) := by decide +kernel
theorem dX3_move_18 : decode cX3_move 18 = .ok (.getfield 13, 3) := by decide +kernel
theorem dX3_move_21 : decode cX3_move 21 = .ok (.iload_n 1, 1) := by decide +kernel
theorem dX3_move_22 : decode cX3_move 22 = .ok (.iaload, 1) := by decide +kernel
theorem dX3_move_23 : decode cX3_move 23 = .ok (.iastore, 1) := by decide +kernel
theorem dX3_move_24 : decode cX3_move 24 = .ok (.aload_n 0, 1) := by decide +kernel
theorem dX3_move_25 : decode cX3_move 25 = .ok (.getfield 19, 3) := by decide +kernel
theorem dX3_move_28 : decode cX3_move 28 = .ok (.aload_n 0, 1) := by decide +kernel
theorem dX3_move_29 : decode cX3_move 29 = .ok (.getfield 25, 3) := by decide +kernel
theorem dX3_move_32 : decode cX3_move 32 = .ok (.iload_n 2, 1) := by decide +kernel
theorem dX3_move_33 : decode cX3_move 33 = .ok (.iastore, 1) := by decide +kernel
theorem dX3_move_34 : decode cX3_move 34 = .ok (.aload_n 0, 1) := by decide +kernel
theorem dX3_move_35 : decode cX3_move 35 = .ok (.getfield 22, 3) := by decide +kernel
theorem dX3_move_38 : decode cX3_move 38 = .ok (.aload_n 0, 1) := by decide +kernel
theorem dX3_move_39 : decode cX3_move 39 = .ok (.getfield 25, 3) := by decide +kernel
theorem dX3_move_42 : decode cX3_move 42 = .ok (.iload_n 2, 1) := by decide +kernel
theorem dX3_move_43 : decode cX3_move 43 = .ok (.iload_n 3, 1) := by decide +kernel
theorem dX3_move_44 : decode cX3_move 44 = .ok (.iadd, 1) := by decide +kernel
theorem dX3_move_45 : decode cX3_move 45 = .ok (.iastore, 1) := by decide +kernel
theorem dX3_move_46 : decode cX3_move 46 = .ok (.aload_n 0, 1) := by decide +kernel
theorem dX3_move_47 : decode cX3_move 47 = .ok (.dup, 1) := by decide +kernel
theorem dX3_move_48 : decode cX3_move 48 = .ok (.getfield 25, 3) := by decide +kernel
theorem dX3_move_51 : decode cX3_move 51 = .ok (.iconst 1, 1) := by decide +kernel
theorem dX3_move_52 : decode cX3_move 52 = .ok (.iadd, 1) := by decide +kernel
theorem dX3_move_53 : decode cX3_move 53 = .ok (.putfield 25, 3) := by decide +kernel
theorem dX3_move_56 : decode cX3_move 56 = .ok (.return_, 1) := by decide +kernel
theorem dX3_open_0 : decode cX3_open 0 = .ok (.iconst 0, 1) := by decide +kernel
theorem dX3_open_1 : decode cX3_open 1 = .ok (.istore_n 2, 1) := by decide +kernel
theorem dX3_open_2 : decode cX3_open 2 = .ok (.iconst 0, 1) := by decide +kernel
theorem dX3_open_3 : decode cX3_open 3 = .ok (.istore_n 3, 1) := by decide +kernel
theorem dX3_open_4 : decode cX3_open 4 = .ok (.iload_n 3, 1) := by decide +kernel
theorem dX3_open_5 : decode cX3_open 5 = .ok (.aload_n 0, 1) := by decide +kernel
theorem dX3_open_6 : decode cX3_open 6 = .ok (.getfield 25, 3) := by decide +kernel
theorem dX3_open_9 : decode cX3_open 9 = .ok (.if_icmp .ge 58, 3) := by decide +kernel
theorem dX3_open_12 : decode cX3_open 12 = .ok (.aload_n 0, 1) := by decide +kernel
theorem dX3_open_13 : decode cX3_open 13 = .ok (.getfield 22, 3) := by decide +kernel
theorem dX3_open_16 : decode cX3_open 16 = .ok (.iload_n 3, 1) := by decide +kernel
theorem dX3_open_17 : decode cX3_open 17 = .ok (.iaload, 1) := by decide +kernel
theorem dX3_open_18 : decode cX3_open 18 = .ok (.iload_n 1, 1) := by decide +kernel
theorem dX3_open_19 : decode cX3_open 19 = .ok (.if_icmp .le 42, 3) := by decide +kernel
theorem dX3_open_22 : decode cX3_open 22 = .ok (.aload_n 0, 1) := by decide +kernel
theorem dX3_open_23 : decode cX3_open 23 = .ok (.getfield 16, 3) := by decide +kernel
theorem dX3_open_26 : decode cX3_open 26 = .ok (.iload_n 2, 1) := by decide +kernel
theorem dX3_open_27 : decode cX3_open 27 = .ok (.aload_n 0, 1) := by decide +kernel
theorem dX3_open_28 : decode cX3_open 28 = .ok (.getfield 16, 3) := by decide +kernel
theorem dX3_open_31 : decode cX3_open 31 = .ok (.iload_n 3, 1) := by decide +kernel
theorem dX3_open_32 : decode cX3_open 32 = .ok (.iaload, 1) := by decide +kernel
theorem dX3_open_33 : decode cX3_open 33 = .ok (.iastore, 1) := by decide +kernel
theorem dX3_open_34 : decode cX3_open 34 = .ok (.aload_n 0, 1) := by decide +kernel
theorem dX3_open_35 : decode cX3_open 35 = .ok (.getfield 19, 3) := by decide +kernel
theorem dX3_open_38 : decode cX3_open 38 = .ok (.iload_n 2, 1) := by decide +kernel
theorem dX3_open_39 : decode cX3_open 39 = .ok (.aload_n 0, 1) := by decide +kernel
theorem dX3_open_40 : decode cX3_open 40 = .ok (.getfield 19, 3) := by decide +kernel
theorem dX3_open_43 : decode cX3_open 43 = .ok (.iload_n 3, 1) := by decide +kernel
theorem dX3_open_44 : decode cX3_open 44 = .ok (.iaload, 1) := by decide +kernel
theorem dX3_open_45 : decode cX3_open 45 = .ok (.iastore, 1) := by decide +kernel
theorem dX3_open_46 : decode cX3_open 46 = .ok (.aload_n 0, 1) := by decide +kernel
theorem dX3_open_47 : decode cX3_open 47 = .ok (.getfield 22, 3) := by decide +kernel
theorem dX3_open_50 : decode cX3_open 50 = .ok (.iload_n 2, 1) := by decide +kernel
theorem dX3_open_51 : decode cX3_open 51 = .ok (.aload_n 0, 1) := by decide +kernel
theorem dX3_open_52 : decode cX3_open 52 = .ok (.getfield 22, 3) := by decide +kernel
theorem dX3_open_55 : decode cX3_open 55 = .ok (.iload_n 3, 1) := by decide +kernel
theorem dX3_open_56 : decode cX3_open 56 = .ok (.iaload, 1) := by decide +kernel
theorem dX3_open_57 : decode cX3_open 57 = .ok (.iastore, 1) := by decide +kernel
theorem dX3_open_58 : decode cX3_open 58 = .ok (.iinc 2 1, 3) := by decide +kernel
theorem dX3_open_61 : decode cX3_open 61 = .ok (.iinc 3 1, 3) := by decide +kernel
theorem dX3_open_64 : decode cX3_open 64 = .ok (.goto (-60), 3) := by decide +kernel
theorem dX3_open_67 : decode cX3_open 67 = .ok (.aload_n 0, 1) := by decide +kernel
theorem dX3_open_68 : decode cX3_open 68 = .ok (.iload_n 2, 1) := by decide +kernel
theorem dX3_open_69 : decode cX3_open 69 = .ok (.putfield 25, 3) := by decide +kernel
theorem dX3_open_72 : decode cX3_open 72 = .ok (.return_, 1) := by decide +kernel
theorem dX3_become_0 : decode cX3_become 0 = .ok (.aload_n 0, 1) := by decide +kernel
theorem dX3_become_1 : decode cX3_become 1 = .ok (.aload_n 1, 1) := by decide +kernel
theorem dX3_become_2 : decode cX3_become 2 = .ok (.getfield 25, 3) := by decide +kernel
theorem dX3_become_5 : decode cX3_become 5 = .ok (.putfield 25, 3) := by decide +kernel
theorem dX3_become_8 : decode cX3_become 8 = .ok (.aload_n 1, 1) := by decide +kernel
theorem dX3_become_9 : decode cX3_become 9 = .ok (.getfield 9, 3) := by decide +kernel
theorem dX3_become_12 : decode cX3_become 12 = .ok (.iconst 0, 1) := by decide +kernel
theorem dX3_become_13 : decode cX3_become 13 = .ok (.aload_n 0, 1) := by decide +kernel
theorem dX3_become_14 : decode cX3_become 14 = .ok (.getfield 9, 3) := by decide +kernel
theorem dX3_become_17 : decode cX3_become 17 = .ok (.iconst 0, 1) := by decide +kernel
theorem dX3_become_18 : decode cX3_become 18 = .ok (.bipush 6, 2) := by decide +kernel
theorem dX3_become_20 : decode cX3_become 20 = .ok (.invokestatic 39, 3) := by decide +kernel
theorem dX3_become_23 : decode cX3_become 23 = .ok (.aload_n 1, 1) := by decide +kernel
theorem dX3_become_24 : decode cX3_become 24 = .ok (.getfield 13, 3) := by decide +kernel
theorem dX3_become_27 : decode cX3_become 27 = .ok (.iconst 0, 1) := by decide +kernel
theorem dX3_become_28 : decode cX3_become 28 = .ok (.aload_n 0, 1) := by decide +kernel
theorem dX3_become_29 : decode cX3_become 29 = .ok (.getfield 13, 3) := by decide +kernel
theorem dX3_become_32 : decode cX3_become 32 = .ok (.iconst 0, 1) := by decide +kernel
theorem dX3_become_33 : decode cX3_become 33 = .ok (.iconst 4, 1) := by decide +kernel
theorem dX3_become_34 : decode cX3_become 34 = .ok (.invokestatic 39, 3) := by decide +kernel
theorem dX3_become_37 : decode cX3_become 37 = .ok (.aload_n 1, 1) := by decide +kernel
theorem dX3_become_38 : decode cX3_become 38 = .ok (.getfield 16, 3) := by decide +kernel
theorem dX3_become_41 : decode cX3_become 41 = .ok (.iconst 0, 1) := by decide +kernel
theorem dX3_become_42 : decode cX3_become 42 = .ok (.aload_n 0, 1) := by decide +kernel
theorem dX3_become_43 : decode cX3_become 43 = .ok (.getfield 16, 3) := by decide +kernel
theorem dX3_become_46 : decode cX3_become 46 = .ok (.iconst 0, 1) := by decide +kernel
theorem dX3_become_47 : decode cX3_become 47 = .ok (.aload_n 0, 1) := by decide +kernel
theorem dX3_become_48 : decode cX3_become 48 = .ok (.getfield 25, 3) := by decide +kernel
theorem dX3_become_51 : decode cX3_become 51 = .ok (.invokestatic 39, 3) := by decide +kernel
theorem dX3_become_54 : decode cX3_become 54 = .ok (.aload_n 1, 1) := by decide +kernel
theorem dX3_become_55 : decode cX3_become 55 = .ok (.getfield 19, 3) := by decide +kernel
theorem dX3_become_58 : decode cX3_become 58 = .ok (.iconst 0, 1) := by decide +kernel
theorem dX3_become_59 : decode cX3_become 59 = .ok (.aload_n 0, 1) := by decide +kernel
theorem dX3_become_60 : decode cX3_become 60 = .ok (.getfield 19, 3) := by decide +kernel
theorem dX3_become_63 : decode cX3_become 63 = .ok (.iconst 0, 1) := by decide +kernel
theorem dX3_become_64 : decode cX3_become 64 = .ok (.aload_n 0, 1) := by decide +kernel
theorem dX3_become_65 : decode cX3_become 65 = .ok (.getfield 25, 3) := by decide +kernel
theorem dX3_become_68 : decode cX3_become 68 = .ok (.invokestatic 39, 3) := by decide +kernel
theorem dX3_become_71 : decode cX3_become 71 = .ok (.aload_n 1, 1) := by decide +kernel
theorem dX3_become_72 : decode cX3_become 72 = .ok (.getfield 22, 3) := by decide +kernel
theorem dX3_become_75 : decode cX3_become 75 = .ok (.iconst 0, 1) := by decide +kernel
theorem dX3_become_76 : decode cX3_become 76 = .ok (.aload_n 0, 1) := by decide +kernel
theorem dX3_become_77 : decode cX3_become 77 = .ok (.getfield 22, 3) := by decide +kernel
theorem dX3_become_80 : decode cX3_become 80 = .ok (.iconst 0, 1) := by decide +kernel
theorem dX3_become_81 : decode cX3_become 81 = .ok (.aload_n 0, 1) := by decide +kernel
theorem dX3_become_82 : decode cX3_become 82 = .ok (.getfield 25, 3) := by decide +kernel
theorem dX3_become_85 : decode cX3_become 85 = .ok (.invokestatic 39, 3) := by decide +kernel
theorem dX3_become_88 : decode cX3_become 88 = .ok (.return_, 1) := by decide +kernel
theorem dX4_init_0 : decode cX4_init 0 = .ok (.aload_n 0, 1) := by decide +kernel
theorem dX4_init_1 : decode cX4_init 1 = .ok (.invokespecial 1, 3) := by decide +kernel
theorem dX4_init_4 : decode cX4_init 4 = .ok (.aload_n 0, 1) := by decide +kernel
theorem dX4_init_5 : decode cX4_init 5 = .ok (.bipush 14, 2) := by decide +kernel
theorem dX4_init_7 : decode cX4_init 7 = .ok (.newarray .int, 2) := by decide +kernel
theorem dX4_init_9 : decode cX4_init 9 = .ok (.putfield 9, 3) := by decide +kernel
theorem dX4_init_12 : decode cX4_init 12 = .ok (.aload_n 0, 1) := by decide +kernel
theorem dX4_init_13 : decode cX4_init 13 = .ok (.bipush 14, 2) := by decide +kernel
theorem dX4_init_15 : decode cX4_init 15 = .ok (.newarray .int, 2) := by decide +kernel
theorem dX4_init_17 : decode cX4_init 17 = .ok (.putfield 13, 3) := by decide +kernel
theorem dX4_init_20 : decode cX4_init 20 = .ok (.aload_n 0, 1) := by decide +kernel
theorem dX4_init_21 : decode cX4_init 21 = .ok (.bipush 14, 2) := by decide +kernel
theorem dX4_init_23 : decode cX4_init 23 = .ok (.newarray .int, 2) := by decide +kernel
theorem dX4_init_25 : decode cX4_init 25 = .ok (.putfield 16, 3) := by decide +kernel
theorem dX4_init_28 : decode cX4_init 28 = .ok (.aload_n 0, 1) := by decide +kernel
theorem dX4_init_29 : decode cX4_init 29 = .ok (.bipush 14, 2) := by decide +kernel
theorem dX4_init_31 : decode cX4_init 31 = .ok (.newarray .int, 2) := by decide +kernel
theorem dX4_init_33 : decode cX4_init 33 = .ok (.putfield 19, 3) := by decide +kernel
theorem dX4_init_36 : decode cX4_init 36 = .ok (.aload_n 0, 1) := by decide +kernel
theorem dX4_init_37 : decode cX4_init 37 = .ok (.iconst 0, 1) := by decide +kernel
theorem dX4_init_38 : decode cX4_init 38 = .ok (.putfield 22, 3) := by decide +kernel
theorem dX4_init_41 : decode cX4_init 41 = .ok (.aload_n 0, 1) := by decide +kernel
theorem dX4_init_42 : decode cX4_init 42 = .ok (.iconst 0, 1) := by decide +kernel
theorem dX4_init_43 : decode cX4_init 43 = .ok (.putfield 26, 3) := by decide +kernel
theorem dX4_init_46 : decode cX4_init 46 = .ok (.return_, 1) := by decide +kernel
theorem dX4_has_0 : decode cX4_has 0 = .ok (.iload_n 1, 1) := by decide +kernel
theorem dX4_has_1 : decode cX4_has 1 = .ok (.iconst 0, 1) := by decide +kernel
theorem dX4_has_2 : decode cX4_has 2 = .ok (.aload_n 0, 1) := by decide +kernel
theorem dX4_has_3 : decode cX4_has 3 = .ok (.getfield 22, 3) := by decide +kernel
theorem dX4_has_6 : decode cX4_has 6 = .ok (.iconst 1, 1) := by decide +kernel
theorem dX4_has_7 : decode cX4_has 7 = .ok (.isub, 1) := by decide +kernel
theorem dX4_has_8 : decode cX4_has 8 = .ok (.invokestatic 29, 3) := by decide +kernel
theorem dX4_has_11 : decode cX4_has 11 = .ok (.ireturn, 1) := by decide +kernel
theorem dX4_all_0 : decode cX4_all 0 = .ok (.iconst 1, 1) := by decide +kernel
theorem dX4_all_1 : decode cX4_all 1 = .ok (.aload_n 0, 1) := by decide +kernel
theorem dX4_all_2 : decode cX4_all 2 = .ok (.getfield 22, 3) := by decide +kernel
theorem dX4_all_5 : decode cX4_all 5 = .ok (.ishl, 1) := by decide +kernel
theorem dX4_all_6 : decode cX4_all 6 = .ok (.iconst 1, 1) := by decide +kernel
theorem dX4_all_7 : decode cX4_all 7 = .ok (.isub, 1) := by decide +kernel
theorem dX4_all_8 : decode cX4_all 8 = .ok (.ireturn, 1) := by decide +kernel
theorem dX4_add_0 : decode cX4_add 0 = .ok (.aload_n 0, 1) := by decide +kernel
theorem dX4_add_1 : decode cX4_add 1 = .ok (.getfield 22, 3) := by decide +kernel
theorem dX4_add_4 : decode cX4_add 4 = .ok (.istore_n 3, 1) := by decide +kernel
theorem dX4_add_5 : decode cX4_add 5 = .ok (.aload_n 0, 1) := by decide +kernel
theorem dX4_add_6 : decode cX4_add 6 = .ok (.getfield 9, 3) := by decide +kernel
theorem dX4_add_9 : decode cX4_add 9 = .ok (.iload_n 3, 1) := by decide +kernel
theorem dX4_add_10 : decode cX4_add 10 = .ok (.iload_n 1, 1) := by decide +kernel
theorem dX4_add_11 : decode cX4_add 11 = .ok (.iastore, 1) := by decide +kernel
theorem dX4_add_12 : decode cX4_add 12 = .ok (.aload_n 0, 1) := by decide +kernel
theorem dX4_add_13 : decode cX4_add 13 = .ok (.getfield 13, 3) := by decide +kernel
theorem dX4_add_16 : decode cX4_add 16 = .ok (.iload_n 3, 1) := by decide +kernel
theorem dX4_add_17 : decode cX4_add 17 = .ok (.iload_n 2, 1) := by decide +kernel
theorem dX4_add_18 : decode cX4_add 18 = .ok (.iastore, 1) := by decide +kernel
theorem dX4_add_19 : decode cX4_add 19 = .ok (.aload_n 0, 1) := by decide +kernel
theorem dX4_add_20 : decode cX4_add 20 = .ok (.getfield 16, 3) := by decide +kernel
theorem dX4_add_23 : decode cX4_add 23 = .ok (.iload_n 3, 1) := by decide +kernel
theorem dX4_add_24 : decode cX4_add 24 = .ok (.iconst (-1), 1) := by decide +kernel
theorem dX4_add_25 : decode cX4_add 25 = .ok (.iastore, 1) := by decide +kernel
theorem dX4_add_26 : decode cX4_add 26 = .ok (.aload_n 0, 1) := by decide +kernel
theorem dX4_add_27 : decode cX4_add 27 = .ok (.getfield 19, 3) := by decide +kernel
theorem dX4_add_30 : decode cX4_add 30 = .ok (.iload_n 3, 1) := by decide +kernel
theorem dX4_add_31 : decode cX4_add 31 = .ok (.iconst 0, 1) := by decide +kernel
theorem dX4_add_32 : decode cX4_add 32 = .ok (.iastore, 1) := by decide +kernel
theorem dX4_add_33 : decode cX4_add 33 = .ok (.aload_n 0, 1) := by decide +kernel
theorem dX4_add_34 : decode cX4_add 34 = .ok (.iload_n 3, 1) := by decide +kernel
theorem dX4_add_35 : decode cX4_add 35 = .ok (.iconst 1, 1) := by decide +kernel
theorem dX4_add_36 : decode cX4_add 36 = .ok (.iadd, 1) := by decide +kernel
theorem dX4_add_37 : decode cX4_add 37 = .ok (.putfield 22, 3) := by decide +kernel
theorem dX4_add_40 : decode cX4_add 40 = .ok (.iload_n 3, 1) := by decide +kernel
theorem dX4_add_41 : decode cX4_add 41 = .ok (.ireturn, 1) := by decide +kernel
theorem dX4_tell_0 : decode cX4_tell 0 = .ok (.iload_n 2, 1) := by decide +kernel
theorem dX4_tell_1 : decode cX4_tell 1 = .ok (.tableswitch 59 0 3 #[31, 38, 45, 52], 31) := by decide +kernel
theorem dX4_tell_32 : decode cX4_tell 32 = .ok (.aload_n 0, 1) := by decide +kernel
theorem dX4_tell_33 : decode cX4_tell 33 = .ok (.getfield 9, 3) := by decide +kernel
theorem dX4_tell_36 : decode cX4_tell 36 = .ok (.iload_n 1, 1) := by decide +kernel
theorem dX4_tell_37 : decode cX4_tell 37 = .ok (.iaload, 1) := by decide +kernel
theorem dX4_tell_38 : decode cX4_tell 38 = .ok (.ireturn, 1) := by decide +kernel
theorem dX4_tell_39 : decode cX4_tell 39 = .ok (.aload_n 0, 1) := by decide +kernel
theorem dX4_tell_40 : decode cX4_tell 40 = .ok (.getfield 13, 3) := by decide +kernel
theorem dX4_tell_43 : decode cX4_tell 43 = .ok (.iload_n 1, 1) := by decide +kernel
theorem dX4_tell_44 : decode cX4_tell 44 = .ok (.iaload, 1) := by decide +kernel
theorem dX4_tell_45 : decode cX4_tell 45 = .ok (.ireturn, 1) := by decide +kernel
theorem dX4_tell_46 : decode cX4_tell 46 = .ok (.aload_n 0, 1) := by decide +kernel
theorem dX4_tell_47 : decode cX4_tell 47 = .ok (.getfield 16, 3) := by decide +kernel
theorem dX4_tell_50 : decode cX4_tell 50 = .ok (.iload_n 1, 1) := by decide +kernel
theorem dX4_tell_51 : decode cX4_tell 51 = .ok (.iaload, 1) := by decide +kernel
theorem dX4_tell_52 : decode cX4_tell 52 = .ok (.ireturn, 1) := by decide +kernel
theorem dX4_tell_53 : decode cX4_tell 53 = .ok (.aload_n 0, 1) := by decide +kernel
theorem dX4_tell_54 : decode cX4_tell 54 = .ok (.getfield 19, 3) := by decide +kernel
theorem dX4_tell_57 : decode cX4_tell 57 = .ok (.iload_n 1, 1) := by decide +kernel
theorem dX4_tell_58 : decode cX4_tell 58 = .ok (.iaload, 1) := by decide +kernel
theorem dX4_tell_59 : decode cX4_tell 59 = .ok (.ireturn, 1) := by decide +kernel
theorem dX4_tell_60 : decode cX4_tell 60 = .ok (.aload_n 0, 1) := by decide +kernel
theorem dX4_tell_61 : decode cX4_tell 61 = .ok (.getfield 26, 3) := by decide +kernel
theorem dX4_tell_64 : decode cX4_tell 64 = .ok (.iload_n 1, 1) := by decide +kernel
theorem dX4_tell_65 : decode cX4_tell 65 = .ok (.invokestatic 35, 3) := by decide +kernel
theorem dX4_tell_68 : decode cX4_tell 68 = .ok (.ifCond .eq 7, 3) := by decide +kernel
theorem dX4_tell_71 : decode cX4_tell 71 = .ok (.iconst 1, 1) := by decide +kernel
theorem dX4_tell_72 : decode cX4_tell 72 = .ok (.goto 4, 3) := by decide +kernel
theorem dX4_tell_75 : decode cX4_tell 75 = .ok (.iconst 0, 1) := by decide +kernel
theorem dX4_tell_76 : decode cX4_tell 76 = .ok (.ireturn, 1) := by decide +kernel
theorem dX4_hasPaper_0 : decode cX4_hasPaper 0 = .ok (.iload_n 1, 1) := by decide +kernel
theorem dX4_hasPaper_1 : decode cX4_hasPaper 1 = .ok (.ifCond .lt 28, 3) := by decide +kernel
theorem dX4_hasPaper_4 : decode cX4_hasPaper 4 = .ok (.iload_n 1, 1) := by decide +kernel
theorem dX4_hasPaper_5 : decode cX4_hasPaper 5 = .ok (.aload_n 0, 1) := by decide +kernel
theorem dX4_hasPaper_6 : decode cX4_hasPaper 6 = .ok (.getfield 22, 3) := by decide +kernel
theorem dX4_hasPaper_9 : decode cX4_hasPaper 9 = .ok (.if_icmp .ge 20, 3) := by decide +kernel
theorem dX4_hasPaper_12 : decode cX4_hasPaper 12 = .ok (.aload_n 0, 1) := by decide +kernel
theorem dX4_hasPaper_13 : decode cX4_hasPaper 13 = .ok (.getfield 13, 3) := by decide +kernel
theorem dX4_hasPaper_16 : decode cX4_hasPaper 16 = .ok (.iload_n 1, 1) := by decide +kernel
theorem dX4_hasPaper_17 : decode cX4_hasPaper 17 = .ok (.iaload, 1) := by decide +kernel
theorem dX4_hasPaper_18 : decode cX4_hasPaper 18 = .ok (.iload_n 2, 1) := by decide +kernel
theorem dX4_hasPaper_19 : decode cX4_hasPaper 19 = .ok (.invokestatic 35, 3) := by decide +kernel
theorem dX4_hasPaper_22 : decode cX4_hasPaper 22 = .ok (.ifCond .eq 7, 3) := by decide +kernel
theorem dX4_hasPaper_25 : decode cX4_hasPaper 25 = .ok (.iconst 1, 1) := by decide +kernel
theorem dX4_hasPaper_26 : decode cX4_hasPaper 26 = .ok (.goto 4, 3) := by decide +kernel
theorem dX4_hasPaper_29 : decode cX4_hasPaper 29 = .ok (.iconst 0, 1) := by decide +kernel
theorem dX4_hasPaper_30 : decode cX4_hasPaper 30 = .ok (.ireturn, 1) := by decide +kernel
theorem dX4_bills_0 : decode cX4_bills 0 = .ok (.iconst 0, 1) := by decide +kernel
theorem dX4_bills_1 : decode cX4_bills 1 = .ok (.istore_n 1, 1) := by decide +kernel
theorem dX4_bills_2 : decode cX4_bills 2 = .ok (.iconst 0, 1) := by decide +kernel
theorem dX4_bills_3 : decode cX4_bills 3 = .ok (.istore_n 2, 1) := by decide +kernel
theorem dX4_bills_4 : decode cX4_bills 4 = .ok (.iload_n 2, 1) := by decide +kernel
theorem dX4_bills_5 : decode cX4_bills 5 = .ok (.aload_n 0, 1) := by decide +kernel
theorem dX4_bills_6 : decode cX4_bills 6 = .ok (.getfield 22, 3) := by decide +kernel
theorem dX4_bills_9 : decode cX4_bills 9 = .ok (.if_icmp .ge 18, 3) := by decide +kernel
theorem dX4_bills_12 : decode cX4_bills 12 = .ok (.iload_n 1, 1) := by decide +kernel
theorem dX4_bills_13 : decode cX4_bills 13 = .ok (.aload_n 0, 1) := by decide +kernel
theorem dX4_bills_14 : decode cX4_bills 14 = .ok (.getfield 19, 3) := by decide +kernel
theorem dX4_bills_17 : decode cX4_bills 17 = .ok (.iload_n 2, 1) := by decide +kernel
theorem dX4_bills_18 : decode cX4_bills 18 = .ok (.iaload, 1) := by decide +kernel
theorem dX4_bills_19 : decode cX4_bills 19 = .ok (.iadd, 1) := by decide +kernel
theorem dX4_bills_20 : decode cX4_bills 20 = .ok (.istore_n 1, 1) := by decide +kernel
theorem dX4_bills_21 : decode cX4_bills 21 = .ok (.iinc 2 1, 3) := by decide +kernel
theorem dX4_bills_24 : decode cX4_bills 24 = .ok (.goto (-20), 3) := by decide +kernel
theorem dX4_bills_27 : decode cX4_bills 27 = .ok (.iload_n 1, 1) := by decide +kernel
theorem dX4_bills_28 : decode cX4_bills 28 = .ok (.ireturn, 1) := by decide +kernel
theorem dX4_part_0 : decode cX4_part 0 = .ok (.iload_n 1, 1) := by decide +kernel
theorem dX4_part_1 : decode cX4_part 1 = .ok (.invokestatic 39, 3) := by decide +kernel
theorem dX4_part_4 : decode cX4_part 4 = .ok (.istore_n 3, 1) := by decide +kernel
theorem dX4_part_5 : decode cX4_part 5 = .ok (.iload_n 3, 1) := by decide +kernel
theorem dX4_part_6 : decode cX4_part 6 = .ok (.ifCond .ne 5, 3) := by decide +kernel
theorem dX4_part_9 : decode cX4_part 9 = .ok (.iconst 0, 1) := by decide +kernel
theorem dX4_part_10 : decode cX4_part 10 = .ok (.ireturn, 1) := by decide +kernel
theorem dX4_part_11 : decode cX4_part 11 = .ok (.iload_n 2, 1) := by decide +kernel
theorem dX4_part_12 : decode cX4_part 12 = .ok (.iload_n 3, 1) := by decide +kernel
theorem dX4_part_13 : decode cX4_part 13 = .ok (.irem, 1) := by decide +kernel
theorem dX4_part_14 : decode cX4_part 14 = .ok (.istore 4, 2) := by decide +kernel
theorem dX4_part_16 : decode cX4_part 16 = .ok (.iconst 0, 1) := by decide +kernel
theorem dX4_part_17 : decode cX4_part 17 = .ok (.istore 5, 2) := by decide +kernel
theorem dX4_part_19 : decode cX4_part 19 = .ok (.iload 5, 2) := by decide +kernel
theorem dX4_part_21 : decode cX4_part 21 = .ok (.aload_n 0, 1) := by decide +kernel
theorem dX4_part_22 : decode cX4_part 22 = .ok (.getfield 22, 3) := by decide +kernel
theorem dX4_part_25 : decode cX4_part 25 = .ok (.if_icmp .ge 45, 3) := by decide +kernel
theorem dX4_part_28 : decode cX4_part 28 = .ok (.iload_n 1, 1) := by decide +kernel
theorem dX4_part_29 : decode cX4_part 29 = .ok (.iload 5, 2) := by decide +kernel
theorem dX4_part_31 : decode cX4_part 31 = .ok (.invokestatic 35, 3) := by decide +kernel
theorem dX4_part_34 : decode cX4_part 34 = .ok (.ifCond .eq 30, 3) := by decide +kernel
theorem dX4_part_37 : decode cX4_part 37 = .ok (.aload_n 0, 1) := by decide +kernel
theorem dX4_part_38 : decode cX4_part 38 = .ok (.getfield 19, 3) := by decide +kernel
theorem dX4_part_41 : decode cX4_part 41 = .ok (.iload 5, 2) := by decide +kernel
theorem dX4_part_43 : decode cX4_part 43 = .ok (.dup2, 1) := by decide +kernel
theorem dX4_part_44 : decode cX4_part 44 = .ok (.iaload, 1) := by decide +kernel
theorem dX4_part_45 : decode cX4_part 45 = .ok (.iload_n 2, 1) := by decide +kernel
theorem dX4_part_46 : decode cX4_part 46 = .ok (.iload_n 3, 1) := by decide +kernel
theorem dX4_part_47 : decode cX4_part 47 = .ok (.idiv, 1) := by decide +kernel
theorem dX4_part_48 : decode cX4_part 48 = .ok (.iload 4, 2) := by decide +kernel
theorem dX4_part_50 : decode cX4_part 50 = .ok (.ifCond .le 7, 3) := by decide +kernel
theorem dX4_part_53 : decode cX4_part 53 = .ok (.iconst 1, 1) := by decide +kernel
theorem dX4_part_54 : decode cX4_part 54 = .ok (.goto 4, 3) := by decide +kernel
theorem dX4_part_57 : decode cX4_part 57 = .ok (.iconst 0, 1) := by decide +kernel
theorem dX4_part_58 : decode cX4_part 58 = .ok (.iadd, 1) := by decide +kernel
theorem dX4_part_59 : decode cX4_part 59 = .ok (.iadd, 1) := by decide +kernel
theorem dX4_part_60 : decode cX4_part 60 = .ok (.iastore, 1) := by decide +kernel
theorem dX4_part_61 : decode cX4_part 61 = .ok (.iinc 4 (-1), 3) := by decide +kernel
theorem dX4_part_64 : decode cX4_part 64 = .ok (.iinc 5 1, 3) := by decide +kernel
theorem dX4_part_67 : decode cX4_part 67 = .ok (.goto (-48), 3) := by decide +kernel
theorem dX4_part_70 : decode cX4_part 70 = .ok (.iload_n 3, 1) := by decide +kernel
theorem dX4_part_71 : decode cX4_part 71 = .ok (.ireturn, 1) := by decide +kernel
theorem dX4_become_0 : decode cX4_become 0 = .ok (.aload_n 0, 1) := by decide +kernel
theorem dX4_become_1 : decode cX4_become 1 = .ok (.aload_n 1, 1) := by decide +kernel
theorem dX4_become_2 : decode cX4_become 2 = .ok (.getfield 22, 3) := by decide +kernel
theorem dX4_become_5 : decode cX4_become 5 = .ok (.putfield 22, 3) := by decide +kernel
theorem dX4_become_8 : decode cX4_become 8 = .ok (.aload_n 0, 1) := by decide +kernel
theorem dX4_become_9 : decode cX4_become 9 = .ok (.aload_n 1, 1) := by decide +kernel
theorem dX4_become_10 : decode cX4_become 10 = .ok (.getfield 26, 3) := by decide +kernel
theorem dX4_become_13 : decode cX4_become 13 = .ok (.putfield 26, 3) := by decide +kernel
theorem dX4_become_16 : decode cX4_become 16 = .ok (.aload_n 1, 1) := by decide +kernel
theorem dX4_become_17 : decode cX4_become 17 = .ok (.getfield 9, 3) := by decide +kernel
theorem dX4_become_20 : decode cX4_become 20 = .ok (.iconst 0, 1) := by decide +kernel
theorem dX4_become_21 : decode cX4_become 21 = .ok (.aload_n 0, 1) := by decide +kernel
theorem dX4_become_22 : decode cX4_become 22 = .ok (.getfield 9, 3) := by decide +kernel
theorem dX4_become_25 : decode cX4_become 25 = .ok (.iconst 0, 1) := by decide +kernel
theorem dX4_become_26 : decode cX4_become 26 = .ok (.aload_n 0, 1) := by decide +kernel
theorem dX4_become_27 : decode cX4_become 27 = .ok (.getfield 22, 3) := by decide +kernel
theorem dX4_become_30 : decode cX4_become 30 = .ok (.invokestatic 45, 3) := by decide +kernel
theorem dX4_become_33 : decode cX4_become 33 = .ok (.aload_n 1, 1) := by decide +kernel
theorem dX4_become_34 : decode cX4_become 34 = .ok (.getfield 13, 3) := by decide +kernel
theorem dX4_become_37 : decode cX4_become 37 = .ok (.iconst 0, 1) := by decide +kernel
theorem dX4_become_38 : decode cX4_become 38 = .ok (.aload_n 0, 1) := by decide +kernel
theorem dX4_become_39 : decode cX4_become 39 = .ok (.getfield 13, 3) := by decide +kernel
theorem dX4_become_42 : decode cX4_become 42 = .ok (.iconst 0, 1) := by decide +kernel
theorem dX4_become_43 : decode cX4_become 43 = .ok (.aload_n 0, 1) := by decide +kernel
theorem dX4_become_44 : decode cX4_become 44 = .ok (.getfield 22, 3) := by decide +kernel
theorem dX4_become_47 : decode cX4_become 47 = .ok (.invokestatic 45, 3) := by decide +kernel
theorem dX4_become_50 : decode cX4_become 50 = .ok (.aload_n 1, 1) := by decide +kernel
theorem dX4_become_51 : decode cX4_become 51 = .ok (.getfield 16, 3) := by decide +kernel
theorem dX4_become_54 : decode cX4_become 54 = .ok (.iconst 0, 1) := by decide +kernel
theorem dX4_become_55 : decode cX4_become 55 = .ok (.aload_n 0, 1) := by decide +kernel
theorem dX4_become_56 : decode cX4_become 56 = .ok (.getfield 16, 3) := by decide +kernel
theorem dX4_become_59 : decode cX4_become 59 = .ok (.iconst 0, 1) := by decide +kernel
theorem dX4_become_60 : decode cX4_become 60 = .ok (.aload_n 0, 1) := by decide +kernel
theorem dX4_become_61 : decode cX4_become 61 = .ok (.getfield 22, 3) := by decide +kernel
theorem dX4_become_64 : decode cX4_become 64 = .ok (.invokestatic 45, 3) := by decide +kernel
theorem dX4_become_67 : decode cX4_become 67 = .ok (.aload_n 1, 1) := by decide +kernel
theorem dX4_become_68 : decode cX4_become 68 = .ok (.getfield 19, 3) := by decide +kernel
theorem dX4_become_71 : decode cX4_become 71 = .ok (.iconst 0, 1) := by decide +kernel
theorem dX4_become_72 : decode cX4_become 72 = .ok (.aload_n 0, 1) := by decide +kernel
theorem dX4_become_73 : decode cX4_become 73 = .ok (.getfield 19, 3) := by decide +kernel
theorem dX4_become_76 : decode cX4_become 76 = .ok (.iconst 0, 1) := by decide +kernel
theorem dX4_become_77 : decode cX4_become 77 = .ok (.aload_n 0, 1) := by decide +kernel
theorem dX4_become_78 : decode cX4_become 78 = .ok (.getfield 22, 3) := by decide +kernel
theorem dX4_become_81 : decode cX4_become 81 = .ok (.invokestatic 45, 3) := by decide +kernel
theorem dX4_become_84 : decode cX4_become 84 = .ok (.return_, 1) := by decide +kernel
theorem dX5_init_0 : decode cX5_init 0 = .ok (.aload_n 0, 1) := by decide +kernel
theorem dX5_init_1 : decode cX5_init 1 = .ok (.invokespecial 1, 3) := by decide +kernel
theorem dX5_init_4 : decode cX5_init 4 = .ok (.aload_n 0, 1) := by decide +kernel
theorem dX5_init_5 : decode cX5_init 5 = .ok (.iconst 3, 1) := by decide +kernel
theorem dX5_init_6 : decode cX5_init 6 = .ok (.newarray .int, 2) := by decide +kernel
theorem dX5_init_8 : decode cX5_init 8 = .ok (.putfield 9, 3) := by decide +kernel
theorem dX5_init_11 : decode cX5_init 11 = .ok (.aload_n 0, 1) := by decide +kernel
theorem dX5_init_12 : decode cX5_init 12 = .ok (.iconst 0, 1) := by decide +kernel
theorem dX5_init_13 : decode cX5_init 13 = .ok (.putfield 13, 3) := by decide +kernel
theorem dX5_init_16 : decode cX5_init 16 = .ok (.return_, 1) := by decide +kernel
theorem dX5_has_0 : decode cX5_has 0 = .ok (.iload_n 1, 1) := by decide +kernel
theorem dX5_has_1 : decode cX5_has 1 = .ok (.iconst 0, 1) := by decide +kernel
theorem dX5_has_2 : decode cX5_has 2 = .ok (.aload_n 0, 1) := by decide +kernel
theorem dX5_has_3 : decode cX5_has 3 = .ok (.getfield 13, 3) := by decide +kernel
theorem dX5_has_6 : decode cX5_has 6 = .ok (.iconst 1, 1) := by decide +kernel
theorem dX5_has_7 : decode cX5_has 7 = .ok (.isub, 1) := by decide +kernel
theorem dX5_has_8 : decode cX5_has 8 = .ok (.invokestatic 17, 3) := by decide +kernel
theorem dX5_has_11 : decode cX5_has 11 = .ok (.ireturn, 1) := by decide +kernel
theorem dX5_add_0 : decode cX5_add 0 = .ok (.aload_n 0, 1) := by decide +kernel
theorem dX5_add_1 : decode cX5_add 1 = .ok (.getfield 13, 3) := by decide +kernel
theorem dX5_add_4 : decode cX5_add 4 = .ok (.istore_n 1, 1) := by decide +kernel
theorem dX5_add_5 : decode cX5_add 5 = .ok (.aload_n 0, 1) := by decide +kernel
theorem dX5_add_6 : decode cX5_add 6 = .ok (.getfield 9, 3) := by decide +kernel
theorem dX5_add_9 : decode cX5_add 9 = .ok (.iload_n 1, 1) := by decide +kernel
theorem dX5_add_10 : decode cX5_add 10 = .ok (.iconst (-1), 1) := by decide +kernel
theorem dX5_add_11 : decode cX5_add 11 = .ok (.iastore, 1) := by decide +kernel
theorem dX5_add_12 : decode cX5_add 12 = .ok (.aload_n 0, 1) := by decide +kernel
theorem dX5_add_13 : decode cX5_add 13 = .ok (.iload_n 1, 1) := by decide +kernel
theorem dX5_add_14 : decode cX5_add 14 = .ok (.iconst 1, 1) := by decide +kernel
theorem dX5_add_15 : decode cX5_add 15 = .ok (.iadd, 1) := by decide +kernel
theorem dX5_add_16 : decode cX5_add 16 = .ok (.putfield 13, 3) := by decide +kernel
theorem dX5_add_19 : decode cX5_add 19 = .ok (.iload_n 1, 1) := by decide +kernel
theorem dX5_add_20 : decode cX5_add 20 = .ok (.ireturn, 1) := by decide +kernel
theorem dX5_firstThere_0 : decode cX5_firstThere 0 = .ok (.iconst 0, 1) := by decide +kernel
theorem dX5_firstThere_1 : decode cX5_firstThere 1 = .ok (.istore_n 1, 1) := by decide +kernel
theorem dX5_firstThere_2 : decode cX5_firstThere 2 = .ok (.iload_n 1, 1) := by decide +kernel
theorem dX5_firstThere_3 : decode cX5_firstThere 3 = .ok (.aload_n 0, 1) := by decide +kernel
theorem dX5_firstThere_4 : decode cX5_firstThere 4 = .ok (.getfield 13, 3) := by decide +kernel
theorem dX5_firstThere_7 : decode cX5_firstThere 7 = .ok (.if_icmp .ge 20, 3) := by decide +kernel
theorem dX5_firstThere_10 : decode cX5_firstThere 10 = .ok (.aload_n 0, 1) := by decide +kernel
theorem dX5_firstThere_11 : decode cX5_firstThere 11 = .ok (.getfield 9, 3) := by decide +kernel
theorem dX5_firstThere_14 : decode cX5_firstThere 14 = .ok (.iload_n 1, 1) := by decide +kernel
theorem dX5_firstThere_15 : decode cX5_firstThere 15 = .ok (.iaload, 1) := by decide +kernel
theorem dX5_firstThere_16 : decode cX5_firstThere 16 = .ok (.ifCond .ge 5, 3) := by decide +kernel
theorem dX5_firstThere_19 : decode cX5_firstThere 19 = .ok (.iload_n 1, 1) := by decide +kernel
theorem dX5_firstThere_20 : decode cX5_firstThere 20 = .ok (.ireturn, 1) := by decide +kernel
theorem dX5_firstThere_21 : decode cX5_firstThere 21 = .ok (.iinc 1 1, 3) := by decide +kernel
theorem dX5_firstThere_24 : decode cX5_firstThere 24 = .ok (.goto (-22), 3) := by decide +kernel
theorem dX5_firstThere_27 : decode cX5_firstThere 27 = .ok (.iconst (-1), 1) := by decide +kernel
theorem dX5_firstThere_28 : decode cX5_firstThere 28 = .ok (.ireturn, 1) := by decide +kernel
theorem dX5_useOne_0 : decode cX5_useOne 0 = .ok (.aload_n 0, 1) := by decide +kernel
theorem dX5_useOne_1 : decode cX5_useOne 1 = .ok (.invokevirtual 23, 3) := by decide +kernel
theorem dX5_useOne_4 : decode cX5_useOne 4 = .ok (.istore_n 2, 1) := by decide +kernel
theorem dX5_useOne_5 : decode cX5_useOne 5 = .ok (.iload_n 2, 1) := by decide +kernel
theorem dX5_useOne_6 : decode cX5_useOne 6 = .ok (.ifCond .lt 10, 3) := by decide +kernel
theorem dX5_useOne_9 : decode cX5_useOne 9 = .ok (.aload_n 0, 1) := by decide +kernel
theorem dX5_useOne_10 : decode cX5_useOne 10 = .ok (.getfield 9, 3) := by decide +kernel
theorem dX5_useOne_13 : decode cX5_useOne 13 = .ok (.iload_n 2, 1) := by decide +kernel
theorem dX5_useOne_14 : decode cX5_useOne 14 = .ok (.iload_n 1, 1) := by decide +kernel
theorem dX5_useOne_15 : decode cX5_useOne 15 = .ok (.iastore, 1) := by decide +kernel
theorem dX5_useOne_16 : decode cX5_useOne 16 = .ok (.return_, 1) := by decide +kernel
theorem dX5_open_0 : decode cX5_open 0 = .ok (.iconst 0, 1) := by decide +kernel
theorem dX5_open_1 : decode cX5_open 1 = .ok (.istore_n 2, 1) := by decide +kernel
theorem dX5_open_2 : decode cX5_open 2 = .ok (.iload_n 2, 1) := by decide +kernel
theorem dX5_open_3 : decode cX5_open 3 = .ok (.aload_n 0, 1) := by decide +kernel
theorem dX5_open_4 : decode cX5_open 4 = .ok (.getfield 13, 3) := by decide +kernel
theorem dX5_open_7 : decode cX5_open 7 = .ok (.if_icmp .ge 26, 3) := by decide +kernel
theorem dX5_open_10 : decode cX5_open 10 = .ok (.aload_n 0, 1) := by decide +kernel
theorem dX5_open_11 : decode cX5_open 11 = .ok (.getfield 9, 3) := by decide +kernel
theorem dX5_open_14 : decode cX5_open 14 = .ok (.iload_n 2, 1) := by decide +kernel
theorem dX5_open_15 : decode cX5_open 15 = .ok (.iaload, 1) := by decide +kernel
theorem dX5_open_16 : decode cX5_open 16 = .ok (.iload_n 1, 1) := by decide +kernel
theorem dX5_open_17 : decode cX5_open 17 = .ok (.if_icmp .gt 10, 3) := by decide +kernel
theorem dX5_open_20 : decode cX5_open 20 = .ok (.aload_n 0, 1) := by decide +kernel
theorem dX5_open_21 : decode cX5_open 21 = .ok (.getfield 9, 3) := by decide +kernel
theorem dX5_open_24 : decode cX5_open 24 = .ok (.iload_n 2, 1) := by decide +kernel
theorem dX5_open_25 : decode cX5_open 25 = .ok (.iconst (-1), 1) := by decide +kernel
theorem dX5_open_26 : decode cX5_open 26 = .ok (.iastore, 1) := by decide +kernel
theorem dX5_open_27 : decode cX5_open 27 = .ok (.iinc 2 1, 3) := by decide +kernel
theorem dX5_open_30 : decode cX5_open 30 = .ok (.goto (-28), 3) := by decide +kernel
theorem dX5_open_33 : decode cX5_open 33 = .ok (.return_, 1) := by decide +kernel
theorem dX5_become_0 : decode cX5_become 0 = .ok (.aload_n 0, 1) := by decide +kernel
theorem dX5_become_1 : decode cX5_become 1 = .ok (.aload_n 1, 1) := by decide +kernel
theorem dX5_become_2 : decode cX5_become 2 = .ok (.getfield 13, 3) := by decide +kernel
theorem dX5_become_5 : decode cX5_become 5 = .ok (.putfield 13, 3) := by decide +kernel
theorem dX5_become_8 : decode cX5_become 8 = .ok (.aload_n 1, 1) := by decide +kernel
theorem dX5_become_9 : decode cX5_become 9 = .ok (.getfield 9, 3) := by decide +kernel
theorem dX5_become_12 : decode cX5_become 12 = .ok (.iconst 0, 1) := by decide +kernel
theorem dX5_become_13 : decode cX5_become 13 = .ok (.aload_n 0, 1) := by decide +kernel
theorem dX5_become_14 : decode cX5_become 14 = .ok (.getfield 9, 3) := by decide +kernel
theorem dX5_become_17 : decode cX5_become 17 = .ok (.iconst 0, 1) := by decide +kernel
theorem dX5_become_18 : decode cX5_become 18 = .ok (.aload_n 0, 1) := by decide +kernel
theorem dX5_become_19 : decode cX5_become 19 = .ok (.getfield 13, 3) := by decide +kernel
theorem dX5_become_22 : decode cX5_become 22 = .ok (.invokestatic 27, 3) := by decide +kernel
theorem dX5_become_25 : decode cX5_become 25 = .ok (.return_, 1) := by decide +kernel
theorem dX6_init_0 : decode cX6_init 0 = .ok (.aload_n 0, 1) := by decide +kernel
theorem dX6_init_1 : decode cX6_init 1 = .ok (.invokespecial 1, 3) := by decide +kernel
theorem dX6_init_4 : decode cX6_init 4 = .ok (.aload_n 0, 1) := by decide +kernel
theorem dX6_init_5 : decode cX6_init 5 = .ok (.iconst 4, 1) := by decide +kernel
theorem dX6_init_6 : decode cX6_init 6 = .ok (.newarray .int, 2) := by decide +kernel
theorem dX6_init_8 : decode cX6_init 8 = .ok (.putfield 9, 3) := by decide +kernel
theorem dX6_init_11 : decode cX6_init 11 = .ok (.aload_n 0, 1) := by decide +kernel
theorem dX6_init_12 : decode cX6_init 12 = .ok (.iconst 4, 1) := by decide +kernel
theorem dX6_init_13 : decode cX6_init 13 = .ok (.newarray .int, 2) := by decide +kernel
theorem dX6_init_15 : decode cX6_init 15 = .ok (.putfield 13, 3) := by decide +kernel
theorem dX6_init_18 : decode cX6_init 18 = .ok (.aload_n 0, 1) := by decide +kernel
theorem dX6_init_19 : decode cX6_init 19 = .ok (.iconst 4, 1) := by decide +kernel
theorem dX6_init_20 : decode cX6_init 20 = .ok (.bipush 24, 2) := by decide +kernel
theorem dX6_init_22 : decode cX6_init 22 = .ok (.multianewarray 16 2, 4) := by decide +kernel
theorem dX6_init_26 : decode cX6_init 26 = .ok (.putfield 18, 3) := by decide +kernel
theorem dX6_init_29 : decode cX6_init 29 = .ok (.return_, 1) := by decide +kernel
theorem dX6_has_0 : decode cX6_has 0 = .ok (.iload_n 0, 1) := by decide +kernel
theorem dX6_has_1 : decode cX6_has 1 = .ok (.iconst 0, 1) := by decide +kernel
theorem dX6_has_2 : decode cX6_has 2 = .ok (.iconst 3, 1) := by decide +kernel
theorem dX6_has_3 : decode cX6_has 3 = .ok (.invokestatic 21, 3) := by decide +kernel
theorem dX6_has_6 : decode cX6_has 6 = .ok (.ireturn, 1) := by decide +kernel
theorem dX6_isBits_0 : decode cX6_isBits 0 = .ok (.iload_n 0, 1) := by decide +kernel
theorem dX6_isBits_1 : decode cX6_isBits 1 = .ok (.ifCond .eq 21, 3) := by decide +kernel
theorem dX6_isBits_4 : decode cX6_isBits 4 = .ok (.iload_n 0, 1) := by decide +kernel
theorem dX6_isBits_5 : decode cX6_isBits 5 = .ok (.bipush 8, 2) := by decide +kernel
theorem dX6_isBits_7 : decode cX6_isBits 7 = .ok (.if_icmp .eq 15, 3) := by decide +kernel
theorem dX6_isBits_10 : decode cX6_isBits 10 = .ok (.iload_n 0, 1) := by decide +kernel
theorem dX6_isBits_11 : decode cX6_isBits 11 = .ok (.bipush 16, 2) := by decide +kernel
theorem dX6_isBits_13 : decode cX6_isBits 13 = .ok (.if_icmp .eq 9, 3) := by decide +kernel
theorem dX6_isBits_16 : decode cX6_isBits 16 = .ok (.iload_n 0, 1) := by decide +kernel
theorem dX6_isBits_17 : decode cX6_isBits 17 = .ok (.bipush 32, 2) := by decide +kernel
theorem dX6_isBits_19 : decode cX6_isBits 19 = .ok (.if_icmp .ne 7, 3) := by decide +kernel
theorem dX6_isBits_22 : decode cX6_isBits 22 = .ok (.iconst 1, 1) := by decide +kernel
theorem dX6_isBits_23 : decode cX6_isBits 23 = .ok (.goto 4, 3) := by decide +kernel
theorem dX6_isBits_26 : decode cX6_isBits 26 = .ok (.iconst 0, 1) := by decide +kernel
theorem dX6_isBits_27 : decode cX6_isBits 27 = .ok (.ireturn, 1) := by decide +kernel
theorem dX6_lowest_0 : decode cX6_lowest 0 = .ok (.iload_n 0, 1) := by decide +kernel
theorem dX6_lowest_1 : decode cX6_lowest 1 = .ok (.bipush 8, 2) := by decide +kernel
theorem dX6_lowest_3 : decode cX6_lowest 3 = .ok (.if_icmp .ne 6, 3) := by decide +kernel
theorem dX6_lowest_6 : decode cX6_lowest 6 = .ok (.iload_n 1, 1) := by decide +kernel
theorem dX6_lowest_7 : decode cX6_lowest 7 = .ok (.i2b, 1) := by decide +kernel
theorem dX6_lowest_8 : decode cX6_lowest 8 = .ok (.ireturn, 1) := by decide +kernel
theorem dX6_lowest_9 : decode cX6_lowest 9 = .ok (.iload_n 0, 1) := by decide +kernel
theorem dX6_lowest_10 : decode cX6_lowest 10 = .ok (.bipush 16, 2) := by decide +kernel
theorem dX6_lowest_12 : decode cX6_lowest 12 = .ok (.if_icmp .ne 8, 3) := by decide +kernel
theorem dX6_lowest_15 : decode cX6_lowest 15 = .ok (.iload_n 1, 1) := by decide +kernel
theorem dX6_lowest_16 : decode cX6_lowest 16 = .ok (.i2s, 1) := by decide +kernel
theorem dX6_lowest_17 : decode cX6_lowest 17 = .ok (.goto 4, 3) := by decide +kernel
theorem dX6_lowest_20 : decode cX6_lowest 20 = .ok (.iload_n 1, 1) := by decide +kernel
theorem dX6_lowest_21 : decode cX6_lowest 21 = .ok (.ireturn, 1) := by decide +kernel
theorem dX6_lay_0 : decode cX6_lay 0 = .ok (.aload_n 0, 1) := by decide +kernel
theorem dX6_lay_1 : decode cX6_lay 1 = .ok (.getfield 9, 3) := by decide +kernel
theorem dX6_lay_4 : decode cX6_lay 4 = .ok (.iload_n 1, 1) := by decide +kernel
theorem dX6_lay_5 : decode cX6_lay 5 = .ok (.iload_n 2, 1) := by decide +kernel
theorem dX6_lay_6 : decode cX6_lay 6 = .ok (.iastore, 1) := by decide +kernel
theorem dX6_lay_7 : decode cX6_lay 7 = .ok (.aload_n 0, 1) := by decide +kernel
theorem dX6_lay_8 : decode cX6_lay 8 = .ok (.getfield 13, 3) := by decide +kernel
theorem dX6_lay_11 : decode cX6_lay 11 = .ok (.iload_n 1, 1) := by decide +kernel
theorem dX6_lay_12 : decode cX6_lay 12 = .ok (.iload_n 2, 1) := by decide +kernel
theorem dX6_lay_13 : decode cX6_lay 13 = .ok (.ifCond .ne 7, 3) := by decide +kernel
theorem dX6_lay_16 : decode cX6_lay 16 = .ok (.iconst 0, 1) := by decide +kernel
theorem dX6_lay_17 : decode cX6_lay 17 = .ok (.goto 4, 3) := by decide +kernel
theorem dX6_lay_20 : decode cX6_lay 20 = .ok (.iload_n 3, 1) := by decide +kernel
theorem dX6_lay_21 : decode cX6_lay 21 = .ok (.iastore, 1) := by decide +kernel
theorem dX6_lay_22 : decode cX6_lay 22 = .ok (.iconst 0, 1) := by decide +kernel
theorem dX6_lay_23 : decode cX6_lay 23 = .ok (.istore 4, 2) := by decide +kernel
theorem dX6_lay_25 : decode cX6_lay 25 = .ok (.iload 4, 2) := by decide +kernel
theorem dX6_lay_27 : decode cX6_lay 27 = .ok (.aload_n 0, 1) := by decide +kernel
theorem dX6_lay_28 : decode cX6_lay 28 = .ok (.getfield 13, 3) := by decide +kernel
theorem dX6_lay_31 : decode cX6_lay 31 = .ok (.iload_n 1, 1) := by decide +kernel
theorem dX6_lay_32 : decode cX6_lay 32 = .ok (.iaload, 1) := by decide +kernel
theorem dX6_lay_33 : decode cX6_lay 33 = .ok (.if_icmp .ge 19, 3) := by decide +kernel
theorem dX6_lay_36 : decode cX6_lay 36 = .ok (.aload_n 0, 1) := by decide +kernel
theorem dX6_lay_37 : decode cX6_lay 37 = .ok (.getfield 18, 3) := by decide +kernel
theorem dX6_lay_40 : decode cX6_lay 40 = .ok (.iload_n 1, 1) := by decide +kernel
theorem dX6_lay_41 : decode cX6_lay 41 = .ok (.aaload, 1) := by decide +kernel
theorem dX6_lay_42 : decode cX6_lay 42 = .ok (.iload 4, 2) := by decide +kernel
theorem dX6_lay_44 : decode cX6_lay 44 = .ok (.iconst 0, 1) := by decide +kernel
theorem dX6_lay_45 : decode cX6_lay 45 = .ok (.iastore, 1) := by decide +kernel
theorem dX6_lay_46 : decode cX6_lay 46 = .ok (.iinc 4 1, 3) := by decide +kernel
theorem dX6_lay_49 : decode cX6_lay 49 = .ok (.goto (-24), 3) := by decide +kernel
theorem dX6_lay_52 : decode cX6_lay 52 = .ok (.aload_n 0, 1) := by decide +kernel
theorem dX6_lay_53 : decode cX6_lay 53 = .ok (.getfield 13, 3) := by decide +kernel
theorem dX6_lay_56 : decode cX6_lay 56 = .ok (.iload_n 1, 1) := by decide +kernel
theorem dX6_lay_57 : decode cX6_lay 57 = .ok (.iaload, 1) := by decide +kernel
theorem dX6_lay_58 : decode cX6_lay 58 = .ok (.ireturn, 1) := by decide +kernel
theorem dX6_hasPart_0 : decode cX6_hasPart 0 = .ok (.iload_n 2, 1) := by decide +kernel
theorem dX6_hasPart_1 : decode cX6_hasPart 1 = .ok (.ifCond .lt 33, 3) := by decide +kernel
theorem dX6_hasPart_4 : decode cX6_hasPart 4 = .ok (.iload_n 3, 1) := by decide +kernel
theorem dX6_hasPart_5 : decode cX6_hasPart 5 = .ok (.ifCond .lt 29, 3) := by decide +kernel
theorem dX6_hasPart_8 : decode cX6_hasPart 8 = .ok (.iload_n 3, 1) := by decide +kernel
theorem dX6_hasPart_9 : decode cX6_hasPart 9 = .ok (.aload_n 0, 1) := by decide +kernel
theorem dX6_hasPart_10 : decode cX6_hasPart 10 = .ok (.getfield 13, 3) := by decide +kernel
theorem dX6_hasPart_13 : decode cX6_hasPart 13 = .ok (.iload_n 1, 1) := by decide +kernel
theorem dX6_hasPart_14 : decode cX6_hasPart 14 = .ok (.iaload, 1) := by decide +kernel
theorem dX6_hasPart_15 : decode cX6_hasPart 15 = .ok (.if_icmp .gt 19, 3) := by decide +kernel
theorem dX6_hasPart_18 : decode cX6_hasPart 18 = .ok (.iload_n 2, 1) := by decide +kernel
theorem dX6_hasPart_19 : decode cX6_hasPart 19 = .ok (.aload_n 0, 1) := by decide +kernel
theorem dX6_hasPart_20 : decode cX6_hasPart 20 = .ok (.getfield 13, 3) := by decide +kernel
theorem dX6_hasPart_23 : decode cX6_hasPart 23 = .ok (.iload_n 1, 1) := by decide +kernel
theorem dX6_hasPart_24 : decode cX6_hasPart 24 = .ok (.iaload, 1) := by decide +kernel
theorem dX6_hasPart_25 : decode cX6_hasPart 25 = .ok (.iload_n 3, 1) := by decide +kernel
theorem dX6_hasPart_26 : decode cX6_hasPart 26 = .ok (.isub, 1) := by decide +kernel
theorem dX6_hasPart_27 : decode cX6_hasPart 27 = .ok (.if_icmp .gt 7, 3) := by decide +kernel
theorem dX6_hasPart_30 : decode cX6_hasPart 30 = .ok (.iconst 1, 1) := by decide +kernel
theorem dX6_hasPart_31 : decode cX6_hasPart 31 = .ok (.goto 4, 3) := by decide +kernel
theorem dX6_hasPart_34 : decode cX6_hasPart 34 = .ok (.iconst 0, 1) := by decide +kernel
theorem dX6_hasPart_35 : decode cX6_hasPart 35 = .ok (.ireturn, 1) := by decide +kernel
theorem dX7_init_0 : decode cX7_init 0 = .ok (.aload_n 0, 1) := by decide +kernel
theorem dX7_init_1 : decode cX7_init 1 = .ok (.invokespecial 3, 3) := by decide +kernel
theorem dX7_init_4 : decode cX7_init 4 = .ok (.aload_n 0, 1) := by decide +kernel
theorem dX7_init_5 : decode cX7_init 5 = .ok (.bipush 100, 2) := by decide +kernel
theorem dX7_init_7 : decode cX7_init 7 = .ok (.newarray .int, 2) := by decide +kernel
theorem dX7_init_9 : decode cX7_init 9 = .ok (.putfield 9, 3) := by decide +kernel
theorem dX7_init_12 : decode cX7_init 12 = .ok (.aload_n 0, 1) := by decide +kernel
theorem dX7_init_13 : decode cX7_init 13 = .ok (.bipush 100, 2) := by decide +kernel
theorem dX7_init_15 : decode cX7_init 15 = .ok (.newarray .int, 2) := by decide +kernel
theorem dX7_init_17 : decode cX7_init 17 = .ok (.putfield 15, 3) := by decide +kernel
theorem dX7_init_20 : decode cX7_init 20 = .ok (.aload_n 0, 1) := by decide +kernel
theorem dX7_init_21 : decode cX7_init 21 = .ok (.iconst 0, 1) := by decide +kernel
theorem dX7_init_22 : decode cX7_init 22 = .ok (.putfield 18, 3) := by decide +kernel
theorem dX7_init_25 : decode cX7_init 25 = .ok (.aload_n 0, 1) := by decide +kernel
theorem dX7_init_26 : decode cX7_init 26 = .ok (.iconst 0, 1) := by decide +kernel
theorem dX7_init_27 : decode cX7_init 27 = .ok (.putfield 22, 3) := by decide +kernel
theorem dX7_init_30 : decode cX7_init 30 = .ok (.aload_n 0, 1) := by decide +kernel
theorem dX7_init_31 : decode cX7_init 31 = .ok (.iconst 0, 1) := by decide +kernel
theorem dX7_init_32 : decode cX7_init 32 = .ok (.putfield 25, 3) := by decide +kernel
theorem dX7_init_35 : decode cX7_init 35 = .ok (.aload_n 0, 1) := by decide +kernel
theorem dX7_init_36 : decode cX7_init 36 = .ok (.iconst 0, 1) := by decide +kernel
theorem dX7_init_37 : decode cX7_init 37 = .ok (.putfield 28, 3) := by decide +kernel
theorem dX7_init_40 : decode cX7_init 40 = .ok (.aload_n 0, 1) := by decide +kernel
theorem dX7_init_41 : decode cX7_init 41 = .ok (.sipush 258, 3) := by decide +kernel
theorem dX7_init_44 : decode cX7_init 44 = .ok (.putfield 31, 3) := by decide +kernel
theorem dX7_init_47 : decode cX7_init 47 = .ok (.aload_n 0, 1) := by decide +kernel
theorem dX7_init_48 : decode cX7_init 48 = .ok (.iconst 0, 1) := by decide +kernel
theorem dX7_init_49 : decode cX7_init 49 = .ok (.putfield 34, 3) := by decide +kernel
theorem dX7_init_52 : decode cX7_init 52 = .ok (.return_, 1) := by decide +kernel
theorem dX7_add_0 : decode cX7_add 0 = .ok (.aload_n 0, 1) := by decide +kernel
theorem dX7_add_1 : decode cX7_add 1 = .ok (.getfield 18, 3) := by decide +kernel
theorem dX7_add_4 : decode cX7_add 4 = .ok (.bipush 100, 2) := by decide +kernel
theorem dX7_add_6 : decode cX7_add 6 = .ok (.if_icmp .ge 23, 3) := by decide +kernel
theorem dX7_add_9 : decode cX7_add 9 = .ok (.aload_n 0, 1) := by decide +kernel
theorem dX7_add_10 : decode cX7_add 10 = .ok (.getfield 9, 3) := by decide +kernel
theorem dX7_add_13 : decode cX7_add 13 = .ok (.aload_n 0, 1) := by decide +kernel
theorem dX7_add_14 : decode cX7_add 14 = .ok (.getfield 18, 3) := by decide +kernel
theorem dX7_add_17 : decode cX7_add 17 = .ok (.iload_n 1, 1) := by decide +kernel
theorem dX7_add_18 : decode cX7_add 18 = .ok (.iastore, 1) := by decide +kernel
theorem dX7_add_19 : decode cX7_add 19 = .ok (.aload_n 0, 1) := by decide +kernel
theorem dX7_add_20 : decode cX7_add 20 = .ok (.dup, 1) := by decide +kernel
theorem dX7_add_21 : decode cX7_add 21 = .ok (.getfield 18, 3) := by decide +kernel
theorem dX7_add_24 : decode cX7_add 24 = .ok (.iconst 1, 1) := by decide +kernel
theorem dX7_add_25 : decode cX7_add 25 = .ok (.iadd, 1) := by decide +kernel
theorem dX7_add_26 : decode cX7_add 26 = .ok (.putfield 18, 3) := by decide +kernel
theorem dX7_add_29 : decode cX7_add 29 = .ok (.return_, 1) := by decide +kernel
theorem dX7_read_0 : decode cX7_read 0 = .ok (.aload_n 0, 1) := by decide +kernel
theorem dX7_read_1 : decode cX7_read 1 = .ok (.iconst 0, 1) := by decide +kernel
theorem dX7_read_2 : decode cX7_read 2 = .ok (.putfield 22, 3) := by decide +kernel
theorem dX7_read_5 : decode cX7_read 5 = .ok (.aload_n 0, 1) := by decide +kernel
theorem dX7_read_6 : decode cX7_read 6 = .ok (.iconst 0, 1) := by decide +kernel
theorem dX7_read_7 : decode cX7_read 7 = .ok (.putfield 25, 3) := by decide +kernel
theorem dX7_read_10 : decode cX7_read 10 = .ok (.aload_n 0, 1) := by decide +kernel
theorem dX7_read_11 : decode cX7_read 11 = .ok (.invokevirtual 37, 3) := by decide +kernel
theorem dX7_read_14 : decode cX7_read 14 = .ok (.aload_n 0, 1) := by decide +kernel
theorem dX7_read_15 : decode cX7_read 15 = .ok (.iconst 0, 1) := by decide +kernel
theorem dX7_read_16 : decode cX7_read 16 = .ok (.invokevirtual 40, 3) := by decide +kernel
theorem dX7_read_19 : decode cX7_read 19 = .ok (.ifCond .eq 17, 3) := by decide +kernel
theorem dX7_read_22 : decode cX7_read 22 = .ok (.aload_n 0, 1) := by decide +kernel
theorem dX7_read_23 : decode cX7_read 23 = .ok (.getfield 31, 3) := by decide +kernel
theorem dX7_read_26 : decode cX7_read 26 = .ok (.sipush 258, 3) := by decide +kernel
theorem dX7_read_29 : decode cX7_read 29 = .ok (.if_icmp .ne 7, 3) := by decide +kernel
theorem dX7_read_32 : decode cX7_read 32 = .ok (.iconst (-1), 1) := by decide +kernel
theorem dX7_read_33 : decode cX7_read 33 = .ok (.goto 7, 3) := by decide +kernel
theorem dX7_read_36 : decode cX7_read 36 = .ok (.aload_n 0, 1) := by decide +kernel
theorem dX7_read_37 : decode cX7_read 37 = .ok (.getfield 28, 3) := by decide +kernel
theorem dX7_read_40 : decode cX7_read 40 = .ok (.ireturn, 1) := by decide +kernel
theorem dX7_readEither_0 : decode cX7_readEither 0 = .ok (.aload_n 0, 1) := by decide +kernel
theorem dX7_readEither_1 : decode cX7_readEither 1 = .ok (.iload_n 1, 1) := by decide +kernel
theorem dX7_readEither_2 : decode cX7_readEither 2 = .ok (.invokevirtual 44, 3) := by decide +kernel
theorem dX7_readEither_5 : decode cX7_readEither 5 = .ok (.istore_n 2, 1) := by decide +kernel
theorem dX7_readEither_6 : decode cX7_readEither 6 = .ok (.iconst 0, 1) := by decide +kernel
theorem dX7_readEither_7 : decode cX7_readEither 7 = .ok (.istore_n 3, 1) := by decide +kernel
theorem dX7_readEither_8 : decode cX7_readEither 8 = .ok (.iload_n 3, 1) := by decide +kernel
theorem dX7_readEither_9 : decode cX7_readEither 9 = .ok (.bipush 100, 2) := by decide +kernel
theorem dX7_readEither_11 : decode cX7_readEither 11 = .ok (.if_icmp .ge 49, 3) := by decide +kernel
theorem dX7_readEither_14 : decode cX7_readEither 14 = .ok (.iload_n 2, 1) := by decide +kernel
theorem dX7_readEither_15 : decode cX7_readEither 15 = .ok (.ifCond .eq 45, 3) := by decide +kernel
theorem dX7_readEither_18 : decode cX7_readEither 18 = .ok (.aload_n 0, 1) := by decide +kernel
theorem dX7_readEither_19 : decode cX7_readEither 19 = .ok (.getfield 31, 3) := by decide +kernel
theorem dX7_readEither_22 : decode cX7_readEither 22 = .ok (.bipush 124, 2) := by decide +kernel
theorem dX7_readEither_24 : decode cX7_readEither 24 = .ok (.if_icmp .ne 36, 3) := by decide +kernel
theorem dX7_readEither_27 : decode cX7_readEither 27 = .ok (.aload_n 0, 1) := by decide +kernel
theorem dX7_readEither_28 : decode cX7_readEither 28 = .ok (.invokevirtual 37, 3) := by decide +kernel
theorem dX7_readEither_31 : decode cX7_readEither 31 = .ok (.aload_n 0, 1) := by decide +kernel
theorem dX7_readEither_32 : decode cX7_readEither 32 = .ok (.iload_n 1, 1) := by decide +kernel
theorem dX7_readEither_33 : decode cX7_readEither 33 = .ok (.invokevirtual 44, 3) := by decide +kernel
theorem dX7_readEither_36 : decode cX7_readEither 36 = .ok (.ifCond .eq 16, 3) := by decide +kernel
theorem dX7_readEither_39 : decode cX7_readEither 39 = .ok (.aload_n 0, 1) := by decide +kernel
theorem dX7_readEither_40 : decode cX7_readEither 40 = .ok (.bipush 124, 2) := by decide +kernel
theorem dX7_readEither_42 : decode cX7_readEither 42 = .ok (.invokevirtual 47, 3) := by decide +kernel
theorem dX7_readEither_45 : decode cX7_readEither 45 = .ok (.ifCond .eq 7, 3) := by decide +kernel
theorem dX7_readEither_48 : decode cX7_readEither 48 = .ok (.iconst 1, 1) := by decide +kernel
theorem dX7_readEither_49 : decode cX7_readEither 49 = .ok (.goto 4, 3) := by decide +kernel
theorem dX7_readEither_52 : decode cX7_readEither 52 = .ok (.iconst 0, 1) := by decide +kernel
theorem dX7_readEither_53 : decode cX7_readEither 53 = .ok (.istore_n 2, 1) := by decide +kernel
theorem dX7_readEither_54 : decode cX7_readEither 54 = .ok (.iinc 3 1, 3) := by decide +kernel
theorem dX7_readEither_57 : decode cX7_readEither 57 = .ok (.goto (-49), 3) := by decide +kernel
theorem dX7_readEither_60 : decode cX7_readEither 60 = .ok (.iload_n 2, 1) := by decide +kernel
theorem dX7_readEither_61 : decode cX7_readEither 61 = .ok (.ireturn, 1) := by decide +kernel
theorem dX7_readBoth_0 : decode cX7_readBoth 0 = .ok (.aload_n 0, 1) := by decide +kernel
theorem dX7_readBoth_1 : decode cX7_readBoth 1 = .ok (.iload_n 1, 1) := by decide +kernel
theorem dX7_readBoth_2 : decode cX7_readBoth 2 = .ok (.invokevirtual 50, 3) := by decide +kernel
theorem dX7_readBoth_5 : decode cX7_readBoth 5 = .ok (.istore_n 2, 1) := by decide +kernel
theorem dX7_readBoth_6 : decode cX7_readBoth 6 = .ok (.iconst 0, 1) := by decide +kernel
theorem dX7_readBoth_7 : decode cX7_readBoth 7 = .ok (.istore_n 3, 1) := by decide +kernel
theorem dX7_readBoth_8 : decode cX7_readBoth 8 = .ok (.iload_n 3, 1) := by decide +kernel
theorem dX7_readBoth_9 : decode cX7_readBoth 9 = .ok (.bipush 100, 2) := by decide +kernel
theorem dX7_readBoth_11 : decode cX7_readBoth 11 = .ok (.if_icmp .ge 49, 3) := by decide +kernel
theorem dX7_readBoth_14 : decode cX7_readBoth 14 = .ok (.iload_n 2, 1) := by decide +kernel
theorem dX7_readBoth_15 : decode cX7_readBoth 15 = .ok (.ifCond .eq 45, 3) := by decide +kernel
theorem dX7_readBoth_18 : decode cX7_readBoth 18 = .ok (.aload_n 0, 1) := by decide +kernel
theorem dX7_readBoth_19 : decode cX7_readBoth 19 = .ok (.getfield 31, 3) := by decide +kernel
theorem dX7_readBoth_22 : decode cX7_readBoth 22 = .ok (.bipush 38, 2) := by decide +kernel
theorem dX7_readBoth_24 : decode cX7_readBoth 24 = .ok (.if_icmp .ne 36, 3) := by decide +kernel
theorem dX7_readBoth_27 : decode cX7_readBoth 27 = .ok (.aload_n 0, 1) := by decide +kernel
theorem dX7_readBoth_28 : decode cX7_readBoth 28 = .ok (.invokevirtual 37, 3) := by decide +kernel
theorem dX7_readBoth_31 : decode cX7_readBoth 31 = .ok (.aload_n 0, 1) := by decide +kernel
theorem dX7_readBoth_32 : decode cX7_readBoth 32 = .ok (.iload_n 1, 1) := by decide +kernel
theorem dX7_readBoth_33 : decode cX7_readBoth 33 = .ok (.invokevirtual 50, 3) := by decide +kernel
theorem dX7_readBoth_36 : decode cX7_readBoth 36 = .ok (.ifCond .eq 16, 3) := by decide +kernel
theorem dX7_readBoth_39 : decode cX7_readBoth 39 = .ok (.aload_n 0, 1) := by decide +kernel
theorem dX7_readBoth_40 : decode cX7_readBoth 40 = .ok (.bipush 38, 2) := by decide +kernel
theorem dX7_readBoth_42 : decode cX7_readBoth 42 = .ok (.invokevirtual 47, 3) := by decide +kernel
theorem dX7_readBoth_45 : decode cX7_readBoth 45 = .ok (.ifCond .eq 7, 3) := by decide +kernel
theorem dX7_readBoth_48 : decode cX7_readBoth 48 = .ok (.iconst 1, 1) := by decide +kernel
theorem dX7_readBoth_49 : decode cX7_readBoth 49 = .ok (.goto 4, 3) := by decide +kernel
theorem dX7_readBoth_52 : decode cX7_readBoth 52 = .ok (.iconst 0, 1) := by decide +kernel
theorem dX7_readBoth_53 : decode cX7_readBoth 53 = .ok (.istore_n 2, 1) := by decide +kernel
theorem dX7_readBoth_54 : decode cX7_readBoth 54 = .ok (.iinc 3 1, 3) := by decide +kernel
theorem dX7_readBoth_57 : decode cX7_readBoth 57 = .ok (.goto (-49), 3) := by decide +kernel
theorem dX7_readBoth_60 : decode cX7_readBoth 60 = .ok (.iload_n 2, 1) := by decide +kernel
theorem dX7_readBoth_61 : decode cX7_readBoth 61 = .ok (.ireturn, 1) := by decide +kernel
theorem dX7_readNot_0 : decode cX7_readNot 0 = .ok (.aload_n 0, 1) := by decide +kernel
theorem dX7_readNot_1 : decode cX7_readNot 1 = .ok (.getfield 31, 3) := by decide +kernel
theorem dX7_readNot_4 : decode cX7_readNot 4 = .ok (.bipush 33, 2) := by decide +kernel
theorem dX7_readNot_6 : decode cX7_readNot 6 = .ok (.if_icmp .eq 9, 3) := by decide +kernel
theorem dX7_readNot_9 : decode cX7_readNot 9 = .ok (.aload_n 0, 1) := by decide +kernel
theorem dX7_readNot_10 : decode cX7_readNot 10 = .ok (.iload_n 1, 1) := by decide +kernel
theorem dX7_readNot_11 : decode cX7_readNot 11 = .ok (.invokevirtual 53, 3) := by decide +kernel
theorem dX7_readNot_14 : decode cX7_readNot 14 = .ok (.ireturn, 1) := by decide +kernel
theorem dX7_readNot_15 : decode cX7_readNot 15 = .ok (.iload_n 1, 1) := by decide +kernel
theorem dX7_readNot_16 : decode cX7_readNot 16 = .ok (.bipush 6, 2) := by decide +kernel
theorem dX7_readNot_18 : decode cX7_readNot 18 = .ok (.if_icmp .lt 5, 3) := by decide +kernel
theorem dX7_readNot_21 : decode cX7_readNot 21 = .ok (.iconst 0, 1) := by decide +kernel
theorem dX7_readNot_22 : decode cX7_readNot 22 = .ok (.ireturn, 1) := by decide +kernel
theorem dX7_readNot_23 : decode cX7_readNot 23 = .ok (.aload_n 0, 1) := by decide +kernel
theorem dX7_readNot_24 : decode cX7_readNot 24 = .ok (.invokevirtual 37, 3) := by decide +kernel
theorem dX7_readNot_27 : decode cX7_readNot 27 = .ok (.aload_n 0, 1) := by decide +kernel
theorem dX7_readNot_28 : decode cX7_readNot 28 = .ok (.iload_n 1, 1) := by decide +kernel
theorem dX7_readNot_29 : decode cX7_readNot 29 = .ok (.iconst 1, 1) := by decide +kernel
theorem dX7_readNot_30 : decode cX7_readNot 30 = .ok (.iadd, 1) := by decide +kernel
theorem dX7_readNot_31 : decode cX7_readNot 31 = .ok (.invokevirtual 50, 3) := by decide +kernel
theorem dX7_readNot_34 : decode cX7_readNot 34 = .ok (.ifCond .eq 16, 3) := by decide +kernel
theorem dX7_readNot_37 : decode cX7_readNot 37 = .ok (.aload_n 0, 1) := by decide +kernel
theorem dX7_readNot_38 : decode cX7_readNot 38 = .ok (.bipush 33, 2) := by decide +kernel
theorem dX7_readNot_40 : decode cX7_readNot 40 = .ok (.invokevirtual 47, 3) := by decide +kernel
theorem dX7_readNot_43 : decode cX7_readNot 43 = .ok (.ifCond .eq 7, 3) := by decide +kernel
theorem dX7_readNot_46 : decode cX7_readNot 46 = .ok (.iconst 1, 1) := by decide +kernel
theorem dX7_readNot_47 : decode cX7_readNot 47 = .ok (.goto 4, 3) := by decide +kernel
theorem dX7_readNot_50 : decode cX7_readNot 50 = .ok (.iconst 0, 1) := by decide +kernel
theorem dX7_readNot_51 : decode cX7_readNot 51 = .ok (.ireturn, 1) := by decide +kernel
theorem dX7_readCompared_0 : decode cX7_readCompared 0 = .ok (.aload_n 0, 1) := by decide +kernel
theorem dX7_readCompared_1 : decode cX7_readCompared 1 = .ok (.iload_n 1, 1) := by decide +kernel
theorem dX7_readCompared_2 : decode cX7_readCompared 2 = .ok (.invokevirtual 56, 3) := by decide +kernel
theorem dX7_readCompared_5 : decode cX7_readCompared 5 = .ok (.ifCond .ne 5, 3) := by decide +kernel
theorem dX7_readCompared_8 : decode cX7_readCompared 8 = .ok (.iconst 0, 1) := by decide +kernel
theorem dX7_readCompared_9 : decode cX7_readCompared 9 = .ok (.ireturn, 1) := by decide +kernel
theorem dX7_readCompared_10 : decode cX7_readCompared 10 = .ok (.aload_n 0, 1) := by decide +kernel
theorem dX7_readCompared_11 : decode cX7_readCompared 11 = .ok (.getfield 31, 3) := by decide +kernel
theorem dX7_readCompared_14 : decode cX7_readCompared 14 = .ok (.istore_n 2, 1) := by decide +kernel
theorem dX7_readCompared_15 : decode cX7_readCompared 15 = .ok (.iload_n 2, 1) := by decide +kernel
theorem dX7_readCompared_16 : decode cX7_readCompared 16 = .ok (.bipush 60, 2) := by decide +kernel
theorem dX7_readCompared_18 : decode cX7_readCompared 18 = .ok (.if_icmp .eq 17, 3) := by decide +kernel
theorem dX7_readCompared_21 : decode cX7_readCompared 21 = .ok (.iload_n 2, 1) := by decide +kernel
theorem dX7_readCompared_22 : decode cX7_readCompared 22 = .ok (.bipush 61, 2) := by decide +kernel
theorem dX7_readCompared_24 : decode cX7_readCompared 24 = .ok (.if_icmp .eq 11, 3) := by decide +kernel
theorem dX7_readCompared_27 : decode cX7_readCompared 27 = .ok (.iload_n 2, 1) := by decide +kernel
theorem dX7_readCompared_28 : decode cX7_readCompared 28 = .ok (.bipush 62, 2) := by decide +kernel
theorem dX7_readCompared_30 : decode cX7_readCompared 30 = .ok (.if_icmp .eq 5, 3) := by decide +kernel
theorem dX7_readCompared_33 : decode cX7_readCompared 33 = .ok (.iconst 1, 1) := by decide +kernel
theorem dX7_readCompared_34 : decode cX7_readCompared 34 = .ok (.ireturn, 1) := by decide +kernel
theorem dX7_readCompared_35 : decode cX7_readCompared 35 = .ok (.aload_n 0, 1) := by decide +kernel
theorem dX7_readCompared_36 : decode cX7_readCompared 36 = .ok (.invokevirtual 37, 3) := by decide +kernel
theorem dX7_readCompared_39 : decode cX7_readCompared 39 = .ok (.aload_n 0, 1) := by decide +kernel
theorem dX7_readCompared_40 : decode cX7_readCompared 40 = .ok (.iload_n 1, 1) := by decide +kernel
theorem dX7_readCompared_41 : decode cX7_readCompared 41 = .ok (.invokevirtual 56, 3) := by decide +kernel
theorem dX7_readCompared_44 : decode cX7_readCompared 44 = .ok (.ifCond .eq 15, 3) := by decide +kernel
theorem dX7_readCompared_47 : decode cX7_readCompared 47 = .ok (.aload_n 0, 1) := by decide +kernel
theorem dX7_readCompared_48 : decode cX7_readCompared 48 = .ok (.iload_n 2, 1) := by decide +kernel
theorem dX7_readCompared_49 : decode cX7_readCompared 49 = .ok (.invokevirtual 47, 3) := by decide +kernel
theorem dX7_readCompared_52 : decode cX7_readCompared 52 = .ok (.ifCond .eq 7, 3) := by decide +kernel
theorem dX7_readCompared_55 : decode cX7_readCompared 55 = .ok (.iconst 1, 1) := by decide +kernel
theorem dX7_readCompared_56 : decode cX7_readCompared 56 = .ok (.goto 4, 3) := by decide +kernel
theorem dX7_readCompared_59 : decode cX7_readCompared 59 = .ok (.iconst 0, 1) := by decide +kernel
theorem dX7_readCompared_60 : decode cX7_readCompared 60 = .ok (.ireturn, 1) := by decide +kernel
theorem dX7_readSum_0 : decode cX7_readSum 0 = .ok (.aload_n 0, 1) := by decide +kernel
theorem dX7_readSum_1 : decode cX7_readSum 1 = .ok (.iload_n 1, 1) := by decide +kernel
theorem dX7_readSum_2 : decode cX7_readSum 2 = .ok (.invokevirtual 59, 3) := by decide +kernel
theorem dX7_readSum_5 : decode cX7_readSum 5 = .ok (.istore_n 2, 1) := by decide +kernel
theorem dX7_readSum_6 : decode cX7_readSum 6 = .ok (.iconst 0, 1) := by decide +kernel
theorem dX7_readSum_7 : decode cX7_readSum 7 = .ok (.istore_n 3, 1) := by decide +kernel
theorem dX7_readSum_8 : decode cX7_readSum 8 = .ok (.iload_n 3, 1) := by decide +kernel
theorem dX7_readSum_9 : decode cX7_readSum 9 = .ok (.bipush 100, 2) := by decide +kernel
theorem dX7_readSum_11 : decode cX7_readSum 11 = .ok (.if_icmp .ge 64, 3) := by decide +kernel
theorem dX7_readSum_14 : decode cX7_readSum 14 = .ok (.iload_n 2, 1) := by decide +kernel
theorem dX7_readSum_15 : decode cX7_readSum 15 = .ok (.ifCond .eq 60, 3) := by decide +kernel
theorem dX7_readSum_18 : decode cX7_readSum 18 = .ok (.aload_n 0, 1) := by decide +kernel
theorem dX7_readSum_19 : decode cX7_readSum 19 = .ok (.getfield 31, 3) := by decide +kernel
theorem dX7_readSum_22 : decode cX7_readSum 22 = .ok (.bipush 43, 2) := by decide +kernel
theorem dX7_readSum_24 : decode cX7_readSum 24 = .ok (.if_icmp .eq 12, 3) := by decide +kernel
theorem dX7_readSum_27 : decode cX7_readSum 27 = .ok (.aload_n 0, 1) := by decide +kernel
theorem dX7_readSum_28 : decode cX7_readSum 28 = .ok (.getfield 31, 3) := by decide +kernel
theorem dX7_readSum_31 : decode cX7_readSum 31 = .ok (.bipush 45, 2) := by decide +kernel
theorem dX7_readSum_33 : decode cX7_readSum 33 = .ok (.if_icmp .ne 42, 3) := by decide +kernel
theorem dX7_readSum_36 : decode cX7_readSum 36 = .ok (.aload_n 0, 1) := by decide +kernel
theorem dX7_readSum_37 : decode cX7_readSum 37 = .ok (.getfield 31, 3) := by decide +kernel
theorem dX7_readSum_40 : decode cX7_readSum 40 = .ok (.istore 4, 2) := by decide +kernel
theorem dX7_readSum_42 : decode cX7_readSum 42 = .ok (.aload_n 0, 1) := by decide +kernel
theorem dX7_readSum_43 : decode cX7_readSum 43 = .ok (.invokevirtual 37, 3) := by decide +kernel
theorem dX7_readSum_46 : decode cX7_readSum 46 = .ok (.aload_n 0, 1) := by decide +kernel
theorem dX7_readSum_47 : decode cX7_readSum 47 = .ok (.iload_n 1, 1) := by decide +kernel
theorem dX7_readSum_48 : decode cX7_readSum 48 = .ok (.invokevirtual 59, 3) := by decide +kernel
theorem dX7_readSum_51 : decode cX7_readSum 51 = .ok (.ifCond .eq 16, 3) := by decide +kernel
theorem dX7_readSum_54 : decode cX7_readSum 54 = .ok (.aload_n 0, 1) := by decide +kernel
theorem dX7_readSum_55 : decode cX7_readSum 55 = .ok (.iload 4, 2) := by decide +kernel
theorem dX7_readSum_57 : decode cX7_readSum 57 = .ok (.invokevirtual 47, 3) := by decide +kernel
theorem dX7_readSum_60 : decode cX7_readSum 60 = .ok (.ifCond .eq 7, 3) := by decide +kernel
theorem dX7_readSum_63 : decode cX7_readSum 63 = .ok (.iconst 1, 1) := by decide +kernel
theorem dX7_readSum_64 : decode cX7_readSum 64 = .ok (.goto 4, 3) := by decide +kernel
theorem dX7_readSum_67 : decode cX7_readSum 67 = .ok (.iconst 0, 1) := by decide +kernel
theorem dX7_readSum_68 : decode cX7_readSum 68 = .ok (.istore_n 2, 1) := by decide +kernel
theorem dX7_readSum_69 : decode cX7_readSum 69 = .ok (.iinc 3 1, 3) := by decide +kernel
theorem dX7_readSum_72 : decode cX7_readSum 72 = .ok (.goto (-64), 3) := by decide +kernel
theorem dX7_readSum_75 : decode cX7_readSum 75 = .ok (.iload_n 2, 1) := by decide +kernel
theorem dX7_readSum_76 : decode cX7_readSum 76 = .ok (.ireturn, 1) := by decide +kernel
theorem dX7_readProduct_0 : decode cX7_readProduct 0 = .ok (.aload_n 0, 1) := by decide +kernel
theorem dX7_readProduct_1 : decode cX7_readProduct 1 = .ok (.iload_n 1, 1) := by decide +kernel
theorem dX7_readProduct_2 : decode cX7_readProduct 2 = .ok (.invokevirtual 62, 3) := by decide +kernel
theorem dX7_readProduct_5 : decode cX7_readProduct 5 = .ok (.istore_n 2, 1) := by decide +kernel
theorem dX7_readProduct_6 : decode cX7_readProduct 6 = .ok (.iconst 0, 1) := by decide +kernel
theorem dX7_readProduct_7 : decode cX7_readProduct 7 = .ok (.istore_n 3, 1) := by decide +kernel
theorem dX7_readProduct_8 : decode cX7_readProduct 8 = .ok (.iload_n 3, 1) := by decide +kernel
theorem dX7_readProduct_9 : decode cX7_readProduct 9 = .ok (.bipush 100, 2) := by decide +kernel
theorem dX7_readProduct_11 : decode cX7_readProduct 11 = .ok (.if_icmp .ge 64, 3) := by decide +kernel
theorem dX7_readProduct_14 : decode cX7_readProduct 14 = .ok (.iload_n 2, 1) := by decide +kernel
theorem dX7_readProduct_15 : decode cX7_readProduct 15 = .ok (.ifCond .eq 60, 3) := by decide +kernel
theorem dX7_readProduct_18 : decode cX7_readProduct 18 = .ok (.aload_n 0, 1) := by decide +kernel
theorem dX7_readProduct_19 : decode cX7_readProduct 19 = .ok (.getfield 31, 3) := by decide +kernel
theorem dX7_readProduct_22 : decode cX7_readProduct 22 = .ok (.bipush 42, 2) := by decide +kernel
theorem dX7_readProduct_24 : decode cX7_readProduct 24 = .ok (.if_icmp .eq 12, 3) := by decide +kernel
theorem dX7_readProduct_27 : decode cX7_readProduct 27 = .ok (.aload_n 0, 1) := by decide +kernel
theorem dX7_readProduct_28 : decode cX7_readProduct 28 = .ok (.getfield 31, 3) := by decide +kernel
theorem dX7_readProduct_31 : decode cX7_readProduct 31 = .ok (.bipush 47, 2) := by decide +kernel
theorem dX7_readProduct_33 : decode cX7_readProduct 33 = .ok (.if_icmp .ne 42, 3) := by decide +kernel
theorem dX7_readProduct_36 : decode cX7_readProduct 36 = .ok (.aload_n 0, 1) := by decide +kernel
theorem dX7_readProduct_37 : decode cX7_readProduct 37 = .ok (.getfield 31, 3) := by decide +kernel
theorem dX7_readProduct_40 : decode cX7_readProduct 40 = .ok (.istore 4, 2) := by decide +kernel
theorem dX7_readProduct_42 : decode cX7_readProduct 42 = .ok (.aload_n 0, 1) := by decide +kernel
theorem dX7_readProduct_43 : decode cX7_readProduct 43 = .ok (.invokevirtual 37, 3) := by decide +kernel
theorem dX7_readProduct_46 : decode cX7_readProduct 46 = .ok (.aload_n 0, 1) := by decide +kernel
theorem dX7_readProduct_47 : decode cX7_readProduct 47 = .ok (.iload_n 1, 1) := by decide +kernel
theorem dX7_readProduct_48 : decode cX7_readProduct 48 = .ok (.invokevirtual 62, 3) := by decide +kernel
theorem dX7_readProduct_51 : decode cX7_readProduct 51 = .ok (.ifCond .eq 16, 3) := by decide +kernel
theorem dX7_readProduct_54 : decode cX7_readProduct 54 = .ok (.aload_n 0, 1) := by decide +kernel
theorem dX7_readProduct_55 : decode cX7_readProduct 55 = .ok (.iload 4, 2) := by decide +kernel
theorem dX7_readProduct_57 : decode cX7_readProduct 57 = .ok (.invokevirtual 47, 3) := by decide +kernel
theorem dX7_readProduct_60 : decode cX7_readProduct 60 = .ok (.ifCond .eq 7, 3) := by decide +kernel
theorem dX7_readProduct_63 : decode cX7_readProduct 63 = .ok (.iconst 1, 1) := by decide +kernel
theorem dX7_readProduct_64 : decode cX7_readProduct 64 = .ok (.goto 4, 3) := by decide +kernel
theorem dX7_readProduct_67 : decode cX7_readProduct 67 = .ok (.iconst 0, 1) := by decide +kernel
theorem dX7_readProduct_68 : decode cX7_readProduct 68 = .ok (.istore_n 2, 1) := by decide +kernel
theorem dX7_readProduct_69 : decode cX7_readProduct 69 = .ok (.iinc 3 1, 3) := by decide +kernel
theorem dX7_readProduct_72 : decode cX7_readProduct 72 = .ok (.goto (-64), 3) := by decide +kernel
theorem dX7_readProduct_75 : decode cX7_readProduct 75 = .ok (.iload_n 2, 1) := by decide +kernel
theorem dX7_readProduct_76 : decode cX7_readProduct 76 = .ok (.ireturn, 1) := by decide +kernel
theorem dX7_readSingle_0 : decode cX7_readSingle 0 = .ok (.aload_n 0, 1) := by decide +kernel
theorem dX7_readSingle_1 : decode cX7_readSingle 1 = .ok (.getfield 31, 3) := by decide +kernel
theorem dX7_readSingle_4 : decode cX7_readSingle 4 = .ok (.sipush 256, 3) := by decide +kernel
theorem dX7_readSingle_7 : decode cX7_readSingle 7 = .ok (.if_icmp .eq 13, 3) := by decide +kernel
theorem dX7_readSingle_10 : decode cX7_readSingle 10 = .ok (.aload_n 0, 1) := by decide +kernel
theorem dX7_readSingle_11 : decode cX7_readSingle 11 = .ok (.getfield 31, 3) := by decide +kernel
theorem dX7_readSingle_14 : decode cX7_readSingle 14 = .ok (.sipush 257, 3) := by decide +kernel
theorem dX7_readSingle_17 : decode cX7_readSingle 17 = .ok (.if_icmp .ne 36, 3) := by decide +kernel
theorem dX7_readSingle_20 : decode cX7_readSingle 20 = .ok (.aload_n 0, 1) := by decide +kernel
theorem dX7_readSingle_21 : decode cX7_readSingle 21 = .ok (.aload_n 0, 1) := by decide +kernel
theorem dX7_readSingle_22 : decode cX7_readSingle 22 = .ok (.getfield 31, 3) := by decide +kernel
theorem dX7_readSingle_25 : decode cX7_readSingle 25 = .ok (.sipush 256, 3) := by decide +kernel
theorem dX7_readSingle_28 : decode cX7_readSingle 28 = .ok (.if_icmp .ne 10, 3) := by decide +kernel
theorem dX7_readSingle_31 : decode cX7_readSingle 31 = .ok (.aload_n 0, 1) := by decide +kernel
theorem dX7_readSingle_32 : decode cX7_readSingle 32 = .ok (.getfield 34, 3) := by decide +kernel
theorem dX7_readSingle_35 : decode cX7_readSingle 35 = .ok (.goto 9, 3) := by decide +kernel
theorem dX7_readSingle_38 : decode cX7_readSingle 38 = .ok (.iconst (-1), 1) := by decide +kernel
theorem dX7_readSingle_39 : decode cX7_readSingle 39 = .ok (.aload_n 0, 1) := by decide +kernel
theorem dX7_readSingle_40 : decode cX7_readSingle 40 = .ok (.getfield 34, 3) := by decide +kernel
theorem dX7_readSingle_43 : decode cX7_readSingle 43 = .ok (.isub, 1) := by decide +kernel
theorem dX7_readSingle_44 : decode cX7_readSingle 44 = .ok (.invokevirtual 67, 3) := by decide +kernel
theorem dX7_readSingle_47 : decode cX7_readSingle 47 = .ok (.aload_n 0, 1) := by decide +kernel
theorem dX7_readSingle_48 : decode cX7_readSingle 48 = .ok (.invokevirtual 37, 3) := by decide +kernel
theorem dX7_readSingle_51 : decode cX7_readSingle 51 = .ok (.iconst 1, 1) := by decide +kernel
theorem dX7_readSingle_52 : decode cX7_readSingle 52 = .ok (.ireturn, 1) := by decide +kernel
theorem dX7_readSingle_53 : decode cX7_readSingle 53 = .ok (.aload_n 0, 1) := by decide +kernel
theorem dX7_readSingle_54 : decode cX7_readSingle 54 = .ok (.getfield 31, 3) := by decide +kernel
theorem dX7_readSingle_57 : decode cX7_readSingle 57 = .ok (.bipush 40, 2) := by decide +kernel
theorem dX7_readSingle_59 : decode cX7_readSingle 59 = .ok (.if_icmp .ne 9, 3) := by decide +kernel
theorem dX7_readSingle_62 : decode cX7_readSingle 62 = .ok (.iload_n 1, 1) := by decide +kernel
theorem dX7_readSingle_63 : decode cX7_readSingle 63 = .ok (.bipush 6, 2) := by decide +kernel
theorem dX7_readSingle_65 : decode cX7_readSingle 65 = .ok (.if_icmp .lt 5, 3) := by decide +kernel
theorem dX7_readSingle_68 : decode cX7_readSingle 68 = .ok (.iconst 0, 1) := by decide +kernel
theorem dX7_readSingle_69 : decode cX7_readSingle 69 = .ok (.ireturn, 1) := by decide +kernel
theorem dX7_readSingle_70 : decode cX7_readSingle 70 = .ok (.aload_n 0, 1) := by decide +kernel
theorem dX7_readSingle_71 : decode cX7_readSingle 71 = .ok (.invokevirtual 37, 3) := by decide +kernel
theorem dX7_readSingle_74 : decode cX7_readSingle 74 = .ok (.aload_n 0, 1) := by decide +kernel
theorem dX7_readSingle_75 : decode cX7_readSingle 75 = .ok (.iload_n 1, 1) := by decide +kernel
theorem dX7_readSingle_76 : decode cX7_readSingle 76 = .ok (.iconst 1, 1) := by decide +kernel
theorem dX7_readSingle_77 : decode cX7_readSingle 77 = .ok (.iadd, 1) := by decide +kernel
theorem dX7_readSingle_78 : decode cX7_readSingle 78 = .ok (.invokevirtual 40, 3) := by decide +kernel
theorem dX7_readSingle_81 : decode cX7_readSingle 81 = .ok (.ifCond .eq 12, 3) := by decide +kernel
theorem dX7_readSingle_84 : decode cX7_readSingle 84 = .ok (.aload_n 0, 1) := by decide +kernel
theorem dX7_readSingle_85 : decode cX7_readSingle 85 = .ok (.getfield 31, 3) := by decide +kernel
theorem dX7_readSingle_88 : decode cX7_readSingle 88 = .ok (.bipush 41, 2) := by decide +kernel
theorem dX7_readSingle_90 : decode cX7_readSingle 90 = .ok (.if_icmp .eq 5, 3) := by decide +kernel
theorem dX7_readSingle_93 : decode cX7_readSingle 93 = .ok (.iconst 0, 1) := by decide +kernel
theorem dX7_readSingle_94 : decode cX7_readSingle 94 = .ok (.ireturn, 1) := by decide +kernel
theorem dX7_readSingle_95 : decode cX7_readSingle 95 = .ok (.aload_n 0, 1) := by decide +kernel
theorem dX7_readSingle_96 : decode cX7_readSingle 96 = .ok (.invokevirtual 37, 3) := by decide +kernel
theorem dX7_readSingle_99 : decode cX7_readSingle 99 = .ok (.iconst 1, 1) := by decide +kernel
theorem dX7_readSingle_100 : decode cX7_readSingle 100 = .ok (.ireturn, 1) := by decide +kernel
theorem dX7_putSign_0 : decode cX7_putSign 0 = .ok (.aload_n 0, 1) := by decide +kernel
theorem dX7_putSign_1 : decode cX7_putSign 1 = .ok (.bipush (-100), 2) := by decide +kernel
theorem dX7_putSign_3 : decode cX7_putSign 3 = .ok (.iload_n 1, 1) := by decide +kernel
theorem dX7_putSign_4 : decode cX7_putSign 4 = .ok (.isub, 1) := by decide +kernel
theorem dX7_putSign_5 : decode cX7_putSign 5 = .ok (.invokevirtual 67, 3) := by decide +kernel
theorem dX7_putSign_8 : decode cX7_putSign 8 = .ok (.iconst 1, 1) := by decide +kernel
theorem dX7_putSign_9 : decode cX7_putSign 9 = .ok (.ireturn, 1) := by decide +kernel
theorem dX7_put_0 : decode cX7_put 0 = .ok (.aload_n 0, 1) := by decide +kernel
theorem dX7_put_1 : decode cX7_put 1 = .ok (.getfield 22, 3) := by decide +kernel
theorem dX7_put_4 : decode cX7_put 4 = .ok (.bipush 100, 2) := by decide +kernel
theorem dX7_put_6 : decode cX7_put 6 = .ok (.if_icmp .ge 23, 3) := by decide +kernel
theorem dX7_put_9 : decode cX7_put 9 = .ok (.aload_n 0, 1) := by decide +kernel
theorem dX7_put_10 : decode cX7_put 10 = .ok (.getfield 15, 3) := by decide +kernel
theorem dX7_put_13 : decode cX7_put 13 = .ok (.aload_n 0, 1) := by decide +kernel
theorem dX7_put_14 : decode cX7_put 14 = .ok (.getfield 22, 3) := by decide +kernel
theorem dX7_put_17 : decode cX7_put 17 = .ok (.iload_n 1, 1) := by decide +kernel
theorem dX7_put_18 : decode cX7_put 18 = .ok (.iastore, 1) := by decide +kernel
theorem dX7_put_19 : decode cX7_put 19 = .ok (.aload_n 0, 1) := by decide +kernel
theorem dX7_put_20 : decode cX7_put 20 = .ok (.dup, 1) := by decide +kernel
theorem dX7_put_21 : decode cX7_put 21 = .ok (.getfield 22, 3) := by decide +kernel
theorem dX7_put_24 : decode cX7_put 24 = .ok (.iconst 1, 1) := by decide +kernel
theorem dX7_put_25 : decode cX7_put 25 = .ok (.iadd, 1) := by decide +kernel
theorem dX7_put_26 : decode cX7_put 26 = .ok (.putfield 22, 3) := by decide +kernel
theorem dX7_put_29 : decode cX7_put 29 = .ok (.return_, 1) := by decide +kernel
theorem dX7_advance_0 : decode cX7_advance 0 = .ok (.aload_n 0, 1) := by decide +kernel
theorem dX7_advance_1 : decode cX7_advance 1 = .ok (.aload_n 0, 1) := by decide +kernel
theorem dX7_advance_2 : decode cX7_advance 2 = .ok (.aload_n 0, 1) := by decide +kernel
theorem dX7_advance_3 : decode cX7_advance 3 = .ok (.getfield 25, 3) := by decide +kernel
theorem dX7_advance_6 : decode cX7_advance 6 = .ok (.bipush 32, 2) := by decide +kernel
theorem dX7_advance_8 : decode cX7_advance 8 = .ok (.bipush 32, 2) := by decide +kernel
theorem dX7_advance_10 : decode cX7_advance 10 = .ok (.invokevirtual 71, 3) := by decide +kernel
theorem dX7_advance_13 : decode cX7_advance 13 = .ok (.putfield 25, 3) := by decide +kernel
theorem dX7_advance_16 : decode cX7_advance 16 = .ok (.aload_n 0, 1) := by decide +kernel
theorem dX7_advance_17 : decode cX7_advance 17 = .ok (.aload_n 0, 1) := by decide +kernel
theorem dX7_advance_18 : decode cX7_advance 18 = .ok (.getfield 25, 3) := by decide +kernel
theorem dX7_advance_21 : decode cX7_advance 21 = .ok (.putfield 28, 3) := by decide +kernel
theorem dX7_advance_24 : decode cX7_advance 24 = .ok (.aload_n 0, 1) := by decide +kernel
theorem dX7_advance_25 : decode cX7_advance 25 = .ok (.getfield 25, 3) := by decide +kernel
theorem dX7_advance_28 : decode cX7_advance 28 = .ok (.aload_n 0, 1) := by decide +kernel
theorem dX7_advance_29 : decode cX7_advance 29 = .ok (.getfield 18, 3) := by decide +kernel
theorem dX7_advance_32 : decode cX7_advance 32 = .ok (.if_icmp .lt 11, 3) := by decide +kernel
theorem dX7_advance_35 : decode cX7_advance 35 = .ok (.aload_n 0, 1) := by decide +kernel
theorem dX7_advance_36 : decode cX7_advance 36 = .ok (.sipush 258, 3) := by decide +kernel
theorem dX7_advance_39 : decode cX7_advance 39 = .ok (.putfield 31, 3) := by decide +kernel
theorem dX7_advance_42 : decode cX7_advance 42 = .ok (.return_, 1) := by decide +kernel
theorem dX7_advance_43 : decode cX7_advance 43 = .ok (.aload_n 0, 1) := by decide +kernel
theorem dX7_advance_44 : decode cX7_advance 44 = .ok (.getfield 9, 3) := by decide +kernel
theorem dX7_advance_47 : decode cX7_advance 47 = .ok (.aload_n 0, 1) := by decide +kernel
theorem dX7_advance_48 : decode cX7_advance 48 = .ok (.getfield 25, 3) := by decide +kernel
theorem dX7_advance_51 : decode cX7_advance 51 = .ok (.iaload, 1) := by decide +kernel
theorem dX7_advance_52 : decode cX7_advance 52 = .ok (.istore_n 1, 1) := by decide +kernel
theorem dX7_advance_53 : decode cX7_advance 53 = .ok (.iload_n 1, 1) := by decide +kernel
theorem dX7_advance_54 : decode cX7_advance 54 = .ok (.bipush 97, 2) := by decide +kernel
theorem dX7_advance_56 : decode cX7_advance 56 = .ok (.bipush 122, 2) := by decide +kernel
theorem dX7_advance_58 : decode cX7_advance 58 = .ok (.invokestatic 75, 3) := by decide +kernel
theorem dX7_advance_61 : decode cX7_advance 61 = .ok (.ifCond .eq 10, 3) := by decide +kernel
theorem dX7_advance_64 : decode cX7_advance 64 = .ok (.aload_n 0, 1) := by decide +kernel
theorem dX7_advance_65 : decode cX7_advance 65 = .ok (.invokevirtual 79, 3) := by decide +kernel
theorem dX7_advance_68 : decode cX7_advance 68 = .ok (.goto 52, 3) := by decide +kernel
theorem dX7_advance_71 : decode cX7_advance 71 = .ok (.iload_n 1, 1) := by decide +kernel
theorem dX7_advance_72 : decode cX7_advance 72 = .ok (.bipush 48, 2) := by decide +kernel
theorem dX7_advance_74 : decode cX7_advance 74 = .ok (.bipush 57, 2) := by decide +kernel
theorem dX7_advance_76 : decode cX7_advance 76 = .ok (.invokestatic 75, 3) := by decide +kernel
theorem dX7_advance_79 : decode cX7_advance 79 = .ok (.ifCond .eq 10, 3) := by decide +kernel
theorem dX7_advance_82 : decode cX7_advance 82 = .ok (.aload_n 0, 1) := by decide +kernel
theorem dX7_advance_83 : decode cX7_advance 83 = .ok (.invokevirtual 82, 3) := by decide +kernel
theorem dX7_advance_86 : decode cX7_advance 86 = .ok (.goto 34, 3) := by decide +kernel
theorem dX7_advance_89 : decode cX7_advance 89 = .ok (.aload_n 0, 1) := by decide +kernel
theorem dX7_advance_90 : decode cX7_advance 90 = .ok (.ldc 85, 2) := by decide +kernel
theorem dX7_advance_92 : decode cX7_advance 92 = .ok (.iload_n 1, 1) := by decide +kernel
theorem dX7_advance_93 : decode cX7_advance 93 = .ok (.i2c, 1) := by decide +kernel
theorem dX7_advance_94 : decode cX7_advance 94 = .ok (.invokevirtual 87, 3) := by decide +kernel
theorem dX7_advance_97 : decode cX7_advance 97 = .ok (.ifCond .lt 7, 3) := by decide +kernel
theorem dX7_advance_100 : decode cX7_advance 100 = .ok (.iload_n 1, 1) := by decide +kernel
theorem dX7_advance_101 : decode cX7_advance 101 = .ok (.goto 6, 3) := by decide +kernel
theorem dX7_advance_104 : decode cX7_advance 104 = .ok (.sipush 259, 3) := by decide +kernel
theorem dX7_advance_107 : decode cX7_advance 107 = .ok (.putfield 31, 3) := by decide +kernel
theorem dX7_advance_110 : decode cX7_advance 110 = .ok (.aload_n 0, 1) := by decide +kernel
theorem dX7_advance_111 : decode cX7_advance 111 = .ok (.dup, 1) := by decide +kernel
theorem dX7_advance_112 : decode cX7_advance 112 = .ok (.getfield 25, 3) := by decide +kernel
theorem dX7_advance_115 : decode cX7_advance 115 = .ok (.iconst 1, 1) := by decide +kernel
theorem dX7_advance_116 : decode cX7_advance 116 = .ok (.iadd, 1) := by decide +kernel
theorem dX7_advance_117 : decode cX7_advance 117 = .ok (.putfield 25, 3) := by decide +kernel
theorem dX7_advance_120 : decode cX7_advance 120 = .ok (.return_, 1) := by decide +kernel
theorem dX7_behindAll_0 : decode cX7_behindAll 0 = .ok (.iload_n 1, 1) := by decide +kernel
theorem dX7_behindAll_1 : decode cX7_behindAll 1 = .ok (.istore 4, 2) := by decide +kernel
theorem dX7_behindAll_3 : decode cX7_behindAll 3 = .ok (.iload 4, 2) := by decide +kernel
theorem dX7_behindAll_5 : decode cX7_behindAll 5 = .ok (.aload_n 0, 1) := by decide +kernel
theorem dX7_behindAll_6 : decode cX7_behindAll 6 = .ok (.getfield 18, 3) := by decide +kernel
theorem dX7_behindAll_9 : decode cX7_behindAll 9 = .ok (.if_icmp .ge 24, 3) := by decide +kernel
theorem dX7_behindAll_12 : decode cX7_behindAll 12 = .ok (.aload_n 0, 1) := by decide +kernel
theorem dX7_behindAll_13 : decode cX7_behindAll 13 = .ok (.getfield 9, 3) := by decide +kernel
theorem dX7_behindAll_16 : decode cX7_behindAll 16 = .ok (.iload 4, 2) := by decide +kernel
theorem dX7_behindAll_18 : decode cX7_behindAll 18 = .ok (.iaload, 1) := by decide +kernel
theorem dX7_behindAll_19 : decode cX7_behindAll 19 = .ok (.iload_n 2, 1) := by decide +kernel
theorem dX7_behindAll_20 : decode cX7_behindAll 20 = .ok (.iload_n 3, 1) := by decide +kernel
theorem dX7_behindAll_21 : decode cX7_behindAll 21 = .ok (.invokestatic 75, 3) := by decide +kernel
theorem dX7_behindAll_24 : decode cX7_behindAll 24 = .ok (.ifCond .eq 9, 3) := by decide +kernel
theorem dX7_behindAll_27 : decode cX7_behindAll 27 = .ok (.iinc 4 1, 3) := by decide +kernel
theorem dX7_behindAll_30 : decode cX7_behindAll 30 = .ok (.goto (-27), 3) := by decide +kernel
theorem dX7_behindAll_33 : decode cX7_behindAll 33 = .ok (.iload 4, 2) := by decide +kernel
theorem dX7_behindAll_35 : decode cX7_behindAll 35 = .ok (.ireturn, 1) := by decide +kernel
theorem dX7_takeNumber_0 : decode cX7_takeNumber 0 = .ok (.aload_n 0, 1) := by decide +kernel
theorem dX7_takeNumber_1 : decode cX7_takeNumber 1 = .ok (.aload_n 0, 1) := by decide +kernel
theorem dX7_takeNumber_2 : decode cX7_takeNumber 2 = .ok (.aload_n 0, 1) := by decide +kernel
theorem dX7_takeNumber_3 : decode cX7_takeNumber 3 = .ok (.getfield 28, 3) := by decide +kernel
theorem dX7_takeNumber_6 : decode cX7_takeNumber 6 = .ok (.bipush 48, 2) := by decide +kernel
theorem dX7_takeNumber_8 : decode cX7_takeNumber 8 = .ok (.bipush 57, 2) := by decide +kernel
theorem dX7_takeNumber_10 : decode cX7_takeNumber 10 = .ok (.invokevirtual 71, 3) := by decide +kernel
theorem dX7_takeNumber_13 : decode cX7_takeNumber 13 = .ok (.putfield 25, 3) := by decide +kernel
theorem dX7_takeNumber_16 : decode cX7_takeNumber 16 = .ok (.aload_n 0, 1) := by decide +kernel
theorem dX7_takeNumber_17 : decode cX7_takeNumber 17 = .ok (.aload_n 0, 1) := by decide +kernel
theorem dX7_takeNumber_18 : decode cX7_takeNumber 18 = .ok (.getfield 25, 3) := by decide +kernel
theorem dX7_takeNumber_21 : decode cX7_takeNumber 21 = .ok (.aload_n 0, 1) := by decide +kernel
theorem dX7_takeNumber_22 : decode cX7_takeNumber 22 = .ok (.getfield 28, 3) := by decide +kernel
theorem dX7_takeNumber_25 : decode cX7_takeNumber 25 = .ok (.isub, 1) := by decide +kernel
theorem dX7_takeNumber_26 : decode cX7_takeNumber 26 = .ok (.iconst 4, 1) := by decide +kernel
theorem dX7_takeNumber_27 : decode cX7_takeNumber 27 = .ok (.if_icmp .le 9, 3) := by decide +kernel
theorem dX7_takeNumber_30 : decode cX7_takeNumber 30 = .ok (.sipush 259, 3) := by decide +kernel
theorem dX7_takeNumber_33 : decode cX7_takeNumber 33 = .ok (.goto 6, 3) := by decide +kernel
theorem dX7_takeNumber_36 : decode cX7_takeNumber 36 = .ok (.sipush 256, 3) := by decide +kernel
theorem dX7_takeNumber_39 : decode cX7_takeNumber 39 = .ok (.putfield 31, 3) := by decide +kernel
theorem dX7_takeNumber_42 : decode cX7_takeNumber 42 = .ok (.aload_n 0, 1) := by decide +kernel
theorem dX7_takeNumber_43 : decode cX7_takeNumber 43 = .ok (.iconst 0, 1) := by decide +kernel
theorem dX7_takeNumber_44 : decode cX7_takeNumber 44 = .ok (.putfield 34, 3) := by decide +kernel
theorem dX7_takeNumber_47 : decode cX7_takeNumber 47 = .ok (.aload_n 0, 1) := by decide +kernel
theorem dX7_takeNumber_48 : decode cX7_takeNumber 48 = .ok (.getfield 28, 3) := by decide +kernel
theorem dX7_takeNumber_51 : decode cX7_takeNumber 51 = .ok (.istore_n 1, 1) := by decide +kernel
theorem dX7_takeNumber_52 : decode cX7_takeNumber 52 = .ok (.iload_n 1, 1) := by decide +kernel
theorem dX7_takeNumber_53 : decode cX7_takeNumber 53 = .ok (.aload_n 0, 1) := by decide +kernel
theorem dX7_takeNumber_54 : decode cX7_takeNumber 54 = .ok (.getfield 25, 3) := by decide +kernel
theorem dX7_takeNumber_57 : decode cX7_takeNumber 57 = .ok (.if_icmp .ge 30, 3) := by decide +kernel
theorem dX7_takeNumber_60 : decode cX7_takeNumber 60 = .ok (.aload_n 0, 1) := by decide +kernel
theorem dX7_takeNumber_61 : decode cX7_takeNumber 61 = .ok (.aload_n 0, 1) := by decide +kernel
theorem dX7_takeNumber_62 : decode cX7_takeNumber 62 = .ok (.getfield 34, 3) := by decide +kernel
theorem dX7_takeNumber_65 : decode cX7_takeNumber 65 = .ok (.bipush 10, 2) := by decide +kernel
theorem dX7_takeNumber_67 : decode cX7_takeNumber 67 = .ok (.imul, 1) := by decide +kernel
theorem dX7_takeNumber_68 : decode cX7_takeNumber 68 = .ok (.aload_n 0, 1) := by decide +kernel
theorem dX7_takeNumber_69 : decode cX7_takeNumber 69 = .ok (.getfield 9, 3) := by decide +kernel
theorem dX7_takeNumber_72 : decode cX7_takeNumber 72 = .ok (.iload_n 1, 1) := by decide +kernel
theorem dX7_takeNumber_73 : decode cX7_takeNumber 73 = .ok (.iaload, 1) := by decide +kernel
theorem dX7_takeNumber_74 : decode cX7_takeNumber 74 = .ok (.iadd, 1) := by decide +kernel
theorem dX7_takeNumber_75 : decode cX7_takeNumber 75 = .ok (.bipush 48, 2) := by decide +kernel
theorem dX7_takeNumber_77 : decode cX7_takeNumber 77 = .ok (.isub, 1) := by decide +kernel
theorem dX7_takeNumber_78 : decode cX7_takeNumber 78 = .ok (.putfield 34, 3) := by decide +kernel
theorem dX7_takeNumber_81 : decode cX7_takeNumber 81 = .ok (.iinc 1 1, 3) := by decide +kernel
theorem dX7_takeNumber_84 : decode cX7_takeNumber 84 = .ok (.goto (-32), 3) := by decide +kernel
theorem dX7_takeNumber_87 : decode cX7_takeNumber 87 = .ok (.return_, 1) := by decide +kernel
theorem dX7_takeWord_0 : decode cX7_takeWord 0 = .ok (.aload_n 0, 1) := by decide +kernel
theorem dX7_takeWord_1 : decode cX7_takeWord 1 = .ok (.aload_n 0, 1) := by decide +kernel
theorem dX7_takeWord_2 : decode cX7_takeWord 2 = .ok (.aload_n 0, 1) := by decide +kernel
theorem dX7_takeWord_3 : decode cX7_takeWord 3 = .ok (.getfield 28, 3) := by decide +kernel
theorem dX7_takeWord_6 : decode cX7_takeWord 6 = .ok (.bipush 97, 2) := by decide +kernel
theorem dX7_takeWord_8 : decode cX7_takeWord 8 = .ok (.bipush 122, 2) := by decide +kernel
theorem dX7_takeWord_10 : decode cX7_takeWord 10 = .ok (.invokevirtual 71, 3) := by decide +kernel
theorem dX7_takeWord_13 : decode cX7_takeWord 13 = .ok (.putfield 25, 3) := by decide +kernel
theorem dX7_takeWord_16 : decode cX7_takeWord 16 = .ok (.aload_n 0, 1) := by decide +kernel
theorem dX7_takeWord_17 : decode cX7_takeWord 17 = .ok (.sipush 257, 3) := by decide +kernel
theorem dX7_takeWord_20 : decode cX7_takeWord 20 = .ok (.putfield 31, 3) := by decide +kernel
theorem dX7_takeWord_23 : decode cX7_takeWord 23 = .ok (.aload_n 0, 1) := by decide +kernel
theorem dX7_takeWord_24 : decode cX7_takeWord 24 = .ok (.ldc 93, 2) := by decide +kernel
theorem dX7_takeWord_26 : decode cX7_takeWord 26 = .ok (.invokevirtual 95, 3) := by decide +kernel
theorem dX7_takeWord_29 : decode cX7_takeWord 29 = .ok (.ifCond .eq 11, 3) := by decide +kernel
theorem dX7_takeWord_32 : decode cX7_takeWord 32 = .ok (.aload_n 0, 1) := by decide +kernel
theorem dX7_takeWord_33 : decode cX7_takeWord 33 = .ok (.iconst 0, 1) := by decide +kernel
theorem dX7_takeWord_34 : decode cX7_takeWord 34 = .ok (.putfield 34, 3) := by decide +kernel
theorem dX7_takeWord_37 : decode cX7_takeWord 37 = .ok (.goto 61, 3) := by decide +kernel
theorem dX7_takeWord_40 : decode cX7_takeWord 40 = .ok (.aload_n 0, 1) := by decide +kernel
theorem dX7_takeWord_41 : decode cX7_takeWord 41 = .ok (.ldc 99, 2) := by decide +kernel
theorem dX7_takeWord_43 : decode cX7_takeWord 43 = .ok (.invokevirtual 95, 3) := by decide +kernel
theorem dX7_takeWord_46 : decode cX7_takeWord 46 = .ok (.ifCond .eq 11, 3) := by decide +kernel
theorem dX7_takeWord_49 : decode cX7_takeWord 49 = .ok (.aload_n 0, 1) := by decide +kernel
theorem dX7_takeWord_50 : decode cX7_takeWord 50 = .ok (.iconst 1, 1) := by decide +kernel
theorem dX7_takeWord_51 : decode cX7_takeWord 51 = .ok (.putfield 34, 3) := by decide +kernel
theorem dX7_takeWord_54 : decode cX7_takeWord 54 = .ok (.goto 44, 3) := by decide +kernel
theorem dX7_takeWord_57 : decode cX7_takeWord 57 = .ok (.aload_n 0, 1) := by decide +kernel
theorem dX7_takeWord_58 : decode cX7_takeWord 58 = .ok (.ldc 101, 2) := by decide +kernel
theorem dX7_takeWord_60 : decode cX7_takeWord 60 = .ok (.invokevirtual 95, 3) := by decide +kernel
theorem dX7_takeWord_63 : decode cX7_takeWord 63 = .ok (.ifCond .eq 11, 3) := by decide +kernel
theorem dX7_takeWord_66 : decode cX7_takeWord 66 = .ok (.aload_n 0, 1) := by decide +kernel
theorem dX7_takeWord_67 : decode cX7_takeWord 67 = .ok (.iconst 2, 1) := by decide +kernel
theorem dX7_takeWord_68 : decode cX7_takeWord 68 = .ok (.putfield 34, 3) := by decide +kernel
theorem dX7_takeWord_71 : decode cX7_takeWord 71 = .ok (.goto 27, 3) := by decide +kernel
theorem dX7_takeWord_74 : decode cX7_takeWord 74 = .ok (.aload_n 0, 1) := by decide +kernel
theorem dX7_takeWord_75 : decode cX7_takeWord 75 = .ok (.ldc 103, 2) := by decide +kernel
theorem dX7_takeWord_77 : decode cX7_takeWord 77 = .ok (.invokevirtual 95, 3) := by decide +kernel
theorem dX7_takeWord_80 : decode cX7_takeWord 80 = .ok (.ifCond .eq 11, 3) := by decide +kernel
theorem dX7_takeWord_83 : decode cX7_takeWord 83 = .ok (.aload_n 0, 1) := by decide +kernel
theorem dX7_takeWord_84 : decode cX7_takeWord 84 = .ok (.iconst 3, 1) := by decide +kernel
theorem dX7_takeWord_85 : decode cX7_takeWord 85 = .ok (.putfield 34, 3) := by decide +kernel
theorem dX7_takeWord_88 : decode cX7_takeWord 88 = .ok (.goto 10, 3) := by decide +kernel
theorem dX7_takeWord_91 : decode cX7_takeWord 91 = .ok (.aload_n 0, 1) := by decide +kernel
theorem dX7_takeWord_92 : decode cX7_takeWord 92 = .ok (.sipush 259, 3) := by decide +kernel
theorem dX7_takeWord_95 : decode cX7_takeWord 95 = .ok (.putfield 31, 3) := by decide +kernel
theorem dX7_takeWord_98 : decode cX7_takeWord 98 = .ok (.return_, 1) := by decide +kernel
theorem dX7_isWord_0 : decode cX7_isWord 0 = .ok (.aload_n 1, 1) := by decide +kernel
theorem dX7_isWord_1 : decode cX7_isWord 1 = .ok (.invokevirtual 105, 3) := by decide +kernel
theorem dX7_isWord_4 : decode cX7_isWord 4 = .ok (.istore_n 2, 1) := by decide +kernel
theorem dX7_isWord_5 : decode cX7_isWord 5 = .ok (.aload_n 0, 1) := by decide +kernel
theorem dX7_isWord_6 : decode cX7_isWord 6 = .ok (.getfield 25, 3) := by decide +kernel
theorem dX7_isWord_9 : decode cX7_isWord 9 = .ok (.aload_n 0, 1) := by decide +kernel
theorem dX7_isWord_10 : decode cX7_isWord 10 = .ok (.getfield 28, 3) := by decide +kernel
theorem dX7_isWord_13 : decode cX7_isWord 13 = .ok (.isub, 1) := by decide +kernel
theorem dX7_isWord_14 : decode cX7_isWord 14 = .ok (.iload_n 2, 1) := by decide +kernel
theorem dX7_isWord_15 : decode cX7_isWord 15 = .ok (.if_icmp .eq 5, 3) := by decide +kernel
theorem dX7_isWord_18 : decode cX7_isWord 18 = .ok (.iconst 0, 1) := by decide +kernel
theorem dX7_isWord_19 : decode cX7_isWord 19 = .ok (.ireturn, 1) := by decide +kernel
theorem dX7_isWord_20 : decode cX7_isWord 20 = .ok (.iconst 0, 1) := by decide +kernel
theorem dX7_isWord_21 : decode cX7_isWord 21 = .ok (.istore_n 3, 1) := by decide +kernel
theorem dX7_isWord_22 : decode cX7_isWord 22 = .ok (.iload_n 3, 1) := by decide +kernel
theorem dX7_isWord_23 : decode cX7_isWord 23 = .ok (.iload_n 2, 1) := by decide +kernel
theorem dX7_isWord_24 : decode cX7_isWord 24 = .ok (.if_icmp .ge 30, 3) := by decide +kernel
theorem dX7_isWord_27 : decode cX7_isWord 27 = .ok (.aload_n 0, 1) := by decide +kernel
theorem dX7_isWord_28 : decode cX7_isWord 28 = .ok (.getfield 9, 3) := by decide +kernel
theorem dX7_isWord_31 : decode cX7_isWord 31 = .ok (.aload_n 0, 1) := by decide +kernel
theorem dX7_isWord_32 : decode cX7_isWord 32 = .ok (.getfield 28, 3) := by decide +kernel
theorem dX7_isWord_35 : decode cX7_isWord 35 = .ok (.iload_n 3, 1) := by decide +kernel
theorem dX7_isWord_36 : decode cX7_isWord 36 = .ok (.iadd, 1) := by decide +kernel
theorem dX7_isWord_37 : decode cX7_isWord 37 = .ok (.iaload, 1) := by decide +kernel
theorem dX7_isWord_38 : decode cX7_isWord 38 = .ok (.aload_n 1, 1) := by decide +kernel
theorem dX7_isWord_39 : decode cX7_isWord 39 = .ok (.iload_n 3, 1) := by decide +kernel
theorem dX7_isWord_40 : decode cX7_isWord 40 = .ok (.invokevirtual 108, 3) := by decide +kernel
theorem dX7_isWord_43 : decode cX7_isWord 43 = .ok (.if_icmp .eq 5, 3) := by decide +kernel
theorem dX7_isWord_46 : decode cX7_isWord 46 = .ok (.iconst 0, 1) := by decide +kernel
theorem dX7_isWord_47 : decode cX7_isWord 47 = .ok (.ireturn, 1) := by decide +kernel
theorem dX7_isWord_48 : decode cX7_isWord 48 = .ok (.iinc 3 1, 3) := by decide +kernel
theorem dX7_isWord_51 : decode cX7_isWord 51 = .ok (.goto (-29), 3) := by decide +kernel
theorem dX7_isWord_54 : decode cX7_isWord 54 = .ok (.iconst 1, 1) := by decide +kernel
theorem dX7_isWord_55 : decode cX7_isWord 55 = .ok (.ireturn, 1) := by decide +kernel
theorem dX8_init_0 : decode cX8_init 0 = .ok (.aload_n 0, 1) := by decide +kernel
theorem dX8_init_1 : decode cX8_init 1 = .ok (.invokespecial 3, 3) := by decide +kernel
theorem dX8_init_4 : decode cX8_init 4 = .ok (.aload_n 0, 1) := by decide +kernel
theorem dX8_init_5 : decode cX8_init 5 = .ok (.bipush 6, 2) := by decide +kernel
theorem dX8_init_7 : decode cX8_init 7 = .ok (.bipush 100, 2) := by decide +kernel
theorem dX8_init_9 : decode cX8_init 9 = .ok (.multianewarray 11 2, 4) := by decide +kernel
theorem dX8_init_13 : decode cX8_init 13 = .ok (.putfield 13, 3) := by decide +kernel
theorem dX8_init_16 : decode cX8_init 16 = .ok (.aload_n 0, 1) := by decide +kernel
theorem dX8_init_17 : decode cX8_init 17 = .ok (.bipush 6, 2) := by decide +kernel
theorem dX8_init_19 : decode cX8_init 19 = .ok (.newarray .int, 2) := by decide +kernel
theorem dX8_init_21 : decode cX8_init 21 = .ok (.putfield 16, 3) := by decide +kernel
theorem dX8_init_24 : decode cX8_init 24 = .ok (.aload_n 0, 1) := by decide +kernel
theorem dX8_init_25 : decode cX8_init 25 = .ok (.iconst 4, 1) := by decide +kernel
theorem dX8_init_26 : decode cX8_init 26 = .ok (.newarray .int, 2) := by decide +kernel
theorem dX8_init_28 : decode cX8_init 28 = .ok (.putfield 20, 3) := by decide +kernel
theorem dX8_init_31 : decode cX8_init 31 = .ok (.aload_n 0, 1) := by decide +kernel
theorem dX8_init_32 : decode cX8_init 32 = .ok (.bipush 100, 2) := by decide +kernel
theorem dX8_init_34 : decode cX8_init 34 = .ok (.newarray .int, 2) := by decide +kernel
theorem dX8_init_36 : decode cX8_init 36 = .ok (.putfield 23, 3) := by decide +kernel
theorem dX8_init_39 : decode cX8_init 39 = .ok (.return_, 1) := by decide +kernel
theorem dX8_put_0 : decode cX8_put 0 = .ok (.aload_n 2, 1) := by decide +kernel
theorem dX8_put_1 : decode cX8_put 1 = .ok (.iconst 0, 1) := by decide +kernel
theorem dX8_put_2 : decode cX8_put 2 = .ok (.aload_n 0, 1) := by decide +kernel
theorem dX8_put_3 : decode cX8_put 3 = .ok (.getfield 13, 3) := by decide +kernel
theorem dX8_put_6 : decode cX8_put 6 = .ok (.iload_n 1, 1) := by decide +kernel
theorem dX8_put_7 : decode cX8_put 7 = .ok (.aaload, 1) := by decide +kernel
theorem dX8_put_8 : decode cX8_put 8 = .ok (.iconst 0, 1) := by decide +kernel
theorem dX8_put_9 : decode cX8_put 9 = .ok (.iload_n 3, 1) := by decide +kernel
theorem dX8_put_10 : decode cX8_put 10 = .ok (.invokestatic 26, 3) := by decide +kernel
theorem dX8_put_13 : decode cX8_put 13 = .ok (.aload_n 0, 1) := by decide +kernel
theorem dX8_put_14 : decode cX8_put 14 = .ok (.getfield 16, 3) := by decide +kernel
theorem dX8_put_17 : decode cX8_put 17 = .ok (.iload_n 1, 1) := by decide +kernel
theorem dX8_put_18 : decode cX8_put 18 = .ok (.iload_n 3, 1) := by decide +kernel
theorem dX8_put_19 : decode cX8_put 19 = .ok (.iastore, 1) := by decide +kernel
theorem dX8_put_20 : decode cX8_put 20 = .ok (.return_, 1) := by decide +kernel
theorem dX8_value_0 : decode cX8_value 0 = .ok (.aload_n 0, 1) := by decide +kernel
theorem dX8_value_1 : decode cX8_value 1 = .ok (.getfield 20, 3) := by decide +kernel
theorem dX8_value_4 : decode cX8_value 4 = .ok (.iconst 0, 1) := by decide +kernel
theorem dX8_value_5 : decode cX8_value 5 = .ok (.iload_n 2, 1) := by decide +kernel
theorem dX8_value_6 : decode cX8_value 6 = .ok (.iastore, 1) := by decide +kernel
theorem dX8_value_7 : decode cX8_value 7 = .ok (.aload_n 0, 1) := by decide +kernel
theorem dX8_value_8 : decode cX8_value 8 = .ok (.getfield 20, 3) := by decide +kernel
theorem dX8_value_11 : decode cX8_value 11 = .ok (.iconst 1, 1) := by decide +kernel
theorem dX8_value_12 : decode cX8_value 12 = .ok (.iload_n 3, 1) := by decide +kernel
theorem dX8_value_13 : decode cX8_value 13 = .ok (.iastore, 1) := by decide +kernel
theorem dX8_value_14 : decode cX8_value 14 = .ok (.aload_n 0, 1) := by decide +kernel
theorem dX8_value_15 : decode cX8_value 15 = .ok (.getfield 20, 3) := by decide +kernel
theorem dX8_value_18 : decode cX8_value 18 = .ok (.iconst 2, 1) := by decide +kernel
theorem dX8_value_19 : decode cX8_value 19 = .ok (.iload 4, 2) := by decide +kernel
theorem dX8_value_21 : decode cX8_value 21 = .ok (.iastore, 1) := by decide +kernel
theorem dX8_value_22 : decode cX8_value 22 = .ok (.aload_n 0, 1) := by decide +kernel
theorem dX8_value_23 : decode cX8_value 23 = .ok (.getfield 20, 3) := by decide +kernel
theorem dX8_value_26 : decode cX8_value 26 = .ok (.iconst 3, 1) := by decide +kernel
theorem dX8_value_27 : decode cX8_value 27 = .ok (.iload 5, 2) := by decide +kernel
theorem dX8_value_29 : decode cX8_value 29 = .ok (.iastore, 1) := by decide +kernel
theorem dX8_value_30 : decode cX8_value 30 = .ok (.iconst 0, 1) := by decide +kernel
theorem dX8_value_31 : decode cX8_value 31 = .ok (.istore 6, 2) := by decide +kernel
theorem dX8_value_33 : decode cX8_value 33 = .ok (.iconst 0, 1) := by decide +kernel
theorem dX8_value_34 : decode cX8_value 34 = .ok (.istore 7, 2) := by decide +kernel
theorem dX8_value_36 : decode cX8_value 36 = .ok (.iload 7, 2) := by decide +kernel
theorem dX8_value_38 : decode cX8_value 38 = .ok (.aload_n 0, 1) := by decide +kernel
theorem dX8_value_39 : decode cX8_value 39 = .ok (.getfield 16, 3) := by decide +kernel
theorem dX8_value_42 : decode cX8_value 42 = .ok (.iload_n 1, 1) := by decide +kernel
theorem dX8_value_43 : decode cX8_value 43 = .ok (.iaload, 1) := by decide +kernel
theorem dX8_value_44 : decode cX8_value 44 = .ok (.if_icmp .ge 26, 3) := by decide +kernel
theorem dX8_value_47 : decode cX8_value 47 = .ok (.aload_n 0, 1) := by decide +kernel
theorem dX8_value_48 : decode cX8_value 48 = .ok (.aload_n 0, 1) := by decide +kernel
theorem dX8_value_49 : decode cX8_value 49 = .ok (.getfield 13, 3) := by decide +kernel
theorem dX8_value_52 : decode cX8_value 52 = .ok (.iload_n 1, 1) := by decide +kernel
theorem dX8_value_53 : decode cX8_value 53 = .ok (.aaload, 1) := by decide +kernel
theorem dX8_value_54 : decode cX8_value 54 = .ok (.iload 7, 2) := by decide +kernel
theorem dX8_value_56 : decode cX8_value 56 = .ok (.iaload, 1) := by decide +kernel
theorem dX8_value_57 : decode cX8_value 57 = .ok (.iload 6, 2) := by decide +kernel
theorem dX8_value_59 : decode cX8_value 59 = .ok (.invokevirtual 32, 3) := by decide +kernel
theorem dX8_value_62 : decode cX8_value 62 = .ok (.istore 6, 2) := by decide +kernel
theorem dX8_value_64 : decode cX8_value 64 = .ok (.iinc 7 1, 3) := by decide +kernel
theorem dX8_value_67 : decode cX8_value 67 = .ok (.goto (-31), 3) := by decide +kernel
theorem dX8_value_70 : decode cX8_value 70 = .ok (.aload_n 0, 1) := by decide +kernel
theorem dX8_value_71 : decode cX8_value 71 = .ok (.getfield 23, 3) := by decide +kernel
theorem dX8_value_74 : decode cX8_value 74 = .ok (.iconst 0, 1) := by decide +kernel
theorem dX8_value_75 : decode cX8_value 75 = .ok (.iaload, 1) := by decide +kernel
theorem dX8_value_76 : decode cX8_value 76 = .ok (.ireturn, 1) := by decide +kernel
theorem dX8_step_0 : decode cX8_step 0 = .ok (.iload_n 1, 1) := by decide +kernel
theorem dX8_step_1 : decode cX8_step 1 = .ok (.bipush (-100), 2) := by decide +kernel
theorem dX8_step_3 : decode cX8_step 3 = .ok (.if_icmp .le 10, 3) := by decide +kernel
theorem dX8_step_6 : decode cX8_step 6 = .ok (.aload_n 0, 1) := by decide +kernel
theorem dX8_step_7 : decode cX8_step 7 = .ok (.iload_n 1, 1) := by decide +kernel
theorem dX8_step_8 : decode cX8_step 8 = .ok (.iload_n 2, 1) := by decide +kernel
theorem dX8_step_9 : decode cX8_step 9 = .ok (.invokevirtual 36, 3) := by decide +kernel
theorem dX8_step_12 : decode cX8_step 12 = .ok (.ireturn, 1) := by decide +kernel
theorem dX8_step_13 : decode cX8_step 13 = .ok (.bipush (-100), 2) := by decide +kernel
theorem dX8_step_15 : decode cX8_step 15 = .ok (.iload_n 1, 1) := by decide +kernel
theorem dX8_step_16 : decode cX8_step 16 = .ok (.isub, 1) := by decide +kernel
theorem dX8_step_17 : decode cX8_step 17 = .ok (.istore_n 3, 1) := by decide +kernel
theorem dX8_step_18 : decode cX8_step 18 = .ok (.iload_n 3, 1) := by decide +kernel
theorem dX8_step_19 : decode cX8_step 19 = .ok (.bipush 33, 2) := by decide +kernel
theorem dX8_step_21 : decode cX8_step 21 = .ok (.if_icmp .ne 9, 3) := by decide +kernel
theorem dX8_step_24 : decode cX8_step 24 = .ok (.iload_n 2, 1) := by decide +kernel
theorem dX8_step_25 : decode cX8_step 25 = .ok (.iconst 1, 1) := by decide +kernel
theorem dX8_step_26 : decode cX8_step 26 = .ok (.isub, 1) := by decide +kernel
theorem dX8_step_27 : decode cX8_step 27 = .ok (.goto 6, 3) := by decide +kernel
theorem dX8_step_30 : decode cX8_step 30 = .ok (.iload_n 2, 1) := by decide +kernel
theorem dX8_step_31 : decode cX8_step 31 = .ok (.iconst 2, 1) := by decide +kernel
theorem dX8_step_32 : decode cX8_step 32 = .ok (.isub, 1) := by decide +kernel
theorem dX8_step_33 : decode cX8_step 33 = .ok (.istore 4, 2) := by decide +kernel
theorem dX8_step_35 : decode cX8_step 35 = .ok (.iload 4, 2) := by decide +kernel
theorem dX8_step_37 : decode cX8_step 37 = .ok (.ifCond .ge 5, 3) := by decide +kernel
theorem dX8_step_40 : decode cX8_step 40 = .ok (.iload_n 2, 1) := by decide +kernel
theorem dX8_step_41 : decode cX8_step 41 = .ok (.ireturn, 1) := by decide +kernel
theorem dX8_step_42 : decode cX8_step 42 = .ok (.aload_n 0, 1) := by decide +kernel
theorem dX8_step_43 : decode cX8_step 43 = .ok (.getfield 23, 3) := by decide +kernel
theorem dX8_step_46 : decode cX8_step 46 = .ok (.iload 4, 2) := by decide +kernel
theorem dX8_step_48 : decode cX8_step 48 = .ok (.iload_n 3, 1) := by decide +kernel
theorem dX8_step_49 : decode cX8_step 49 = .ok (.aload_n 0, 1) := by decide +kernel
theorem dX8_step_50 : decode cX8_step 50 = .ok (.getfield 23, 3) := by decide +kernel
theorem dX8_step_53 : decode cX8_step 53 = .ok (.iload 4, 2) := by decide +kernel
theorem dX8_step_55 : decode cX8_step 55 = .ok (.iaload, 1) := by decide +kernel
theorem dX8_step_56 : decode cX8_step 56 = .ok (.aload_n 0, 1) := by decide +kernel
theorem dX8_step_57 : decode cX8_step 57 = .ok (.getfield 23, 3) := by decide +kernel
theorem dX8_step_60 : decode cX8_step 60 = .ok (.iload_n 2, 1) := by decide +kernel
theorem dX8_step_61 : decode cX8_step 61 = .ok (.iconst 1, 1) := by decide +kernel
theorem dX8_step_62 : decode cX8_step 62 = .ok (.isub, 1) := by decide +kernel
theorem dX8_step_63 : decode cX8_step 63 = .ok (.iaload, 1) := by decide +kernel
theorem dX8_step_64 : decode cX8_step 64 = .ok (.invokestatic 39, 3) := by decide +kernel
theorem dX8_step_67 : decode cX8_step 67 = .ok (.iastore, 1) := by decide +kernel
theorem dX8_step_68 : decode cX8_step 68 = .ok (.iload 4, 2) := by decide +kernel
theorem dX8_step_70 : decode cX8_step 70 = .ok (.iconst 1, 1) := by decide +kernel
theorem dX8_step_71 : decode cX8_step 71 = .ok (.iadd, 1) := by decide +kernel
theorem dX8_step_72 : decode cX8_step 72 = .ok (.ireturn, 1) := by decide +kernel
theorem dX8_push_0 : decode cX8_push 0 = .ok (.iconst (-1), 1) := by decide +kernel
theorem dX8_push_1 : decode cX8_push 1 = .ok (.iload_n 1, 1) := by decide +kernel
theorem dX8_push_2 : decode cX8_push 2 = .ok (.isub, 1) := by decide +kernel
theorem dX8_push_3 : decode cX8_push 3 = .ok (.istore_n 3, 1) := by decide +kernel
theorem dX8_push_4 : decode cX8_push 4 = .ok (.iload_n 2, 1) := by decide +kernel
theorem dX8_push_5 : decode cX8_push 5 = .ok (.bipush 100, 2) := by decide +kernel
theorem dX8_push_7 : decode cX8_push 7 = .ok (.if_icmp .ge 8, 3) := by decide +kernel
theorem dX8_push_10 : decode cX8_push 10 = .ok (.iload_n 3, 1) := by decide +kernel
theorem dX8_push_11 : decode cX8_push 11 = .ok (.iconst 4, 1) := by decide +kernel
theorem dX8_push_12 : decode cX8_push 12 = .ok (.if_icmp .lt 5, 3) := by decide +kernel
theorem dX8_push_15 : decode cX8_push 15 = .ok (.iload_n 2, 1) := by decide +kernel
theorem dX8_push_16 : decode cX8_push 16 = .ok (.ireturn, 1) := by decide +kernel
theorem dX8_push_17 : decode cX8_push 17 = .ok (.aload_n 0, 1) := by decide +kernel
theorem dX8_push_18 : decode cX8_push 18 = .ok (.getfield 23, 3) := by decide +kernel
theorem dX8_push_21 : decode cX8_push 21 = .ok (.iload_n 2, 1) := by decide +kernel
theorem dX8_push_22 : decode cX8_push 22 = .ok (.iload_n 3, 1) := by decide +kernel
theorem dX8_push_23 : decode cX8_push 23 = .ok (.ifCond .ge 7, 3) := by decide +kernel
theorem dX8_push_26 : decode cX8_push 26 = .ok (.iload_n 1, 1) := by decide +kernel
theorem dX8_push_27 : decode cX8_push 27 = .ok (.goto 9, 3) := by decide +kernel
theorem dX8_push_30 : decode cX8_push 30 = .ok (.aload_n 0, 1) := by decide +kernel
theorem dX8_push_31 : decode cX8_push 31 = .ok (.getfield 20, 3) := by decide +kernel
theorem dX8_push_34 : decode cX8_push 34 = .ok (.iload_n 3, 1) := by decide +kernel
theorem dX8_push_35 : decode cX8_push 35 = .ok (.iaload, 1) := by decide +kernel
theorem dX8_push_36 : decode cX8_push 36 = .ok (.iastore, 1) := by decide +kernel
theorem dX8_push_37 : decode cX8_push 37 = .ok (.iload_n 2, 1) := by decide +kernel
theorem dX8_push_38 : decode cX8_push 38 = .ok (.iconst 1, 1) := by decide +kernel
theorem dX8_push_39 : decode cX8_push 39 = .ok (.iadd, 1) := by decide +kernel
theorem dX8_push_40 : decode cX8_push 40 = .ok (.ireturn, 1) := by decide +kernel
theorem dX8_workOut_0 : decode cX8_workOut 0 = .ok (.iload_n 0, 1) := by decide +kernel
theorem dX8_workOut_1 : decode cX8_workOut 1 = .ok (.lookupswitch 166 #[(33, 111), (38, 97), (42, 162), (43, 154), (45, 158), (60, 121), (61, 132), (62, 143), (124, 83)], 83) := by decide +kernel
theorem dX8_workOut_84 : decode cX8_workOut 84 = .ok (.iload_n 1, 1) := by decide +kernel
theorem dX8_workOut_85 : decode cX8_workOut 85 = .ok (.ifCond .ne 7, 3) := by decide +kernel
theorem dX8_workOut_88 : decode cX8_workOut 88 = .ok (.iload_n 2, 1) := by decide +kernel
theorem dX8_workOut_89 : decode cX8_workOut 89 = .ok (.ifCond .eq 7, 3) := by decide +kernel
theorem dX8_workOut_92 : decode cX8_workOut 92 = .ok (.iconst 1, 1) := by decide +kernel
theorem dX8_workOut_93 : decode cX8_workOut 93 = .ok (.goto 4, 3) := by decide +kernel
theorem dX8_workOut_96 : decode cX8_workOut 96 = .ok (.iconst 0, 1) := by decide +kernel
theorem dX8_workOut_97 : decode cX8_workOut 97 = .ok (.ireturn, 1) := by decide +kernel
theorem dX8_workOut_98 : decode cX8_workOut 98 = .ok (.iload_n 1, 1) := by decide +kernel
theorem dX8_workOut_99 : decode cX8_workOut 99 = .ok (.ifCond .eq 11, 3) := by decide +kernel
theorem dX8_workOut_102 : decode cX8_workOut 102 = .ok (.iload_n 2, 1) := by decide +kernel
theorem dX8_workOut_103 : decode cX8_workOut 103 = .ok (.ifCond .eq 7, 3) := by decide +kernel
theorem dX8_workOut_106 : decode cX8_workOut 106 = .ok (.iconst 1, 1) := by decide +kernel
theorem dX8_workOut_107 : decode cX8_workOut 107 = .ok (.goto 4, 3) := by decide +kernel
theorem dX8_workOut_110 : decode cX8_workOut 110 = .ok (.iconst 0, 1) := by decide +kernel
theorem dX8_workOut_111 : decode cX8_workOut 111 = .ok (.ireturn, 1) := by decide +kernel
theorem dX8_workOut_112 : decode cX8_workOut 112 = .ok (.iload_n 2, 1) := by decide +kernel
theorem dX8_workOut_113 : decode cX8_workOut 113 = .ok (.ifCond .ne 7, 3) := by decide +kernel
theorem dX8_workOut_116 : decode cX8_workOut 116 = .ok (.iconst 1, 1) := by decide +kernel
theorem dX8_workOut_117 : decode cX8_workOut 117 = .ok (.goto 4, 3) := by decide +kernel
theorem dX8_workOut_120 : decode cX8_workOut 120 = .ok (.iconst 0, 1) := by decide +kernel
theorem dX8_workOut_121 : decode cX8_workOut 121 = .ok (.ireturn, 1) := by decide +kernel
theorem dX8_workOut_122 : decode cX8_workOut 122 = .ok (.iload_n 1, 1) := by decide +kernel
theorem dX8_workOut_123 : decode cX8_workOut 123 = .ok (.iload_n 2, 1) := by decide +kernel
theorem dX8_workOut_124 : decode cX8_workOut 124 = .ok (.if_icmp .ge 7, 3) := by decide +kernel
theorem dX8_workOut_127 : decode cX8_workOut 127 = .ok (.iconst 1, 1) := by decide +kernel
theorem dX8_workOut_128 : decode cX8_workOut 128 = .ok (.goto 4, 3) := by decide +kernel
theorem dX8_workOut_131 : decode cX8_workOut 131 = .ok (.iconst 0, 1) := by decide +kernel
theorem dX8_workOut_132 : decode cX8_workOut 132 = .ok (.ireturn, 1) := by decide +kernel
theorem dX8_workOut_133 : decode cX8_workOut 133 = .ok (.iload_n 1, 1) := by decide +kernel
theorem dX8_workOut_134 : decode cX8_workOut 134 = .ok (.iload_n 2, 1) := by decide +kernel
theorem dX8_workOut_135 : decode cX8_workOut 135 = .ok (.if_icmp .ne 7, 3) := by decide +kernel
theorem dX8_workOut_138 : decode cX8_workOut 138 = .ok (.iconst 1, 1) := by decide +kernel
theorem dX8_workOut_139 : decode cX8_workOut 139 = .ok (.goto 4, 3) := by decide +kernel
theorem dX8_workOut_142 : decode cX8_workOut 142 = .ok (.iconst 0, 1) := by decide +kernel
theorem dX8_workOut_143 : decode cX8_workOut 143 = .ok (.ireturn, 1) := by decide +kernel
theorem dX8_workOut_144 : decode cX8_workOut 144 = .ok (.iload_n 1, 1) := by decide +kernel
theorem dX8_workOut_145 : decode cX8_workOut 145 = .ok (.iload_n 2, 1) := by decide +kernel
theorem dX8_workOut_146 : decode cX8_workOut 146 = .ok (.if_icmp .le 7, 3) := by decide +kernel
theorem dX8_workOut_149 : decode cX8_workOut 149 = .ok (.iconst 1, 1) := by decide +kernel
theorem dX8_workOut_150 : decode cX8_workOut 150 = .ok (.goto 4, 3) := by decide +kernel
theorem dX8_workOut_153 : decode cX8_workOut 153 = .ok (.iconst 0, 1) := by decide +kernel
theorem dX8_workOut_154 : decode cX8_workOut 154 = .ok (.ireturn, 1) := by decide +kernel
theorem dX8_workOut_155 : decode cX8_workOut 155 = .ok (.iload_n 1, 1) := by decide +kernel
theorem dX8_workOut_156 : decode cX8_workOut 156 = .ok (.iload_n 2, 1) := by decide +kernel
theorem dX8_workOut_157 : decode cX8_workOut 157 = .ok (.iadd, 1) := by decide +kernel
theorem dX8_workOut_158 : decode cX8_workOut 158 = .ok (.ireturn, 1) := by decide +kernel
theorem dX8_workOut_159 : decode cX8_workOut 159 = .ok (.iload_n 1, 1) := by decide +kernel
theorem dX8_workOut_160 : decode cX8_workOut 160 = .ok (.iload_n 2, 1) := by decide +kernel
theorem dX8_workOut_161 : decode cX8_workOut 161 = .ok (.isub, 1) := by decide +kernel
theorem dX8_workOut_162 : decode cX8_workOut 162 = .ok (.ireturn, 1) := by decide +kernel
theorem dX8_workOut_163 : decode cX8_workOut 163 = .ok (.iload_n 1, 1) := by decide +kernel
theorem dX8_workOut_164 : decode cX8_workOut 164 = .ok (.iload_n 2, 1) := by decide +kernel
theorem dX8_workOut_165 : decode cX8_workOut 165 = .ok (.imul, 1) := by decide +kernel
theorem dX8_workOut_166 : decode cX8_workOut 166 = .ok (.ireturn, 1) := by decide +kernel
theorem dX8_workOut_167 : decode cX8_workOut 167 = .ok (.iload_n 2, 1) := by decide +kernel
theorem dX8_workOut_168 : decode cX8_workOut 168 = .ok (.ifCond .ne 7, 3) := by decide +kernel
theorem dX8_workOut_171 : decode cX8_workOut 171 = .ok (.iconst 0, 1) := by decide +kernel
theorem dX8_workOut_172 : decode cX8_workOut 172 = .ok (.goto 6, 3) := by decide +kernel
theorem dX8_workOut_175 : decode cX8_workOut 175 = .ok (.iload_n 1, 1) := by decide +kernel
theorem dX8_workOut_176 : decode cX8_workOut 176 = .ok (.iload_n 2, 1) := by decide +kernel
theorem dX8_workOut_177 : decode cX8_workOut 177 = .ok (.idiv, 1) := by decide +kernel
theorem dX8_workOut_178 : decode cX8_workOut 178 = .ok (.ireturn, 1) := by decide +kernel
theorem dX9_init_0 : decode cX9_init 0 = .ok (.aload_n 0, 1) := by decide +kernel
theorem dX9_init_1 : decode cX9_init 1 = .ok (.invokespecial 1, 3) := by decide +kernel
theorem dX9_init_4 : decode cX9_init 4 = .ok (.aload_n 0, 1) := by decide +kernel
theorem dX9_init_5 : decode cX9_init 5 = .ok (.bipush 6, 2) := by decide +kernel
theorem dX9_init_7 : decode cX9_init 7 = .ok (.newarray .int, 2) := by decide +kernel
theorem dX9_init_9 : decode cX9_init 9 = .ok (.putfield 9, 3) := by decide +kernel
theorem dX9_init_12 : decode cX9_init 12 = .ok (.aload_n 0, 1) := by decide +kernel
theorem dX9_init_13 : decode cX9_init 13 = .ok (.bipush 6, 2) := by decide +kernel
theorem dX9_init_15 : decode cX9_init 15 = .ok (.newarray .int, 2) := by decide +kernel
theorem dX9_init_17 : decode cX9_init 17 = .ok (.putfield 13, 3) := by decide +kernel
theorem dX9_init_20 : decode cX9_init 20 = .ok (.aload_n 0, 1) := by decide +kernel
theorem dX9_init_21 : decode cX9_init 21 = .ok (.iconst 0, 1) := by decide +kernel
theorem dX9_init_22 : decode cX9_init 22 = .ok (.putfield 16, 3) := by decide +kernel
theorem dX9_init_25 : decode cX9_init 25 = .ok (.return_, 1) := by decide +kernel
theorem dX9_place_0 : decode cX9_place 0 = .ok (.iload_n 0, 1) := by decide +kernel
theorem dX9_place_1 : decode cX9_place 1 = .ok (.iconst 2, 1) := by decide +kernel
theorem dX9_place_2 : decode cX9_place 2 = .ok (.imul, 1) := by decide +kernel
theorem dX9_place_3 : decode cX9_place 3 = .ok (.iload_n 1, 1) := by decide +kernel
theorem dX9_place_4 : decode cX9_place 4 = .ok (.iadd, 1) := by decide +kernel
theorem dX9_place_5 : decode cX9_place 5 = .ok (.ireturn, 1) := by decide +kernel
theorem dX9_hasRope_0 : decode cX9_hasRope 0 = .ok (.iload_n 1, 1) := by decide +kernel
theorem dX9_hasRope_1 : decode cX9_hasRope 1 = .ok (.iconst 0, 1) := by decide +kernel
theorem dX9_hasRope_2 : decode cX9_hasRope 2 = .ok (.aload_n 0, 1) := by decide +kernel
theorem dX9_hasRope_3 : decode cX9_hasRope 3 = .ok (.getfield 16, 3) := by decide +kernel
theorem dX9_hasRope_6 : decode cX9_hasRope 6 = .ok (.iconst 1, 1) := by decide +kernel
theorem dX9_hasRope_7 : decode cX9_hasRope 7 = .ok (.isub, 1) := by decide +kernel
theorem dX9_hasRope_8 : decode cX9_hasRope 8 = .ok (.invokestatic 20, 3) := by decide +kernel
theorem dX9_hasRope_11 : decode cX9_hasRope 11 = .ok (.ifCond .eq 16, 3) := by decide +kernel
theorem dX9_hasRope_14 : decode cX9_hasRope 14 = .ok (.iload_n 2, 1) := by decide +kernel
theorem dX9_hasRope_15 : decode cX9_hasRope 15 = .ok (.iconst 0, 1) := by decide +kernel
theorem dX9_hasRope_16 : decode cX9_hasRope 16 = .ok (.iconst 1, 1) := by decide +kernel
theorem dX9_hasRope_17 : decode cX9_hasRope 17 = .ok (.invokestatic 20, 3) := by decide +kernel
theorem dX9_hasRope_20 : decode cX9_hasRope 20 = .ok (.ifCond .eq 7, 3) := by decide +kernel
theorem dX9_hasRope_23 : decode cX9_hasRope 23 = .ok (.iconst 1, 1) := by decide +kernel
theorem dX9_hasRope_24 : decode cX9_hasRope 24 = .ok (.goto 4, 3) := by decide +kernel
theorem dX9_hasRope_27 : decode cX9_hasRope 27 = .ok (.iconst 0, 1) := by decide +kernel
theorem dX9_hasRope_28 : decode cX9_hasRope 28 = .ok (.ireturn, 1) := by decide +kernel
theorem dX9_add_0 : decode cX9_add 0 = .ok (.aload_n 0, 1) := by decide +kernel
theorem dX9_add_1 : decode cX9_add 1 = .ok (.getfield 16, 3) := by decide +kernel
theorem dX9_add_4 : decode cX9_add 4 = .ok (.istore_n 1, 1) := by decide +kernel
theorem dX9_add_5 : decode cX9_add 5 = .ok (.iconst 0, 1) := by decide +kernel
theorem dX9_add_6 : decode cX9_add 6 = .ok (.istore_n 2, 1) := by decide +kernel
theorem dX9_add_7 : decode cX9_add 7 = .ok (.iload_n 2, 1) := by decide +kernel
theorem dX9_add_8 : decode cX9_add 8 = .ok (.iconst 2, 1) := by decide +kernel
theorem dX9_add_9 : decode cX9_add 9 = .ok (.if_icmp .ge 20, 3) := by decide +kernel
theorem dX9_add_12 : decode cX9_add 12 = .ok (.aload_n 0, 1) := by decide +kernel
theorem dX9_add_13 : decode cX9_add 13 = .ok (.iload_n 1, 1) := by decide +kernel
theorem dX9_add_14 : decode cX9_add 14 = .ok (.iload_n 2, 1) := by decide +kernel
theorem dX9_add_15 : decode cX9_add 15 = .ok (.invokestatic 26, 3) := by decide +kernel
theorem dX9_add_18 : decode cX9_add 18 = .ok (.iconst 0, 1) := by decide +kernel
theorem dX9_add_19 : decode cX9_add 19 = .ok (.iconst (-1), 1) := by decide +kernel
theorem dX9_add_20 : decode cX9_add 20 = .ok (.invokevirtual 30, 3) := by decide +kernel
theorem dX9_add_23 : decode cX9_add 23 = .ok (.iinc 2 1, 3) := by decide +kernel
theorem dX9_add_26 : decode cX9_add 26 = .ok (.goto (-19), 3) := by decide +kernel
theorem dX9_add_29 : decode cX9_add 29 = .ok (.aload_n 0, 1) := by decide +kernel
theorem dX9_add_30 : decode cX9_add 30 = .ok (.iload_n 1, 1) := by decide +kernel
theorem dX9_add_31 : decode cX9_add 31 = .ok (.iconst 1, 1) := by decide +kernel
theorem dX9_add_32 : decode cX9_add 32 = .ok (.iadd, 1) := by decide +kernel
theorem dX9_add_33 : decode cX9_add 33 = .ok (.putfield 16, 3) := by decide +kernel
theorem dX9_add_36 : decode cX9_add 36 = .ok (.iload_n 1, 1) := by decide +kernel
theorem dX9_add_37 : decode cX9_add 37 = .ok (.ireturn, 1) := by decide +kernel
theorem dX9_put_0 : decode cX9_put 0 = .ok (.aload_n 0, 1) := by decide +kernel
theorem dX9_put_1 : decode cX9_put 1 = .ok (.getfield 9, 3) := by decide +kernel
theorem dX9_put_4 : decode cX9_put 4 = .ok (.iload_n 1, 1) := by decide +kernel
theorem dX9_put_5 : decode cX9_put 5 = .ok (.iload_n 2, 1) := by decide +kernel
theorem dX9_put_6 : decode cX9_put 6 = .ok (.iastore, 1) := by decide +kernel
theorem dX9_put_7 : decode cX9_put 7 = .ok (.aload_n 0, 1) := by decide +kernel
theorem dX9_put_8 : decode cX9_put 8 = .ok (.getfield 13, 3) := by decide +kernel
theorem dX9_put_11 : decode cX9_put 11 = .ok (.iload_n 1, 1) := by decide +kernel
theorem dX9_put_12 : decode cX9_put 12 = .ok (.iload_n 3, 1) := by decide +kernel
theorem dX9_put_13 : decode cX9_put 13 = .ok (.iastore, 1) := by decide +kernel
theorem dX9_put_14 : decode cX9_put 14 = .ok (.return_, 1) := by decide +kernel
theorem dX9_firstOut_0 : decode cX9_firstOut 0 = .ok (.iconst 0, 1) := by decide +kernel
theorem dX9_firstOut_1 : decode cX9_firstOut 1 = .ok (.istore_n 1, 1) := by decide +kernel
theorem dX9_firstOut_2 : decode cX9_firstOut 2 = .ok (.iload_n 1, 1) := by decide +kernel
theorem dX9_firstOut_3 : decode cX9_firstOut 3 = .ok (.aload_n 0, 1) := by decide +kernel
theorem dX9_firstOut_4 : decode cX9_firstOut 4 = .ok (.getfield 16, 3) := by decide +kernel
theorem dX9_firstOut_7 : decode cX9_firstOut 7 = .ok (.iconst 2, 1) := by decide +kernel
theorem dX9_firstOut_8 : decode cX9_firstOut 8 = .ok (.imul, 1) := by decide +kernel
theorem dX9_firstOut_9 : decode cX9_firstOut 9 = .ok (.if_icmp .ge 21, 3) := by decide +kernel
theorem dX9_firstOut_12 : decode cX9_firstOut 12 = .ok (.aload_n 0, 1) := by decide +kernel
theorem dX9_firstOut_13 : decode cX9_firstOut 13 = .ok (.getfield 9, 3) := by decide +kernel
theorem dX9_firstOut_16 : decode cX9_firstOut 16 = .ok (.iload_n 1, 1) := by decide +kernel
theorem dX9_firstOut_17 : decode cX9_firstOut 17 = .ok (.iaload, 1) := by decide +kernel
theorem dX9_firstOut_18 : decode cX9_firstOut 18 = .ok (.iconst 2, 1) := by decide +kernel
theorem dX9_firstOut_19 : decode cX9_firstOut 19 = .ok (.if_icmp .ne 5, 3) := by decide +kernel
theorem dX9_firstOut_22 : decode cX9_firstOut 22 = .ok (.iload_n 1, 1) := by decide +kernel
theorem dX9_firstOut_23 : decode cX9_firstOut 23 = .ok (.ireturn, 1) := by decide +kernel
theorem dX9_firstOut_24 : decode cX9_firstOut 24 = .ok (.iinc 1 1, 3) := by decide +kernel
theorem dX9_firstOut_27 : decode cX9_firstOut 27 = .ok (.goto (-25), 3) := by decide +kernel
theorem dX9_firstOut_30 : decode cX9_firstOut 30 = .ok (.iconst (-1), 1) := by decide +kernel
theorem dX9_firstOut_31 : decode cX9_firstOut 31 = .ok (.ireturn, 1) := by decide +kernel
theorem dX9_firstWithBothOut_0 : decode cX9_firstWithBothOut 0 = .ok (.iconst 0, 1) := by decide +kernel
theorem dX9_firstWithBothOut_1 : decode cX9_firstWithBothOut 1 = .ok (.istore_n 1, 1) := by decide +kernel
theorem dX9_firstWithBothOut_2 : decode cX9_firstWithBothOut 2 = .ok (.iload_n 1, 1) := by decide +kernel
theorem dX9_firstWithBothOut_3 : decode cX9_firstWithBothOut 3 = .ok (.aload_n 0, 1) := by decide +kernel
theorem dX9_firstWithBothOut_4 : decode cX9_firstWithBothOut 4 = .ok (.getfield 16, 3) := by decide +kernel
theorem dX9_firstWithBothOut_7 : decode cX9_firstWithBothOut 7 = .ok (.iconst 2, 1) := by decide +kernel
theorem dX9_firstWithBothOut_8 : decode cX9_firstWithBothOut 8 = .ok (.imul, 1) := by decide +kernel
theorem dX9_firstWithBothOut_9 : decode cX9_firstWithBothOut 9 = .ok (.if_icmp .ge 35, 3) := by decide +kernel
theorem dX9_firstWithBothOut_12 : decode cX9_firstWithBothOut 12 = .ok (.aload_n 0, 1) := by decide +kernel
theorem dX9_firstWithBothOut_13 : decode cX9_firstWithBothOut 13 = .ok (.getfield 9, 3) := by decide +kernel
theorem dX9_firstWithBothOut_16 : decode cX9_firstWithBothOut 16 = .ok (.iload_n 1, 1) := by decide +kernel
theorem dX9_firstWithBothOut_17 : decode cX9_firstWithBothOut 17 = .ok (.iaload, 1) := by decide +kernel
theorem dX9_firstWithBothOut_18 : decode cX9_firstWithBothOut 18 = .ok (.iconst 2, 1) := by decide +kernel
theorem dX9_firstWithBothOut_19 : decode cX9_firstWithBothOut 19 = .ok (.if_icmp .ne 19, 3) := by decide +kernel
theorem dX9_firstWithBothOut_22 : decode cX9_firstWithBothOut 22 = .ok (.aload_n 0, 1) := by decide +kernel
theorem dX9_firstWithBothOut_23 : decode cX9_firstWithBothOut 23 = .ok (.getfield 9, 3) := by decide +kernel
theorem dX9_firstWithBothOut_26 : decode cX9_firstWithBothOut 26 = .ok (.iload_n 1, 1) := by decide +kernel
theorem dX9_firstWithBothOut_27 : decode cX9_firstWithBothOut 27 = .ok (.iconst 1, 1) := by decide +kernel
theorem dX9_firstWithBothOut_28 : decode cX9_firstWithBothOut 28 = .ok (.iadd, 1) := by decide +kernel
theorem dX9_firstWithBothOut_29 : decode cX9_firstWithBothOut 29 = .ok (.iaload, 1) := by decide +kernel
theorem dX9_firstWithBothOut_30 : decode cX9_firstWithBothOut 30 = .ok (.iconst 2, 1) := by decide +kernel
theorem dX9_firstWithBothOut_31 : decode cX9_firstWithBothOut 31 = .ok (.if_icmp .ne 7, 3) := by decide +kernel
theorem dX9_firstWithBothOut_34 : decode cX9_firstWithBothOut 34 = .ok (.iload_n 1, 1) := by decide +kernel
theorem dX9_firstWithBothOut_35 : decode cX9_firstWithBothOut 35 = .ok (.iconst 2, 1) := by decide +kernel
theorem dX9_firstWithBothOut_36 : decode cX9_firstWithBothOut 36 = .ok (.idiv, 1) := by decide +kernel
theorem dX9_firstWithBothOut_37 : decode cX9_firstWithBothOut 37 = .ok (.ireturn, 1) := by decide +kernel
theorem dX9_firstWithBothOut_38 : decode cX9_firstWithBothOut 38 = .ok (.iinc 1 2, 3) := by decide +kernel
theorem dX9_firstWithBothOut_41 : decode cX9_firstWithBothOut 41 = .ok (.goto (-39), 3) := by decide +kernel
theorem dX9_firstWithBothOut_44 : decode cX9_firstWithBothOut 44 = .ok (.iconst (-1), 1) := by decide +kernel
theorem dX9_firstWithBothOut_45 : decode cX9_firstWithBothOut 45 = .ok (.ireturn, 1) := by decide +kernel
theorem dX9_firstToFetch_0 : decode cX9_firstToFetch 0 = .ok (.iconst 0, 1) := by decide +kernel
theorem dX9_firstToFetch_1 : decode cX9_firstToFetch 1 = .ok (.istore_n 1, 1) := by decide +kernel
theorem dX9_firstToFetch_2 : decode cX9_firstToFetch 2 = .ok (.iload_n 1, 1) := by decide +kernel
theorem dX9_firstToFetch_3 : decode cX9_firstToFetch 3 = .ok (.aload_n 0, 1) := by decide +kernel
theorem dX9_firstToFetch_4 : decode cX9_firstToFetch 4 = .ok (.getfield 16, 3) := by decide +kernel
theorem dX9_firstToFetch_7 : decode cX9_firstToFetch 7 = .ok (.iconst 2, 1) := by decide +kernel
theorem dX9_firstToFetch_8 : decode cX9_firstToFetch 8 = .ok (.imul, 1) := by decide +kernel
theorem dX9_firstToFetch_9 : decode cX9_firstToFetch 9 = .ok (.if_icmp .ge 22, 3) := by decide +kernel
theorem dX9_firstToFetch_12 : decode cX9_firstToFetch 12 = .ok (.aload_n 0, 1) := by decide +kernel
theorem dX9_firstToFetch_13 : decode cX9_firstToFetch 13 = .ok (.getfield 9, 3) := by decide +kernel
theorem dX9_firstToFetch_16 : decode cX9_firstToFetch 16 = .ok (.iload_n 1, 1) := by decide +kernel
theorem dX9_firstToFetch_17 : decode cX9_firstToFetch 17 = .ok (.iaload, 1) := by decide +kernel
theorem dX9_firstToFetch_18 : decode cX9_firstToFetch 18 = .ok (.ifCond .ne 7, 3) := by decide +kernel
theorem dX9_firstToFetch_21 : decode cX9_firstToFetch 21 = .ok (.iload_n 1, 1) := by decide +kernel
theorem dX9_firstToFetch_22 : decode cX9_firstToFetch 22 = .ok (.iconst 2, 1) := by decide +kernel
theorem dX9_firstToFetch_23 : decode cX9_firstToFetch 23 = .ok (.idiv, 1) := by decide +kernel
theorem dX9_firstToFetch_24 : decode cX9_firstToFetch 24 = .ok (.ireturn, 1) := by decide +kernel
theorem dX9_firstToFetch_25 : decode cX9_firstToFetch 25 = .ok (.iinc 1 1, 3) := by decide +kernel
theorem dX9_firstToFetch_28 : decode cX9_firstToFetch 28 = .ok (.goto (-26), 3) := by decide +kernel
theorem dX9_firstToFetch_31 : decode cX9_firstToFetch 31 = .ok (.iconst (-1), 1) := by decide +kernel
theorem dX9_firstToFetch_32 : decode cX9_firstToFetch 32 = .ok (.ireturn, 1) := by decide +kernel
theorem dX9_useOne_0 : decode cX9_useOne 0 = .ok (.aload_n 0, 1) := by decide +kernel
theorem dX9_useOne_1 : decode cX9_useOne 1 = .ok (.invokevirtual 34, 3) := by decide +kernel
theorem dX9_useOne_4 : decode cX9_useOne 4 = .ok (.istore_n 1, 1) := by decide +kernel
theorem dX9_useOne_5 : decode cX9_useOne 5 = .ok (.iload_n 1, 1) := by decide +kernel
theorem dX9_useOne_6 : decode cX9_useOne 6 = .ok (.ifCond .lt 10, 3) := by decide +kernel
theorem dX9_useOne_9 : decode cX9_useOne 9 = .ok (.aload_n 0, 1) := by decide +kernel
theorem dX9_useOne_10 : decode cX9_useOne 10 = .ok (.iload_n 1, 1) := by decide +kernel
theorem dX9_useOne_11 : decode cX9_useOne 11 = .ok (.iconst 0, 1) := by decide +kernel
theorem dX9_useOne_12 : decode cX9_useOne 12 = .ok (.iconst (-1), 1) := by decide +kernel
theorem dX9_useOne_13 : decode cX9_useOne 13 = .ok (.invokevirtual 30, 3) := by decide +kernel
theorem dX9_useOne_16 : decode cX9_useOne 16 = .ok (.return_, 1) := by decide +kernel
theorem dX9_useBoth_0 : decode cX9_useBoth 0 = .ok (.aload_n 0, 1) := by decide +kernel
theorem dX9_useBoth_1 : decode cX9_useBoth 1 = .ok (.invokevirtual 38, 3) := by decide +kernel
theorem dX9_useBoth_4 : decode cX9_useBoth 4 = .ok (.istore_n 1, 1) := by decide +kernel
theorem dX9_useBoth_5 : decode cX9_useBoth 5 = .ok (.iload_n 1, 1) := by decide +kernel
theorem dX9_useBoth_6 : decode cX9_useBoth 6 = .ok (.ifCond .lt 25, 3) := by decide +kernel
theorem dX9_useBoth_9 : decode cX9_useBoth 9 = .ok (.aload_n 0, 1) := by decide +kernel
theorem dX9_useBoth_10 : decode cX9_useBoth 10 = .ok (.iload_n 1, 1) := by decide +kernel
theorem dX9_useBoth_11 : decode cX9_useBoth 11 = .ok (.iconst 0, 1) := by decide +kernel
theorem dX9_useBoth_12 : decode cX9_useBoth 12 = .ok (.invokestatic 26, 3) := by decide +kernel
theorem dX9_useBoth_15 : decode cX9_useBoth 15 = .ok (.iconst 0, 1) := by decide +kernel
theorem dX9_useBoth_16 : decode cX9_useBoth 16 = .ok (.iconst (-1), 1) := by decide +kernel
theorem dX9_useBoth_17 : decode cX9_useBoth 17 = .ok (.invokevirtual 30, 3) := by decide +kernel
theorem dX9_useBoth_20 : decode cX9_useBoth 20 = .ok (.aload_n 0, 1) := by decide +kernel
theorem dX9_useBoth_21 : decode cX9_useBoth 21 = .ok (.iload_n 1, 1) := by decide +kernel
theorem dX9_useBoth_22 : decode cX9_useBoth 22 = .ok (.iconst 1, 1) := by decide +kernel
theorem dX9_useBoth_23 : decode cX9_useBoth 23 = .ok (.invokestatic 26, 3) := by decide +kernel
theorem dX9_useBoth_26 : decode cX9_useBoth 26 = .ok (.iconst 0, 1) := by decide +kernel
theorem dX9_useBoth_27 : decode cX9_useBoth 27 = .ok (.iconst (-1), 1) := by decide +kernel
theorem dX9_useBoth_28 : decode cX9_useBoth 28 = .ok (.invokevirtual 30, 3) := by decide +kernel
theorem dX9_useBoth_31 : decode cX9_useBoth 31 = .ok (.return_, 1) := by decide +kernel
theorem dX9_fetch_0 : decode cX9_fetch 0 = .ok (.iconst 0, 1) := by decide +kernel
theorem dX9_fetch_1 : decode cX9_fetch 1 = .ok (.istore_n 3, 1) := by decide +kernel
theorem dX9_fetch_2 : decode cX9_fetch 2 = .ok (.iload_n 3, 1) := by decide +kernel
theorem dX9_fetch_3 : decode cX9_fetch 3 = .ok (.iconst 2, 1) := by decide +kernel
theorem dX9_fetch_4 : decode cX9_fetch 4 = .ok (.if_icmp .ge 34, 3) := by decide +kernel
theorem dX9_fetch_7 : decode cX9_fetch 7 = .ok (.iload_n 1, 1) := by decide +kernel
theorem dX9_fetch_8 : decode cX9_fetch 8 = .ok (.iload_n 3, 1) := by decide +kernel
theorem dX9_fetch_9 : decode cX9_fetch 9 = .ok (.invokestatic 26, 3) := by decide +kernel
theorem dX9_fetch_12 : decode cX9_fetch 12 = .ok (.istore 4, 2) := by decide +kernel
theorem dX9_fetch_14 : decode cX9_fetch 14 = .ok (.aload_n 0, 1) := by decide +kernel
theorem dX9_fetch_15 : decode cX9_fetch 15 = .ok (.getfield 9, 3) := by decide +kernel
theorem dX9_fetch_18 : decode cX9_fetch 18 = .ok (.iload 4, 2) := by decide +kernel
theorem dX9_fetch_20 : decode cX9_fetch 20 = .ok (.iaload, 1) := by decide +kernel
theorem dX9_fetch_21 : decode cX9_fetch 21 = .ok (.ifCond .ne 11, 3) := by decide +kernel
theorem dX9_fetch_24 : decode cX9_fetch 24 = .ok (.aload_n 0, 1) := by decide +kernel
theorem dX9_fetch_25 : decode cX9_fetch 25 = .ok (.iload 4, 2) := by decide +kernel
theorem dX9_fetch_27 : decode cX9_fetch 27 = .ok (.iconst 1, 1) := by decide +kernel
theorem dX9_fetch_28 : decode cX9_fetch 28 = .ok (.iload_n 2, 1) := by decide +kernel
theorem dX9_fetch_29 : decode cX9_fetch 29 = .ok (.invokevirtual 30, 3) := by decide +kernel
theorem dX9_fetch_32 : decode cX9_fetch 32 = .ok (.iinc 3 1, 3) := by decide +kernel
theorem dX9_fetch_35 : decode cX9_fetch 35 = .ok (.goto (-33), 3) := by decide +kernel
theorem dX9_fetch_38 : decode cX9_fetch 38 = .ok (.return_, 1) := by decide +kernel
theorem dX9_open_0 : decode cX9_open 0 = .ok (.iconst 0, 1) := by decide +kernel
theorem dX9_open_1 : decode cX9_open 1 = .ok (.istore_n 2, 1) := by decide +kernel
theorem dX9_open_2 : decode cX9_open 2 = .ok (.iload_n 2, 1) := by decide +kernel
theorem dX9_open_3 : decode cX9_open 3 = .ok (.aload_n 0, 1) := by decide +kernel
theorem dX9_open_4 : decode cX9_open 4 = .ok (.getfield 16, 3) := by decide +kernel
theorem dX9_open_7 : decode cX9_open 7 = .ok (.iconst 2, 1) := by decide +kernel
theorem dX9_open_8 : decode cX9_open 8 = .ok (.imul, 1) := by decide +kernel
theorem dX9_open_9 : decode cX9_open 9 = .ok (.if_icmp .ge 66, 3) := by decide +kernel
theorem dX9_open_12 : decode cX9_open 12 = .ok (.aload_n 0, 1) := by decide +kernel
theorem dX9_open_13 : decode cX9_open 13 = .ok (.getfield 9, 3) := by decide +kernel
theorem dX9_open_16 : decode cX9_open 16 = .ok (.iload_n 2, 1) := by decide +kernel
theorem dX9_open_17 : decode cX9_open 17 = .ok (.iaload, 1) := by decide +kernel
theorem dX9_open_18 : decode cX9_open 18 = .ok (.iconst 1, 1) := by decide +kernel
theorem dX9_open_19 : decode cX9_open 19 = .ok (.if_icmp .ne 23, 3) := by decide +kernel
theorem dX9_open_22 : decode cX9_open 22 = .ok (.aload_n 0, 1) := by decide +kernel
theorem dX9_open_23 : decode cX9_open 23 = .ok (.getfield 13, 3) := by decide +kernel
theorem dX9_open_26 : decode cX9_open 26 = .ok (.iload_n 2, 1) := by decide +kernel
theorem dX9_open_27 : decode cX9_open 27 = .ok (.iaload, 1) := by decide +kernel
theorem dX9_open_28 : decode cX9_open 28 = .ok (.iload_n 1, 1) := by decide +kernel
theorem dX9_open_29 : decode cX9_open 29 = .ok (.if_icmp .gt 13, 3) := by decide +kernel
theorem dX9_open_32 : decode cX9_open 32 = .ok (.aload_n 0, 1) := by decide +kernel
theorem dX9_open_33 : decode cX9_open 33 = .ok (.iload_n 2, 1) := by decide +kernel
theorem dX9_open_34 : decode cX9_open 34 = .ok (.iconst 2, 1) := by decide +kernel
theorem dX9_open_35 : decode cX9_open 35 = .ok (.iconst (-1), 1) := by decide +kernel
theorem dX9_open_36 : decode cX9_open 36 = .ok (.invokevirtual 30, 3) := by decide +kernel
theorem dX9_open_39 : decode cX9_open 39 = .ok (.goto 30, 3) := by decide +kernel
theorem dX9_open_42 : decode cX9_open 42 = .ok (.aload_n 0, 1) := by decide +kernel
theorem dX9_open_43 : decode cX9_open 43 = .ok (.getfield 9, 3) := by decide +kernel
theorem dX9_open_46 : decode cX9_open 46 = .ok (.iload_n 2, 1) := by decide +kernel
theorem dX9_open_47 : decode cX9_open 47 = .ok (.iaload, 1) := by decide +kernel
theorem dX9_open_48 : decode cX9_open 48 = .ok (.iconst 3, 1) := by decide +kernel
theorem dX9_open_49 : decode cX9_open 49 = .ok (.if_icmp .ne 20, 3) := by decide +kernel
theorem dX9_open_52 : decode cX9_open 52 = .ok (.aload_n 0, 1) := by decide +kernel
theorem dX9_open_53 : decode cX9_open 53 = .ok (.getfield 13, 3) := by decide +kernel
theorem dX9_open_56 : decode cX9_open 56 = .ok (.iload_n 2, 1) := by decide +kernel
theorem dX9_open_57 : decode cX9_open 57 = .ok (.iaload, 1) := by decide +kernel
theorem dX9_open_58 : decode cX9_open 58 = .ok (.iload_n 1, 1) := by decide +kernel
theorem dX9_open_59 : decode cX9_open 59 = .ok (.if_icmp .gt 10, 3) := by decide +kernel
theorem dX9_open_62 : decode cX9_open 62 = .ok (.aload_n 0, 1) := by decide +kernel
theorem dX9_open_63 : decode cX9_open 63 = .ok (.iload_n 2, 1) := by decide +kernel
theorem dX9_open_64 : decode cX9_open 64 = .ok (.iconst 0, 1) := by decide +kernel
theorem dX9_open_65 : decode cX9_open 65 = .ok (.iconst (-1), 1) := by decide +kernel
theorem dX9_open_66 : decode cX9_open 66 = .ok (.invokevirtual 30, 3) := by decide +kernel
theorem dX9_open_69 : decode cX9_open 69 = .ok (.iinc 2 1, 3) := by decide +kernel
theorem dX9_open_72 : decode cX9_open 72 = .ok (.goto (-70), 3) := by decide +kernel
theorem dX9_open_75 : decode cX9_open 75 = .ok (.return_, 1) := by decide +kernel
theorem dX9_become_0 : decode cX9_become 0 = .ok (.aload_n 0, 1) := by decide +kernel
theorem dX9_become_1 : decode cX9_become 1 = .ok (.aload_n 1, 1) := by decide +kernel
theorem dX9_become_2 : decode cX9_become 2 = .ok (.getfield 16, 3) := by decide +kernel
theorem dX9_become_5 : decode cX9_become 5 = .ok (.putfield 16, 3) := by decide +kernel
theorem dX9_become_8 : decode cX9_become 8 = .ok (.aload_n 1, 1) := by decide +kernel
theorem dX9_become_9 : decode cX9_become 9 = .ok (.getfield 9, 3) := by decide +kernel
theorem dX9_become_12 : decode cX9_become 12 = .ok (.iconst 0, 1) := by decide +kernel
theorem dX9_become_13 : decode cX9_become 13 = .ok (.aload_n 0, 1) := by decide +kernel
theorem dX9_become_14 : decode cX9_become 14 = .ok (.getfield 9, 3) := by decide +kernel
theorem dX9_become_17 : decode cX9_become 17 = .ok (.iconst 0, 1) := by decide +kernel
theorem dX9_become_18 : decode cX9_become 18 = .ok (.aload_n 0, 1) := by decide +kernel
theorem dX9_become_19 : decode cX9_become 19 = .ok (.getfield 16, 3) := by decide +kernel
theorem dX9_become_22 : decode cX9_become 22 = .ok (.iconst 2, 1) := by decide +kernel
theorem dX9_become_23 : decode cX9_become 23 = .ok (.imul, 1) := by decide +kernel
theorem dX9_become_24 : decode cX9_become 24 = .ok (.invokestatic 41, 3) := by decide +kernel
theorem dX9_become_27 : decode cX9_become 27 = .ok (.aload_n 1, 1) := by decide +kernel
theorem dX9_become_28 : decode cX9_become 28 = .ok (.getfield 13, 3) := by decide +kernel
theorem dX9_become_31 : decode cX9_become 31 = .ok (.iconst 0, 1) := by decide +kernel
theorem dX9_become_32 : decode cX9_become 32 = .ok (.aload_n 0, 1) := by decide +kernel
theorem dX9_become_33 : decode cX9_become 33 = .ok (.getfield 13, 3) := by decide +kernel
theorem dX9_become_36 : decode cX9_become 36 = .ok (.iconst 0, 1) := by decide +kernel
theorem dX9_become_37 : decode cX9_become 37 = .ok (.aload_n 0, 1) := by decide +kernel
theorem dX9_become_38 : decode cX9_become 38 = .ok (.getfield 16, 3) := by decide +kernel
theorem dX9_become_41 : decode cX9_become 41 = .ok (.iconst 2, 1) := by decide +kernel
theorem dX9_become_42 : decode cX9_become 42 = .ok (.imul, 1) := by decide +kernel
theorem dX9_become_43 : decode cX9_become 43 = .ok (.invokestatic 41, 3) := by decide +kernel
theorem dX9_become_46 : decode cX9_become 46 = .ok (.return_, 1) := by decide +kernel
theorem dX10_init_0 : decode cX10_init 0 = .ok (.aload_n 0, 1) := by decide +kernel
theorem dX10_init_1 : decode cX10_init 1 = .ok (.invokespecial 1, 3) := by decide +kernel
theorem dX10_init_4 : decode cX10_init 4 = .ok (.aload_n 0, 1) := by decide +kernel
theorem dX10_init_5 : decode cX10_init 5 = .ok (.new 7, 3) := by decide +kernel
theorem dX10_init_8 : decode cX10_init 8 = .ok (.dup, 1) := by decide +kernel
theorem dX10_init_9 : decode cX10_init 9 = .ok (.invokespecial 9, 3) := by decide +kernel
theorem dX10_init_12 : decode cX10_init 12 = .ok (.putfield 10, 3) := by decide +kernel
theorem dX10_init_15 : decode cX10_init 15 = .ok (.aload_n 0, 1) := by decide +kernel
theorem dX10_init_16 : decode cX10_init 16 = .ok (.new 16, 3) := by decide +kernel
theorem dX10_init_19 : decode cX10_init 19 = .ok (.dup, 1) := by decide +kernel
theorem dX10_init_20 : decode cX10_init 20 = .ok (.invokespecial 18, 3) := by decide +kernel
theorem dX10_init_23 : decode cX10_init 23 = .ok (.putfield 19, 3) := by decide +kernel
theorem dX10_init_26 : decode cX10_init 26 = .ok (.aload_n 0, 1) := by decide +kernel
theorem dX10_init_27 : decode cX10_init 27 = .ok (.new 23, 3) := by decide +kernel
theorem dX10_init_30 : decode cX10_init 30 = .ok (.dup, 1) := by decide +kernel
theorem dX10_init_31 : decode cX10_init 31 = .ok (.invokespecial 25, 3) := by decide +kernel
theorem dX10_init_34 : decode cX10_init 34 = .ok (.putfield 26, 3) := by decide +kernel
theorem dX10_init_37 : decode cX10_init 37 = .ok (.aload_n 0, 1) := by decide +kernel
theorem dX10_init_38 : decode cX10_init 38 = .ok (.new 30, 3) := by decide +kernel
theorem dX10_init_41 : decode cX10_init 41 = .ok (.dup, 1) := by decide +kernel
theorem dX10_init_42 : decode cX10_init 42 = .ok (.invokespecial 32, 3) := by decide +kernel
theorem dX10_init_45 : decode cX10_init 45 = .ok (.putfield 33, 3) := by decide +kernel
theorem dX10_init_48 : decode cX10_init 48 = .ok (.aload_n 0, 1) := by decide +kernel
theorem dX10_init_49 : decode cX10_init 49 = .ok (.new 37, 3) := by decide +kernel
theorem dX10_init_52 : decode cX10_init 52 = .ok (.dup, 1) := by decide +kernel
theorem dX10_init_53 : decode cX10_init 53 = .ok (.invokespecial 39, 3) := by decide +kernel
theorem dX10_init_56 : decode cX10_init 56 = .ok (.putfield 40, 3) := by decide +kernel
theorem dX10_init_59 : decode cX10_init 59 = .ok (.aload_n 0, 1) := by decide +kernel
theorem dX10_init_60 : decode cX10_init 60 = .ok (.new 44, 3) := by decide +kernel
theorem dX10_init_63 : decode cX10_init 63 = .ok (.dup, 1) := by decide +kernel
theorem dX10_init_64 : decode cX10_init 64 = .ok (.invokespecial 46, 3) := by decide +kernel
theorem dX10_init_67 : decode cX10_init 67 = .ok (.putfield 47, 3) := by decide +kernel
theorem dX10_init_70 : decode cX10_init 70 = .ok (.aload_n 0, 1) := by decide +kernel
theorem dX10_init_71 : decode cX10_init 71 = .ok (.iconst 4, 1) := by decide +kernel
theorem dX10_init_72 : decode cX10_init 72 = .ok (.newarray .int, 2) := by decide +kernel
theorem dX10_init_74 : decode cX10_init 74 = .ok (.putfield 51, 3) := by decide +kernel
theorem dX10_init_77 : decode cX10_init 77 = .ok (.aload_n 0, 1) := by decide +kernel
theorem dX10_init_78 : decode cX10_init 78 = .ok (.iconst 2, 1) := by decide +kernel
theorem dX10_init_79 : decode cX10_init 79 = .ok (.newarray .int, 2) := by decide +kernel
theorem dX10_init_81 : decode cX10_init 81 = .ok (.putfield 57, 3) := by decide +kernel
theorem dX10_init_84 : decode cX10_init 84 = .ok (.aload_n 0, 1) := by decide +kernel
theorem dX10_init_85 : decode cX10_init 85 = .ok (.iconst 0, 1) := by decide +kernel
theorem dX10_init_86 : decode cX10_init 86 = .ok (.putfield 60, 3) := by decide +kernel
theorem dX10_init_89 : decode cX10_init 89 = .ok (.aload_n 0, 1) := by decide +kernel
theorem dX10_init_90 : decode cX10_init 90 = .ok (.iconst 0, 1) := by decide +kernel
theorem dX10_init_91 : decode cX10_init 91 = .ok (.putfield 64, 3) := by decide +kernel
theorem dX10_init_94 : decode cX10_init 94 = .ok (.aload_n 0, 1) := by decide +kernel
theorem dX10_init_95 : decode cX10_init 95 = .ok (.bipush 15, 2) := by decide +kernel
theorem dX10_init_97 : decode cX10_init 97 = .ok (.putfield 67, 3) := by decide +kernel
theorem dX10_init_100 : decode cX10_init 100 = .ok (.aload_n 0, 1) := by decide +kernel
theorem dX10_init_101 : decode cX10_init 101 = .ok (.iconst 0, 1) := by decide +kernel
theorem dX10_init_102 : decode cX10_init 102 = .ok (.putfield 70, 3) := by decide +kernel
theorem dX10_init_105 : decode cX10_init 105 = .ok (.aload_n 0, 1) := by decide +kernel
theorem dX10_init_106 : decode cX10_init 106 = .ok (.aload_n 1, 1) := by decide +kernel
theorem dX10_init_107 : decode cX10_init 107 = .ok (.putfield 73, 3) := by decide +kernel
theorem dX10_init_110 : decode cX10_init 110 = .ok (.iconst 0, 1) := by decide +kernel
theorem dX10_init_111 : decode cX10_init 111 = .ok (.istore_n 2, 1) := by decide +kernel
theorem dX10_init_112 : decode cX10_init 112 = .ok (.iload_n 2, 1) := by decide +kernel
theorem dX10_init_113 : decode cX10_init 113 = .ok (.iconst 4, 1) := by decide +kernel
theorem dX10_init_114 : decode cX10_init 114 = .ok (.if_icmp .ge 20, 3) := by decide +kernel
theorem dX10_init_117 : decode cX10_init 117 = .ok (.aload_n 0, 1) := by decide +kernel
theorem dX10_init_118 : decode cX10_init 118 = .ok (.getfield 51, 3) := by decide +kernel
theorem dX10_init_121 : decode cX10_init 121 = .ok (.iload_n 2, 1) := by decide +kernel
theorem dX10_init_122 : decode cX10_init 122 = .ok (.getstatic 77, 3) := by decide +kernel
theorem dX10_init_125 : decode cX10_init 125 = .ok (.iload_n 2, 1) := by decide +kernel
theorem dX10_init_126 : decode cX10_init 126 = .ok (.iaload, 1) := by decide +kernel
theorem dX10_init_127 : decode cX10_init 127 = .ok (.iastore, 1) := by decide +kernel
theorem dX10_init_128 : decode cX10_init 128 = .ok (.iinc 2 1, 3) := by decide +kernel
theorem dX10_init_131 : decode cX10_init 131 = .ok (.goto (-19), 3) := by decide +kernel
theorem dX10_init_134 : decode cX10_init 134 = .ok (.iconst 0, 1) := by decide +kernel
theorem dX10_init_135 : decode cX10_init 135 = .ok (.istore_n 2, 1) := by decide +kernel
theorem dX10_init_136 : decode cX10_init 136 = .ok (.iload_n 2, 1) := by decide +kernel
theorem dX10_init_137 : decode cX10_init 137 = .ok (.iconst 2, 1) := by decide +kernel
theorem dX10_init_138 : decode cX10_init 138 = .ok (.if_icmp .ge 16, 3) := by decide +kernel
theorem dX10_init_141 : decode cX10_init 141 = .ok (.aload_n 0, 1) := by decide +kernel
theorem dX10_init_142 : decode cX10_init 142 = .ok (.getfield 57, 3) := by decide +kernel
theorem dX10_init_145 : decode cX10_init 145 = .ok (.iload_n 2, 1) := by decide +kernel
theorem dX10_init_146 : decode cX10_init 146 = .ok (.iconst (-1), 1) := by decide +kernel
theorem dX10_init_147 : decode cX10_init 147 = .ok (.iastore, 1) := by decide +kernel
theorem dX10_init_148 : decode cX10_init 148 = .ok (.iinc 2 1, 3) := by decide +kernel
theorem dX10_init_151 : decode cX10_init 151 = .ok (.goto (-15), 3) := by decide +kernel
theorem dX10_init_154 : decode cX10_init 154 = .ok (.return_, 1) := by decide +kernel
theorem dX10_become_0 : decode cX10_become 0 = .ok (.aload_n 0, 1) := by decide +kernel
theorem dX10_become_1 : decode cX10_become 1 = .ok (.aload_n 1, 1) := by decide +kernel
theorem dX10_become_2 : decode cX10_become 2 = .ok (.getfield 60, 3) := by decide +kernel
theorem dX10_become_5 : decode cX10_become 5 = .ok (.putfield 60, 3) := by decide +kernel
theorem dX10_become_8 : decode cX10_become 8 = .ok (.aload_n 0, 1) := by decide +kernel
theorem dX10_become_9 : decode cX10_become 9 = .ok (.aload_n 1, 1) := by decide +kernel
theorem dX10_become_10 : decode cX10_become 10 = .ok (.getfield 64, 3) := by decide +kernel
theorem dX10_become_13 : decode cX10_become 13 = .ok (.putfield 64, 3) := by decide +kernel
theorem dX10_become_16 : decode cX10_become 16 = .ok (.aload_n 0, 1) := by decide +kernel
theorem dX10_become_17 : decode cX10_become 17 = .ok (.aload_n 1, 1) := by decide +kernel
theorem dX10_become_18 : decode cX10_become 18 = .ok (.getfield 67, 3) := by decide +kernel
theorem dX10_become_21 : decode cX10_become 21 = .ok (.putfield 67, 3) := by decide +kernel
theorem dX10_become_24 : decode cX10_become 24 = .ok (.aload_n 0, 1) := by decide +kernel
theorem dX10_become_25 : decode cX10_become 25 = .ok (.aload_n 1, 1) := by decide +kernel
theorem dX10_become_26 : decode cX10_become 26 = .ok (.getfield 70, 3) := by decide +kernel
theorem dX10_become_29 : decode cX10_become 29 = .ok (.putfield 70, 3) := by decide +kernel
theorem dX10_become_32 : decode cX10_become 32 = .ok (.aload_n 1, 1) := by decide +kernel
theorem dX10_become_33 : decode cX10_become 33 = .ok (.getfield 51, 3) := by decide +kernel
theorem dX10_become_36 : decode cX10_become 36 = .ok (.iconst 0, 1) := by decide +kernel
theorem dX10_become_37 : decode cX10_become 37 = .ok (.aload_n 0, 1) := by decide +kernel
theorem dX10_become_38 : decode cX10_become 38 = .ok (.getfield 51, 3) := by decide +kernel
theorem dX10_become_41 : decode cX10_become 41 = .ok (.iconst 0, 1) := by decide +kernel
theorem dX10_become_42 : decode cX10_become 42 = .ok (.iconst 4, 1) := by decide +kernel
theorem dX10_become_43 : decode cX10_become 43 = .ok (.invokestatic 80, 3) := by decide +kernel
theorem dX10_become_46 : decode cX10_become 46 = .ok (.aload_n 1, 1) := by decide +kernel
theorem dX10_become_47 : decode cX10_become 47 = .ok (.getfield 57, 3) := by decide +kernel
theorem dX10_become_50 : decode cX10_become 50 = .ok (.iconst 0, 1) := by decide +kernel
theorem dX10_become_51 : decode cX10_become 51 = .ok (.aload_n 0, 1) := by decide +kernel
theorem dX10_become_52 : decode cX10_become 52 = .ok (.getfield 57, 3) := by decide +kernel
theorem dX10_become_55 : decode cX10_become 55 = .ok (.iconst 0, 1) := by decide +kernel
theorem dX10_become_56 : decode cX10_become 56 = .ok (.iconst 2, 1) := by decide +kernel
theorem dX10_become_57 : decode cX10_become 57 = .ok (.invokestatic 80, 3) := by decide +kernel
theorem dX10_become_60 : decode cX10_become 60 = .ok (.aload_n 0, 1) := by decide +kernel
theorem dX10_become_61 : decode cX10_become 61 = .ok (.getfield 10, 3) := by decide +kernel
theorem dX10_become_64 : decode cX10_become 64 = .ok (.aload_n 1, 1) := by decide +kernel
theorem dX10_become_65 : decode cX10_become 65 = .ok (.getfield 10, 3) := by decide +kernel
theorem dX10_become_68 : decode cX10_become 68 = .ok (.invokevirtual 86, 3) := by decide +kernel
theorem dX10_become_71 : decode cX10_become 71 = .ok (.aload_n 0, 1) := by decide +kernel
theorem dX10_become_72 : decode cX10_become 72 = .ok (.getfield 19, 3) := by decide +kernel
theorem dX10_become_75 : decode cX10_become 75 = .ok (.aload_n 1, 1) := by decide +kernel
theorem dX10_become_76 : decode cX10_become 76 = .ok (.getfield 19, 3) := by decide +kernel
theorem dX10_become_79 : decode cX10_become 79 = .ok (.invokevirtual 90, 3) := by decide +kernel
theorem dX10_become_82 : decode cX10_become 82 = .ok (.aload_n 0, 1) := by decide +kernel
theorem dX10_become_83 : decode cX10_become 83 = .ok (.getfield 26, 3) := by decide +kernel
theorem dX10_become_86 : decode cX10_become 86 = .ok (.aload_n 1, 1) := by decide +kernel
theorem dX10_become_87 : decode cX10_become 87 = .ok (.getfield 26, 3) := by decide +kernel
theorem dX10_become_90 : decode cX10_become 90 = .ok (.invokevirtual 93, 3) := by decide +kernel
theorem dX10_become_93 : decode cX10_become 93 = .ok (.aload_n 0, 1) := by decide +kernel
theorem dX10_become_94 : decode cX10_become 94 = .ok (.getfield 33, 3) := by decide +kernel
theorem dX10_become_97 : decode cX10_become 97 = .ok (.aload_n 1, 1) := by decide +kernel
theorem dX10_become_98 : decode cX10_become 98 = .ok (.getfield 33, 3) := by decide +kernel
theorem dX10_become_101 : decode cX10_become 101 = .ok (.invokevirtual 96, 3) := by decide +kernel
theorem dX10_become_104 : decode cX10_become 104 = .ok (.aload_n 0, 1) := by decide +kernel
theorem dX10_become_105 : decode cX10_become 105 = .ok (.getfield 40, 3) := by decide +kernel
theorem dX10_become_108 : decode cX10_become 108 = .ok (.aload_n 1, 1) := by decide +kernel
theorem dX10_become_109 : decode cX10_become 109 = .ok (.getfield 40, 3) := by decide +kernel
theorem dX10_become_112 : decode cX10_become 112 = .ok (.invokevirtual 99, 3) := by decide +kernel
theorem dX10_become_115 : decode cX10_become 115 = .ok (.aload_n 0, 1) := by decide +kernel
theorem dX10_become_116 : decode cX10_become 116 = .ok (.getfield 47, 3) := by decide +kernel
theorem dX10_become_119 : decode cX10_become 119 = .ok (.aload_n 1, 1) := by decide +kernel
theorem dX10_become_120 : decode cX10_become 120 = .ok (.getfield 47, 3) := by decide +kernel
theorem dX10_become_123 : decode cX10_become 123 = .ok (.invokevirtual 102, 3) := by decide +kernel
theorem dX10_become_126 : decode cX10_become 126 = .ok (.return_, 1) := by decide +kernel
theorem dX10_barred_0 : decode cX10_barred 0 = .ok (.aload_n 0, 1) := by decide +kernel
theorem dX10_barred_1 : decode cX10_barred 1 = .ok (.getfield 57, 3) := by decide +kernel
theorem dX10_barred_4 : decode cX10_barred 4 = .ok (.iconst 0, 1) := by decide +kernel
theorem dX10_barred_5 : decode cX10_barred 5 = .ok (.iaload, 1) := by decide +kernel
theorem dX10_barred_6 : decode cX10_barred 6 = .ok (.istore_n 1, 1) := by decide +kernel
theorem dX10_barred_7 : decode cX10_barred 7 = .ok (.iconst 0, 1) := by decide +kernel
theorem dX10_barred_8 : decode cX10_barred 8 = .ok (.istore_n 2, 1) := by decide +kernel
theorem dX10_barred_9 : decode cX10_barred 9 = .ok (.iload_n 1, 1) := by decide +kernel
theorem dX10_barred_10 : decode cX10_barred 10 = .ok (.ifCond .ge 5, 3) := by decide +kernel
theorem dX10_barred_13 : decode cX10_barred 13 = .ok (.iload_n 2, 1) := by decide +kernel
theorem dX10_barred_14 : decode cX10_barred 14 = .ok (.ireturn, 1) := by decide +kernel
theorem dX10_barred_15 : decode cX10_barred 15 = .ok (.iconst 0, 1) := by decide +kernel
theorem dX10_barred_16 : decode cX10_barred 16 = .ok (.istore_n 3, 1) := by decide +kernel
theorem dX10_barred_17 : decode cX10_barred 17 = .ok (.iload_n 3, 1) := by decide +kernel
theorem dX10_barred_18 : decode cX10_barred 18 = .ok (.aload_n 0, 1) := by decide +kernel
theorem dX10_barred_19 : decode cX10_barred 19 = .ok (.getfield 47, 3) := by decide +kernel
theorem dX10_barred_22 : decode cX10_barred 22 = .ok (.getfield 105, 3) := by decide +kernel
theorem dX10_barred_25 : decode cX10_barred 25 = .ok (.if_icmp .ge 36, 3) := by decide +kernel
theorem dX10_barred_28 : decode cX10_barred 28 = .ok (.aload_n 0, 1) := by decide +kernel
theorem dX10_barred_29 : decode cX10_barred 29 = .ok (.getfield 47, 3) := by decide +kernel
theorem dX10_barred_32 : decode cX10_barred 32 = .ok (.getfield 108, 3) := by decide +kernel
theorem dX10_barred_35 : decode cX10_barred 35 = .ok (.iload_n 3, 1) := by decide +kernel
theorem dX10_barred_36 : decode cX10_barred 36 = .ok (.iaload, 1) := by decide +kernel
theorem dX10_barred_37 : decode cX10_barred 37 = .ok (.ifCond .ne 18, 3) := by decide +kernel
theorem dX10_barred_40 : decode cX10_barred 40 = .ok (.aload_n 0, 1) := by decide +kernel
theorem dX10_barred_41 : decode cX10_barred 41 = .ok (.iload_n 1, 1) := by decide +kernel
theorem dX10_barred_42 : decode cX10_barred 42 = .ok (.iload_n 3, 1) := by decide +kernel
theorem dX10_barred_43 : decode cX10_barred 43 = .ok (.invokevirtual 111, 3) := by decide +kernel
theorem dX10_barred_46 : decode cX10_barred 46 = .ok (.ifCond .eq 9, 3) := by decide +kernel
theorem dX10_barred_49 : decode cX10_barred 49 = .ok (.iload_n 2, 1) := by decide +kernel
theorem dX10_barred_50 : decode cX10_barred 50 = .ok (.iconst 1, 1) := by decide +kernel
theorem dX10_barred_51 : decode cX10_barred 51 = .ok (.iload_n 3, 1) := by decide +kernel
theorem dX10_barred_52 : decode cX10_barred 52 = .ok (.ishl, 1) := by decide +kernel
theorem dX10_barred_53 : decode cX10_barred 53 = .ok (.ior, 1) := by decide +kernel
theorem dX10_barred_54 : decode cX10_barred 54 = .ok (.istore_n 2, 1) := by decide +kernel
theorem dX10_barred_55 : decode cX10_barred 55 = .ok (.iinc 3 1, 3) := by decide +kernel
theorem dX10_barred_58 : decode cX10_barred 58 = .ok (.goto (-41), 3) := by decide +kernel
theorem dX10_barred_61 : decode cX10_barred 61 = .ok (.iload_n 2, 1) := by decide +kernel
theorem dX10_barred_62 : decode cX10_barred 62 = .ok (.ireturn, 1) := by decide +kernel
theorem dX10_isBarredBy_0 : decode cX10_isBarredBy 0 = .ok (.aload_n 0, 1) := by decide +kernel
theorem dX10_isBarredBy_1 : decode cX10_isBarredBy 1 = .ok (.getfield 73, 3) := by decide +kernel
theorem dX10_isBarredBy_4 : decode cX10_isBarredBy 4 = .ok (.iload_n 1, 1) := by decide +kernel
theorem dX10_isBarredBy_5 : decode cX10_isBarredBy 5 = .ok (.aload_n 0, 1) := by decide +kernel
theorem dX10_isBarredBy_6 : decode cX10_isBarredBy 6 = .ok (.getfield 47, 3) := by decide +kernel
theorem dX10_isBarredBy_9 : decode cX10_isBarredBy 9 = .ok (.getfield 115, 3) := by decide +kernel
theorem dX10_isBarredBy_12 : decode cX10_isBarredBy 12 = .ok (.iload_n 2, 1) := by decide +kernel
theorem dX10_isBarredBy_13 : decode cX10_isBarredBy 13 = .ok (.iaload, 1) := by decide +kernel
theorem dX10_isBarredBy_14 : decode cX10_isBarredBy 14 = .ok (.aload_n 0, 1) := by decide +kernel
theorem dX10_isBarredBy_15 : decode cX10_isBarredBy 15 = .ok (.getfield 47, 3) := by decide +kernel
theorem dX10_isBarredBy_18 : decode cX10_isBarredBy 18 = .ok (.getfield 118, 3) := by decide +kernel
theorem dX10_isBarredBy_21 : decode cX10_isBarredBy 21 = .ok (.iload_n 2, 1) := by decide +kernel
theorem dX10_isBarredBy_22 : decode cX10_isBarredBy 22 = .ok (.iaload, 1) := by decide +kernel
theorem dX10_isBarredBy_23 : decode cX10_isBarredBy 23 = .ok (.aload_n 0, 1) := by decide +kernel
theorem dX10_isBarredBy_24 : decode cX10_isBarredBy 24 = .ok (.getfield 47, 3) := by decide +kernel
theorem dX10_isBarredBy_27 : decode cX10_isBarredBy 27 = .ok (.getfield 121, 3) := by decide +kernel
theorem dX10_isBarredBy_30 : decode cX10_isBarredBy 30 = .ok (.iload_n 2, 1) := by decide +kernel
theorem dX10_isBarredBy_31 : decode cX10_isBarredBy 31 = .ok (.iaload, 1) := by decide +kernel
theorem dX10_isBarredBy_32 : decode cX10_isBarredBy 32 = .ok (.aload_n 0, 1) := by decide +kernel
theorem dX10_isBarredBy_33 : decode cX10_isBarredBy 33 = .ok (.getfield 64, 3) := by decide +kernel
theorem dX10_isBarredBy_36 : decode cX10_isBarredBy 36 = .ok (.invokevirtual 124, 3) := by decide +kernel
theorem dX10_isBarredBy_39 : decode cX10_isBarredBy 39 = .ok (.ifCond .eq 7, 3) := by decide +kernel
theorem dX10_isBarredBy_42 : decode cX10_isBarredBy 42 = .ok (.iconst 1, 1) := by decide +kernel
theorem dX10_isBarredBy_43 : decode cX10_isBarredBy 43 = .ok (.goto 4, 3) := by decide +kernel
theorem dX10_isBarredBy_46 : decode cX10_isBarredBy 46 = .ok (.iconst 0, 1) := by decide +kernel
theorem dX10_isBarredBy_47 : decode cX10_isBarredBy 47 = .ok (.ireturn, 1) := by decide +kernel
theorem dX10_whyNot_0 : decode cX10_whyNot 0 = .ok (.aload_n 0, 1) := by decide +kernel
theorem dX10_whyNot_1 : decode cX10_whyNot 1 = .ok (.iload_n 1, 1) := by decide +kernel
theorem dX10_whyNot_2 : decode cX10_whyNot 2 = .ok (.invokevirtual 128, 3) := by decide +kernel
theorem dX10_whyNot_5 : decode cX10_whyNot 5 = .ok (.istore_n 3, 1) := by decide +kernel
theorem dX10_whyNot_6 : decode cX10_whyNot 6 = .ok (.iload_n 3, 1) := by decide +kernel
theorem dX10_whyNot_7 : decode cX10_whyNot 7 = .ok (.ifCond .ne 9, 3) := by decide +kernel
theorem dX10_whyNot_10 : decode cX10_whyNot 10 = .ok (.aload_n 0, 1) := by decide +kernel
theorem dX10_whyNot_11 : decode cX10_whyNot 11 = .ok (.iload_n 1, 1) := by decide +kernel
theorem dX10_whyNot_12 : decode cX10_whyNot 12 = .ok (.invokevirtual 132, 3) := by decide +kernel
theorem dX10_whyNot_15 : decode cX10_whyNot 15 = .ok (.istore_n 3, 1) := by decide +kernel
theorem dX10_whyNot_16 : decode cX10_whyNot 16 = .ok (.iload_n 3, 1) := by decide +kernel
theorem dX10_whyNot_17 : decode cX10_whyNot 17 = .ok (.ifCond .ne 10, 3) := by decide +kernel
theorem dX10_whyNot_20 : decode cX10_whyNot 20 = .ok (.aload_n 0, 1) := by decide +kernel
theorem dX10_whyNot_21 : decode cX10_whyNot 21 = .ok (.iload_n 1, 1) := by decide +kernel
theorem dX10_whyNot_22 : decode cX10_whyNot 22 = .ok (.iload_n 2, 1) := by decide +kernel
theorem dX10_whyNot_23 : decode cX10_whyNot 23 = .ok (.invokevirtual 135, 3) := by decide +kernel
theorem dX10_whyNot_26 : decode cX10_whyNot 26 = .ok (.istore_n 3, 1) := by decide +kernel
theorem dX10_whyNot_27 : decode cX10_whyNot 27 = .ok (.iload_n 3, 1) := by decide +kernel
theorem dX10_whyNot_28 : decode cX10_whyNot 28 = .ok (.ireturn, 1) := by decide +kernel
theorem dX10_whyNotWith_0 : decode cX10_whyNotWith 0 = .ok (.aload_n 0, 1) := by decide +kernel
theorem dX10_whyNotWith_1 : decode cX10_whyNotWith 1 = .ok (.getfield 47, 3) := by decide +kernel
theorem dX10_whyNotWith_4 : decode cX10_whyNotWith 4 = .ok (.getfield 139, 3) := by decide +kernel
theorem dX10_whyNotWith_7 : decode cX10_whyNotWith 7 = .ok (.iload_n 1, 1) := by decide +kernel
theorem dX10_whyNotWith_8 : decode cX10_whyNotWith 8 = .ok (.iaload, 1) := by decide +kernel
theorem dX10_whyNotWith_9 : decode cX10_whyNotWith 9 = .ok (.istore_n 2, 1) := by decide +kernel
theorem dX10_whyNotWith_10 : decode cX10_whyNotWith 10 = .ok (.aload_n 0, 1) := by decide +kernel
theorem dX10_whyNotWith_11 : decode cX10_whyNotWith 11 = .ok (.getfield 47, 3) := by decide +kernel
theorem dX10_whyNotWith_14 : decode cX10_whyNotWith 14 = .ok (.getfield 142, 3) := by decide +kernel
theorem dX10_whyNotWith_17 : decode cX10_whyNotWith 17 = .ok (.iload_n 1, 1) := by decide +kernel
theorem dX10_whyNotWith_18 : decode cX10_whyNotWith 18 = .ok (.iaload, 1) := by decide +kernel
theorem dX10_whyNotWith_19 : decode cX10_whyNotWith 19 = .ok (.istore_n 3, 1) := by decide +kernel
theorem dX10_whyNotWith_20 : decode cX10_whyNotWith 20 = .ok (.aload_n 0, 1) := by decide +kernel
theorem dX10_whyNotWith_21 : decode cX10_whyNotWith 21 = .ok (.getfield 10, 3) := by decide +kernel
theorem dX10_whyNotWith_24 : decode cX10_whyNotWith 24 = .ok (.getfield 145, 3) := by decide +kernel
theorem dX10_whyNotWith_27 : decode cX10_whyNotWith 27 = .ok (.iload_n 2, 1) := by decide +kernel
theorem dX10_whyNotWith_28 : decode cX10_whyNotWith 28 = .ok (.invokestatic 148, 3) := by decide +kernel
theorem dX10_whyNotWith_31 : decode cX10_whyNotWith 31 = .ok (.ifCond .eq 5, 3) := by decide +kernel
theorem dX10_whyNotWith_34 : decode cX10_whyNotWith 34 = .ok (.iconst 1, 1) := by decide +kernel
theorem dX10_whyNotWith_35 : decode cX10_whyNotWith 35 = .ok (.ireturn, 1) := by decide +kernel
theorem dX10_whyNotWith_36 : decode cX10_whyNotWith 36 = .ok (.iload_n 3, 1) := by decide +kernel
theorem dX10_whyNotWith_37 : decode cX10_whyNotWith 37 = .ok (.ifCond .lt 18, 3) := by decide +kernel
theorem dX10_whyNotWith_40 : decode cX10_whyNotWith 40 = .ok (.aload_n 0, 1) := by decide +kernel
theorem dX10_whyNotWith_41 : decode cX10_whyNotWith 41 = .ok (.getfield 10, 3) := by decide +kernel
theorem dX10_whyNotWith_44 : decode cX10_whyNotWith 44 = .ok (.getfield 153, 3) := by decide +kernel
theorem dX10_whyNotWith_47 : decode cX10_whyNotWith 47 = .ok (.iload_n 2, 1) := by decide +kernel
theorem dX10_whyNotWith_48 : decode cX10_whyNotWith 48 = .ok (.iaload, 1) := by decide +kernel
theorem dX10_whyNotWith_49 : decode cX10_whyNotWith 49 = .ok (.iconst 1, 1) := by decide +kernel
theorem dX10_whyNotWith_50 : decode cX10_whyNotWith 50 = .ok (.if_icmp .ne 5, 3) := by decide +kernel
theorem dX10_whyNotWith_53 : decode cX10_whyNotWith 53 = .ok (.iconst 2, 1) := by decide +kernel
theorem dX10_whyNotWith_54 : decode cX10_whyNotWith 54 = .ok (.ireturn, 1) := by decide +kernel
theorem dX10_whyNotWith_55 : decode cX10_whyNotWith 55 = .ok (.aload_n 0, 1) := by decide +kernel
theorem dX10_whyNotWith_56 : decode cX10_whyNotWith 56 = .ok (.getfield 19, 3) := by decide +kernel
theorem dX10_whyNotWith_59 : decode cX10_whyNotWith 59 = .ok (.getfield 156, 3) := by decide +kernel
theorem dX10_whyNotWith_62 : decode cX10_whyNotWith 62 = .ok (.aload_n 0, 1) := by decide +kernel
theorem dX10_whyNotWith_63 : decode cX10_whyNotWith 63 = .ok (.getfield 47, 3) := by decide +kernel
theorem dX10_whyNotWith_66 : decode cX10_whyNotWith 66 = .ok (.getfield 159, 3) := by decide +kernel
theorem dX10_whyNotWith_69 : decode cX10_whyNotWith 69 = .ok (.iload_n 1, 1) := by decide +kernel
theorem dX10_whyNotWith_70 : decode cX10_whyNotWith 70 = .ok (.iaload, 1) := by decide +kernel
theorem dX10_whyNotWith_71 : decode cX10_whyNotWith 71 = .ok (.iaload, 1) := by decide +kernel
theorem dX10_whyNotWith_72 : decode cX10_whyNotWith 72 = .ok (.iload_n 3, 1) := by decide +kernel
theorem dX10_whyNotWith_73 : decode cX10_whyNotWith 73 = .ok (.ifCond .lt 15, 3) := by decide +kernel
theorem dX10_whyNotWith_76 : decode cX10_whyNotWith 76 = .ok (.aload_n 0, 1) := by decide +kernel
theorem dX10_whyNotWith_77 : decode cX10_whyNotWith 77 = .ok (.getfield 19, 3) := by decide +kernel
theorem dX10_whyNotWith_80 : decode cX10_whyNotWith 80 = .ok (.getfield 156, 3) := by decide +kernel
theorem dX10_whyNotWith_83 : decode cX10_whyNotWith 83 = .ok (.iload_n 3, 1) := by decide +kernel
theorem dX10_whyNotWith_84 : decode cX10_whyNotWith 84 = .ok (.iaload, 1) := by decide +kernel
theorem dX10_whyNotWith_85 : decode cX10_whyNotWith 85 = .ok (.goto 4, 3) := by decide +kernel
theorem dX10_whyNotWith_88 : decode cX10_whyNotWith 88 = .ok (.iconst 0, 1) := by decide +kernel
theorem dX10_whyNotWith_89 : decode cX10_whyNotWith 89 = .ok (.iadd, 1) := by decide +kernel
theorem dX10_whyNotWith_90 : decode cX10_whyNotWith 90 = .ok (.istore 4, 2) := by decide +kernel
theorem dX10_whyNotWith_92 : decode cX10_whyNotWith 92 = .ok (.iload 4, 2) := by decide +kernel
theorem dX10_whyNotWith_94 : decode cX10_whyNotWith 94 = .ok (.aload_n 0, 1) := by decide +kernel
theorem dX10_whyNotWith_95 : decode cX10_whyNotWith 95 = .ok (.getfield 10, 3) := by decide +kernel
theorem dX10_whyNotWith_98 : decode cX10_whyNotWith 98 = .ok (.getfield 162, 3) := by decide +kernel
theorem dX10_whyNotWith_101 : decode cX10_whyNotWith 101 = .ok (.iload_n 2, 1) := by decide +kernel
theorem dX10_whyNotWith_102 : decode cX10_whyNotWith 102 = .ok (.iaload, 1) := by decide +kernel
theorem dX10_whyNotWith_103 : decode cX10_whyNotWith 103 = .ok (.if_icmp .le 7, 3) := by decide +kernel
theorem dX10_whyNotWith_106 : decode cX10_whyNotWith 106 = .ok (.iconst 3, 1) := by decide +kernel
theorem dX10_whyNotWith_107 : decode cX10_whyNotWith 107 = .ok (.goto 4, 3) := by decide +kernel
theorem dX10_whyNotWith_110 : decode cX10_whyNotWith 110 = .ok (.iconst 0, 1) := by decide +kernel
theorem dX10_whyNotWith_111 : decode cX10_whyNotWith 111 = .ok (.ireturn, 1) := by decide +kernel
theorem dX10_whyNotBy_0 : decode cX10_whyNotBy 0 = .ok (.aload_n 0, 1) := by decide +kernel
theorem dX10_whyNotBy_1 : decode cX10_whyNotBy 1 = .ok (.getfield 47, 3) := by decide +kernel
theorem dX10_whyNotBy_4 : decode cX10_whyNotBy 4 = .ok (.getfield 159, 3) := by decide +kernel
theorem dX10_whyNotBy_7 : decode cX10_whyNotBy 7 = .ok (.iload_n 1, 1) := by decide +kernel
theorem dX10_whyNotBy_8 : decode cX10_whyNotBy 8 = .ok (.iaload, 1) := by decide +kernel
theorem dX10_whyNotBy_9 : decode cX10_whyNotBy 9 = .ok (.istore_n 2, 1) := by decide +kernel
theorem dX10_whyNotBy_10 : decode cX10_whyNotBy 10 = .ok (.aload_n 0, 1) := by decide +kernel
theorem dX10_whyNotBy_11 : decode cX10_whyNotBy 11 = .ok (.getfield 47, 3) := by decide +kernel
theorem dX10_whyNotBy_14 : decode cX10_whyNotBy 14 = .ok (.getfield 142, 3) := by decide +kernel
theorem dX10_whyNotBy_17 : decode cX10_whyNotBy 17 = .ok (.iload_n 1, 1) := by decide +kernel
theorem dX10_whyNotBy_18 : decode cX10_whyNotBy 18 = .ok (.iaload, 1) := by decide +kernel
theorem dX10_whyNotBy_19 : decode cX10_whyNotBy 19 = .ok (.istore_n 3, 1) := by decide +kernel
theorem dX10_whyNotBy_20 : decode cX10_whyNotBy 20 = .ok (.aload_n 0, 1) := by decide +kernel
theorem dX10_whyNotBy_21 : decode cX10_whyNotBy 21 = .ok (.getfield 47, 3) := by decide +kernel
theorem dX10_whyNotBy_24 : decode cX10_whyNotBy 24 = .ok (.getfield 121, 3) := by decide +kernel
theorem dX10_whyNotBy_27 : decode cX10_whyNotBy 27 = .ok (.iload_n 1, 1) := by decide +kernel
theorem dX10_whyNotBy_28 : decode cX10_whyNotBy 28 = .ok (.iaload, 1) := by decide +kernel
theorem dX10_whyNotBy_29 : decode cX10_whyNotBy 29 = .ok (.istore 4, 2) := by decide +kernel
theorem dX10_whyNotBy_31 : decode cX10_whyNotBy 31 = .ok (.aload_n 0, 1) := by decide +kernel
theorem dX10_whyNotBy_32 : decode cX10_whyNotBy 32 = .ok (.getfield 19, 3) := by decide +kernel
theorem dX10_whyNotBy_35 : decode cX10_whyNotBy 35 = .ok (.iload_n 3, 1) := by decide +kernel
theorem dX10_whyNotBy_36 : decode cX10_whyNotBy 36 = .ok (.bipush 6, 2) := by decide +kernel
theorem dX10_whyNotBy_38 : decode cX10_whyNotBy 38 = .ok (.invokevirtual 165, 3) := by decide +kernel
theorem dX10_whyNotBy_41 : decode cX10_whyNotBy 41 = .ok (.istore 5, 2) := by decide +kernel
theorem dX10_whyNotBy_43 : decode cX10_whyNotBy 43 = .ok (.aload_n 0, 1) := by decide +kernel
theorem dX10_whyNotBy_44 : decode cX10_whyNotBy 44 = .ok (.getfield 19, 3) := by decide +kernel
theorem dX10_whyNotBy_47 : decode cX10_whyNotBy 47 = .ok (.iload_n 2, 1) := by decide +kernel
theorem dX10_whyNotBy_48 : decode cX10_whyNotBy 48 = .ok (.iload 4, 2) := by decide +kernel
theorem dX10_whyNotBy_50 : decode cX10_whyNotBy 50 = .ok (.invokevirtual 165, 3) := by decide +kernel
theorem dX10_whyNotBy_53 : decode cX10_whyNotBy 53 = .ok (.ifCond .ne 23, 3) := by decide +kernel
theorem dX10_whyNotBy_56 : decode cX10_whyNotBy 56 = .ok (.iload 5, 2) := by decide +kernel
theorem dX10_whyNotBy_58 : decode cX10_whyNotBy 58 = .ok (.ifCond .eq 16, 3) := by decide +kernel
theorem dX10_whyNotBy_61 : decode cX10_whyNotBy 61 = .ok (.aload_n 0, 1) := by decide +kernel
theorem dX10_whyNotBy_62 : decode cX10_whyNotBy 62 = .ok (.getfield 19, 3) := by decide +kernel
theorem dX10_whyNotBy_65 : decode cX10_whyNotBy 65 = .ok (.iload_n 3, 1) := by decide +kernel
theorem dX10_whyNotBy_66 : decode cX10_whyNotBy 66 = .ok (.iload 4, 2) := by decide +kernel
theorem dX10_whyNotBy_68 : decode cX10_whyNotBy 68 = .ok (.invokevirtual 165, 3) := by decide +kernel
theorem dX10_whyNotBy_71 : decode cX10_whyNotBy 71 = .ok (.ifCond .ne 5, 3) := by decide +kernel
theorem dX10_whyNotBy_74 : decode cX10_whyNotBy 74 = .ok (.iconst 4, 1) := by decide +kernel
theorem dX10_whyNotBy_75 : decode cX10_whyNotBy 75 = .ok (.ireturn, 1) := by decide +kernel
theorem dX10_whyNotBy_76 : decode cX10_whyNotBy 76 = .ok (.iload 5, 2) := by decide +kernel
theorem dX10_whyNotBy_78 : decode cX10_whyNotBy 78 = .ok (.ifCond .ne 23, 3) := by decide +kernel
theorem dX10_whyNotBy_81 : decode cX10_whyNotBy 81 = .ok (.aload_n 0, 1) := by decide +kernel
theorem dX10_whyNotBy_82 : decode cX10_whyNotBy 82 = .ok (.aload_n 0, 1) := by decide +kernel
theorem dX10_whyNotBy_83 : decode cX10_whyNotBy 83 = .ok (.getfield 19, 3) := by decide +kernel
theorem dX10_whyNotBy_86 : decode cX10_whyNotBy 86 = .ok (.getfield 168, 3) := by decide +kernel
theorem dX10_whyNotBy_89 : decode cX10_whyNotBy 89 = .ok (.iload_n 2, 1) := by decide +kernel
theorem dX10_whyNotBy_90 : decode cX10_whyNotBy 90 = .ok (.iaload, 1) := by decide +kernel
theorem dX10_whyNotBy_91 : decode cX10_whyNotBy 91 = .ok (.invokevirtual 171, 3) := by decide +kernel
theorem dX10_whyNotBy_94 : decode cX10_whyNotBy 94 = .ok (.ifCond .ne 7, 3) := by decide +kernel
theorem dX10_whyNotBy_97 : decode cX10_whyNotBy 97 = .ok (.iconst 5, 1) := by decide +kernel
theorem dX10_whyNotBy_98 : decode cX10_whyNotBy 98 = .ok (.goto 4, 3) := by decide +kernel
theorem dX10_whyNotBy_101 : decode cX10_whyNotBy 101 = .ok (.iconst 0, 1) := by decide +kernel
theorem dX10_whyNotBy_102 : decode cX10_whyNotBy 102 = .ok (.ireturn, 1) := by decide +kernel
theorem dX10_isRecent_0 : decode cX10_isRecent 0 = .ok (.aload_n 0, 1) := by decide +kernel
theorem dX10_isRecent_1 : decode cX10_isRecent 1 = .ok (.getfield 51, 3) := by decide +kernel
theorem dX10_isRecent_4 : decode cX10_isRecent 4 = .ok (.iconst 1, 1) := by decide +kernel
theorem dX10_isRecent_5 : decode cX10_isRecent 5 = .ok (.iaload, 1) := by decide +kernel
theorem dX10_isRecent_6 : decode cX10_isRecent 6 = .ok (.istore_n 2, 1) := by decide +kernel
theorem dX10_isRecent_7 : decode cX10_isRecent 7 = .ok (.iload_n 2, 1) := by decide +kernel
theorem dX10_isRecent_8 : decode cX10_isRecent 8 = .ok (.ifCond .eq 17, 3) := by decide +kernel
theorem dX10_isRecent_11 : decode cX10_isRecent 11 = .ok (.iload_n 1, 1) := by decide +kernel
theorem dX10_isRecent_12 : decode cX10_isRecent 12 = .ok (.ifCond .lt 17, 3) := by decide +kernel
theorem dX10_isRecent_15 : decode cX10_isRecent 15 = .ok (.aload_n 0, 1) := by decide +kernel
theorem dX10_isRecent_16 : decode cX10_isRecent 16 = .ok (.getfield 60, 3) := by decide +kernel
theorem dX10_isRecent_19 : decode cX10_isRecent 19 = .ok (.iload_n 1, 1) := by decide +kernel
theorem dX10_isRecent_20 : decode cX10_isRecent 20 = .ok (.isub, 1) := by decide +kernel
theorem dX10_isRecent_21 : decode cX10_isRecent 21 = .ok (.iload_n 2, 1) := by decide +kernel
theorem dX10_isRecent_22 : decode cX10_isRecent 22 = .ok (.if_icmp .gt 7, 3) := by decide +kernel
theorem dX10_isRecent_25 : decode cX10_isRecent 25 = .ok (.iconst 1, 1) := by decide +kernel
theorem dX10_isRecent_26 : decode cX10_isRecent 26 = .ok (.goto 4, 3) := by decide +kernel
theorem dX10_isRecent_29 : decode cX10_isRecent 29 = .ok (.iconst 0, 1) := by decide +kernel
theorem dX10_isRecent_30 : decode cX10_isRecent 30 = .ok (.ireturn, 1) := by decide +kernel
theorem dX10_whyNotIn_0 : decode cX10_whyNotIn 0 = .ok (.aload_n 0, 1) := by decide +kernel
theorem dX10_whyNotIn_1 : decode cX10_whyNotIn 1 = .ok (.getfield 64, 3) := by decide +kernel
theorem dX10_whyNotIn_4 : decode cX10_whyNotIn 4 = .ok (.aload_n 0, 1) := by decide +kernel
theorem dX10_whyNotIn_5 : decode cX10_whyNotIn 5 = .ok (.getfield 47, 3) := by decide +kernel
theorem dX10_whyNotIn_8 : decode cX10_whyNotIn 8 = .ok (.getfield 121, 3) := by decide +kernel
theorem dX10_whyNotIn_11 : decode cX10_whyNotIn 11 = .ok (.iload_n 1, 1) := by decide +kernel
theorem dX10_whyNotIn_12 : decode cX10_whyNotIn 12 = .ok (.iaload, 1) := by decide +kernel
theorem dX10_whyNotIn_13 : decode cX10_whyNotIn 13 = .ok (.invokestatic 175, 3) := by decide +kernel
theorem dX10_whyNotIn_16 : decode cX10_whyNotIn 16 = .ok (.if_icmp .le 6, 3) := by decide +kernel
theorem dX10_whyNotIn_19 : decode cX10_whyNotIn 19 = .ok (.bipush 6, 2) := by decide +kernel
theorem dX10_whyNotIn_21 : decode cX10_whyNotIn 21 = .ok (.ireturn, 1) := by decide +kernel
theorem dX10_whyNotIn_22 : decode cX10_whyNotIn 22 = .ok (.aload_n 0, 1) := by decide +kernel
theorem dX10_whyNotIn_23 : decode cX10_whyNotIn 23 = .ok (.getfield 67, 3) := by decide +kernel
theorem dX10_whyNotIn_26 : decode cX10_whyNotIn 26 = .ok (.aload_n 0, 1) := by decide +kernel
theorem dX10_whyNotIn_27 : decode cX10_whyNotIn 27 = .ok (.getfield 10, 3) := by decide +kernel
theorem dX10_whyNotIn_30 : decode cX10_whyNotIn 30 = .ok (.getfield 180, 3) := by decide +kernel
theorem dX10_whyNotIn_33 : decode cX10_whyNotIn 33 = .ok (.aload_n 0, 1) := by decide +kernel
theorem dX10_whyNotIn_34 : decode cX10_whyNotIn 34 = .ok (.getfield 47, 3) := by decide +kernel
theorem dX10_whyNotIn_37 : decode cX10_whyNotIn 37 = .ok (.getfield 139, 3) := by decide +kernel
theorem dX10_whyNotIn_40 : decode cX10_whyNotIn 40 = .ok (.iload_n 1, 1) := by decide +kernel
theorem dX10_whyNotIn_41 : decode cX10_whyNotIn 41 = .ok (.iaload, 1) := by decide +kernel
theorem dX10_whyNotIn_42 : decode cX10_whyNotIn 42 = .ok (.iaload, 1) := by decide +kernel
theorem dX10_whyNotIn_43 : decode cX10_whyNotIn 43 = .ok (.invokestatic 148, 3) := by decide +kernel
theorem dX10_whyNotIn_46 : decode cX10_whyNotIn 46 = .ok (.ifCond .ne 6, 3) := by decide +kernel
theorem dX10_whyNotIn_49 : decode cX10_whyNotIn 49 = .ok (.bipush 7, 2) := by decide +kernel
theorem dX10_whyNotIn_51 : decode cX10_whyNotIn 51 = .ok (.ireturn, 1) := by decide +kernel
theorem dX10_whyNotIn_52 : decode cX10_whyNotIn 52 = .ok (.aload_n 0, 1) := by decide +kernel
theorem dX10_whyNotIn_53 : decode cX10_whyNotIn 53 = .ok (.getfield 19, 3) := by decide +kernel
theorem dX10_whyNotIn_56 : decode cX10_whyNotIn 56 = .ok (.getfield 183, 3) := by decide +kernel
theorem dX10_whyNotIn_59 : decode cX10_whyNotIn 59 = .ok (.aload_n 0, 1) := by decide +kernel
theorem dX10_whyNotIn_60 : decode cX10_whyNotIn 60 = .ok (.getfield 47, 3) := by decide +kernel
theorem dX10_whyNotIn_63 : decode cX10_whyNotIn 63 = .ok (.iload_n 1, 1) := by decide +kernel
theorem dX10_whyNotIn_64 : decode cX10_whyNotIn 64 = .ok (.invokevirtual 186, 3) := by decide +kernel
theorem dX10_whyNotIn_67 : decode cX10_whyNotIn 67 = .ok (.iand, 1) := by decide +kernel
theorem dX10_whyNotIn_68 : decode cX10_whyNotIn 68 = .ok (.ifCond .eq 6, 3) := by decide +kernel
theorem dX10_whyNotIn_71 : decode cX10_whyNotIn 71 = .ok (.bipush 8, 2) := by decide +kernel
theorem dX10_whyNotIn_73 : decode cX10_whyNotIn 73 = .ok (.ireturn, 1) := by decide +kernel
theorem dX10_whyNotIn_74 : decode cX10_whyNotIn 74 = .ok (.iload_n 2, 1) := by decide +kernel
theorem dX10_whyNotIn_75 : decode cX10_whyNotIn 75 = .ok (.iload_n 1, 1) := by decide +kernel
theorem dX10_whyNotIn_76 : decode cX10_whyNotIn 76 = .ok (.invokestatic 148, 3) := by decide +kernel
theorem dX10_whyNotIn_79 : decode cX10_whyNotIn 79 = .ok (.ifCond .eq 6, 3) := by decide +kernel
theorem dX10_whyNotIn_82 : decode cX10_whyNotIn 82 = .ok (.bipush 9, 2) := by decide +kernel
theorem dX10_whyNotIn_84 : decode cX10_whyNotIn 84 = .ok (.ireturn, 1) := by decide +kernel
theorem dX10_whyNotIn_85 : decode cX10_whyNotIn 85 = .ok (.aload_n 0, 1) := by decide +kernel
theorem dX10_whyNotIn_86 : decode cX10_whyNotIn 86 = .ok (.aload_n 0, 1) := by decide +kernel
theorem dX10_whyNotIn_87 : decode cX10_whyNotIn 87 = .ok (.getfield 47, 3) := by decide +kernel
theorem dX10_whyNotIn_90 : decode cX10_whyNotIn 90 = .ok (.getfield 121, 3) := by decide +kernel
theorem dX10_whyNotIn_93 : decode cX10_whyNotIn 93 = .ok (.iload_n 1, 1) := by decide +kernel
theorem dX10_whyNotIn_94 : decode cX10_whyNotIn 94 = .ok (.iaload, 1) := by decide +kernel
theorem dX10_whyNotIn_95 : decode cX10_whyNotIn 95 = .ok (.invokevirtual 189, 3) := by decide +kernel
theorem dX10_whyNotIn_98 : decode cX10_whyNotIn 98 = .ok (.ifCond .ne 6, 3) := by decide +kernel
theorem dX10_whyNotIn_101 : decode cX10_whyNotIn 101 = .ok (.bipush 10, 2) := by decide +kernel
theorem dX10_whyNotIn_103 : decode cX10_whyNotIn 103 = .ok (.ireturn, 1) := by decide +kernel
theorem dX10_whyNotIn_104 : decode cX10_whyNotIn 104 = .ok (.aload_n 0, 1) := by decide +kernel
theorem dX10_whyNotIn_105 : decode cX10_whyNotIn 105 = .ok (.getfield 40, 3) := by decide +kernel
theorem dX10_whyNotIn_108 : decode cX10_whyNotIn 108 = .ok (.getfield 192, 3) := by decide +kernel
theorem dX10_whyNotIn_111 : decode cX10_whyNotIn 111 = .ok (.aload_n 0, 1) := by decide +kernel
theorem dX10_whyNotIn_112 : decode cX10_whyNotIn 112 = .ok (.getfield 47, 3) := by decide +kernel
theorem dX10_whyNotIn_115 : decode cX10_whyNotIn 115 = .ok (.getfield 195, 3) := by decide +kernel
theorem dX10_whyNotIn_118 : decode cX10_whyNotIn 118 = .ok (.iload_n 1, 1) := by decide +kernel
theorem dX10_whyNotIn_119 : decode cX10_whyNotIn 119 = .ok (.iaload, 1) := by decide +kernel
theorem dX10_whyNotIn_120 : decode cX10_whyNotIn 120 = .ok (.iaload, 1) := by decide +kernel
theorem dX10_whyNotIn_121 : decode cX10_whyNotIn 121 = .ok (.istore_n 3, 1) := by decide +kernel
theorem dX10_whyNotIn_122 : decode cX10_whyNotIn 122 = .ok (.aload_n 0, 1) := by decide +kernel
theorem dX10_whyNotIn_123 : decode cX10_whyNotIn 123 = .ok (.getfield 40, 3) := by decide +kernel
theorem dX10_whyNotIn_126 : decode cX10_whyNotIn 126 = .ok (.iload_n 3, 1) := by decide +kernel
theorem dX10_whyNotIn_127 : decode cX10_whyNotIn 127 = .ok (.aload_n 0, 1) := by decide +kernel
theorem dX10_whyNotIn_128 : decode cX10_whyNotIn 128 = .ok (.getfield 60, 3) := by decide +kernel
theorem dX10_whyNotIn_131 : decode cX10_whyNotIn 131 = .ok (.aload_n 0, 1) := by decide +kernel
theorem dX10_whyNotIn_132 : decode cX10_whyNotIn 132 = .ok (.getfield 47, 3) := by decide +kernel
theorem dX10_whyNotIn_135 : decode cX10_whyNotIn 135 = .ok (.getfield 198, 3) := by decide +kernel
theorem dX10_whyNotIn_138 : decode cX10_whyNotIn 138 = .ok (.iload_n 1, 1) := by decide +kernel
theorem dX10_whyNotIn_139 : decode cX10_whyNotIn 139 = .ok (.iaload, 1) := by decide +kernel
theorem dX10_whyNotIn_140 : decode cX10_whyNotIn 140 = .ok (.invokevirtual 201, 3) := by decide +kernel
theorem dX10_whyNotIn_143 : decode cX10_whyNotIn 143 = .ok (.ifCond .eq 7, 3) := by decide +kernel
theorem dX10_whyNotIn_146 : decode cX10_whyNotIn 146 = .ok (.iconst 0, 1) := by decide +kernel
theorem dX10_whyNotIn_147 : decode cX10_whyNotIn 147 = .ok (.goto 5, 3) := by decide +kernel
theorem dX10_whyNotIn_150 : decode cX10_whyNotIn 150 = .ok (.bipush 11, 2) := by decide +kernel
theorem dX10_whyNotIn_152 : decode cX10_whyNotIn 152 = .ok (.ireturn, 1) := by decide +kernel
theorem dX10_hasGear_0 : decode cX10_hasGear 0 = .ok (.iload_n 1, 1) := by decide +kernel
theorem dX10_hasGear_1 : decode cX10_hasGear 1 = .ok (.tableswitch 65 1 4 #[31, 65, 47, 63], 31) := by decide +kernel
theorem dX10_hasGear_32 : decode cX10_hasGear 32 = .ok (.aload_n 0, 1) := by decide +kernel
theorem dX10_hasGear_33 : decode cX10_hasGear 33 = .ok (.getfield 26, 3) := by decide +kernel
theorem dX10_hasGear_36 : decode cX10_hasGear 36 = .ok (.invokevirtual 205, 3) := by decide +kernel
theorem dX10_hasGear_39 : decode cX10_hasGear 39 = .ok (.ifCond .lt 7, 3) := by decide +kernel
theorem dX10_hasGear_42 : decode cX10_hasGear 42 = .ok (.iconst 1, 1) := by decide +kernel
theorem dX10_hasGear_43 : decode cX10_hasGear 43 = .ok (.goto 4, 3) := by decide +kernel
theorem dX10_hasGear_46 : decode cX10_hasGear 46 = .ok (.iconst 0, 1) := by decide +kernel
theorem dX10_hasGear_47 : decode cX10_hasGear 47 = .ok (.ireturn, 1) := by decide +kernel
theorem dX10_hasGear_48 : decode cX10_hasGear 48 = .ok (.aload_n 0, 1) := by decide +kernel
theorem dX10_hasGear_49 : decode cX10_hasGear 49 = .ok (.getfield 26, 3) := by decide +kernel
theorem dX10_hasGear_52 : decode cX10_hasGear 52 = .ok (.invokevirtual 209, 3) := by decide +kernel
theorem dX10_hasGear_55 : decode cX10_hasGear 55 = .ok (.ifCond .lt 7, 3) := by decide +kernel
theorem dX10_hasGear_58 : decode cX10_hasGear 58 = .ok (.iconst 1, 1) := by decide +kernel
theorem dX10_hasGear_59 : decode cX10_hasGear 59 = .ok (.goto 4, 3) := by decide +kernel
theorem dX10_hasGear_62 : decode cX10_hasGear 62 = .ok (.iconst 0, 1) := by decide +kernel
theorem dX10_hasGear_63 : decode cX10_hasGear 63 = .ok (.ireturn, 1) := by decide +kernel
theorem dX10_hasGear_64 : decode cX10_hasGear 64 = .ok (.iconst 1, 1) := by decide +kernel
theorem dX10_hasGear_65 : decode cX10_hasGear 65 = .ok (.ireturn, 1) := by decide +kernel
theorem dX10_hasGear_66 : decode cX10_hasGear 66 = .ok (.aload_n 0, 1) := by decide +kernel
theorem dX10_hasGear_67 : decode cX10_hasGear 67 = .ok (.getfield 33, 3) := by decide +kernel
theorem dX10_hasGear_70 : decode cX10_hasGear 70 = .ok (.invokevirtual 212, 3) := by decide +kernel
theorem dX10_hasGear_73 : decode cX10_hasGear 73 = .ok (.ifCond .lt 7, 3) := by decide +kernel
theorem dX10_hasGear_76 : decode cX10_hasGear 76 = .ok (.iconst 1, 1) := by decide +kernel
theorem dX10_hasGear_77 : decode cX10_hasGear 77 = .ok (.goto 4, 3) := by decide +kernel
theorem dX10_hasGear_80 : decode cX10_hasGear 80 = .ok (.iconst 0, 1) := by decide +kernel
theorem dX10_hasGear_81 : decode cX10_hasGear 81 = .ok (.ireturn, 1) := by decide +kernel
theorem dX10_useGear_0 : decode cX10_useGear 0 = .ok (.iload_n 1, 1) := by decide +kernel
theorem dX10_useGear_1 : decode cX10_useGear 1 = .ok (.tableswitch 54 1 4 #[31, 54, 41, 51], 31) := by decide +kernel
theorem dX10_useGear_32 : decode cX10_useGear 32 = .ok (.aload_n 0, 1) := by decide +kernel
theorem dX10_useGear_33 : decode cX10_useGear 33 = .ok (.getfield 26, 3) := by decide +kernel
theorem dX10_useGear_36 : decode cX10_useGear 36 = .ok (.invokevirtual 215, 3) := by decide +kernel
theorem dX10_useGear_39 : decode cX10_useGear 39 = .ok (.goto 31, 3) := by decide +kernel
theorem dX10_useGear_42 : decode cX10_useGear 42 = .ok (.aload_n 0, 1) := by decide +kernel
theorem dX10_useGear_43 : decode cX10_useGear 43 = .ok (.getfield 26, 3) := by decide +kernel
theorem dX10_useGear_46 : decode cX10_useGear 46 = .ok (.invokevirtual 218, 3) := by decide +kernel
theorem dX10_useGear_49 : decode cX10_useGear 49 = .ok (.goto 21, 3) := by decide +kernel
theorem dX10_useGear_52 : decode cX10_useGear 52 = .ok (.goto 18, 3) := by decide +kernel
theorem dX10_useGear_55 : decode cX10_useGear 55 = .ok (.aload_n 0, 1) := by decide +kernel
theorem dX10_useGear_56 : decode cX10_useGear 56 = .ok (.getfield 33, 3) := by decide +kernel
theorem dX10_useGear_59 : decode cX10_useGear 59 = .ok (.aload_n 0, 1) := by decide +kernel
theorem dX10_useGear_60 : decode cX10_useGear 60 = .ok (.getfield 60, 3) := by decide +kernel
theorem dX10_useGear_63 : decode cX10_useGear 63 = .ok (.iconst 2, 1) := by decide +kernel
theorem dX10_useGear_64 : decode cX10_useGear 64 = .ok (.iload_n 2, 1) := by decide +kernel
theorem dX10_useGear_65 : decode cX10_useGear 65 = .ok (.imul, 1) := by decide +kernel
theorem dX10_useGear_66 : decode cX10_useGear 66 = .ok (.iadd, 1) := by decide +kernel
theorem dX10_useGear_67 : decode cX10_useGear 67 = .ok (.invokevirtual 221, 3) := by decide +kernel
theorem dX10_useGear_70 : decode cX10_useGear 70 = .ok (.return_, 1) := by decide +kernel
theorem dX10_lands_0 : decode cX10_lands 0 = .ok (.aload_n 0, 1) := by decide +kernel
theorem dX10_lands_1 : decode cX10_lands 1 = .ok (.getfield 47, 3) := by decide +kernel
theorem dX10_lands_4 : decode cX10_lands 4 = .ok (.aload_n 0, 1) := by decide +kernel
theorem dX10_lands_5 : decode cX10_lands 5 = .ok (.getfield 60, 3) := by decide +kernel
theorem dX10_lands_8 : decode cX10_lands 8 = .ok (.aload_n 0, 1) := by decide +kernel
theorem dX10_lands_9 : decode cX10_lands 9 = .ok (.getfield 51, 3) := by decide +kernel
theorem dX10_lands_12 : decode cX10_lands 12 = .ok (.iconst 3, 1) := by decide +kernel
theorem dX10_lands_13 : decode cX10_lands 13 = .ok (.iaload, 1) := by decide +kernel
theorem dX10_lands_14 : decode cX10_lands 14 = .ok (.invokevirtual 224, 3) := by decide +kernel
theorem dX10_lands_17 : decode cX10_lands 17 = .ok (.istore_n 1, 1) := by decide +kernel
theorem dX10_lands_18 : decode cX10_lands 18 = .ok (.aload_n 0, 1) := by decide +kernel
theorem dX10_lands_19 : decode cX10_lands 19 = .ok (.getfield 40, 3) := by decide +kernel
theorem dX10_lands_22 : decode cX10_lands 22 = .ok (.aload_n 0, 1) := by decide +kernel
theorem dX10_lands_23 : decode cX10_lands 23 = .ok (.getfield 40, 3) := by decide +kernel
theorem dX10_lands_26 : decode cX10_lands 26 = .ok (.getfield 192, 3) := by decide +kernel
theorem dX10_lands_29 : decode cX10_lands 29 = .ok (.iconst 2, 1) := by decide +kernel
theorem dX10_lands_30 : decode cX10_lands 30 = .ok (.iaload, 1) := by decide +kernel
theorem dX10_lands_31 : decode cX10_lands 31 = .ok (.aload_n 0, 1) := by decide +kernel
theorem dX10_lands_32 : decode cX10_lands 32 = .ok (.getfield 60, 3) := by decide +kernel
theorem dX10_lands_35 : decode cX10_lands 35 = .ok (.iconst 2, 1) := by decide +kernel
theorem dX10_lands_36 : decode cX10_lands 36 = .ok (.invokevirtual 201, 3) := by decide +kernel
theorem dX10_lands_39 : decode cX10_lands 39 = .ok (.ifCond .eq 7, 3) := by decide +kernel
theorem dX10_lands_42 : decode cX10_lands 42 = .ok (.iload_n 1, 1) := by decide +kernel
theorem dX10_lands_43 : decode cX10_lands 43 = .ok (.goto 4, 3) := by decide +kernel
theorem dX10_lands_46 : decode cX10_lands 46 = .ok (.iconst (-1), 1) := by decide +kernel
theorem dX10_lands_47 : decode cX10_lands 47 = .ok (.ireturn, 1) := by decide +kernel
theorem dX10_starts_0 : decode cX10_starts 0 = .ok (.iconst 0, 1) := by decide +kernel
theorem dX10_starts_1 : decode cX10_starts 1 = .ok (.istore_n 2, 1) := by decide +kernel
theorem dX10_starts_2 : decode cX10_starts 2 = .ok (.iload_n 2, 1) := by decide +kernel
theorem dX10_starts_3 : decode cX10_starts 3 = .ok (.aload_n 0, 1) := by decide +kernel
theorem dX10_starts_4 : decode cX10_starts 4 = .ok (.getfield 47, 3) := by decide +kernel
theorem dX10_starts_7 : decode cX10_starts 7 = .ok (.getfield 105, 3) := by decide +kernel
theorem dX10_starts_10 : decode cX10_starts 10 = .ok (.if_icmp .ge 32, 3) := by decide +kernel
theorem dX10_starts_13 : decode cX10_starts 13 = .ok (.aload_n 0, 1) := by decide +kernel
theorem dX10_starts_14 : decode cX10_starts 14 = .ok (.getfield 47, 3) := by decide +kernel
theorem dX10_starts_17 : decode cX10_starts 17 = .ok (.getfield 108, 3) := by decide +kernel
theorem dX10_starts_20 : decode cX10_starts 20 = .ok (.iload_n 2, 1) := by decide +kernel
theorem dX10_starts_21 : decode cX10_starts 21 = .ok (.iaload, 1) := by decide +kernel
theorem dX10_starts_22 : decode cX10_starts 22 = .ok (.ifCond .ne 14, 3) := by decide +kernel
theorem dX10_starts_25 : decode cX10_starts 25 = .ok (.aload_n 0, 1) := by decide +kernel
theorem dX10_starts_26 : decode cX10_starts 26 = .ok (.iload_n 2, 1) := by decide +kernel
theorem dX10_starts_27 : decode cX10_starts 27 = .ok (.iload_n 1, 1) := by decide +kernel
theorem dX10_starts_28 : decode cX10_starts 28 = .ok (.invokevirtual 227, 3) := by decide +kernel
theorem dX10_starts_31 : decode cX10_starts 31 = .ok (.ifCond .ne 5, 3) := by decide +kernel
theorem dX10_starts_34 : decode cX10_starts 34 = .ok (.iload_n 2, 1) := by decide +kernel
theorem dX10_starts_35 : decode cX10_starts 35 = .ok (.ireturn, 1) := by decide +kernel
theorem dX10_starts_36 : decode cX10_starts 36 = .ok (.iinc 2 1, 3) := by decide +kernel
theorem dX10_starts_39 : decode cX10_starts 39 = .ok (.goto (-37), 3) := by decide +kernel
theorem dX10_starts_42 : decode cX10_starts 42 = .ok (.iconst (-1), 1) := by decide +kernel
theorem dX10_starts_43 : decode cX10_starts 43 = .ok (.ireturn, 1) := by decide +kernel
theorem dX10_isFetched_0 : decode cX10_isFetched 0 = .ok (.aload_n 0, 1) := by decide +kernel
theorem dX10_isFetched_1 : decode cX10_isFetched 1 = .ok (.getfield 26, 3) := by decide +kernel
theorem dX10_isFetched_4 : decode cX10_isFetched 4 = .ok (.invokevirtual 230, 3) := by decide +kernel
theorem dX10_isFetched_7 : decode cX10_isFetched 7 = .ok (.istore_n 1, 1) := by decide +kernel
theorem dX10_isFetched_8 : decode cX10_isFetched 8 = .ok (.aload_n 0, 1) := by decide +kernel
theorem dX10_isFetched_9 : decode cX10_isFetched 9 = .ok (.getfield 40, 3) := by decide +kernel
theorem dX10_isFetched_12 : decode cX10_isFetched 12 = .ok (.aload_n 0, 1) := by decide +kernel
theorem dX10_isFetched_13 : decode cX10_isFetched 13 = .ok (.getfield 40, 3) := by decide +kernel
theorem dX10_isFetched_16 : decode cX10_isFetched 16 = .ok (.getfield 192, 3) := by decide +kernel
theorem dX10_isFetched_19 : decode cX10_isFetched 19 = .ok (.iconst 3, 1) := by decide +kernel
theorem dX10_isFetched_20 : decode cX10_isFetched 20 = .ok (.iaload, 1) := by decide +kernel
theorem dX10_isFetched_21 : decode cX10_isFetched 21 = .ok (.aload_n 0, 1) := by decide +kernel
theorem dX10_isFetched_22 : decode cX10_isFetched 22 = .ok (.getfield 60, 3) := by decide +kernel
theorem dX10_isFetched_25 : decode cX10_isFetched 25 = .ok (.aload_n 0, 1) := by decide +kernel
theorem dX10_isFetched_26 : decode cX10_isFetched 26 = .ok (.getfield 51, 3) := by decide +kernel
theorem dX10_isFetched_29 : decode cX10_isFetched 29 = .ok (.iconst 0, 1) := by decide +kernel
theorem dX10_isFetched_30 : decode cX10_isFetched 30 = .ok (.iaload, 1) := by decide +kernel
theorem dX10_isFetched_31 : decode cX10_isFetched 31 = .ok (.invokevirtual 201, 3) := by decide +kernel
theorem dX10_isFetched_34 : decode cX10_isFetched 34 = .ok (.ifCond .eq 7, 3) := by decide +kernel
theorem dX10_isFetched_37 : decode cX10_isFetched 37 = .ok (.iload_n 1, 1) := by decide +kernel
theorem dX10_isFetched_38 : decode cX10_isFetched 38 = .ok (.goto 4, 3) := by decide +kernel
theorem dX10_isFetched_41 : decode cX10_isFetched 41 = .ok (.iconst (-1), 1) := by decide +kernel
theorem dX10_isFetched_42 : decode cX10_isFetched 42 = .ok (.ireturn, 1) := by decide +kernel
theorem dX10_first_0 : decode cX10_first 0 = .ok (.aload_n 0, 1) := by decide +kernel
theorem dX10_first_1 : decode cX10_first 1 = .ok (.invokevirtual 233, 3) := by decide +kernel
theorem dX10_first_4 : decode cX10_first 4 = .ok (.istore_n 2, 1) := by decide +kernel
theorem dX10_first_5 : decode cX10_first 5 = .ok (.iload_n 2, 1) := by decide +kernel
theorem dX10_first_6 : decode cX10_first 6 = .ok (.ifCond .lt 9, 3) := by decide +kernel
theorem dX10_first_9 : decode cX10_first 9 = .ok (.sipush 1000, 3) := by decide +kernel
theorem dX10_first_12 : decode cX10_first 12 = .ok (.iload_n 2, 1) := by decide +kernel
theorem dX10_first_13 : decode cX10_first 13 = .ok (.iadd, 1) := by decide +kernel
theorem dX10_first_14 : decode cX10_first 14 = .ok (.ireturn, 1) := by decide +kernel
theorem dX10_first_15 : decode cX10_first 15 = .ok (.aload_n 0, 1) := by decide +kernel
theorem dX10_first_16 : decode cX10_first 16 = .ok (.iload_n 1, 1) := by decide +kernel
theorem dX10_first_17 : decode cX10_first 17 = .ok (.invokevirtual 236, 3) := by decide +kernel
theorem dX10_first_20 : decode cX10_first 20 = .ok (.istore_n 3, 1) := by decide +kernel
theorem dX10_first_21 : decode cX10_first 21 = .ok (.iload_n 3, 1) := by decide +kernel
theorem dX10_first_22 : decode cX10_first 22 = .ok (.ifCond .lt 9, 3) := by decide +kernel
theorem dX10_first_25 : decode cX10_first 25 = .ok (.sipush 2000, 3) := by decide +kernel
theorem dX10_first_28 : decode cX10_first 28 = .ok (.iload_n 3, 1) := by decide +kernel
theorem dX10_first_29 : decode cX10_first 29 = .ok (.iadd, 1) := by decide +kernel
theorem dX10_first_30 : decode cX10_first 30 = .ok (.ireturn, 1) := by decide +kernel
theorem dX10_first_31 : decode cX10_first 31 = .ok (.aload_n 0, 1) := by decide +kernel
theorem dX10_first_32 : decode cX10_first 32 = .ok (.invokevirtual 239, 3) := by decide +kernel
theorem dX10_first_35 : decode cX10_first 35 = .ok (.istore 4, 2) := by decide +kernel
theorem dX10_first_37 : decode cX10_first 37 = .ok (.iload 4, 2) := by decide +kernel
theorem dX10_first_39 : decode cX10_first 39 = .ok (.ifCond .lt 12, 3) := by decide +kernel
theorem dX10_first_42 : decode cX10_first 42 = .ok (.sipush 3000, 3) := by decide +kernel
theorem dX10_first_45 : decode cX10_first 45 = .ok (.iload 4, 2) := by decide +kernel
theorem dX10_first_47 : decode cX10_first 47 = .ok (.iadd, 1) := by decide +kernel
theorem dX10_first_48 : decode cX10_first 48 = .ok (.goto 4, 3) := by decide +kernel
theorem dX10_first_51 : decode cX10_first 51 = .ok (.iconst 0, 1) := by decide +kernel
theorem dX10_first_52 : decode cX10_first 52 = .ok (.ireturn, 1) := by decide +kernel
theorem dX10_go_0 : decode cX10_go 0 = .ok (.aload_n 0, 1) := by decide +kernel
theorem dX10_go_1 : decode cX10_go 1 = .ok (.invokevirtual 242, 3) := by decide +kernel
theorem dX10_go_4 : decode cX10_go 4 = .ok (.istore_n 2, 1) := by decide +kernel
theorem dX10_go_5 : decode cX10_go 5 = .ok (.iconst 0, 1) := by decide +kernel
theorem dX10_go_6 : decode cX10_go 6 = .ok (.istore_n 3, 1) := by decide +kernel
theorem dX10_go_7 : decode cX10_go 7 = .ok (.iconst 0, 1) := by decide +kernel
theorem dX10_go_8 : decode cX10_go 8 = .ok (.istore 4, 2) := by decide +kernel
theorem dX10_go_10 : decode cX10_go 10 = .ok (.iload 4, 2) := by decide +kernel
theorem dX10_go_12 : decode cX10_go 12 = .ok (.iload_n 1, 1) := by decide +kernel
theorem dX10_go_13 : decode cX10_go 13 = .ok (.if_icmp .ge 17, 3) := by decide +kernel
theorem dX10_go_16 : decode cX10_go 16 = .ok (.iload_n 3, 1) := by decide +kernel
theorem dX10_go_17 : decode cX10_go 17 = .ok (.aload_n 0, 1) := by decide +kernel
theorem dX10_go_18 : decode cX10_go 18 = .ok (.iload_n 2, 1) := by decide +kernel
theorem dX10_go_19 : decode cX10_go 19 = .ok (.invokevirtual 245, 3) := by decide +kernel
theorem dX10_go_22 : decode cX10_go 22 = .ok (.iadd, 1) := by decide +kernel
theorem dX10_go_23 : decode cX10_go 23 = .ok (.istore_n 3, 1) := by decide +kernel
theorem dX10_go_24 : decode cX10_go 24 = .ok (.iinc 4 1, 3) := by decide +kernel
theorem dX10_go_27 : decode cX10_go 27 = .ok (.goto (-17), 3) := by decide +kernel
theorem dX10_go_30 : decode cX10_go 30 = .ok (.iload_n 3, 1) := by decide +kernel
theorem dX10_go_31 : decode cX10_go 31 = .ok (.ireturn, 1) := by decide +kernel
theorem dX10_goMinute_0 : decode cX10_goMinute 0 = .ok (.iconst 0, 1) := by decide +kernel
theorem dX10_goMinute_1 : decode cX10_goMinute 1 = .ok (.istore_n 2, 1) := by decide +kernel
theorem dX10_goMinute_2 : decode cX10_goMinute 2 = .ok (.aload_n 0, 1) := by decide +kernel
theorem dX10_goMinute_3 : decode cX10_goMinute 3 = .ok (.invokevirtual 233, 3) := by decide +kernel
theorem dX10_goMinute_6 : decode cX10_goMinute 6 = .ok (.istore_n 3, 1) := by decide +kernel
theorem dX10_goMinute_7 : decode cX10_goMinute 7 = .ok (.iload_n 3, 1) := by decide +kernel
theorem dX10_goMinute_8 : decode cX10_goMinute 8 = .ok (.ifCond .lt 14, 3) := by decide +kernel
theorem dX10_goMinute_11 : decode cX10_goMinute 11 = .ok (.aload_n 0, 1) := by decide +kernel
theorem dX10_goMinute_12 : decode cX10_goMinute 12 = .ok (.iload_n 3, 1) := by decide +kernel
theorem dX10_goMinute_13 : decode cX10_goMinute 13 = .ok (.invokevirtual 248, 3) := by decide +kernel
theorem dX10_goMinute_16 : decode cX10_goMinute 16 = .ok (.iinc 2 1000, 6) := by decide +kernel
theorem dX10_goMinute_22 : decode cX10_goMinute 22 = .ok (.aload_n 0, 1) := by decide +kernel
theorem dX10_goMinute_23 : decode cX10_goMinute 23 = .ok (.iload_n 1, 1) := by decide +kernel
theorem dX10_goMinute_24 : decode cX10_goMinute 24 = .ok (.invokevirtual 236, 3) := by decide +kernel
theorem dX10_goMinute_27 : decode cX10_goMinute 27 = .ok (.istore 4, 2) := by decide +kernel
theorem dX10_goMinute_29 : decode cX10_goMinute 29 = .ok (.iload 4, 2) := by decide +kernel
theorem dX10_goMinute_31 : decode cX10_goMinute 31 = .ok (.ifCond .lt 12, 3) := by decide +kernel
theorem dX10_goMinute_34 : decode cX10_goMinute 34 = .ok (.aload_n 0, 1) := by decide +kernel
theorem dX10_goMinute_35 : decode cX10_goMinute 35 = .ok (.iload 4, 2) := by decide +kernel
theorem dX10_goMinute_37 : decode cX10_goMinute 37 = .ok (.invokevirtual 251, 3) := by decide +kernel
theorem dX10_goMinute_40 : decode cX10_goMinute 40 = .ok (.iinc 2 1, 3) := by decide +kernel
theorem dX10_goMinute_43 : decode cX10_goMinute 43 = .ok (.aload_n 0, 1) := by decide +kernel
theorem dX10_goMinute_44 : decode cX10_goMinute 44 = .ok (.invokevirtual 239, 3) := by decide +kernel
theorem dX10_goMinute_47 : decode cX10_goMinute 47 = .ok (.istore 5, 2) := by decide +kernel
theorem dX10_goMinute_49 : decode cX10_goMinute 49 = .ok (.iload 5, 2) := by decide +kernel
theorem dX10_goMinute_51 : decode cX10_goMinute 51 = .ok (.ifCond .lt 41, 3) := by decide +kernel
theorem dX10_goMinute_54 : decode cX10_goMinute 54 = .ok (.aload_n 0, 1) := by decide +kernel
theorem dX10_goMinute_55 : decode cX10_goMinute 55 = .ok (.getfield 26, 3) := by decide +kernel
theorem dX10_goMinute_58 : decode cX10_goMinute 58 = .ok (.iload 5, 2) := by decide +kernel
theorem dX10_goMinute_60 : decode cX10_goMinute 60 = .ok (.aload_n 0, 1) := by decide +kernel
theorem dX10_goMinute_61 : decode cX10_goMinute 61 = .ok (.getfield 60, 3) := by decide +kernel
theorem dX10_goMinute_64 : decode cX10_goMinute 64 = .ok (.aload_n 0, 1) := by decide +kernel
theorem dX10_goMinute_65 : decode cX10_goMinute 65 = .ok (.getfield 51, 3) := by decide +kernel
theorem dX10_goMinute_68 : decode cX10_goMinute 68 = .ok (.iconst 0, 1) := by decide +kernel
theorem dX10_goMinute_69 : decode cX10_goMinute 69 = .ok (.iaload, 1) := by decide +kernel
theorem dX10_goMinute_70 : decode cX10_goMinute 70 = .ok (.iadd, 1) := by decide +kernel
theorem dX10_goMinute_71 : decode cX10_goMinute 71 = .ok (.invokevirtual 254, 3) := by decide +kernel
theorem dX10_goMinute_74 : decode cX10_goMinute 74 = .ok (.aload_n 0, 1) := by decide +kernel
theorem dX10_goMinute_75 : decode cX10_goMinute 75 = .ok (.getfield 40, 3) := by decide +kernel
theorem dX10_goMinute_78 : decode cX10_goMinute 78 = .ok (.iconst 3, 1) := by decide +kernel
theorem dX10_goMinute_79 : decode cX10_goMinute 79 = .ok (.aload_n 0, 1) := by decide +kernel
theorem dX10_goMinute_80 : decode cX10_goMinute 80 = .ok (.getfield 60, 3) := by decide +kernel
theorem dX10_goMinute_83 : decode cX10_goMinute 83 = .ok (.aload_n 0, 1) := by decide +kernel
theorem dX10_goMinute_84 : decode cX10_goMinute 84 = .ok (.getfield 51, 3) := by decide +kernel
theorem dX10_goMinute_87 : decode cX10_goMinute 87 = .ok (.iconst 0, 1) := by decide +kernel
theorem dX10_goMinute_88 : decode cX10_goMinute 88 = .ok (.iaload, 1) := by decide +kernel
theorem dX10_goMinute_89 : decode cX10_goMinute 89 = .ok (.invokevirtual 258, 3) := by decide +kernel
theorem dX10_goMinute_92 : decode cX10_goMinute 92 = .ok (.aload_n 0, 1) := by decide +kernel
theorem dX10_goMinute_93 : decode cX10_goMinute 93 = .ok (.invokevirtual 262, 3) := by decide +kernel
theorem dX10_goMinute_96 : decode cX10_goMinute 96 = .ok (.iload_n 2, 1) := by decide +kernel
theorem dX10_goMinute_97 : decode cX10_goMinute 97 = .ok (.ireturn, 1) := by decide +kernel
theorem dX10_comeDown_0 : decode cX10_comeDown 0 = .ok (.aload_n 0, 1) := by decide +kernel
theorem dX10_comeDown_1 : decode cX10_comeDown 1 = .ok (.getfield 47, 3) := by decide +kernel
theorem dX10_comeDown_4 : decode cX10_comeDown 4 = .ok (.getfield 159, 3) := by decide +kernel
theorem dX10_comeDown_7 : decode cX10_comeDown 7 = .ok (.iload_n 1, 1) := by decide +kernel
theorem dX10_comeDown_8 : decode cX10_comeDown 8 = .ok (.iaload, 1) := by decide +kernel
theorem dX10_comeDown_9 : decode cX10_comeDown 9 = .ok (.istore_n 2, 1) := by decide +kernel
theorem dX10_comeDown_10 : decode cX10_comeDown 10 = .ok (.aload_n 0, 1) := by decide +kernel
theorem dX10_comeDown_11 : decode cX10_comeDown 11 = .ok (.getfield 47, 3) := by decide +kernel
theorem dX10_comeDown_14 : decode cX10_comeDown 14 = .ok (.getfield 142, 3) := by decide +kernel
theorem dX10_comeDown_17 : decode cX10_comeDown 17 = .ok (.iload_n 1, 1) := by decide +kernel
theorem dX10_comeDown_18 : decode cX10_comeDown 18 = .ok (.iaload, 1) := by decide +kernel
theorem dX10_comeDown_19 : decode cX10_comeDown 19 = .ok (.istore_n 3, 1) := by decide +kernel
theorem dX10_comeDown_20 : decode cX10_comeDown 20 = .ok (.aload_n 0, 1) := by decide +kernel
theorem dX10_comeDown_21 : decode cX10_comeDown 21 = .ok (.iload_n 1, 1) := by decide +kernel
theorem dX10_comeDown_22 : decode cX10_comeDown 22 = .ok (.invokevirtual 265, 3) := by decide +kernel
theorem dX10_comeDown_25 : decode cX10_comeDown 25 = .ok (.istore 4, 2) := by decide +kernel
theorem dX10_comeDown_27 : decode cX10_comeDown 27 = .ok (.aload_n 0, 1) := by decide +kernel
theorem dX10_comeDown_28 : decode cX10_comeDown 28 = .ok (.getfield 40, 3) := by decide +kernel
theorem dX10_comeDown_31 : decode cX10_comeDown 31 = .ok (.iconst 2, 1) := by decide +kernel
theorem dX10_comeDown_32 : decode cX10_comeDown 32 = .ok (.aload_n 0, 1) := by decide +kernel
theorem dX10_comeDown_33 : decode cX10_comeDown 33 = .ok (.getfield 60, 3) := by decide +kernel
theorem dX10_comeDown_36 : decode cX10_comeDown 36 = .ok (.iconst 2, 1) := by decide +kernel
theorem dX10_comeDown_37 : decode cX10_comeDown 37 = .ok (.invokevirtual 258, 3) := by decide +kernel
theorem dX10_comeDown_40 : decode cX10_comeDown 40 = .ok (.aload_n 0, 1) := by decide +kernel
theorem dX10_comeDown_41 : decode cX10_comeDown 41 = .ok (.getfield 47, 3) := by decide +kernel
theorem dX10_comeDown_44 : decode cX10_comeDown 44 = .ok (.getfield 108, 3) := by decide +kernel
theorem dX10_comeDown_47 : decode cX10_comeDown 47 = .ok (.iload_n 1, 1) := by decide +kernel
theorem dX10_comeDown_48 : decode cX10_comeDown 48 = .ok (.iconst 2, 1) := by decide +kernel
theorem dX10_comeDown_49 : decode cX10_comeDown 49 = .ok (.iastore, 1) := by decide +kernel
theorem dX10_comeDown_50 : decode cX10_comeDown 50 = .ok (.aload_n 0, 1) := by decide +kernel
theorem dX10_comeDown_51 : decode cX10_comeDown 51 = .ok (.getfield 47, 3) := by decide +kernel
theorem dX10_comeDown_54 : decode cX10_comeDown 54 = .ok (.getfield 268, 3) := by decide +kernel
theorem dX10_comeDown_57 : decode cX10_comeDown 57 = .ok (.iload_n 1, 1) := by decide +kernel
theorem dX10_comeDown_58 : decode cX10_comeDown 58 = .ok (.aload_n 0, 1) := by decide +kernel
theorem dX10_comeDown_59 : decode cX10_comeDown 59 = .ok (.getfield 60, 3) := by decide +kernel
theorem dX10_comeDown_62 : decode cX10_comeDown 62 = .ok (.iastore, 1) := by decide +kernel
theorem dX10_comeDown_63 : decode cX10_comeDown 63 = .ok (.aload_n 0, 1) := by decide +kernel
theorem dX10_comeDown_64 : decode cX10_comeDown 64 = .ok (.getfield 47, 3) := by decide +kernel
theorem dX10_comeDown_67 : decode cX10_comeDown 67 = .ok (.getfield 271, 3) := by decide +kernel
theorem dX10_comeDown_70 : decode cX10_comeDown 70 = .ok (.iload_n 1, 1) := by decide +kernel
theorem dX10_comeDown_71 : decode cX10_comeDown 71 = .ok (.iload 4, 2) := by decide +kernel
theorem dX10_comeDown_73 : decode cX10_comeDown 73 = .ok (.iastore, 1) := by decide +kernel
theorem dX10_comeDown_74 : decode cX10_comeDown 74 = .ok (.aload_n 0, 1) := by decide +kernel
theorem dX10_comeDown_75 : decode cX10_comeDown 75 = .ok (.getfield 19, 3) := by decide +kernel
theorem dX10_comeDown_78 : decode cX10_comeDown 78 = .ok (.getfield 274, 3) := by decide +kernel
theorem dX10_comeDown_81 : decode cX10_comeDown 81 = .ok (.iload_n 2, 1) := by decide +kernel
theorem dX10_comeDown_82 : decode cX10_comeDown 82 = .ok (.dup2, 1) := by decide +kernel
theorem dX10_comeDown_83 : decode cX10_comeDown 83 = .ok (.iaload, 1) := by decide +kernel
theorem dX10_comeDown_84 : decode cX10_comeDown 84 = .ok (.iload 4, 2) := by decide +kernel
theorem dX10_comeDown_86 : decode cX10_comeDown 86 = .ok (.iadd, 1) := by decide +kernel
theorem dX10_comeDown_87 : decode cX10_comeDown 87 = .ok (.iastore, 1) := by decide +kernel
theorem dX10_comeDown_88 : decode cX10_comeDown 88 = .ok (.aload_n 0, 1) := by decide +kernel
theorem dX10_comeDown_89 : decode cX10_comeDown 89 = .ok (.getfield 19, 3) := by decide +kernel
theorem dX10_comeDown_92 : decode cX10_comeDown 92 = .ok (.getfield 168, 3) := by decide +kernel
theorem dX10_comeDown_95 : decode cX10_comeDown 95 = .ok (.iload_n 2, 1) := by decide +kernel
theorem dX10_comeDown_96 : decode cX10_comeDown 96 = .ok (.aload_n 0, 1) := by decide +kernel
theorem dX10_comeDown_97 : decode cX10_comeDown 97 = .ok (.getfield 60, 3) := by decide +kernel
theorem dX10_comeDown_100 : decode cX10_comeDown 100 = .ok (.iastore, 1) := by decide +kernel
theorem dX10_comeDown_101 : decode cX10_comeDown 101 = .ok (.iload_n 3, 1) := by decide +kernel
theorem dX10_comeDown_102 : decode cX10_comeDown 102 = .ok (.ifCond .lt 16, 3) := by decide +kernel
theorem dX10_comeDown_105 : decode cX10_comeDown 105 = .ok (.aload_n 0, 1) := by decide +kernel
theorem dX10_comeDown_106 : decode cX10_comeDown 106 = .ok (.getfield 19, 3) := by decide +kernel
theorem dX10_comeDown_109 : decode cX10_comeDown 109 = .ok (.getfield 168, 3) := by decide +kernel
theorem dX10_comeDown_112 : decode cX10_comeDown 112 = .ok (.iload_n 3, 1) := by decide +kernel
theorem dX10_comeDown_113 : decode cX10_comeDown 113 = .ok (.aload_n 0, 1) := by decide +kernel
theorem dX10_comeDown_114 : decode cX10_comeDown 114 = .ok (.getfield 60, 3) := by decide +kernel
theorem dX10_comeDown_117 : decode cX10_comeDown 117 = .ok (.iastore, 1) := by decide +kernel
theorem dX10_comeDown_118 : decode cX10_comeDown 118 = .ok (.aload_n 0, 1) := by decide +kernel
theorem dX10_comeDown_119 : decode cX10_comeDown 119 = .ok (.getfield 19, 3) := by decide +kernel
theorem dX10_comeDown_122 : decode cX10_comeDown 122 = .ok (.dup, 1) := by decide +kernel
theorem dX10_comeDown_123 : decode cX10_comeDown 123 = .ok (.getfield 183, 3) := by decide +kernel
theorem dX10_comeDown_126 : decode cX10_comeDown 126 = .ok (.aload_n 0, 1) := by decide +kernel
theorem dX10_comeDown_127 : decode cX10_comeDown 127 = .ok (.getfield 47, 3) := by decide +kernel
theorem dX10_comeDown_130 : decode cX10_comeDown 130 = .ok (.iload_n 1, 1) := by decide +kernel
theorem dX10_comeDown_131 : decode cX10_comeDown 131 = .ok (.invokevirtual 186, 3) := by decide +kernel
theorem dX10_comeDown_134 : decode cX10_comeDown 134 = .ok (.iconst (-1), 1) := by decide +kernel
theorem dX10_comeDown_135 : decode cX10_comeDown 135 = .ok (.ixor, 1) := by decide +kernel
theorem dX10_comeDown_136 : decode cX10_comeDown 136 = .ok (.iand, 1) := by decide +kernel
theorem dX10_comeDown_137 : decode cX10_comeDown 137 = .ok (.putfield 183, 3) := by decide +kernel
theorem dX10_comeDown_140 : decode cX10_comeDown 140 = .ok (.aload_n 0, 1) := by decide +kernel
theorem dX10_comeDown_141 : decode cX10_comeDown 141 = .ok (.getfield 10, 3) := by decide +kernel
theorem dX10_comeDown_144 : decode cX10_comeDown 144 = .ok (.aload_n 0, 1) := by decide +kernel
theorem dX10_comeDown_145 : decode cX10_comeDown 145 = .ok (.getfield 10, 3) := by decide +kernel
theorem dX10_comeDown_148 : decode cX10_comeDown 148 = .ok (.getfield 145, 3) := by decide +kernel
theorem dX10_comeDown_151 : decode cX10_comeDown 151 = .ok (.aload_n 0, 1) := by decide +kernel
theorem dX10_comeDown_152 : decode cX10_comeDown 152 = .ok (.getfield 47, 3) := by decide +kernel
theorem dX10_comeDown_155 : decode cX10_comeDown 155 = .ok (.getfield 139, 3) := by decide +kernel
theorem dX10_comeDown_158 : decode cX10_comeDown 158 = .ok (.iload_n 1, 1) := by decide +kernel
theorem dX10_comeDown_159 : decode cX10_comeDown 159 = .ok (.iaload, 1) := by decide +kernel
theorem dX10_comeDown_160 : decode cX10_comeDown 160 = .ok (.iconst 0, 1) := by decide +kernel
theorem dX10_comeDown_161 : decode cX10_comeDown 161 = .ok (.invokestatic 277, 3) := by decide +kernel
theorem dX10_comeDown_164 : decode cX10_comeDown 164 = .ok (.putfield 145, 3) := by decide +kernel
theorem dX10_comeDown_167 : decode cX10_comeDown 167 = .ok (.return_, 1) := by decide +kernel
theorem dX10_takeOff_0 : decode cX10_takeOff 0 = .ok (.aload_n 0, 1) := by decide +kernel
theorem dX10_takeOff_1 : decode cX10_takeOff 1 = .ok (.getfield 40, 3) := by decide +kernel
theorem dX10_takeOff_4 : decode cX10_takeOff 4 = .ok (.aload_n 0, 1) := by decide +kernel
theorem dX10_takeOff_5 : decode cX10_takeOff 5 = .ok (.getfield 47, 3) := by decide +kernel
theorem dX10_takeOff_8 : decode cX10_takeOff 8 = .ok (.getfield 195, 3) := by decide +kernel
theorem dX10_takeOff_11 : decode cX10_takeOff 11 = .ok (.iload_n 1, 1) := by decide +kernel
theorem dX10_takeOff_12 : decode cX10_takeOff 12 = .ok (.iaload, 1) := by decide +kernel
theorem dX10_takeOff_13 : decode cX10_takeOff 13 = .ok (.aload_n 0, 1) := by decide +kernel
theorem dX10_takeOff_14 : decode cX10_takeOff 14 = .ok (.getfield 60, 3) := by decide +kernel
theorem dX10_takeOff_17 : decode cX10_takeOff 17 = .ok (.aload_n 0, 1) := by decide +kernel
theorem dX10_takeOff_18 : decode cX10_takeOff 18 = .ok (.getfield 47, 3) := by decide +kernel
theorem dX10_takeOff_21 : decode cX10_takeOff 21 = .ok (.getfield 198, 3) := by decide +kernel
theorem dX10_takeOff_24 : decode cX10_takeOff 24 = .ok (.iload_n 1, 1) := by decide +kernel
theorem dX10_takeOff_25 : decode cX10_takeOff 25 = .ok (.iaload, 1) := by decide +kernel
theorem dX10_takeOff_26 : decode cX10_takeOff 26 = .ok (.invokevirtual 258, 3) := by decide +kernel
theorem dX10_takeOff_29 : decode cX10_takeOff 29 = .ok (.aload_n 0, 1) := by decide +kernel
theorem dX10_takeOff_30 : decode cX10_takeOff 30 = .ok (.aload_n 0, 1) := by decide +kernel
theorem dX10_takeOff_31 : decode cX10_takeOff 31 = .ok (.getfield 47, 3) := by decide +kernel
theorem dX10_takeOff_34 : decode cX10_takeOff 34 = .ok (.getfield 121, 3) := by decide +kernel
theorem dX10_takeOff_37 : decode cX10_takeOff 37 = .ok (.iload_n 1, 1) := by decide +kernel
theorem dX10_takeOff_38 : decode cX10_takeOff 38 = .ok (.iaload, 1) := by decide +kernel
theorem dX10_takeOff_39 : decode cX10_takeOff 39 = .ok (.aload_n 0, 1) := by decide +kernel
theorem dX10_takeOff_40 : decode cX10_takeOff 40 = .ok (.getfield 47, 3) := by decide +kernel
theorem dX10_takeOff_43 : decode cX10_takeOff 43 = .ok (.getfield 198, 3) := by decide +kernel
theorem dX10_takeOff_46 : decode cX10_takeOff 46 = .ok (.iload_n 1, 1) := by decide +kernel
theorem dX10_takeOff_47 : decode cX10_takeOff 47 = .ok (.iaload, 1) := by decide +kernel
theorem dX10_takeOff_48 : decode cX10_takeOff 48 = .ok (.invokevirtual 281, 3) := by decide +kernel
theorem dX10_takeOff_51 : decode cX10_takeOff 51 = .ok (.aload_n 0, 1) := by decide +kernel
theorem dX10_takeOff_52 : decode cX10_takeOff 52 = .ok (.getfield 47, 3) := by decide +kernel
theorem dX10_takeOff_55 : decode cX10_takeOff 55 = .ok (.getfield 108, 3) := by decide +kernel
theorem dX10_takeOff_58 : decode cX10_takeOff 58 = .ok (.iload_n 1, 1) := by decide +kernel
theorem dX10_takeOff_59 : decode cX10_takeOff 59 = .ok (.iconst 1, 1) := by decide +kernel
theorem dX10_takeOff_60 : decode cX10_takeOff 60 = .ok (.iastore, 1) := by decide +kernel
theorem dX10_takeOff_61 : decode cX10_takeOff 61 = .ok (.aload_n 0, 1) := by decide +kernel
theorem dX10_takeOff_62 : decode cX10_takeOff 62 = .ok (.getfield 47, 3) := by decide +kernel
theorem dX10_takeOff_65 : decode cX10_takeOff 65 = .ok (.getfield 284, 3) := by decide +kernel
theorem dX10_takeOff_68 : decode cX10_takeOff 68 = .ok (.iload_n 1, 1) := by decide +kernel
theorem dX10_takeOff_69 : decode cX10_takeOff 69 = .ok (.aload_n 0, 1) := by decide +kernel
theorem dX10_takeOff_70 : decode cX10_takeOff 70 = .ok (.getfield 60, 3) := by decide +kernel
theorem dX10_takeOff_73 : decode cX10_takeOff 73 = .ok (.iastore, 1) := by decide +kernel
theorem dX10_takeOff_74 : decode cX10_takeOff 74 = .ok (.aload_n 0, 1) := by decide +kernel
theorem dX10_takeOff_75 : decode cX10_takeOff 75 = .ok (.getfield 19, 3) := by decide +kernel
theorem dX10_takeOff_78 : decode cX10_takeOff 78 = .ok (.dup, 1) := by decide +kernel
theorem dX10_takeOff_79 : decode cX10_takeOff 79 = .ok (.getfield 183, 3) := by decide +kernel
theorem dX10_takeOff_82 : decode cX10_takeOff 82 = .ok (.aload_n 0, 1) := by decide +kernel
theorem dX10_takeOff_83 : decode cX10_takeOff 83 = .ok (.getfield 47, 3) := by decide +kernel
theorem dX10_takeOff_86 : decode cX10_takeOff 86 = .ok (.iload_n 1, 1) := by decide +kernel
theorem dX10_takeOff_87 : decode cX10_takeOff 87 = .ok (.invokevirtual 186, 3) := by decide +kernel
theorem dX10_takeOff_90 : decode cX10_takeOff 90 = .ok (.ior, 1) := by decide +kernel
theorem dX10_takeOff_91 : decode cX10_takeOff 91 = .ok (.putfield 183, 3) := by decide +kernel
theorem dX10_takeOff_94 : decode cX10_takeOff 94 = .ok (.aload_n 0, 1) := by decide +kernel
theorem dX10_takeOff_95 : decode cX10_takeOff 95 = .ok (.getfield 10, 3) := by decide +kernel
theorem dX10_takeOff_98 : decode cX10_takeOff 98 = .ok (.aload_n 0, 1) := by decide +kernel
theorem dX10_takeOff_99 : decode cX10_takeOff 99 = .ok (.getfield 10, 3) := by decide +kernel
theorem dX10_takeOff_102 : decode cX10_takeOff 102 = .ok (.getfield 145, 3) := by decide +kernel
theorem dX10_takeOff_105 : decode cX10_takeOff 105 = .ok (.aload_n 0, 1) := by decide +kernel
theorem dX10_takeOff_106 : decode cX10_takeOff 106 = .ok (.getfield 47, 3) := by decide +kernel
theorem dX10_takeOff_109 : decode cX10_takeOff 109 = .ok (.getfield 139, 3) := by decide +kernel
theorem dX10_takeOff_112 : decode cX10_takeOff 112 = .ok (.iload_n 1, 1) := by decide +kernel
theorem dX10_takeOff_113 : decode cX10_takeOff 113 = .ok (.iaload, 1) := by decide +kernel
theorem dX10_takeOff_114 : decode cX10_takeOff 114 = .ok (.iconst 1, 1) := by decide +kernel
theorem dX10_takeOff_115 : decode cX10_takeOff 115 = .ok (.invokestatic 277, 3) := by decide +kernel
theorem dX10_takeOff_118 : decode cX10_takeOff 118 = .ok (.putfield 145, 3) := by decide +kernel
theorem dX10_takeOff_121 : decode cX10_takeOff 121 = .ok (.return_, 1) := by decide +kernel
theorem dX10_openNext_0 : decode cX10_openNext 0 = .ok (.aload_n 0, 1) := by decide +kernel
theorem dX10_openNext_1 : decode cX10_openNext 1 = .ok (.dup, 1) := by decide +kernel
theorem dX10_openNext_2 : decode cX10_openNext 2 = .ok (.getfield 60, 3) := by decide +kernel
theorem dX10_openNext_5 : decode cX10_openNext 5 = .ok (.iconst 1, 1) := by decide +kernel
theorem dX10_openNext_6 : decode cX10_openNext 6 = .ok (.iadd, 1) := by decide +kernel
theorem dX10_openNext_7 : decode cX10_openNext 7 = .ok (.putfield 60, 3) := by decide +kernel
theorem dX10_openNext_10 : decode cX10_openNext 10 = .ok (.aload_n 0, 1) := by decide +kernel
theorem dX10_openNext_11 : decode cX10_openNext 11 = .ok (.getfield 26, 3) := by decide +kernel
theorem dX10_openNext_14 : decode cX10_openNext 14 = .ok (.aload_n 0, 1) := by decide +kernel
theorem dX10_openNext_15 : decode cX10_openNext 15 = .ok (.getfield 60, 3) := by decide +kernel
theorem dX10_openNext_18 : decode cX10_openNext 18 = .ok (.invokevirtual 287, 3) := by decide +kernel
theorem dX10_openNext_21 : decode cX10_openNext 21 = .ok (.aload_n 0, 1) := by decide +kernel
theorem dX10_openNext_22 : decode cX10_openNext 22 = .ok (.getfield 33, 3) := by decide +kernel
theorem dX10_openNext_25 : decode cX10_openNext 25 = .ok (.aload_n 0, 1) := by decide +kernel
theorem dX10_openNext_26 : decode cX10_openNext 26 = .ok (.getfield 60, 3) := by decide +kernel
theorem dX10_openNext_29 : decode cX10_openNext 29 = .ok (.invokevirtual 290, 3) := by decide +kernel
theorem dX10_openNext_32 : decode cX10_openNext 32 = .ok (.aload_n 0, 1) := by decide +kernel
theorem dX10_openNext_33 : decode cX10_openNext 33 = .ok (.getfield 40, 3) := by decide +kernel
theorem dX10_openNext_36 : decode cX10_openNext 36 = .ok (.aload_n 0, 1) := by decide +kernel
theorem dX10_openNext_37 : decode cX10_openNext 37 = .ok (.getfield 60, 3) := by decide +kernel
theorem dX10_openNext_40 : decode cX10_openNext 40 = .ok (.invokevirtual 291, 3) := by decide +kernel
theorem dX10_openNext_43 : decode cX10_openNext 43 = .ok (.return_, 1) := by decide +kernel
theorem dX10_costOf_0 : decode cX10_costOf 0 = .ok (.aload_n 0, 1) := by decide +kernel
theorem dX10_costOf_1 : decode cX10_costOf 1 = .ok (.getfield 47, 3) := by decide +kernel
theorem dX10_costOf_4 : decode cX10_costOf 4 = .ok (.getfield 198, 3) := by decide +kernel
theorem dX10_costOf_7 : decode cX10_costOf 7 = .ok (.iload_n 1, 1) := by decide +kernel
theorem dX10_costOf_8 : decode cX10_costOf 8 = .ok (.iaload, 1) := by decide +kernel
theorem dX10_costOf_9 : decode cX10_costOf 9 = .ok (.istore_n 2, 1) := by decide +kernel
theorem dX10_costOf_10 : decode cX10_costOf 10 = .ok (.aload_n 0, 1) := by decide +kernel
theorem dX10_costOf_11 : decode cX10_costOf 11 = .ok (.getfield 47, 3) := by decide +kernel
theorem dX10_costOf_14 : decode cX10_costOf 14 = .ok (.getfield 115, 3) := by decide +kernel
theorem dX10_costOf_17 : decode cX10_costOf 17 = .ok (.iload_n 1, 1) := by decide +kernel
theorem dX10_costOf_18 : decode cX10_costOf 18 = .ok (.iaload, 1) := by decide +kernel
theorem dX10_costOf_19 : decode cX10_costOf 19 = .ok (.istore_n 3, 1) := by decide +kernel
theorem dX10_costOf_20 : decode cX10_costOf 20 = .ok (.aload_n 0, 1) := by decide +kernel
theorem dX10_costOf_21 : decode cX10_costOf 21 = .ok (.getfield 60, 3) := by decide +kernel
theorem dX10_costOf_24 : decode cX10_costOf 24 = .ok (.aload_n 0, 1) := by decide +kernel
theorem dX10_costOf_25 : decode cX10_costOf 25 = .ok (.getfield 47, 3) := by decide +kernel
theorem dX10_costOf_28 : decode cX10_costOf 28 = .ok (.getfield 284, 3) := by decide +kernel
theorem dX10_costOf_31 : decode cX10_costOf 31 = .ok (.iload_n 1, 1) := by decide +kernel
theorem dX10_costOf_32 : decode cX10_costOf 32 = .ok (.iaload, 1) := by decide +kernel
theorem dX10_costOf_33 : decode cX10_costOf 33 = .ok (.isub, 1) := by decide +kernel
theorem dX10_costOf_34 : decode cX10_costOf 34 = .ok (.iload_n 2, 1) := by decide +kernel
theorem dX10_costOf_35 : decode cX10_costOf 35 = .ok (.isub, 1) := by decide +kernel
theorem dX10_costOf_36 : decode cX10_costOf 36 = .ok (.istore 4, 2) := by decide +kernel
theorem dX10_costOf_38 : decode cX10_costOf 38 = .ok (.aload_n 0, 1) := by decide +kernel
theorem dX10_costOf_39 : decode cX10_costOf 39 = .ok (.getfield 57, 3) := by decide +kernel
theorem dX10_costOf_42 : decode cX10_costOf 42 = .ok (.iconst 1, 1) := by decide +kernel
theorem dX10_costOf_43 : decode cX10_costOf 43 = .ok (.iaload, 1) := by decide +kernel
theorem dX10_costOf_44 : decode cX10_costOf 44 = .ok (.istore 5, 2) := by decide +kernel
theorem dX10_costOf_46 : decode cX10_costOf 46 = .ok (.bipush 10, 2) := by decide +kernel
theorem dX10_costOf_48 : decode cX10_costOf 48 = .ok (.iload_n 2, 1) := by decide +kernel
theorem dX10_costOf_49 : decode cX10_costOf 49 = .ok (.imul, 1) := by decide +kernel
theorem dX10_costOf_50 : decode cX10_costOf 50 = .ok (.iconst 2, 1) := by decide +kernel
theorem dX10_costOf_51 : decode cX10_costOf 51 = .ok (.iload_n 3, 1) := by decide +kernel
theorem dX10_costOf_52 : decode cX10_costOf 52 = .ok (.imul, 1) := by decide +kernel
theorem dX10_costOf_53 : decode cX10_costOf 53 = .ok (.iadd, 1) := by decide +kernel
theorem dX10_costOf_54 : decode cX10_costOf 54 = .ok (.iload 4, 2) := by decide +kernel
theorem dX10_costOf_56 : decode cX10_costOf 56 = .ok (.iadd, 1) := by decide +kernel
theorem dX10_costOf_57 : decode cX10_costOf 57 = .ok (.istore 6, 2) := by decide +kernel
theorem dX10_costOf_59 : decode cX10_costOf 59 = .ok (.iload 5, 2) := by decide +kernel
theorem dX10_costOf_61 : decode cX10_costOf 61 = .ok (.ifCond .lt 30, 3) := by decide +kernel
theorem dX10_costOf_64 : decode cX10_costOf 64 = .ok (.aload_n 0, 1) := by decide +kernel
theorem dX10_costOf_65 : decode cX10_costOf 65 = .ok (.getfield 73, 3) := by decide +kernel
theorem dX10_costOf_68 : decode cX10_costOf 68 = .ok (.iload 5, 2) := by decide +kernel
theorem dX10_costOf_70 : decode cX10_costOf 70 = .ok (.iload_n 3, 1) := by decide +kernel
theorem dX10_costOf_71 : decode cX10_costOf 71 = .ok (.iload 4, 2) := by decide +kernel
theorem dX10_costOf_73 : decode cX10_costOf 73 = .ok (.aload_n 0, 1) := by decide +kernel
theorem dX10_costOf_74 : decode cX10_costOf 74 = .ok (.getfield 47, 3) := by decide +kernel
theorem dX10_costOf_77 : decode cX10_costOf 77 = .ok (.getfield 121, 3) := by decide +kernel
theorem dX10_costOf_80 : decode cX10_costOf 80 = .ok (.iload_n 1, 1) := by decide +kernel
theorem dX10_costOf_81 : decode cX10_costOf 81 = .ok (.iaload, 1) := by decide +kernel
theorem dX10_costOf_82 : decode cX10_costOf 82 = .ok (.aload_n 0, 1) := by decide +kernel
theorem dX10_costOf_83 : decode cX10_costOf 83 = .ok (.getfield 64, 3) := by decide +kernel
theorem dX10_costOf_86 : decode cX10_costOf 86 = .ok (.invokevirtual 124, 3) := by decide +kernel
theorem dX10_costOf_89 : decode cX10_costOf 89 = .ok (.istore 6, 2) := by decide +kernel
theorem dX10_costOf_91 : decode cX10_costOf 91 = .ok (.iconst 0, 1) := by decide +kernel
theorem dX10_costOf_92 : decode cX10_costOf 92 = .ok (.sipush 9999, 3) := by decide +kernel
theorem dX10_costOf_95 : decode cX10_costOf 95 = .ok (.iload 6, 2) := by decide +kernel
theorem dX10_costOf_97 : decode cX10_costOf 97 = .ok (.invokestatic 292, 3) := by decide +kernel
theorem dX10_costOf_100 : decode cX10_costOf 100 = .ok (.invokestatic 297, 3) := by decide +kernel
theorem dX10_costOf_103 : decode cX10_costOf 103 = .ok (.ireturn, 1) := by decide +kernel
