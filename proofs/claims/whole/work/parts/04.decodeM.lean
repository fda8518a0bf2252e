theorem dX11_init_0 : decode cX11_init 0 = .ok (.aload_n 0, 1) := by decide +kernel
theorem dX11_init_1 : decode cX11_init 1 = .ok (.invokespecial 1, 3) := by decide +kernel
theorem dX11_init_4 : decode cX11_init 4 = .ok (.aload_n 0, 1) := by decide +kernel
theorem dX11_init_5 : decode cX11_init 5 = .ok (.bipush 36, 2) := by decide +kernel
theorem dX11_init_7 : decode cX11_init 7 = .ok (.newarray .int, 2) := by decide +kernel
theorem dX11_init_9 : decode cX11_init 9 = .ok (.putfield 7, 3) := by decide +kernel
theorem dX11_init_12 : decode cX11_init 12 = .ok (.aload_n 0, 1) := by decide +kernel
theorem dX11_init_13 : decode cX11_init 13 = .ok (.bipush 36, 2) := by decide +kernel
theorem dX11_init_15 : decode cX11_init 15 = .ok (.newarray .boolean, 2) := by decide +kernel
theorem dX11_init_17 : decode cX11_init 17 = .ok (.putfield 13, 3) := by decide +kernel
theorem dX11_init_20 : decode cX11_init 20 = .ok (.aload_n 0, 1) := by decide +kernel
theorem dX11_init_21 : decode cX11_init 21 = .ok (.bipush 6, 2) := by decide +kernel
theorem dX11_init_23 : decode cX11_init 23 = .ok (.newarray .int, 2) := by decide +kernel
theorem dX11_init_25 : decode cX11_init 25 = .ok (.putfield 17, 3) := by decide +kernel
theorem dX11_init_28 : decode cX11_init 28 = .ok (.aload_n 0, 1) := by decide +kernel
theorem dX11_init_29 : decode cX11_init 29 = .ok (.bipush 41, 2) := by decide +kernel
theorem dX11_init_31 : decode cX11_init 31 = .ok (.putfield 20, 3) := by decide +kernel
theorem dX11_init_34 : decode cX11_init 34 = .ok (.aload_n 0, 1) := by decide +kernel
theorem dX11_init_35 : decode cX11_init 35 = .ok (.iconst 5, 1) := by decide +kernel
theorem dX11_init_36 : decode cX11_init 36 = .ok (.newarray .int, 2) := by decide +kernel
theorem dX11_init_38 : decode cX11_init 38 = .ok (.putfield 24, 3) := by decide +kernel
theorem dX11_init_41 : decode cX11_init 41 = .ok (.aload_n 0, 1) := by decide +kernel
theorem dX11_init_42 : decode cX11_init 42 = .ok (.bipush 100, 2) := by decide +kernel
theorem dX11_init_44 : decode cX11_init 44 = .ok (.newarray .int, 2) := by decide +kernel
theorem dX11_init_46 : decode cX11_init 46 = .ok (.putfield 27, 3) := by decide +kernel
theorem dX11_init_49 : decode cX11_init 49 = .ok (.aload_n 0, 1) := by decide +kernel
theorem dX11_init_50 : decode cX11_init 50 = .ok (.iconst 5, 1) := by decide +kernel
theorem dX11_init_51 : decode cX11_init 51 = .ok (.newarray .int, 2) := by decide +kernel
theorem dX11_init_53 : decode cX11_init 53 = .ok (.putfield 30, 3) := by decide +kernel
theorem dX11_init_56 : decode cX11_init 56 = .ok (.aload_n 0, 1) := by decide +kernel
theorem dX11_init_57 : decode cX11_init 57 = .ok (.bipush 6, 2) := by decide +kernel
theorem dX11_init_59 : decode cX11_init 59 = .ok (.newarray .int, 2) := by decide +kernel
theorem dX11_init_61 : decode cX11_init 61 = .ok (.putfield 33, 3) := by decide +kernel
theorem dX11_init_64 : decode cX11_init 64 = .ok (.aload_n 0, 1) := by decide +kernel
theorem dX11_init_65 : decode cX11_init 65 = .ok (.bipush 6, 2) := by decide +kernel
theorem dX11_init_67 : decode cX11_init 67 = .ok (.newarray .int, 2) := by decide +kernel
theorem dX11_init_69 : decode cX11_init 69 = .ok (.putfield 36, 3) := by decide +kernel
theorem dX11_init_72 : decode cX11_init 72 = .ok (.aload_n 0, 1) := by decide +kernel
theorem dX11_init_73 : decode cX11_init 73 = .ok (.bipush 6, 2) := by decide +kernel
theorem dX11_init_75 : decode cX11_init 75 = .ok (.newarray .boolean, 2) := by decide +kernel
theorem dX11_init_77 : decode cX11_init 77 = .ok (.putfield 39, 3) := by decide +kernel
theorem dX11_init_80 : decode cX11_init 80 = .ok (.aload_n 0, 1) := by decide +kernel
theorem dX11_init_81 : decode cX11_init 81 = .ok (.bipush 6, 2) := by decide +kernel
theorem dX11_init_83 : decode cX11_init 83 = .ok (.newarray .int, 2) := by decide +kernel
theorem dX11_init_85 : decode cX11_init 85 = .ok (.putfield 42, 3) := by decide +kernel
theorem dX11_init_88 : decode cX11_init 88 = .ok (.aload_n 0, 1) := by decide +kernel
theorem dX11_init_89 : decode cX11_init 89 = .ok (.bipush 36, 2) := by decide +kernel
theorem dX11_init_91 : decode cX11_init 91 = .ok (.newarray .int, 2) := by decide +kernel
theorem dX11_init_93 : decode cX11_init 93 = .ok (.putfield 45, 3) := by decide +kernel
theorem dX11_init_96 : decode cX11_init 96 = .ok (.aload_n 0, 1) := by decide +kernel
theorem dX11_init_97 : decode cX11_init 97 = .ok (.bipush 36, 2) := by decide +kernel
theorem dX11_init_99 : decode cX11_init 99 = .ok (.newarray .int, 2) := by decide +kernel
theorem dX11_init_101 : decode cX11_init 101 = .ok (.putfield 48, 3) := by decide +kernel
theorem dX11_init_104 : decode cX11_init 104 = .ok (.aload_n 0, 1) := by decide +kernel
theorem dX11_init_105 : decode cX11_init 105 = .ok (.bipush 36, 2) := by decide +kernel
theorem dX11_init_107 : decode cX11_init 107 = .ok (.newarray .int, 2) := by decide +kernel
theorem dX11_init_109 : decode cX11_init 109 = .ok (.putfield 51, 3) := by decide +kernel
theorem dX11_init_112 : decode cX11_init 112 = .ok (.aload_n 0, 1) := by decide +kernel
theorem dX11_init_113 : decode cX11_init 113 = .ok (.bipush 6, 2) := by decide +kernel
theorem dX11_init_115 : decode cX11_init 115 = .ok (.newarray .int, 2) := by decide +kernel
theorem dX11_init_117 : decode cX11_init 117 = .ok (.putfield 54, 3) := by decide +kernel
theorem dX11_init_120 : decode cX11_init 120 = .ok (.aload_n 0, 1) := by decide +kernel
theorem dX11_init_121 : decode cX11_init 121 = .ok (.iconst 5, 1) := by decide +kernel
theorem dX11_init_122 : decode cX11_init 122 = .ok (.newarray .int, 2) := by decide +kernel
theorem dX11_init_124 : decode cX11_init 124 = .ok (.putfield 57, 3) := by decide +kernel
theorem dX11_init_127 : decode cX11_init 127 = .ok (.aload_n 0, 1) := by decide +kernel
theorem dX11_init_128 : decode cX11_init 128 = .ok (.bipush 15, 2) := by decide +kernel
theorem dX11_init_130 : decode cX11_init 130 = .ok (.newarray .int, 2) := by decide +kernel
theorem dX11_init_132 : decode cX11_init 132 = .ok (.putfield 60, 3) := by decide +kernel
theorem dX11_init_135 : decode cX11_init 135 = .ok (.aload_n 0, 1) := by decide +kernel
theorem dX11_init_136 : decode cX11_init 136 = .ok (.bipush 10, 2) := by decide +kernel
theorem dX11_init_138 : decode cX11_init 138 = .ok (.newarray .int, 2) := by decide +kernel
theorem dX11_init_140 : decode cX11_init 140 = .ok (.putfield 63, 3) := by decide +kernel
theorem dX11_init_143 : decode cX11_init 143 = .ok (.aload_n 0, 1) := by decide +kernel
theorem dX11_init_144 : decode cX11_init 144 = .ok (.sipush 7776, 3) := by decide +kernel
theorem dX11_init_147 : decode cX11_init 147 = .ok (.newarray .int, 2) := by decide +kernel
theorem dX11_init_149 : decode cX11_init 149 = .ok (.putfield 66, 3) := by decide +kernel
theorem dX11_init_152 : decode cX11_init 152 = .ok (.aload_n 0, 1) := by decide +kernel
theorem dX11_init_153 : decode cX11_init 153 = .ok (.sipush 720, 3) := by decide +kernel
theorem dX11_init_156 : decode cX11_init 156 = .ok (.newarray .int, 2) := by decide +kernel
theorem dX11_init_158 : decode cX11_init 158 = .ok (.putfield 69, 3) := by decide +kernel
theorem dX11_init_161 : decode cX11_init 161 = .ok (.aload_n 0, 1) := by decide +kernel
theorem dX11_init_162 : decode cX11_init 162 = .ok (.sipush 2880, 3) := by decide +kernel
theorem dX11_init_165 : decode cX11_init 165 = .ok (.newarray .int, 2) := by decide +kernel
theorem dX11_init_167 : decode cX11_init 167 = .ok (.putfield 72, 3) := by decide +kernel
theorem dX11_init_170 : decode cX11_init 170 = .ok (.aload_n 0, 1) := by decide +kernel
theorem dX11_init_171 : decode cX11_init 171 = .ok (.iconst 5, 1) := by decide +kernel
theorem dX11_init_172 : decode cX11_init 172 = .ok (.newarray .int, 2) := by decide +kernel
theorem dX11_init_174 : decode cX11_init 174 = .ok (.putfield 75, 3) := by decide +kernel
theorem dX11_init_177 : decode cX11_init 177 = .ok (.iconst 0, 1) := by decide +kernel
theorem dX11_init_178 : decode cX11_init 178 = .ok (.istore_n 1, 1) := by decide +kernel
theorem dX11_init_179 : decode cX11_init 179 = .ok (.iload_n 1, 1) := by decide +kernel
theorem dX11_init_180 : decode cX11_init 180 = .ok (.bipush 36, 2) := by decide +kernel
theorem dX11_init_182 : decode cX11_init 182 = .ok (.if_icmp .ge 16, 3) := by decide +kernel
theorem dX11_init_185 : decode cX11_init 185 = .ok (.aload_n 0, 1) := by decide +kernel
theorem dX11_init_186 : decode cX11_init 186 = .ok (.getfield 7, 3) := by decide +kernel
theorem dX11_init_189 : decode cX11_init 189 = .ok (.iload_n 1, 1) := by decide +kernel
theorem dX11_init_190 : decode cX11_init 190 = .ok (.iconst (-1), 1) := by decide +kernel
theorem dX11_init_191 : decode cX11_init 191 = .ok (.iastore, 1) := by decide +kernel
theorem dX11_init_192 : decode cX11_init 192 = .ok (.iinc 1 1, 3) := by decide +kernel
theorem dX11_init_195 : decode cX11_init 195 = .ok (.goto (-16), 3) := by decide +kernel
theorem dX11_init_198 : decode cX11_init 198 = .ok (.return_, 1) := by decide +kernel
theorem dX11_in_0 : decode cX11_in 0 = .ok (.iload_n 0, 1) := by decide +kernel
theorem dX11_in_1 : decode cX11_in 1 = .ok (.iload_n 1, 1) := by decide +kernel
theorem dX11_in_2 : decode cX11_in 2 = .ok (.if_icmp .lt 12, 3) := by decide +kernel
theorem dX11_in_5 : decode cX11_in 5 = .ok (.iload_n 0, 1) := by decide +kernel
theorem dX11_in_6 : decode cX11_in 6 = .ok (.iload_n 2, 1) := by decide +kernel
theorem dX11_in_7 : decode cX11_in 7 = .ok (.if_icmp .gt 7, 3) := by decide +kernel
theorem dX11_in_10 : decode cX11_in 10 = .ok (.iconst 1, 1) := by decide +kernel
theorem dX11_in_11 : decode cX11_in 11 = .ok (.goto 4, 3) := by decide +kernel
theorem dX11_in_14 : decode cX11_in 14 = .ok (.iconst 0, 1) := by decide +kernel
theorem dX11_in_15 : decode cX11_in 15 = .ok (.ireturn, 1) := by decide +kernel
theorem dX11_isCell_0 : decode cX11_isCell 0 = .ok (.iload_n 0, 1) := by decide +kernel
theorem dX11_isCell_1 : decode cX11_isCell 1 = .ok (.iconst 0, 1) := by decide +kernel
theorem dX11_isCell_2 : decode cX11_isCell 2 = .ok (.iconst 5, 1) := by decide +kernel
theorem dX11_isCell_3 : decode cX11_isCell 3 = .ok (.invokestatic 78, 3) := by decide +kernel
theorem dX11_isCell_6 : decode cX11_isCell 6 = .ok (.ifCond .eq 16, 3) := by decide +kernel
theorem dX11_isCell_9 : decode cX11_isCell 9 = .ok (.iload_n 1, 1) := by decide +kernel
theorem dX11_isCell_10 : decode cX11_isCell 10 = .ok (.iconst 0, 1) := by decide +kernel
theorem dX11_isCell_11 : decode cX11_isCell 11 = .ok (.iconst 5, 1) := by decide +kernel
theorem dX11_isCell_12 : decode cX11_isCell 12 = .ok (.invokestatic 78, 3) := by decide +kernel
theorem dX11_isCell_15 : decode cX11_isCell 15 = .ok (.ifCond .eq 7, 3) := by decide +kernel
theorem dX11_isCell_18 : decode cX11_isCell 18 = .ok (.iconst 1, 1) := by decide +kernel
theorem dX11_isCell_19 : decode cX11_isCell 19 = .ok (.goto 4, 3) := by decide +kernel
theorem dX11_isCell_22 : decode cX11_isCell 22 = .ok (.iconst 0, 1) := by decide +kernel
theorem dX11_isCell_23 : decode cX11_isCell 23 = .ok (.ireturn, 1) := by decide +kernel
theorem dX11_isSlot_0 : decode cX11_isSlot 0 = .ok (.iload_n 1, 1) := by decide +kernel
theorem dX11_isSlot_1 : decode cX11_isSlot 1 = .ok (.iconst 0, 1) := by decide +kernel
theorem dX11_isSlot_2 : decode cX11_isSlot 2 = .ok (.aload_n 0, 1) := by decide +kernel
theorem dX11_isSlot_3 : decode cX11_isSlot 3 = .ok (.getfield 82, 3) := by decide +kernel
theorem dX11_isSlot_6 : decode cX11_isSlot 6 = .ok (.iconst 1, 1) := by decide +kernel
theorem dX11_isSlot_7 : decode cX11_isSlot 7 = .ok (.isub, 1) := by decide +kernel
theorem dX11_isSlot_8 : decode cX11_isSlot 8 = .ok (.invokestatic 78, 3) := by decide +kernel
theorem dX11_isSlot_11 : decode cX11_isSlot 11 = .ok (.ireturn, 1) := by decide +kernel
theorem dX11_isShop_0 : decode cX11_isShop 0 = .ok (.iload_n 1, 1) := by decide +kernel
theorem dX11_isShop_1 : decode cX11_isShop 1 = .ok (.iconst 0, 1) := by decide +kernel
theorem dX11_isShop_2 : decode cX11_isShop 2 = .ok (.aload_n 0, 1) := by decide +kernel
theorem dX11_isShop_3 : decode cX11_isShop 3 = .ok (.getfield 85, 3) := by decide +kernel
theorem dX11_isShop_6 : decode cX11_isShop 6 = .ok (.iconst 1, 1) := by decide +kernel
theorem dX11_isShop_7 : decode cX11_isShop 7 = .ok (.isub, 1) := by decide +kernel
theorem dX11_isShop_8 : decode cX11_isShop 8 = .ok (.invokestatic 78, 3) := by decide +kernel
theorem dX11_isShop_11 : decode cX11_isShop 11 = .ok (.ireturn, 1) := by decide +kernel
theorem dX11_isYear_0 : decode cX11_isYear 0 = .ok (.iload_n 0, 1) := by decide +kernel
theorem dX11_isYear_1 : decode cX11_isYear 1 = .ok (.iconst 0, 1) := by decide +kernel
theorem dX11_isYear_2 : decode cX11_isYear 2 = .ok (.iconst 3, 1) := by decide +kernel
theorem dX11_isYear_3 : decode cX11_isYear 3 = .ok (.invokestatic 78, 3) := by decide +kernel
theorem dX11_isYear_6 : decode cX11_isYear 6 = .ok (.ireturn, 1) := by decide +kernel
theorem dX11_column_0 : decode cX11_column 0 = .ok (.iload_n 1, 1) := by decide +kernel
theorem dX11_column_1 : decode cX11_column 1 = .ok (.iload_n 2, 1) := by decide +kernel
theorem dX11_column_2 : decode cX11_column 2 = .ok (.invokestatic 88, 3) := by decide +kernel
theorem dX11_column_5 : decode cX11_column 5 = .ok (.ifCond .ne 6, 3) := by decide +kernel
theorem dX11_column_8 : decode cX11_column 8 = .ok (.bipush (-2), 2) := by decide +kernel
theorem dX11_column_10 : decode cX11_column 10 = .ok (.ireturn, 1) := by decide +kernel
theorem dX11_column_11 : decode cX11_column 11 = .ok (.bipush 6, 2) := by decide +kernel
theorem dX11_column_13 : decode cX11_column 13 = .ok (.iload_n 2, 1) := by decide +kernel
theorem dX11_column_14 : decode cX11_column 14 = .ok (.imul, 1) := by decide +kernel
theorem dX11_column_15 : decode cX11_column 15 = .ok (.iload_n 1, 1) := by decide +kernel
theorem dX11_column_16 : decode cX11_column 16 = .ok (.iadd, 1) := by decide +kernel
theorem dX11_column_17 : decode cX11_column 17 = .ok (.istore 4, 2) := by decide +kernel
theorem dX11_column_19 : decode cX11_column 19 = .ok (.aload_n 0, 1) := by decide +kernel
theorem dX11_column_20 : decode cX11_column 20 = .ok (.getfield 7, 3) := by decide +kernel
theorem dX11_column_23 : decode cX11_column 23 = .ok (.iload 4, 2) := by decide +kernel
theorem dX11_column_25 : decode cX11_column 25 = .ok (.iaload, 1) := by decide +kernel
theorem dX11_column_26 : decode cX11_column 26 = .ok (.ifCond .lt 6, 3) := by decide +kernel
theorem dX11_column_29 : decode cX11_column 29 = .ok (.bipush (-3), 2) := by decide +kernel
theorem dX11_column_31 : decode cX11_column 31 = .ok (.ireturn, 1) := by decide +kernel
theorem dX11_column_32 : decode cX11_column 32 = .ok (.aload_n 0, 1) := by decide +kernel
theorem dX11_column_33 : decode cX11_column 33 = .ok (.getfield 7, 3) := by decide +kernel
theorem dX11_column_36 : decode cX11_column 36 = .ok (.iload 4, 2) := by decide +kernel
theorem dX11_column_38 : decode cX11_column 38 = .ok (.iload_n 3, 1) := by decide +kernel
theorem dX11_column_39 : decode cX11_column 39 = .ok (.ifCond .eq 8, 3) := by decide +kernel
theorem dX11_column_42 : decode cX11_column 42 = .ok (.bipush (-2), 2) := by decide +kernel
theorem dX11_column_44 : decode cX11_column 44 = .ok (.goto 4, 3) := by decide +kernel
theorem dX11_column_47 : decode cX11_column 47 = .ok (.iconst (-1), 1) := by decide +kernel
theorem dX11_column_48 : decode cX11_column 48 = .ok (.iastore, 1) := by decide +kernel
theorem dX11_column_49 : decode cX11_column 49 = .ok (.aload_n 0, 1) := by decide +kernel
theorem dX11_column_50 : decode cX11_column 50 = .ok (.getfield 13, 3) := by decide +kernel
theorem dX11_column_53 : decode cX11_column 53 = .ok (.iload 4, 2) := by decide +kernel
theorem dX11_column_55 : decode cX11_column 55 = .ok (.iconst 0, 1) := by decide +kernel
theorem dX11_column_56 : decode cX11_column 56 = .ok (.bastore, 1) := by decide +kernel
theorem dX11_column_57 : decode cX11_column 57 = .ok (.iconst 1, 1) := by decide +kernel
theorem dX11_column_58 : decode cX11_column 58 = .ok (.ireturn, 1) := by decide +kernel
theorem dX11_slot_0 : decode cX11_slot 0 = .ok (.iload_n 1, 1) := by decide +kernel
theorem dX11_slot_1 : decode cX11_slot 1 = .ok (.iload_n 2, 1) := by decide +kernel
theorem dX11_slot_2 : decode cX11_slot 2 = .ok (.invokestatic 88, 3) := by decide +kernel
theorem dX11_slot_5 : decode cX11_slot 5 = .ok (.ifCond .ne 6, 3) := by decide +kernel
theorem dX11_slot_8 : decode cX11_slot 8 = .ok (.bipush (-2), 2) := by decide +kernel
theorem dX11_slot_10 : decode cX11_slot 10 = .ok (.ireturn, 1) := by decide +kernel
theorem dX11_slot_11 : decode cX11_slot 11 = .ok (.bipush 6, 2) := by decide +kernel
theorem dX11_slot_13 : decode cX11_slot 13 = .ok (.iload_n 2, 1) := by decide +kernel
theorem dX11_slot_14 : decode cX11_slot 14 = .ok (.imul, 1) := by decide +kernel
theorem dX11_slot_15 : decode cX11_slot 15 = .ok (.iload_n 1, 1) := by decide +kernel
theorem dX11_slot_16 : decode cX11_slot 16 = .ok (.iadd, 1) := by decide +kernel
theorem dX11_slot_17 : decode cX11_slot 17 = .ok (.istore_n 3, 1) := by decide +kernel
theorem dX11_slot_18 : decode cX11_slot 18 = .ok (.aload_n 0, 1) := by decide +kernel
theorem dX11_slot_19 : decode cX11_slot 19 = .ok (.getfield 7, 3) := by decide +kernel
theorem dX11_slot_22 : decode cX11_slot 22 = .ok (.iload_n 3, 1) := by decide +kernel
theorem dX11_slot_23 : decode cX11_slot 23 = .ok (.iaload, 1) := by decide +kernel
theorem dX11_slot_24 : decode cX11_slot 24 = .ok (.iconst (-1), 1) := by decide +kernel
theorem dX11_slot_25 : decode cX11_slot 25 = .ok (.if_icmp .ne 12, 3) := by decide +kernel
theorem dX11_slot_28 : decode cX11_slot 28 = .ok (.aload_n 0, 1) := by decide +kernel
theorem dX11_slot_29 : decode cX11_slot 29 = .ok (.getfield 13, 3) := by decide +kernel
theorem dX11_slot_32 : decode cX11_slot 32 = .ok (.iload_n 3, 1) := by decide +kernel
theorem dX11_slot_33 : decode cX11_slot 33 = .ok (.baload, 1) := by decide +kernel
theorem dX11_slot_34 : decode cX11_slot 34 = .ok (.ifCond .eq 6, 3) := by decide +kernel
theorem dX11_slot_37 : decode cX11_slot 37 = .ok (.bipush (-3), 2) := by decide +kernel
theorem dX11_slot_39 : decode cX11_slot 39 = .ok (.ireturn, 1) := by decide +kernel
theorem dX11_slot_40 : decode cX11_slot 40 = .ok (.aload_n 0, 1) := by decide +kernel
theorem dX11_slot_41 : decode cX11_slot 41 = .ok (.getfield 82, 3) := by decide +kernel
theorem dX11_slot_44 : decode cX11_slot 44 = .ok (.bipush 6, 2) := by decide +kernel
theorem dX11_slot_46 : decode cX11_slot 46 = .ok (.if_icmp .ne 6, 3) := by decide +kernel
theorem dX11_slot_49 : decode cX11_slot 49 = .ok (.bipush (-4), 2) := by decide +kernel
theorem dX11_slot_51 : decode cX11_slot 51 = .ok (.ireturn, 1) := by decide +kernel
theorem dX11_slot_52 : decode cX11_slot 52 = .ok (.aload_n 0, 1) := by decide +kernel
theorem dX11_slot_53 : decode cX11_slot 53 = .ok (.getfield 7, 3) := by decide +kernel
theorem dX11_slot_56 : decode cX11_slot 56 = .ok (.iload_n 3, 1) := by decide +kernel
theorem dX11_slot_57 : decode cX11_slot 57 = .ok (.aload_n 0, 1) := by decide +kernel
theorem dX11_slot_58 : decode cX11_slot 58 = .ok (.getfield 82, 3) := by decide +kernel
theorem dX11_slot_61 : decode cX11_slot 61 = .ok (.iastore, 1) := by decide +kernel
theorem dX11_slot_62 : decode cX11_slot 62 = .ok (.aload_n 0, 1) := by decide +kernel
theorem dX11_slot_63 : decode cX11_slot 63 = .ok (.getfield 17, 3) := by decide +kernel
theorem dX11_slot_66 : decode cX11_slot 66 = .ok (.aload_n 0, 1) := by decide +kernel
theorem dX11_slot_67 : decode cX11_slot 67 = .ok (.getfield 82, 3) := by decide +kernel
theorem dX11_slot_70 : decode cX11_slot 70 = .ok (.iload_n 3, 1) := by decide +kernel
theorem dX11_slot_71 : decode cX11_slot 71 = .ok (.iastore, 1) := by decide +kernel
theorem dX11_slot_72 : decode cX11_slot 72 = .ok (.aload_n 0, 1) := by decide +kernel
theorem dX11_slot_73 : decode cX11_slot 73 = .ok (.dup, 1) := by decide +kernel
theorem dX11_slot_74 : decode cX11_slot 74 = .ok (.getfield 82, 3) := by decide +kernel
theorem dX11_slot_77 : decode cX11_slot 77 = .ok (.iconst 1, 1) := by decide +kernel
theorem dX11_slot_78 : decode cX11_slot 78 = .ok (.iadd, 1) := by decide +kernel
theorem dX11_slot_79 : decode cX11_slot 79 = .ok (.putfield 82, 3) := by decide +kernel
theorem dX11_slot_82 : decode cX11_slot 82 = .ok (.aload_n 0, 1) := by decide +kernel
theorem dX11_slot_83 : decode cX11_slot 83 = .ok (.getfield 82, 3) := by decide +kernel
theorem dX11_slot_86 : decode cX11_slot 86 = .ok (.iconst 1, 1) := by decide +kernel
theorem dX11_slot_87 : decode cX11_slot 87 = .ok (.isub, 1) := by decide +kernel
theorem dX11_slot_88 : decode cX11_slot 88 = .ok (.ireturn, 1) := by decide +kernel
theorem dX11_exit_0 : decode cX11_exit 0 = .ok (.iload_n 1, 1) := by decide +kernel
theorem dX11_exit_1 : decode cX11_exit 1 = .ok (.iload_n 2, 1) := by decide +kernel
theorem dX11_exit_2 : decode cX11_exit 2 = .ok (.invokestatic 88, 3) := by decide +kernel
theorem dX11_exit_5 : decode cX11_exit 5 = .ok (.ifCond .ne 6, 3) := by decide +kernel
theorem dX11_exit_8 : decode cX11_exit 8 = .ok (.bipush (-2), 2) := by decide +kernel
theorem dX11_exit_10 : decode cX11_exit 10 = .ok (.ireturn, 1) := by decide +kernel
theorem dX11_exit_11 : decode cX11_exit 11 = .ok (.bipush 6, 2) := by decide +kernel
theorem dX11_exit_13 : decode cX11_exit 13 = .ok (.iload_n 2, 1) := by decide +kernel
theorem dX11_exit_14 : decode cX11_exit 14 = .ok (.imul, 1) := by decide +kernel
theorem dX11_exit_15 : decode cX11_exit 15 = .ok (.iload_n 1, 1) := by decide +kernel
theorem dX11_exit_16 : decode cX11_exit 16 = .ok (.iadd, 1) := by decide +kernel
theorem dX11_exit_17 : decode cX11_exit 17 = .ok (.istore 4, 2) := by decide +kernel
theorem dX11_exit_19 : decode cX11_exit 19 = .ok (.aload_n 0, 1) := by decide +kernel
theorem dX11_exit_20 : decode cX11_exit 20 = .ok (.getfield 7, 3) := by decide +kernel
theorem dX11_exit_23 : decode cX11_exit 23 = .ok (.iload 4, 2) := by decide +kernel
theorem dX11_exit_25 : decode cX11_exit 25 = .ok (.iaload, 1) := by decide +kernel
theorem dX11_exit_26 : decode cX11_exit 26 = .ok (.iconst (-1), 1) := by decide +kernel
theorem dX11_exit_27 : decode cX11_exit 27 = .ok (.if_icmp .eq 6, 3) := by decide +kernel
theorem dX11_exit_30 : decode cX11_exit 30 = .ok (.bipush (-3), 2) := by decide +kernel
theorem dX11_exit_32 : decode cX11_exit 32 = .ok (.ireturn, 1) := by decide +kernel
theorem dX11_exit_33 : decode cX11_exit 33 = .ok (.aload_n 0, 1) := by decide +kernel
theorem dX11_exit_34 : decode cX11_exit 34 = .ok (.getfield 13, 3) := by decide +kernel
theorem dX11_exit_37 : decode cX11_exit 37 = .ok (.iload 4, 2) := by decide +kernel
theorem dX11_exit_39 : decode cX11_exit 39 = .ok (.baload, 1) := by decide +kernel
theorem dX11_exit_40 : decode cX11_exit 40 = .ok (.ifCond .eq 7, 3) := by decide +kernel
theorem dX11_exit_43 : decode cX11_exit 43 = .ok (.iconst 1, 1) := by decide +kernel
theorem dX11_exit_44 : decode cX11_exit 44 = .ok (.goto 4, 3) := by decide +kernel
theorem dX11_exit_47 : decode cX11_exit 47 = .ok (.iconst 0, 1) := by decide +kernel
theorem dX11_exit_48 : decode cX11_exit 48 = .ok (.istore 5, 2) := by decide +kernel
theorem dX11_exit_50 : decode cX11_exit 50 = .ok (.aload_n 0, 1) := by decide +kernel
theorem dX11_exit_51 : decode cX11_exit 51 = .ok (.getfield 13, 3) := by decide +kernel
theorem dX11_exit_54 : decode cX11_exit 54 = .ok (.iload 4, 2) := by decide +kernel
theorem dX11_exit_56 : decode cX11_exit 56 = .ok (.iload_n 3, 1) := by decide +kernel
theorem dX11_exit_57 : decode cX11_exit 57 = .ok (.bastore, 1) := by decide +kernel
theorem dX11_exit_58 : decode cX11_exit 58 = .ok (.iload 5, 2) := by decide +kernel
theorem dX11_exit_60 : decode cX11_exit 60 = .ok (.ireturn, 1) := by decide +kernel
theorem dX11_beside_0 : decode cX11_beside 0 = .ok (.iload_n 0, 1) := by decide +kernel
theorem dX11_beside_1 : decode cX11_beside 1 = .ok (.bipush 6, 2) := by decide +kernel
theorem dX11_beside_3 : decode cX11_beside 3 = .ok (.irem, 1) := by decide +kernel
theorem dX11_beside_4 : decode cX11_beside 4 = .ok (.istore_n 2, 1) := by decide +kernel
theorem dX11_beside_5 : decode cX11_beside 5 = .ok (.iload_n 0, 1) := by decide +kernel
theorem dX11_beside_6 : decode cX11_beside 6 = .ok (.bipush 6, 2) := by decide +kernel
theorem dX11_beside_8 : decode cX11_beside 8 = .ok (.idiv, 1) := by decide +kernel
theorem dX11_beside_9 : decode cX11_beside 9 = .ok (.istore_n 3, 1) := by decide +kernel
theorem dX11_beside_10 : decode cX11_beside 10 = .ok (.iload_n 1, 1) := by decide +kernel
theorem dX11_beside_11 : decode cX11_beside 11 = .ok (.ifCond .ne 16, 3) := by decide +kernel
theorem dX11_beside_14 : decode cX11_beside 14 = .ok (.iload_n 2, 1) := by decide +kernel
theorem dX11_beside_15 : decode cX11_beside 15 = .ok (.iconst 5, 1) := by decide +kernel
theorem dX11_beside_16 : decode cX11_beside 16 = .ok (.if_icmp .ge 7, 3) := by decide +kernel
theorem dX11_beside_19 : decode cX11_beside 19 = .ok (.iconst 1, 1) := by decide +kernel
theorem dX11_beside_20 : decode cX11_beside 20 = .ok (.goto 51, 3) := by decide +kernel
theorem dX11_beside_23 : decode cX11_beside 23 = .ok (.iconst 0, 1) := by decide +kernel
theorem dX11_beside_24 : decode cX11_beside 24 = .ok (.goto 47, 3) := by decide +kernel
theorem dX11_beside_27 : decode cX11_beside 27 = .ok (.iload_n 1, 1) := by decide +kernel
theorem dX11_beside_28 : decode cX11_beside 28 = .ok (.iconst 1, 1) := by decide +kernel
theorem dX11_beside_29 : decode cX11_beside 29 = .ok (.if_icmp .ne 15, 3) := by decide +kernel
theorem dX11_beside_32 : decode cX11_beside 32 = .ok (.iload_n 2, 1) := by decide +kernel
theorem dX11_beside_33 : decode cX11_beside 33 = .ok (.ifCond .le 7, 3) := by decide +kernel
theorem dX11_beside_36 : decode cX11_beside 36 = .ok (.iconst 1, 1) := by decide +kernel
theorem dX11_beside_37 : decode cX11_beside 37 = .ok (.goto 34, 3) := by decide +kernel
theorem dX11_beside_40 : decode cX11_beside 40 = .ok (.iconst 0, 1) := by decide +kernel
theorem dX11_beside_41 : decode cX11_beside 41 = .ok (.goto 30, 3) := by decide +kernel
theorem dX11_beside_44 : decode cX11_beside 44 = .ok (.iload_n 1, 1) := by decide +kernel
theorem dX11_beside_45 : decode cX11_beside 45 = .ok (.iconst 2, 1) := by decide +kernel
theorem dX11_beside_46 : decode cX11_beside 46 = .ok (.if_icmp .ne 16, 3) := by decide +kernel
theorem dX11_beside_49 : decode cX11_beside 49 = .ok (.iload_n 3, 1) := by decide +kernel
theorem dX11_beside_50 : decode cX11_beside 50 = .ok (.iconst 5, 1) := by decide +kernel
theorem dX11_beside_51 : decode cX11_beside 51 = .ok (.if_icmp .ge 7, 3) := by decide +kernel
theorem dX11_beside_54 : decode cX11_beside 54 = .ok (.iconst 1, 1) := by decide +kernel
theorem dX11_beside_55 : decode cX11_beside 55 = .ok (.goto 16, 3) := by decide +kernel
theorem dX11_beside_58 : decode cX11_beside 58 = .ok (.iconst 0, 1) := by decide +kernel
theorem dX11_beside_59 : decode cX11_beside 59 = .ok (.goto 12, 3) := by decide +kernel
theorem dX11_beside_62 : decode cX11_beside 62 = .ok (.iload_n 3, 1) := by decide +kernel
theorem dX11_beside_63 : decode cX11_beside 63 = .ok (.ifCond .le 7, 3) := by decide +kernel
theorem dX11_beside_66 : decode cX11_beside 66 = .ok (.iconst 1, 1) := by decide +kernel
theorem dX11_beside_67 : decode cX11_beside 67 = .ok (.goto 4, 3) := by decide +kernel
theorem dX11_beside_70 : decode cX11_beside 70 = .ok (.iconst 0, 1) := by decide +kernel
theorem dX11_beside_71 : decode cX11_beside 71 = .ok (.istore 4, 2) := by decide +kernel
theorem dX11_beside_73 : decode cX11_beside 73 = .ok (.iload 4, 2) := by decide +kernel
theorem dX11_beside_75 : decode cX11_beside 75 = .ok (.ifCond .ne 7, 3) := by decide +kernel
theorem dX11_beside_78 : decode cX11_beside 78 = .ok (.iconst (-1), 1) := by decide +kernel
theorem dX11_beside_79 : decode cX11_beside 79 = .ok (.goto 40, 3) := by decide +kernel
theorem dX11_beside_82 : decode cX11_beside 82 = .ok (.iload_n 1, 1) := by decide +kernel
theorem dX11_beside_83 : decode cX11_beside 83 = .ok (.ifCond .ne 9, 3) := by decide +kernel
theorem dX11_beside_86 : decode cX11_beside 86 = .ok (.iload_n 0, 1) := by decide +kernel
theorem dX11_beside_87 : decode cX11_beside 87 = .ok (.iconst 1, 1) := by decide +kernel
theorem dX11_beside_88 : decode cX11_beside 88 = .ok (.iadd, 1) := by decide +kernel
theorem dX11_beside_89 : decode cX11_beside 89 = .ok (.goto 30, 3) := by decide +kernel
theorem dX11_beside_92 : decode cX11_beside 92 = .ok (.iload_n 1, 1) := by decide +kernel
theorem dX11_beside_93 : decode cX11_beside 93 = .ok (.iconst 1, 1) := by decide +kernel
theorem dX11_beside_94 : decode cX11_beside 94 = .ok (.if_icmp .ne 9, 3) := by decide +kernel
theorem dX11_beside_97 : decode cX11_beside 97 = .ok (.iload_n 0, 1) := by decide +kernel
theorem dX11_beside_98 : decode cX11_beside 98 = .ok (.iconst 1, 1) := by decide +kernel
theorem dX11_beside_99 : decode cX11_beside 99 = .ok (.isub, 1) := by decide +kernel
theorem dX11_beside_100 : decode cX11_beside 100 = .ok (.goto 19, 3) := by decide +kernel
theorem dX11_beside_103 : decode cX11_beside 103 = .ok (.iload_n 1, 1) := by decide +kernel
theorem dX11_beside_104 : decode cX11_beside 104 = .ok (.iconst 2, 1) := by decide +kernel
theorem dX11_beside_105 : decode cX11_beside 105 = .ok (.if_icmp .ne 10, 3) := by decide +kernel
theorem dX11_beside_108 : decode cX11_beside 108 = .ok (.iload_n 0, 1) := by decide +kernel
theorem dX11_beside_109 : decode cX11_beside 109 = .ok (.bipush 6, 2) := by decide +kernel
theorem dX11_beside_111 : decode cX11_beside 111 = .ok (.iadd, 1) := by decide +kernel
theorem dX11_beside_112 : decode cX11_beside 112 = .ok (.goto 7, 3) := by decide +kernel
theorem dX11_beside_115 : decode cX11_beside 115 = .ok (.iload_n 0, 1) := by decide +kernel
theorem dX11_beside_116 : decode cX11_beside 116 = .ok (.bipush 6, 2) := by decide +kernel
theorem dX11_beside_118 : decode cX11_beside 118 = .ok (.isub, 1) := by decide +kernel
theorem dX11_beside_119 : decode cX11_beside 119 = .ok (.ireturn, 1) := by decide +kernel
theorem dX11_walk_0 : decode cX11_walk 0 = .ok (.iconst 0, 1) := by decide +kernel
theorem dX11_walk_1 : decode cX11_walk 1 = .ok (.istore_n 2, 1) := by decide +kernel
theorem dX11_walk_2 : decode cX11_walk 2 = .ok (.iload_n 2, 1) := by decide +kernel
theorem dX11_walk_3 : decode cX11_walk 3 = .ok (.bipush 36, 2) := by decide +kernel
theorem dX11_walk_5 : decode cX11_walk 5 = .ok (.if_icmp .ge 16, 3) := by decide +kernel
theorem dX11_walk_8 : decode cX11_walk 8 = .ok (.aload_n 0, 1) := by decide +kernel
theorem dX11_walk_9 : decode cX11_walk 9 = .ok (.getfield 45, 3) := by decide +kernel
theorem dX11_walk_12 : decode cX11_walk 12 = .ok (.iload_n 2, 1) := by decide +kernel
theorem dX11_walk_13 : decode cX11_walk 13 = .ok (.iconst (-1), 1) := by decide +kernel
theorem dX11_walk_14 : decode cX11_walk 14 = .ok (.iastore, 1) := by decide +kernel
theorem dX11_walk_15 : decode cX11_walk 15 = .ok (.iinc 2 1, 3) := by decide +kernel
theorem dX11_walk_18 : decode cX11_walk 18 = .ok (.goto (-16), 3) := by decide +kernel
theorem dX11_walk_21 : decode cX11_walk 21 = .ok (.aload_n 0, 1) := by decide +kernel
theorem dX11_walk_22 : decode cX11_walk 22 = .ok (.getfield 45, 3) := by decide +kernel
theorem dX11_walk_25 : decode cX11_walk 25 = .ok (.aload_n 0, 1) := by decide +kernel
theorem dX11_walk_26 : decode cX11_walk 26 = .ok (.getfield 17, 3) := by decide +kernel
theorem dX11_walk_29 : decode cX11_walk 29 = .ok (.iload_n 1, 1) := by decide +kernel
theorem dX11_walk_30 : decode cX11_walk 30 = .ok (.iaload, 1) := by decide +kernel
theorem dX11_walk_31 : decode cX11_walk 31 = .ok (.iconst 0, 1) := by decide +kernel
theorem dX11_walk_32 : decode cX11_walk 32 = .ok (.iastore, 1) := by decide +kernel
theorem dX11_walk_33 : decode cX11_walk 33 = .ok (.aload_n 0, 1) := by decide +kernel
theorem dX11_walk_34 : decode cX11_walk 34 = .ok (.getfield 48, 3) := by decide +kernel
theorem dX11_walk_37 : decode cX11_walk 37 = .ok (.iconst 0, 1) := by decide +kernel
theorem dX11_walk_38 : decode cX11_walk 38 = .ok (.aload_n 0, 1) := by decide +kernel
theorem dX11_walk_39 : decode cX11_walk 39 = .ok (.getfield 17, 3) := by decide +kernel
theorem dX11_walk_42 : decode cX11_walk 42 = .ok (.iload_n 1, 1) := by decide +kernel
theorem dX11_walk_43 : decode cX11_walk 43 = .ok (.iaload, 1) := by decide +kernel
theorem dX11_walk_44 : decode cX11_walk 44 = .ok (.iastore, 1) := by decide +kernel
theorem dX11_walk_45 : decode cX11_walk 45 = .ok (.iconst 1, 1) := by decide +kernel
theorem dX11_walk_46 : decode cX11_walk 46 = .ok (.istore_n 2, 1) := by decide +kernel
theorem dX11_walk_47 : decode cX11_walk 47 = .ok (.iconst 0, 1) := by decide +kernel
theorem dX11_walk_48 : decode cX11_walk 48 = .ok (.istore_n 3, 1) := by decide +kernel
theorem dX11_walk_49 : decode cX11_walk 49 = .ok (.iload_n 3, 1) := by decide +kernel
theorem dX11_walk_50 : decode cX11_walk 50 = .ok (.iload_n 2, 1) := by decide +kernel
theorem dX11_walk_51 : decode cX11_walk 51 = .ok (.if_icmp .ge 108, 3) := by decide +kernel
theorem dX11_walk_54 : decode cX11_walk 54 = .ok (.aload_n 0, 1) := by decide +kernel
theorem dX11_walk_55 : decode cX11_walk 55 = .ok (.getfield 48, 3) := by decide +kernel
theorem dX11_walk_58 : decode cX11_walk 58 = .ok (.iload_n 3, 1) := by decide +kernel
theorem dX11_walk_59 : decode cX11_walk 59 = .ok (.iaload, 1) := by decide +kernel
theorem dX11_walk_60 : decode cX11_walk 60 = .ok (.istore 4, 2) := by decide +kernel
theorem dX11_walk_62 : decode cX11_walk 62 = .ok (.iconst 0, 1) := by decide +kernel
theorem dX11_walk_63 : decode cX11_walk 63 = .ok (.istore 5, 2) := by decide +kernel
theorem dX11_walk_65 : decode cX11_walk 65 = .ok (.iload 5, 2) := by decide +kernel
theorem dX11_walk_67 : decode cX11_walk 67 = .ok (.iconst 4, 1) := by decide +kernel
theorem dX11_walk_68 : decode cX11_walk 68 = .ok (.if_icmp .ge 85, 3) := by decide +kernel
theorem dX11_walk_71 : decode cX11_walk 71 = .ok (.iload 4, 2) := by decide +kernel
theorem dX11_walk_73 : decode cX11_walk 73 = .ok (.iload 5, 2) := by decide +kernel
theorem dX11_walk_75 : decode cX11_walk 75 = .ok (.invokestatic 92, 3) := by decide +kernel
theorem dX11_walk_78 : decode cX11_walk 78 = .ok (.istore 6, 2) := by decide +kernel
theorem dX11_walk_80 : decode cX11_walk 80 = .ok (.iload 6, 2) := by decide +kernel
theorem dX11_walk_82 : decode cX11_walk 82 = .ok (.iconst (-1), 1) := by decide +kernel
theorem dX11_walk_83 : decode cX11_walk 83 = .ok (.if_icmp .eq 64, 3) := by decide +kernel
theorem dX11_walk_86 : decode cX11_walk 86 = .ok (.aload_n 0, 1) := by decide +kernel
theorem dX11_walk_87 : decode cX11_walk 87 = .ok (.getfield 45, 3) := by decide +kernel
theorem dX11_walk_90 : decode cX11_walk 90 = .ok (.iload 6, 2) := by decide +kernel
theorem dX11_walk_92 : decode cX11_walk 92 = .ok (.iaload, 1) := by decide +kernel
theorem dX11_walk_93 : decode cX11_walk 93 = .ok (.iconst (-1), 1) := by decide +kernel
theorem dX11_walk_94 : decode cX11_walk 94 = .ok (.if_icmp .ne 53, 3) := by decide +kernel
theorem dX11_walk_97 : decode cX11_walk 97 = .ok (.aload_n 0, 1) := by decide +kernel
theorem dX11_walk_98 : decode cX11_walk 98 = .ok (.getfield 7, 3) := by decide +kernel
theorem dX11_walk_101 : decode cX11_walk 101 = .ok (.iload 6, 2) := by decide +kernel
theorem dX11_walk_103 : decode cX11_walk 103 = .ok (.iaload, 1) := by decide +kernel
theorem dX11_walk_104 : decode cX11_walk 104 = .ok (.bipush (-2), 2) := by decide +kernel
theorem dX11_walk_106 : decode cX11_walk 106 = .ok (.if_icmp .eq 41, 3) := by decide +kernel
theorem dX11_walk_109 : decode cX11_walk 109 = .ok (.aload_n 0, 1) := by decide +kernel
theorem dX11_walk_110 : decode cX11_walk 110 = .ok (.getfield 45, 3) := by decide +kernel
theorem dX11_walk_113 : decode cX11_walk 113 = .ok (.iload 6, 2) := by decide +kernel
theorem dX11_walk_115 : decode cX11_walk 115 = .ok (.aload_n 0, 1) := by decide +kernel
theorem dX11_walk_116 : decode cX11_walk 116 = .ok (.getfield 45, 3) := by decide +kernel
theorem dX11_walk_119 : decode cX11_walk 119 = .ok (.iload 4, 2) := by decide +kernel
theorem dX11_walk_121 : decode cX11_walk 121 = .ok (.iaload, 1) := by decide +kernel
theorem dX11_walk_122 : decode cX11_walk 122 = .ok (.iconst 1, 1) := by decide +kernel
theorem dX11_walk_123 : decode cX11_walk 123 = .ok (.iadd, 1) := by decide +kernel
theorem dX11_walk_124 : decode cX11_walk 124 = .ok (.iastore, 1) := by decide +kernel
theorem dX11_walk_125 : decode cX11_walk 125 = .ok (.aload_n 0, 1) := by decide +kernel
theorem dX11_walk_126 : decode cX11_walk 126 = .ok (.getfield 7, 3) := by decide +kernel
theorem dX11_walk_129 : decode cX11_walk 129 = .ok (.iload 6, 2) := by decide +kernel
theorem dX11_walk_131 : decode cX11_walk 131 = .ok (.iaload, 1) := by decide +kernel
theorem dX11_walk_132 : decode cX11_walk 132 = .ok (.iconst (-1), 1) := by decide +kernel
theorem dX11_walk_133 : decode cX11_walk 133 = .ok (.if_icmp .ne 14, 3) := by decide +kernel
theorem dX11_walk_136 : decode cX11_walk 136 = .ok (.aload_n 0, 1) := by decide +kernel
theorem dX11_walk_137 : decode cX11_walk 137 = .ok (.getfield 48, 3) := by decide +kernel
theorem dX11_walk_140 : decode cX11_walk 140 = .ok (.iload_n 2, 1) := by decide +kernel
theorem dX11_walk_141 : decode cX11_walk 141 = .ok (.iload 6, 2) := by decide +kernel
theorem dX11_walk_143 : decode cX11_walk 143 = .ok (.iastore, 1) := by decide +kernel
theorem dX11_walk_144 : decode cX11_walk 144 = .ok (.iinc 2 1, 3) := by decide +kernel
theorem dX11_walk_147 : decode cX11_walk 147 = .ok (.iinc 5 1, 3) := by decide +kernel
theorem dX11_walk_150 : decode cX11_walk 150 = .ok (.goto (-85), 3) := by decide +kernel
theorem dX11_walk_153 : decode cX11_walk 153 = .ok (.iinc 3 1, 3) := by decide +kernel
theorem dX11_walk_156 : decode cX11_walk 156 = .ok (.goto (-107), 3) := by decide +kernel
theorem dX11_walk_159 : decode cX11_walk 159 = .ok (.return_, 1) := by decide +kernel
theorem dX11_layFloor_0 : decode cX11_layFloor 0 = .ok (.iconst 0, 1) := by decide +kernel
theorem dX11_layFloor_1 : decode cX11_layFloor 1 = .ok (.istore_n 1, 1) := by decide +kernel
theorem dX11_layFloor_2 : decode cX11_layFloor 2 = .ok (.iload_n 1, 1) := by decide +kernel
theorem dX11_layFloor_3 : decode cX11_layFloor 3 = .ok (.aload_n 0, 1) := by decide +kernel
theorem dX11_layFloor_4 : decode cX11_layFloor 4 = .ok (.getfield 82, 3) := by decide +kernel
theorem dX11_layFloor_7 : decode cX11_layFloor 7 = .ok (.if_icmp .ge 129, 3) := by decide +kernel
theorem dX11_layFloor_10 : decode cX11_layFloor 10 = .ok (.aload_n 0, 1) := by decide +kernel
theorem dX11_layFloor_11 : decode cX11_layFloor 11 = .ok (.iload_n 1, 1) := by decide +kernel
theorem dX11_layFloor_12 : decode cX11_layFloor 12 = .ok (.invokevirtual 96, 3) := by decide +kernel
theorem dX11_layFloor_15 : decode cX11_layFloor 15 = .ok (.iconst 0, 1) := by decide +kernel
theorem dX11_layFloor_16 : decode cX11_layFloor 16 = .ok (.istore_n 2, 1) := by decide +kernel
theorem dX11_layFloor_17 : decode cX11_layFloor 17 = .ok (.iload_n 2, 1) := by decide +kernel
theorem dX11_layFloor_18 : decode cX11_layFloor 18 = .ok (.aload_n 0, 1) := by decide +kernel
theorem dX11_layFloor_19 : decode cX11_layFloor 19 = .ok (.getfield 82, 3) := by decide +kernel
theorem dX11_layFloor_22 : decode cX11_layFloor 22 = .ok (.if_icmp .ge 31, 3) := by decide +kernel
theorem dX11_layFloor_25 : decode cX11_layFloor 25 = .ok (.aload_n 0, 1) := by decide +kernel
theorem dX11_layFloor_26 : decode cX11_layFloor 26 = .ok (.getfield 51, 3) := by decide +kernel
theorem dX11_layFloor_29 : decode cX11_layFloor 29 = .ok (.bipush 6, 2) := by decide +kernel
theorem dX11_layFloor_31 : decode cX11_layFloor 31 = .ok (.iload_n 1, 1) := by decide +kernel
theorem dX11_layFloor_32 : decode cX11_layFloor 32 = .ok (.imul, 1) := by decide +kernel
theorem dX11_layFloor_33 : decode cX11_layFloor 33 = .ok (.iload_n 2, 1) := by decide +kernel
theorem dX11_layFloor_34 : decode cX11_layFloor 34 = .ok (.iadd, 1) := by decide +kernel
theorem dX11_layFloor_35 : decode cX11_layFloor 35 = .ok (.aload_n 0, 1) := by decide +kernel
theorem dX11_layFloor_36 : decode cX11_layFloor 36 = .ok (.getfield 45, 3) := by decide +kernel
theorem dX11_layFloor_39 : decode cX11_layFloor 39 = .ok (.aload_n 0, 1) := by decide +kernel
theorem dX11_layFloor_40 : decode cX11_layFloor 40 = .ok (.getfield 17, 3) := by decide +kernel
theorem dX11_layFloor_43 : decode cX11_layFloor 43 = .ok (.iload_n 2, 1) := by decide +kernel
theorem dX11_layFloor_44 : decode cX11_layFloor 44 = .ok (.iaload, 1) := by decide +kernel
theorem dX11_layFloor_45 : decode cX11_layFloor 45 = .ok (.iaload, 1) := by decide +kernel
theorem dX11_layFloor_46 : decode cX11_layFloor 46 = .ok (.iastore, 1) := by decide +kernel
theorem dX11_layFloor_47 : decode cX11_layFloor 47 = .ok (.iinc 2 1, 3) := by decide +kernel
theorem dX11_layFloor_50 : decode cX11_layFloor 50 = .ok (.goto (-33), 3) := by decide +kernel
theorem dX11_layFloor_53 : decode cX11_layFloor 53 = .ok (.aload_n 0, 1) := by decide +kernel
theorem dX11_layFloor_54 : decode cX11_layFloor 54 = .ok (.getfield 54, 3) := by decide +kernel
theorem dX11_layFloor_57 : decode cX11_layFloor 57 = .ok (.iload_n 1, 1) := by decide +kernel
theorem dX11_layFloor_58 : decode cX11_layFloor 58 = .ok (.iconst (-1), 1) := by decide +kernel
theorem dX11_layFloor_59 : decode cX11_layFloor 59 = .ok (.iastore, 1) := by decide +kernel
theorem dX11_layFloor_60 : decode cX11_layFloor 60 = .ok (.iconst 0, 1) := by decide +kernel
theorem dX11_layFloor_61 : decode cX11_layFloor 61 = .ok (.istore_n 2, 1) := by decide +kernel
theorem dX11_layFloor_62 : decode cX11_layFloor 62 = .ok (.iload_n 2, 1) := by decide +kernel
theorem dX11_layFloor_63 : decode cX11_layFloor 63 = .ok (.bipush 36, 2) := by decide +kernel
theorem dX11_layFloor_65 : decode cX11_layFloor 65 = .ok (.if_icmp .ge 65, 3) := by decide +kernel
theorem dX11_layFloor_68 : decode cX11_layFloor 68 = .ok (.aload_n 0, 1) := by decide +kernel
theorem dX11_layFloor_69 : decode cX11_layFloor 69 = .ok (.getfield 13, 3) := by decide +kernel
theorem dX11_layFloor_72 : decode cX11_layFloor 72 = .ok (.iload_n 2, 1) := by decide +kernel
theorem dX11_layFloor_73 : decode cX11_layFloor 73 = .ok (.baload, 1) := by decide +kernel
theorem dX11_layFloor_74 : decode cX11_layFloor 74 = .ok (.ifCond .eq 50, 3) := by decide +kernel
theorem dX11_layFloor_77 : decode cX11_layFloor 77 = .ok (.aload_n 0, 1) := by decide +kernel
theorem dX11_layFloor_78 : decode cX11_layFloor 78 = .ok (.getfield 45, 3) := by decide +kernel
theorem dX11_layFloor_81 : decode cX11_layFloor 81 = .ok (.iload_n 2, 1) := by decide +kernel
theorem dX11_layFloor_82 : decode cX11_layFloor 82 = .ok (.iaload, 1) := by decide +kernel
theorem dX11_layFloor_83 : decode cX11_layFloor 83 = .ok (.iconst (-1), 1) := by decide +kernel
theorem dX11_layFloor_84 : decode cX11_layFloor 84 = .ok (.if_icmp .eq 40, 3) := by decide +kernel
theorem dX11_layFloor_87 : decode cX11_layFloor 87 = .ok (.aload_n 0, 1) := by decide +kernel
theorem dX11_layFloor_88 : decode cX11_layFloor 88 = .ok (.getfield 54, 3) := by decide +kernel
theorem dX11_layFloor_91 : decode cX11_layFloor 91 = .ok (.iload_n 1, 1) := by decide +kernel
theorem dX11_layFloor_92 : decode cX11_layFloor 92 = .ok (.iaload, 1) := by decide +kernel
theorem dX11_layFloor_93 : decode cX11_layFloor 93 = .ok (.iconst (-1), 1) := by decide +kernel
theorem dX11_layFloor_94 : decode cX11_layFloor 94 = .ok (.if_icmp .eq 18, 3) := by decide +kernel
theorem dX11_layFloor_97 : decode cX11_layFloor 97 = .ok (.aload_n 0, 1) := by decide +kernel
theorem dX11_layFloor_98 : decode cX11_layFloor 98 = .ok (.getfield 45, 3) := by decide +kernel
theorem dX11_layFloor_101 : decode cX11_layFloor 101 = .ok (.iload_n 2, 1) := by decide +kernel
theorem dX11_layFloor_102 : decode cX11_layFloor 102 = .ok (.iaload, 1) := by decide +kernel
theorem dX11_layFloor_103 : decode cX11_layFloor 103 = .ok (.aload_n 0, 1) := by decide +kernel
theorem dX11_layFloor_104 : decode cX11_layFloor 104 = .ok (.getfield 54, 3) := by decide +kernel
theorem dX11_layFloor_107 : decode cX11_layFloor 107 = .ok (.iload_n 1, 1) := by decide +kernel
theorem dX11_layFloor_108 : decode cX11_layFloor 108 = .ok (.iaload, 1) := by decide +kernel
theorem dX11_layFloor_109 : decode cX11_layFloor 109 = .ok (.if_icmp .ge 15, 3) := by decide +kernel
theorem dX11_layFloor_112 : decode cX11_layFloor 112 = .ok (.aload_n 0, 1) := by decide +kernel
theorem dX11_layFloor_113 : decode cX11_layFloor 113 = .ok (.getfield 54, 3) := by decide +kernel
theorem dX11_layFloor_116 : decode cX11_layFloor 116 = .ok (.iload_n 1, 1) := by decide +kernel
theorem dX11_layFloor_117 : decode cX11_layFloor 117 = .ok (.aload_n 0, 1) := by decide +kernel
theorem dX11_layFloor_118 : decode cX11_layFloor 118 = .ok (.getfield 45, 3) := by decide +kernel
theorem dX11_layFloor_121 : decode cX11_layFloor 121 = .ok (.iload_n 2, 1) := by decide +kernel
theorem dX11_layFloor_122 : decode cX11_layFloor 122 = .ok (.iaload, 1) := by decide +kernel
theorem dX11_layFloor_123 : decode cX11_layFloor 123 = .ok (.iastore, 1) := by decide +kernel
theorem dX11_layFloor_124 : decode cX11_layFloor 124 = .ok (.iinc 2 1, 3) := by decide +kernel
theorem dX11_layFloor_127 : decode cX11_layFloor 127 = .ok (.goto (-65), 3) := by decide +kernel
theorem dX11_layFloor_130 : decode cX11_layFloor 130 = .ok (.iinc 1 1, 3) := by decide +kernel
theorem dX11_layFloor_133 : decode cX11_layFloor 133 = .ok (.goto (-131), 3) := by decide +kernel
theorem dX11_layFloor_136 : decode cX11_layFloor 136 = .ok (.return_, 1) := by decide +kernel
theorem dX11_far_0 : decode cX11_far 0 = .ok (.aload_n 0, 1) := by decide +kernel
theorem dX11_far_1 : decode cX11_far 1 = .ok (.iload_n 1, 1) := by decide +kernel
theorem dX11_far_2 : decode cX11_far 2 = .ok (.invokevirtual 100, 3) := by decide +kernel
theorem dX11_far_5 : decode cX11_far 5 = .ok (.ifCond .eq 11, 3) := by decide +kernel
theorem dX11_far_8 : decode cX11_far 8 = .ok (.aload_n 0, 1) := by decide +kernel
theorem dX11_far_9 : decode cX11_far 9 = .ok (.iload_n 2, 1) := by decide +kernel
theorem dX11_far_10 : decode cX11_far 10 = .ok (.invokevirtual 100, 3) := by decide +kernel
theorem dX11_far_13 : decode cX11_far 13 = .ok (.ifCond .ne 6, 3) := by decide +kernel
theorem dX11_far_16 : decode cX11_far 16 = .ok (.bipush (-2), 2) := by decide +kernel
theorem dX11_far_18 : decode cX11_far 18 = .ok (.ireturn, 1) := by decide +kernel
theorem dX11_far_19 : decode cX11_far 19 = .ok (.aload_n 0, 1) := by decide +kernel
theorem dX11_far_20 : decode cX11_far 20 = .ok (.invokevirtual 104, 3) := by decide +kernel
theorem dX11_far_23 : decode cX11_far 23 = .ok (.aload_n 0, 1) := by decide +kernel
theorem dX11_far_24 : decode cX11_far 24 = .ok (.getfield 51, 3) := by decide +kernel
theorem dX11_far_27 : decode cX11_far 27 = .ok (.bipush 6, 2) := by decide +kernel
theorem dX11_far_29 : decode cX11_far 29 = .ok (.iload_n 1, 1) := by decide +kernel
theorem dX11_far_30 : decode cX11_far 30 = .ok (.imul, 1) := by decide +kernel
theorem dX11_far_31 : decode cX11_far 31 = .ok (.iload_n 2, 1) := by decide +kernel
theorem dX11_far_32 : decode cX11_far 32 = .ok (.iadd, 1) := by decide +kernel
theorem dX11_far_33 : decode cX11_far 33 = .ok (.iaload, 1) := by decide +kernel
theorem dX11_far_34 : decode cX11_far 34 = .ok (.ireturn, 1) := by decide +kernel
theorem dX11_out_0 : decode cX11_out 0 = .ok (.aload_n 0, 1) := by decide +kernel
theorem dX11_out_1 : decode cX11_out 1 = .ok (.iload_n 1, 1) := by decide +kernel
theorem dX11_out_2 : decode cX11_out 2 = .ok (.invokevirtual 100, 3) := by decide +kernel
theorem dX11_out_5 : decode cX11_out 5 = .ok (.ifCond .ne 6, 3) := by decide +kernel
theorem dX11_out_8 : decode cX11_out 8 = .ok (.bipush (-2), 2) := by decide +kernel
theorem dX11_out_10 : decode cX11_out 10 = .ok (.ireturn, 1) := by decide +kernel
theorem dX11_out_11 : decode cX11_out 11 = .ok (.aload_n 0, 1) := by decide +kernel
theorem dX11_out_12 : decode cX11_out 12 = .ok (.invokevirtual 104, 3) := by decide +kernel
theorem dX11_out_15 : decode cX11_out 15 = .ok (.aload_n 0, 1) := by decide +kernel
theorem dX11_out_16 : decode cX11_out 16 = .ok (.getfield 54, 3) := by decide +kernel
theorem dX11_out_19 : decode cX11_out 19 = .ok (.iload_n 1, 1) := by decide +kernel
theorem dX11_out_20 : decode cX11_out 20 = .ok (.iaload, 1) := by decide +kernel
theorem dX11_out_21 : decode cX11_out 21 = .ok (.ireturn, 1) := by decide +kernel
theorem dX11_bound_0 : decode cX11_bound 0 = .ok (.iload_n 1, 1) := by decide +kernel
theorem dX11_bound_1 : decode cX11_bound 1 = .ok (.iconst 0, 1) := by decide +kernel
theorem dX11_bound_2 : decode cX11_bound 2 = .ok (.bipush 41, 2) := by decide +kernel
theorem dX11_bound_4 : decode cX11_bound 4 = .ok (.invokestatic 78, 3) := by decide +kernel
theorem dX11_bound_7 : decode cX11_bound 7 = .ok (.ifCond .ne 6, 3) := by decide +kernel
theorem dX11_bound_10 : decode cX11_bound 10 = .ok (.bipush (-2), 2) := by decide +kernel
theorem dX11_bound_12 : decode cX11_bound 12 = .ok (.ireturn, 1) := by decide +kernel
theorem dX11_bound_13 : decode cX11_bound 13 = .ok (.aload_n 0, 1) := by decide +kernel
theorem dX11_bound_14 : decode cX11_bound 14 = .ok (.getfield 20, 3) := by decide +kernel
theorem dX11_bound_17 : decode cX11_bound 17 = .ok (.istore_n 2, 1) := by decide +kernel
theorem dX11_bound_18 : decode cX11_bound 18 = .ok (.aload_n 0, 1) := by decide +kernel
theorem dX11_bound_19 : decode cX11_bound 19 = .ok (.iload_n 1, 1) := by decide +kernel
theorem dX11_bound_20 : decode cX11_bound 20 = .ok (.putfield 20, 3) := by decide +kernel
theorem dX11_bound_23 : decode cX11_bound 23 = .ok (.iload_n 2, 1) := by decide +kernel
theorem dX11_bound_24 : decode cX11_bound 24 = .ok (.ireturn, 1) := by decide +kernel
theorem dX11_shop_0 : decode cX11_shop 0 = .ok (.aload_n 0, 1) := by decide +kernel
theorem dX11_shop_1 : decode cX11_shop 1 = .ok (.getfield 85, 3) := by decide +kernel
theorem dX11_shop_4 : decode cX11_shop 4 = .ok (.iconst 5, 1) := by decide +kernel
theorem dX11_shop_5 : decode cX11_shop 5 = .ok (.if_icmp .ne 6, 3) := by decide +kernel
theorem dX11_shop_8 : decode cX11_shop 8 = .ok (.bipush (-4), 2) := by decide +kernel
theorem dX11_shop_10 : decode cX11_shop 10 = .ok (.ireturn, 1) := by decide +kernel
theorem dX11_shop_11 : decode cX11_shop 11 = .ok (.aload_n 0, 1) := by decide +kernel
theorem dX11_shop_12 : decode cX11_shop 12 = .ok (.getfield 82, 3) := by decide +kernel
theorem dX11_shop_15 : decode cX11_shop 15 = .ok (.aload_n 0, 1) := by decide +kernel
theorem dX11_shop_16 : decode cX11_shop 16 = .ok (.getfield 85, 3) := by decide +kernel
theorem dX11_shop_19 : decode cX11_shop 19 = .ok (.if_icmp .gt 6, 3) := by decide +kernel
theorem dX11_shop_22 : decode cX11_shop 22 = .ok (.bipush (-3), 2) := by decide +kernel
theorem dX11_shop_24 : decode cX11_shop 24 = .ok (.ireturn, 1) := by decide +kernel
theorem dX11_shop_25 : decode cX11_shop 25 = .ok (.iconst 0, 1) := by decide +kernel
theorem dX11_shop_26 : decode cX11_shop 26 = .ok (.istore_n 1, 1) := by decide +kernel
theorem dX11_shop_27 : decode cX11_shop 27 = .ok (.iconst 0, 1) := by decide +kernel
theorem dX11_shop_28 : decode cX11_shop 28 = .ok (.istore_n 2, 1) := by decide +kernel
theorem dX11_shop_29 : decode cX11_shop 29 = .ok (.iload_n 2, 1) := by decide +kernel
theorem dX11_shop_30 : decode cX11_shop 30 = .ok (.aload_n 0, 1) := by decide +kernel
theorem dX11_shop_31 : decode cX11_shop 31 = .ok (.getfield 85, 3) := by decide +kernel
theorem dX11_shop_34 : decode cX11_shop 34 = .ok (.if_icmp .ge 20, 3) := by decide +kernel
theorem dX11_shop_37 : decode cX11_shop 37 = .ok (.iload_n 1, 1) := by decide +kernel
theorem dX11_shop_38 : decode cX11_shop 38 = .ok (.iconst 1, 1) := by decide +kernel
theorem dX11_shop_39 : decode cX11_shop 39 = .ok (.aload_n 0, 1) := by decide +kernel
theorem dX11_shop_40 : decode cX11_shop 40 = .ok (.getfield 24, 3) := by decide +kernel
theorem dX11_shop_43 : decode cX11_shop 43 = .ok (.iload_n 2, 1) := by decide +kernel
theorem dX11_shop_44 : decode cX11_shop 44 = .ok (.iaload, 1) := by decide +kernel
theorem dX11_shop_45 : decode cX11_shop 45 = .ok (.ishl, 1) := by decide +kernel
theorem dX11_shop_46 : decode cX11_shop 46 = .ok (.ior, 1) := by decide +kernel
theorem dX11_shop_47 : decode cX11_shop 47 = .ok (.istore_n 1, 1) := by decide +kernel
theorem dX11_shop_48 : decode cX11_shop 48 = .ok (.iinc 2 1, 3) := by decide +kernel
theorem dX11_shop_51 : decode cX11_shop 51 = .ok (.goto (-22), 3) := by decide +kernel
theorem dX11_shop_54 : decode cX11_shop 54 = .ok (.iconst 0, 1) := by decide +kernel
theorem dX11_shop_55 : decode cX11_shop 55 = .ok (.istore_n 2, 1) := by decide +kernel
theorem dX11_shop_56 : decode cX11_shop 56 = .ok (.iload_n 1, 1) := by decide +kernel
theorem dX11_shop_57 : decode cX11_shop 57 = .ok (.iload_n 2, 1) := by decide +kernel
theorem dX11_shop_58 : decode cX11_shop 58 = .ok (.ishr, 1) := by decide +kernel
theorem dX11_shop_59 : decode cX11_shop 59 = .ok (.iconst 1, 1) := by decide +kernel
theorem dX11_shop_60 : decode cX11_shop 60 = .ok (.iand, 1) := by decide +kernel
theorem dX11_shop_61 : decode cX11_shop 61 = .ok (.iconst 1, 1) := by decide +kernel
theorem dX11_shop_62 : decode cX11_shop 62 = .ok (.if_icmp .ne 9, 3) := by decide +kernel
theorem dX11_shop_65 : decode cX11_shop 65 = .ok (.iinc 2 1, 3) := by decide +kernel
theorem dX11_shop_68 : decode cX11_shop 68 = .ok (.goto (-12), 3) := by decide +kernel
theorem dX11_shop_71 : decode cX11_shop 71 = .ok (.aload_n 0, 1) := by decide +kernel
theorem dX11_shop_72 : decode cX11_shop 72 = .ok (.getfield 24, 3) := by decide +kernel
theorem dX11_shop_75 : decode cX11_shop 75 = .ok (.aload_n 0, 1) := by decide +kernel
theorem dX11_shop_76 : decode cX11_shop 76 = .ok (.getfield 85, 3) := by decide +kernel
theorem dX11_shop_79 : decode cX11_shop 79 = .ok (.iload_n 2, 1) := by decide +kernel
theorem dX11_shop_80 : decode cX11_shop 80 = .ok (.iastore, 1) := by decide +kernel
theorem dX11_shop_81 : decode cX11_shop 81 = .ok (.aload_n 0, 1) := by decide +kernel
theorem dX11_shop_82 : decode cX11_shop 82 = .ok (.getfield 30, 3) := by decide +kernel
theorem dX11_shop_85 : decode cX11_shop 85 = .ok (.aload_n 0, 1) := by decide +kernel
theorem dX11_shop_86 : decode cX11_shop 86 = .ok (.getfield 85, 3) := by decide +kernel
theorem dX11_shop_89 : decode cX11_shop 89 = .ok (.iconst 1, 1) := by decide +kernel
theorem dX11_shop_90 : decode cX11_shop 90 = .ok (.iastore, 1) := by decide +kernel
theorem dX11_shop_91 : decode cX11_shop 91 = .ok (.aload_n 0, 1) := by decide +kernel
theorem dX11_shop_92 : decode cX11_shop 92 = .ok (.dup, 1) := by decide +kernel
theorem dX11_shop_93 : decode cX11_shop 93 = .ok (.getfield 85, 3) := by decide +kernel
theorem dX11_shop_96 : decode cX11_shop 96 = .ok (.iconst 1, 1) := by decide +kernel
theorem dX11_shop_97 : decode cX11_shop 97 = .ok (.iadd, 1) := by decide +kernel
theorem dX11_shop_98 : decode cX11_shop 98 = .ok (.putfield 85, 3) := by decide +kernel
theorem dX11_shop_101 : decode cX11_shop 101 = .ok (.aload_n 0, 1) := by decide +kernel
theorem dX11_shop_102 : decode cX11_shop 102 = .ok (.getfield 85, 3) := by decide +kernel
theorem dX11_shop_105 : decode cX11_shop 105 = .ok (.iconst 1, 1) := by decide +kernel
theorem dX11_shop_106 : decode cX11_shop 106 = .ok (.isub, 1) := by decide +kernel
theorem dX11_shop_107 : decode cX11_shop 107 = .ok (.ireturn, 1) := by decide +kernel
theorem dX11_load_0 : decode cX11_load 0 = .ok (.iload_n 1, 1) := by decide +kernel
theorem dX11_load_1 : decode cX11_load 1 = .ok (.invokestatic 107, 3) := by decide +kernel
theorem dX11_load_4 : decode cX11_load 4 = .ok (.ifCond .eq 35, 3) := by decide +kernel
theorem dX11_load_7 : decode cX11_load 7 = .ok (.aload_n 0, 1) := by decide +kernel
theorem dX11_load_8 : decode cX11_load 8 = .ok (.iload_n 2, 1) := by decide +kernel
theorem dX11_load_9 : decode cX11_load 9 = .ok (.invokevirtual 110, 3) := by decide +kernel
theorem dX11_load_12 : decode cX11_load 12 = .ok (.ifCond .eq 27, 3) := by decide +kernel
theorem dX11_load_15 : decode cX11_load 15 = .ok (.aload_n 0, 1) := by decide +kernel
theorem dX11_load_16 : decode cX11_load 16 = .ok (.iload_n 3, 1) := by decide +kernel
theorem dX11_load_17 : decode cX11_load 17 = .ok (.invokevirtual 110, 3) := by decide +kernel
theorem dX11_load_20 : decode cX11_load 20 = .ok (.ifCond .eq 19, 3) := by decide +kernel
theorem dX11_load_23 : decode cX11_load 23 = .ok (.iload_n 2, 1) := by decide +kernel
theorem dX11_load_24 : decode cX11_load 24 = .ok (.iload_n 3, 1) := by decide +kernel
theorem dX11_load_25 : decode cX11_load 25 = .ok (.if_icmp .eq 14, 3) := by decide +kernel
theorem dX11_load_28 : decode cX11_load 28 = .ok (.iload 4, 2) := by decide +kernel
theorem dX11_load_30 : decode cX11_load 30 = .ok (.iconst 0, 1) := by decide +kernel
theorem dX11_load_31 : decode cX11_load 31 = .ok (.bipush 99, 2) := by decide +kernel
theorem dX11_load_33 : decode cX11_load 33 = .ok (.invokestatic 78, 3) := by decide +kernel
theorem dX11_load_36 : decode cX11_load 36 = .ok (.ifCond .ne 6, 3) := by decide +kernel
theorem dX11_load_39 : decode cX11_load 39 = .ok (.bipush (-2), 2) := by decide +kernel
theorem dX11_load_41 : decode cX11_load 41 = .ok (.ireturn, 1) := by decide +kernel
theorem dX11_load_42 : decode cX11_load 42 = .ok (.bipush 25, 2) := by decide +kernel
theorem dX11_load_44 : decode cX11_load 44 = .ok (.iload_n 1, 1) := by decide +kernel
theorem dX11_load_45 : decode cX11_load 45 = .ok (.imul, 1) := by decide +kernel
theorem dX11_load_46 : decode cX11_load 46 = .ok (.iconst 5, 1) := by decide +kernel
theorem dX11_load_47 : decode cX11_load 47 = .ok (.iload_n 2, 1) := by decide +kernel
theorem dX11_load_48 : decode cX11_load 48 = .ok (.imul, 1) := by decide +kernel
theorem dX11_load_49 : decode cX11_load 49 = .ok (.iadd, 1) := by decide +kernel
theorem dX11_load_50 : decode cX11_load 50 = .ok (.iload_n 3, 1) := by decide +kernel
theorem dX11_load_51 : decode cX11_load 51 = .ok (.iadd, 1) := by decide +kernel
theorem dX11_load_52 : decode cX11_load 52 = .ok (.istore 5, 2) := by decide +kernel
theorem dX11_load_54 : decode cX11_load 54 = .ok (.aload_n 0, 1) := by decide +kernel
theorem dX11_load_55 : decode cX11_load 55 = .ok (.getfield 27, 3) := by decide +kernel
theorem dX11_load_58 : decode cX11_load 58 = .ok (.iload 5, 2) := by decide +kernel
theorem dX11_load_60 : decode cX11_load 60 = .ok (.iaload, 1) := by decide +kernel
theorem dX11_load_61 : decode cX11_load 61 = .ok (.istore 6, 2) := by decide +kernel
theorem dX11_load_63 : decode cX11_load 63 = .ok (.aload_n 0, 1) := by decide +kernel
theorem dX11_load_64 : decode cX11_load 64 = .ok (.getfield 27, 3) := by decide +kernel
theorem dX11_load_67 : decode cX11_load 67 = .ok (.iload 5, 2) := by decide +kernel
theorem dX11_load_69 : decode cX11_load 69 = .ok (.iload 4, 2) := by decide +kernel
theorem dX11_load_71 : decode cX11_load 71 = .ok (.iastore, 1) := by decide +kernel
theorem dX11_load_72 : decode cX11_load 72 = .ok (.iload 6, 2) := by decide +kernel
theorem dX11_load_74 : decode cX11_load 74 = .ok (.ireturn, 1) := by decide +kernel
theorem dX11_weight_0 : decode cX11_weight 0 = .ok (.aload_n 0, 1) := by decide +kernel
theorem dX11_weight_1 : decode cX11_weight 1 = .ok (.iload_n 1, 1) := by decide +kernel
theorem dX11_weight_2 : decode cX11_weight 2 = .ok (.invokevirtual 110, 3) := by decide +kernel
theorem dX11_weight_5 : decode cX11_weight 5 = .ok (.ifCond .eq 13, 3) := by decide +kernel
theorem dX11_weight_8 : decode cX11_weight 8 = .ok (.iload_n 2, 1) := by decide +kernel
theorem dX11_weight_9 : decode cX11_weight 9 = .ok (.iconst 1, 1) := by decide +kernel
theorem dX11_weight_10 : decode cX11_weight 10 = .ok (.bipush 50, 2) := by decide +kernel
theorem dX11_weight_12 : decode cX11_weight 12 = .ok (.invokestatic 78, 3) := by decide +kernel
theorem dX11_weight_15 : decode cX11_weight 15 = .ok (.ifCond .ne 6, 3) := by decide +kernel
theorem dX11_weight_18 : decode cX11_weight 18 = .ok (.bipush (-2), 2) := by decide +kernel
theorem dX11_weight_20 : decode cX11_weight 20 = .ok (.ireturn, 1) := by decide +kernel
theorem dX11_weight_21 : decode cX11_weight 21 = .ok (.aload_n 0, 1) := by decide +kernel
theorem dX11_weight_22 : decode cX11_weight 22 = .ok (.getfield 30, 3) := by decide +kernel
theorem dX11_weight_25 : decode cX11_weight 25 = .ok (.iload_n 1, 1) := by decide +kernel
theorem dX11_weight_26 : decode cX11_weight 26 = .ok (.iaload, 1) := by decide +kernel
theorem dX11_weight_27 : decode cX11_weight 27 = .ok (.istore_n 3, 1) := by decide +kernel
theorem dX11_weight_28 : decode cX11_weight 28 = .ok (.aload_n 0, 1) := by decide +kernel
theorem dX11_weight_29 : decode cX11_weight 29 = .ok (.getfield 30, 3) := by decide +kernel
theorem dX11_weight_32 : decode cX11_weight 32 = .ok (.iload_n 1, 1) := by decide +kernel
theorem dX11_weight_33 : decode cX11_weight 33 = .ok (.iload_n 2, 1) := by decide +kernel
theorem dX11_weight_34 : decode cX11_weight 34 = .ok (.iastore, 1) := by decide +kernel
theorem dX11_weight_35 : decode cX11_weight 35 = .ok (.iload_n 3, 1) := by decide +kernel
theorem dX11_weight_36 : decode cX11_weight 36 = .ok (.ireturn, 1) := by decide +kernel
theorem dX11_wish_0 : decode cX11_wish 0 = .ok (.aload_n 0, 1) := by decide +kernel
theorem dX11_wish_1 : decode cX11_wish 1 = .ok (.iload_n 1, 1) := by decide +kernel
theorem dX11_wish_2 : decode cX11_wish 2 = .ok (.invokevirtual 110, 3) := by decide +kernel
theorem dX11_wish_5 : decode cX11_wish 5 = .ok (.ifCond .eq 27, 3) := by decide +kernel
theorem dX11_wish_8 : decode cX11_wish 8 = .ok (.aload_n 0, 1) := by decide +kernel
theorem dX11_wish_9 : decode cX11_wish 9 = .ok (.iload_n 2, 1) := by decide +kernel
theorem dX11_wish_10 : decode cX11_wish 10 = .ok (.invokevirtual 110, 3) := by decide +kernel
theorem dX11_wish_13 : decode cX11_wish 13 = .ok (.ifCond .eq 19, 3) := by decide +kernel
theorem dX11_wish_16 : decode cX11_wish 16 = .ok (.iload_n 1, 1) := by decide +kernel
theorem dX11_wish_17 : decode cX11_wish 17 = .ok (.iload_n 2, 1) := by decide +kernel
theorem dX11_wish_18 : decode cX11_wish 18 = .ok (.if_icmp .eq 14, 3) := by decide +kernel
theorem dX11_wish_21 : decode cX11_wish 21 = .ok (.iload 4, 2) := by decide +kernel
theorem dX11_wish_23 : decode cX11_wish 23 = .ok (.iconst 0, 1) := by decide +kernel
theorem dX11_wish_24 : decode cX11_wish 24 = .ok (.bipush 20, 2) := by decide +kernel
theorem dX11_wish_26 : decode cX11_wish 26 = .ok (.invokestatic 78, 3) := by decide +kernel
theorem dX11_wish_29 : decode cX11_wish 29 = .ok (.ifCond .ne 6, 3) := by decide +kernel
theorem dX11_wish_32 : decode cX11_wish 32 = .ok (.bipush (-2), 2) := by decide +kernel
theorem dX11_wish_34 : decode cX11_wish 34 = .ok (.ireturn, 1) := by decide +kernel
theorem dX11_wish_35 : decode cX11_wish 35 = .ok (.aload_n 0, 1) := by decide +kernel
theorem dX11_wish_36 : decode cX11_wish 36 = .ok (.getfield 113, 3) := by decide +kernel
theorem dX11_wish_39 : decode cX11_wish 39 = .ok (.bipush 6, 2) := by decide +kernel
theorem dX11_wish_41 : decode cX11_wish 41 = .ok (.if_icmp .ne 6, 3) := by decide +kernel
theorem dX11_wish_44 : decode cX11_wish 44 = .ok (.bipush (-4), 2) := by decide +kernel
theorem dX11_wish_46 : decode cX11_wish 46 = .ok (.ireturn, 1) := by decide +kernel
theorem dX11_wish_47 : decode cX11_wish 47 = .ok (.aload_n 0, 1) := by decide +kernel
theorem dX11_wish_48 : decode cX11_wish 48 = .ok (.getfield 33, 3) := by decide +kernel
theorem dX11_wish_51 : decode cX11_wish 51 = .ok (.aload_n 0, 1) := by decide +kernel
theorem dX11_wish_52 : decode cX11_wish 52 = .ok (.getfield 113, 3) := by decide +kernel
theorem dX11_wish_55 : decode cX11_wish 55 = .ok (.iload_n 1, 1) := by decide +kernel
theorem dX11_wish_56 : decode cX11_wish 56 = .ok (.iastore, 1) := by decide +kernel
theorem dX11_wish_57 : decode cX11_wish 57 = .ok (.aload_n 0, 1) := by decide +kernel
theorem dX11_wish_58 : decode cX11_wish 58 = .ok (.getfield 36, 3) := by decide +kernel
theorem dX11_wish_61 : decode cX11_wish 61 = .ok (.aload_n 0, 1) := by decide +kernel
theorem dX11_wish_62 : decode cX11_wish 62 = .ok (.getfield 113, 3) := by decide +kernel
theorem dX11_wish_65 : decode cX11_wish 65 = .ok (.iload_n 2, 1) := by decide +kernel
theorem dX11_wish_66 : decode cX11_wish 66 = .ok (.iastore, 1) := by decide +kernel
theorem dX11_wish_67 : decode cX11_wish 67 = .ok (.aload_n 0, 1) := by decide +kernel
theorem dX11_wish_68 : decode cX11_wish 68 = .ok (.getfield 39, 3) := by decide +kernel
theorem dX11_wish_71 : decode cX11_wish 71 = .ok (.aload_n 0, 1) := by decide +kernel
theorem dX11_wish_72 : decode cX11_wish 72 = .ok (.getfield 113, 3) := by decide +kernel
theorem dX11_wish_75 : decode cX11_wish 75 = .ok (.iload_n 3, 1) := by decide +kernel
theorem dX11_wish_76 : decode cX11_wish 76 = .ok (.bastore, 1) := by decide +kernel
theorem dX11_wish_77 : decode cX11_wish 77 = .ok (.aload_n 0, 1) := by decide +kernel
theorem dX11_wish_78 : decode cX11_wish 78 = .ok (.getfield 42, 3) := by decide +kernel
theorem dX11_wish_81 : decode cX11_wish 81 = .ok (.aload_n 0, 1) := by decide +kernel
theorem dX11_wish_82 : decode cX11_wish 82 = .ok (.getfield 113, 3) := by decide +kernel
theorem dX11_wish_85 : decode cX11_wish 85 = .ok (.iload 4, 2) := by decide +kernel
theorem dX11_wish_87 : decode cX11_wish 87 = .ok (.iastore, 1) := by decide +kernel
theorem dX11_wish_88 : decode cX11_wish 88 = .ok (.aload_n 0, 1) := by decide +kernel
theorem dX11_wish_89 : decode cX11_wish 89 = .ok (.dup, 1) := by decide +kernel
theorem dX11_wish_90 : decode cX11_wish 90 = .ok (.getfield 113, 3) := by decide +kernel
theorem dX11_wish_93 : decode cX11_wish 93 = .ok (.iconst 1, 1) := by decide +kernel
theorem dX11_wish_94 : decode cX11_wish 94 = .ok (.iadd, 1) := by decide +kernel
theorem dX11_wish_95 : decode cX11_wish 95 = .ok (.putfield 113, 3) := by decide +kernel
theorem dX11_wish_98 : decode cX11_wish 98 = .ok (.aload_n 0, 1) := by decide +kernel
theorem dX11_wish_99 : decode cX11_wish 99 = .ok (.getfield 113, 3) := by decide +kernel
theorem dX11_wish_102 : decode cX11_wish 102 = .ok (.iconst 1, 1) := by decide +kernel
theorem dX11_wish_103 : decode cX11_wish 103 = .ok (.isub, 1) := by decide +kernel
theorem dX11_wish_104 : decode cX11_wish 104 = .ok (.ireturn, 1) := by decide +kernel
theorem dX11_unwish_0 : decode cX11_unwish 0 = .ok (.iload_n 1, 1) := by decide +kernel
theorem dX11_unwish_1 : decode cX11_unwish 1 = .ok (.iconst 0, 1) := by decide +kernel
theorem dX11_unwish_2 : decode cX11_unwish 2 = .ok (.aload_n 0, 1) := by decide +kernel
theorem dX11_unwish_3 : decode cX11_unwish 3 = .ok (.getfield 113, 3) := by decide +kernel
theorem dX11_unwish_6 : decode cX11_unwish 6 = .ok (.iconst 1, 1) := by decide +kernel
theorem dX11_unwish_7 : decode cX11_unwish 7 = .ok (.isub, 1) := by decide +kernel
theorem dX11_unwish_8 : decode cX11_unwish 8 = .ok (.invokestatic 78, 3) := by decide +kernel
theorem dX11_unwish_11 : decode cX11_unwish 11 = .ok (.ifCond .ne 6, 3) := by decide +kernel
theorem dX11_unwish_14 : decode cX11_unwish 14 = .ok (.bipush (-2), 2) := by decide +kernel
theorem dX11_unwish_16 : decode cX11_unwish 16 = .ok (.ireturn, 1) := by decide +kernel
theorem dX11_unwish_17 : decode cX11_unwish 17 = .ok (.aload_n 0, 1) := by decide +kernel
theorem dX11_unwish_18 : decode cX11_unwish 18 = .ok (.dup, 1) := by decide +kernel
theorem dX11_unwish_19 : decode cX11_unwish 19 = .ok (.getfield 113, 3) := by decide +kernel
theorem dX11_unwish_22 : decode cX11_unwish 22 = .ok (.iconst 1, 1) := by decide +kernel
theorem dX11_unwish_23 : decode cX11_unwish 23 = .ok (.isub, 1) := by decide +kernel
theorem dX11_unwish_24 : decode cX11_unwish 24 = .ok (.putfield 113, 3) := by decide +kernel
theorem dX11_unwish_27 : decode cX11_unwish 27 = .ok (.iload_n 1, 1) := by decide +kernel
theorem dX11_unwish_28 : decode cX11_unwish 28 = .ok (.istore_n 2, 1) := by decide +kernel
theorem dX11_unwish_29 : decode cX11_unwish 29 = .ok (.iload_n 2, 1) := by decide +kernel
theorem dX11_unwish_30 : decode cX11_unwish 30 = .ok (.aload_n 0, 1) := by decide +kernel
theorem dX11_unwish_31 : decode cX11_unwish 31 = .ok (.getfield 113, 3) := by decide +kernel
theorem dX11_unwish_34 : decode cX11_unwish 34 = .ok (.if_icmp .ge 65, 3) := by decide +kernel
theorem dX11_unwish_37 : decode cX11_unwish 37 = .ok (.aload_n 0, 1) := by decide +kernel
theorem dX11_unwish_38 : decode cX11_unwish 38 = .ok (.getfield 33, 3) := by decide +kernel
theorem dX11_unwish_41 : decode cX11_unwish 41 = .ok (.iload_n 2, 1) := by decide +kernel
theorem dX11_unwish_42 : decode cX11_unwish 42 = .ok (.aload_n 0, 1) := by decide +kernel
theorem dX11_unwish_43 : decode cX11_unwish 43 = .ok (.getfield 33, 3) := by decide +kernel
theorem dX11_unwish_46 : decode cX11_unwish 46 = .ok (.iload_n 2, 1) := by decide +kernel
theorem dX11_unwish_47 : decode cX11_unwish 47 = .ok (.iconst 1, 1) := by decide +kernel
theorem dX11_unwish_48 : decode cX11_unwish 48 = .ok (.iadd, 1) := by decide +kernel
theorem dX11_unwish_49 : decode cX11_unwish 49 = .ok (.iaload, 1) := by decide +kernel
theorem dX11_unwish_50 : decode cX11_unwish 50 = .ok (.iastore, 1) := by decide +kernel
theorem dX11_unwish_51 : decode cX11_unwish 51 = .ok (.aload_n 0, 1) := by decide +kernel
theorem dX11_unwish_52 : decode cX11_unwish 52 = .ok (.getfield 36, 3) := by decide +kernel
theorem dX11_unwish_55 : decode cX11_unwish 55 = .ok (.iload_n 2, 1) := by decide +kernel
theorem dX11_unwish_56 : decode cX11_unwish 56 = .ok (.aload_n 0, 1) := by decide +kernel
theorem dX11_unwish_57 : decode cX11_unwish 57 = .ok (.getfield 36, 3) := by decide +kernel
theorem dX11_unwish_60 : decode cX11_unwish 60 = .ok (.iload_n 2, 1) := by decide +kernel
theorem dX11_unwish_61 : decode cX11_unwish 61 = .ok (.iconst 1, 1) := by decide +kernel
theorem dX11_unwish_62 : decode cX11_unwish 62 = .ok (.iadd, 1) := by decide +kernel
theorem dX11_unwish_63 : decode cX11_unwish 63 = .ok (.iaload, 1) := by decide +kernel
theorem dX11_unwish_64 : decode cX11_unwish 64 = .ok (.iastore, 1) := by decide +kernel
theorem dX11_unwish_65 : decode cX11_unwish 65 = .ok (.aload_n 0, 1) := by decide +kernel
theorem dX11_unwish_66 : decode cX11_unwish 66 = .ok (.getfield 39, 3) := by decide +kernel
theorem dX11_unwish_69 : decode cX11_unwish 69 = .ok (.iload_n 2, 1) := by decide +kernel
theorem dX11_unwish_70 : decode cX11_unwish 70 = .ok (.aload_n 0, 1) := by decide +kernel
theorem dX11_unwish_71 : decode cX11_unwish 71 = .ok (.getfield 39, 3) := by decide +kernel
theorem dX11_unwish_74 : decode cX11_unwish 74 = .ok (.iload_n 2, 1) := by decide +kernel
theorem dX11_unwish_75 : decode cX11_unwish 75 = .ok (.iconst 1, 1) := by decide +kernel
theorem dX11_unwish_76 : decode cX11_unwish 76 = .ok (.iadd, 1) := by decide +kernel
theorem dX11_unwish_77 : decode cX11_unwish 77 = .ok (.baload, 1) := by decide +kernel
theorem dX11_unwish_78 : decode cX11_unwish 78 = .ok (.bastore, 1) := by decide +kernel
theorem dX11_unwish_79 : decode cX11_unwish 79 = .ok (.aload_n 0, 1) := by decide +kernel
theorem dX11_unwish_80 : decode cX11_unwish 80 = .ok (.getfield 42, 3) := by decide +kernel
theorem dX11_unwish_83 : decode cX11_unwish 83 = .ok (.iload_n 2, 1) := by decide +kernel
theorem dX11_unwish_84 : decode cX11_unwish 84 = .ok (.aload_n 0, 1) := by decide +kernel
theorem dX11_unwish_85 : decode cX11_unwish 85 = .ok (.getfield 42, 3) := by decide +kernel
theorem dX11_unwish_88 : decode cX11_unwish 88 = .ok (.iload_n 2, 1) := by decide +kernel
theorem dX11_unwish_89 : decode cX11_unwish 89 = .ok (.iconst 1, 1) := by decide +kernel
theorem dX11_unwish_90 : decode cX11_unwish 90 = .ok (.iadd, 1) := by decide +kernel
theorem dX11_unwish_91 : decode cX11_unwish 91 = .ok (.iaload, 1) := by decide +kernel
theorem dX11_unwish_92 : decode cX11_unwish 92 = .ok (.iastore, 1) := by decide +kernel
theorem dX11_unwish_93 : decode cX11_unwish 93 = .ok (.iinc 2 1, 3) := by decide +kernel
theorem dX11_unwish_96 : decode cX11_unwish 96 = .ok (.goto (-67), 3) := by decide +kernel
theorem dX11_unwish_99 : decode cX11_unwish 99 = .ok (.iconst 1, 1) := by decide +kernel
theorem dX11_unwish_100 : decode cX11_unwish 100 = .ok (.ireturn, 1) := by decide +kernel
theorem dX11_allNumbers_0 : decode cX11_allNumbers 0 = .ok (.iconst 1, 1) := by decide +kernel
theorem dX11_allNumbers_1 : decode cX11_allNumbers 1 = .ok (.istore_n 1, 1) := by decide +kernel
theorem dX11_allNumbers_2 : decode cX11_allNumbers 2 = .ok (.iconst 0, 1) := by decide +kernel
theorem dX11_allNumbers_3 : decode cX11_allNumbers 3 = .ok (.istore_n 2, 1) := by decide +kernel
theorem dX11_allNumbers_4 : decode cX11_allNumbers 4 = .ok (.iload_n 2, 1) := by decide +kernel
theorem dX11_allNumbers_5 : decode cX11_allNumbers 5 = .ok (.aload_n 0, 1) := by decide +kernel
theorem dX11_allNumbers_6 : decode cX11_allNumbers 6 = .ok (.getfield 85, 3) := by decide +kernel
theorem dX11_allNumbers_9 : decode cX11_allNumbers 9 = .ok (.if_icmp .ge 14, 3) := by decide +kernel
theorem dX11_allNumbers_12 : decode cX11_allNumbers 12 = .ok (.iload_n 1, 1) := by decide +kernel
theorem dX11_allNumbers_13 : decode cX11_allNumbers 13 = .ok (.bipush 6, 2) := by decide +kernel
theorem dX11_allNumbers_15 : decode cX11_allNumbers 15 = .ok (.imul, 1) := by decide +kernel
theorem dX11_allNumbers_16 : decode cX11_allNumbers 16 = .ok (.istore_n 1, 1) := by decide +kernel
theorem dX11_allNumbers_17 : decode cX11_allNumbers 17 = .ok (.iinc 2 1, 3) := by decide +kernel
theorem dX11_allNumbers_20 : decode cX11_allNumbers 20 = .ok (.goto (-16), 3) := by decide +kernel
theorem dX11_allNumbers_23 : decode cX11_allNumbers 23 = .ok (.iload_n 1, 1) := by decide +kernel
theorem dX11_allNumbers_24 : decode cX11_allNumbers 24 = .ok (.ireturn, 1) := by decide +kernel
theorem dX11_layRow_0 : decode cX11_layRow 0 = .ok (.iload_n 1, 1) := by decide +kernel
theorem dX11_layRow_1 : decode cX11_layRow 1 = .ok (.istore_n 2, 1) := by decide +kernel
theorem dX11_layRow_2 : decode cX11_layRow 2 = .ok (.iconst 0, 1) := by decide +kernel
theorem dX11_layRow_3 : decode cX11_layRow 3 = .ok (.istore_n 3, 1) := by decide +kernel
theorem dX11_layRow_4 : decode cX11_layRow 4 = .ok (.iconst 1, 1) := by decide +kernel
theorem dX11_layRow_5 : decode cX11_layRow 5 = .ok (.istore 4, 2) := by decide +kernel
theorem dX11_layRow_7 : decode cX11_layRow 7 = .ok (.aload_n 0, 1) := by decide +kernel
theorem dX11_layRow_8 : decode cX11_layRow 8 = .ok (.getfield 85, 3) := by decide +kernel
theorem dX11_layRow_11 : decode cX11_layRow 11 = .ok (.iconst 1, 1) := by decide +kernel
theorem dX11_layRow_12 : decode cX11_layRow 12 = .ok (.isub, 1) := by decide +kernel
theorem dX11_layRow_13 : decode cX11_layRow 13 = .ok (.istore 5, 2) := by decide +kernel
theorem dX11_layRow_15 : decode cX11_layRow 15 = .ok (.iload 5, 2) := by decide +kernel
theorem dX11_layRow_17 : decode cX11_layRow 17 = .ok (.ifCond .lt 77, 3) := by decide +kernel
theorem dX11_layRow_20 : decode cX11_layRow 20 = .ok (.aload_n 0, 1) := by decide +kernel
theorem dX11_layRow_21 : decode cX11_layRow 21 = .ok (.getfield 57, 3) := by decide +kernel
theorem dX11_layRow_24 : decode cX11_layRow 24 = .ok (.iload 5, 2) := by decide +kernel
theorem dX11_layRow_26 : decode cX11_layRow 26 = .ok (.iload_n 2, 1) := by decide +kernel
theorem dX11_layRow_27 : decode cX11_layRow 27 = .ok (.bipush 6, 2) := by decide +kernel
theorem dX11_layRow_29 : decode cX11_layRow 29 = .ok (.irem, 1) := by decide +kernel
theorem dX11_layRow_30 : decode cX11_layRow 30 = .ok (.iastore, 1) := by decide +kernel
theorem dX11_layRow_31 : decode cX11_layRow 31 = .ok (.iload_n 2, 1) := by decide +kernel
theorem dX11_layRow_32 : decode cX11_layRow 32 = .ok (.bipush 6, 2) := by decide +kernel
theorem dX11_layRow_34 : decode cX11_layRow 34 = .ok (.idiv, 1) := by decide +kernel
theorem dX11_layRow_35 : decode cX11_layRow 35 = .ok (.istore_n 2, 1) := by decide +kernel
theorem dX11_layRow_36 : decode cX11_layRow 36 = .ok (.iload 4, 2) := by decide +kernel
theorem dX11_layRow_38 : decode cX11_layRow 38 = .ok (.ifCond .eq 35, 3) := by decide +kernel
theorem dX11_layRow_41 : decode cX11_layRow 41 = .ok (.aload_n 0, 1) := by decide +kernel
theorem dX11_layRow_42 : decode cX11_layRow 42 = .ok (.getfield 57, 3) := by decide +kernel
theorem dX11_layRow_45 : decode cX11_layRow 45 = .ok (.iload 5, 2) := by decide +kernel
theorem dX11_layRow_47 : decode cX11_layRow 47 = .ok (.iaload, 1) := by decide +kernel
theorem dX11_layRow_48 : decode cX11_layRow 48 = .ok (.aload_n 0, 1) := by decide +kernel
theorem dX11_layRow_49 : decode cX11_layRow 49 = .ok (.getfield 82, 3) := by decide +kernel
theorem dX11_layRow_52 : decode cX11_layRow 52 = .ok (.if_icmp .ge 21, 3) := by decide +kernel
theorem dX11_layRow_55 : decode cX11_layRow 55 = .ok (.iload_n 3, 1) := by decide +kernel
theorem dX11_layRow_56 : decode cX11_layRow 56 = .ok (.aload_n 0, 1) := by decide +kernel
theorem dX11_layRow_57 : decode cX11_layRow 57 = .ok (.getfield 57, 3) := by decide +kernel
theorem dX11_layRow_60 : decode cX11_layRow 60 = .ok (.iload 5, 2) := by decide +kernel
theorem dX11_layRow_62 : decode cX11_layRow 62 = .ok (.iaload, 1) := by decide +kernel
theorem dX11_layRow_63 : decode cX11_layRow 63 = .ok (.ishr, 1) := by decide +kernel
theorem dX11_layRow_64 : decode cX11_layRow 64 = .ok (.iconst 1, 1) := by decide +kernel
theorem dX11_layRow_65 : decode cX11_layRow 65 = .ok (.iand, 1) := by decide +kernel
theorem dX11_layRow_66 : decode cX11_layRow 66 = .ok (.ifCond .ne 7, 3) := by decide +kernel
theorem dX11_layRow_69 : decode cX11_layRow 69 = .ok (.iconst 1, 1) := by decide +kernel
theorem dX11_layRow_70 : decode cX11_layRow 70 = .ok (.goto 4, 3) := by decide +kernel
theorem dX11_layRow_73 : decode cX11_layRow 73 = .ok (.iconst 0, 1) := by decide +kernel
theorem dX11_layRow_74 : decode cX11_layRow 74 = .ok (.istore 4, 2) := by decide +kernel
theorem dX11_layRow_76 : decode cX11_layRow 76 = .ok (.iload_n 3, 1) := by decide +kernel
theorem dX11_layRow_77 : decode cX11_layRow 77 = .ok (.iconst 1, 1) := by decide +kernel
theorem dX11_layRow_78 : decode cX11_layRow 78 = .ok (.aload_n 0, 1) := by decide +kernel
theorem dX11_layRow_79 : decode cX11_layRow 79 = .ok (.getfield 57, 3) := by decide +kernel
theorem dX11_layRow_82 : decode cX11_layRow 82 = .ok (.iload 5, 2) := by decide +kernel
theorem dX11_layRow_84 : decode cX11_layRow 84 = .ok (.iaload, 1) := by decide +kernel
theorem dX11_layRow_85 : decode cX11_layRow 85 = .ok (.ishl, 1) := by decide +kernel
theorem dX11_layRow_86 : decode cX11_layRow 86 = .ok (.ior, 1) := by decide +kernel
theorem dX11_layRow_87 : decode cX11_layRow 87 = .ok (.istore_n 3, 1) := by decide +kernel
theorem dX11_layRow_88 : decode cX11_layRow 88 = .ok (.iinc 5 (-1), 3) := by decide +kernel
theorem dX11_layRow_91 : decode cX11_layRow 91 = .ok (.goto (-76), 3) := by decide +kernel
theorem dX11_layRow_94 : decode cX11_layRow 94 = .ok (.iload 4, 2) := by decide +kernel
theorem dX11_layRow_96 : decode cX11_layRow 96 = .ok (.ireturn, 1) := by decide +kernel
theorem dX11_numberOf_0 : decode cX11_numberOf 0 = .ok (.iconst 0, 1) := by decide +kernel
theorem dX11_numberOf_1 : decode cX11_numberOf 1 = .ok (.istore_n 1, 1) := by decide +kernel
theorem dX11_numberOf_2 : decode cX11_numberOf 2 = .ok (.iconst 0, 1) := by decide +kernel
theorem dX11_numberOf_3 : decode cX11_numberOf 3 = .ok (.istore_n 2, 1) := by decide +kernel
theorem dX11_numberOf_4 : decode cX11_numberOf 4 = .ok (.iload_n 2, 1) := by decide +kernel
theorem dX11_numberOf_5 : decode cX11_numberOf 5 = .ok (.aload_n 0, 1) := by decide +kernel
theorem dX11_numberOf_6 : decode cX11_numberOf 6 = .ok (.getfield 85, 3) := by decide +kernel
theorem dX11_numberOf_9 : decode cX11_numberOf 9 = .ok (.if_icmp .ge 21, 3) := by decide +kernel
theorem dX11_numberOf_12 : decode cX11_numberOf 12 = .ok (.bipush 6, 2) := by decide +kernel
theorem dX11_numberOf_14 : decode cX11_numberOf 14 = .ok (.iload_n 1, 1) := by decide +kernel
theorem dX11_numberOf_15 : decode cX11_numberOf 15 = .ok (.imul, 1) := by decide +kernel
theorem dX11_numberOf_16 : decode cX11_numberOf 16 = .ok (.aload_n 0, 1) := by decide +kernel
theorem dX11_numberOf_17 : decode cX11_numberOf 17 = .ok (.getfield 57, 3) := by decide +kernel
theorem dX11_numberOf_20 : decode cX11_numberOf 20 = .ok (.iload_n 2, 1) := by decide +kernel
theorem dX11_numberOf_21 : decode cX11_numberOf 21 = .ok (.iaload, 1) := by decide +kernel
theorem dX11_numberOf_22 : decode cX11_numberOf 22 = .ok (.iadd, 1) := by decide +kernel
theorem dX11_numberOf_23 : decode cX11_numberOf 23 = .ok (.istore_n 1, 1) := by decide +kernel
theorem dX11_numberOf_24 : decode cX11_numberOf 24 = .ok (.iinc 2 1, 3) := by decide +kernel
theorem dX11_numberOf_27 : decode cX11_numberOf 27 = .ok (.goto (-23), 3) := by decide +kernel
theorem dX11_numberOf_30 : decode cX11_numberOf 30 = .ok (.iload_n 1, 1) := by decide +kernel
theorem dX11_numberOf_31 : decode cX11_numberOf 31 = .ok (.ireturn, 1) := by decide +kernel
theorem dX11_takeNow_0 : decode cX11_takeNow 0 = .ok (.iconst 0, 1) := by decide +kernel
theorem dX11_takeNow_1 : decode cX11_takeNow 1 = .ok (.istore_n 1, 1) := by decide +kernel
theorem dX11_takeNow_2 : decode cX11_takeNow 2 = .ok (.iload_n 1, 1) := by decide +kernel
theorem dX11_takeNow_3 : decode cX11_takeNow 3 = .ok (.aload_n 0, 1) := by decide +kernel
theorem dX11_takeNow_4 : decode cX11_takeNow 4 = .ok (.getfield 85, 3) := by decide +kernel
theorem dX11_takeNow_7 : decode cX11_takeNow 7 = .ok (.if_icmp .ge 21, 3) := by decide +kernel
theorem dX11_takeNow_10 : decode cX11_takeNow 10 = .ok (.aload_n 0, 1) := by decide +kernel
theorem dX11_takeNow_11 : decode cX11_takeNow 11 = .ok (.getfield 57, 3) := by decide +kernel
theorem dX11_takeNow_14 : decode cX11_takeNow 14 = .ok (.iload_n 1, 1) := by decide +kernel
theorem dX11_takeNow_15 : decode cX11_takeNow 15 = .ok (.aload_n 0, 1) := by decide +kernel
theorem dX11_takeNow_16 : decode cX11_takeNow 16 = .ok (.getfield 24, 3) := by decide +kernel
theorem dX11_takeNow_19 : decode cX11_takeNow 19 = .ok (.iload_n 1, 1) := by decide +kernel
theorem dX11_takeNow_20 : decode cX11_takeNow 20 = .ok (.iaload, 1) := by decide +kernel
theorem dX11_takeNow_21 : decode cX11_takeNow 21 = .ok (.iastore, 1) := by decide +kernel
theorem dX11_takeNow_22 : decode cX11_takeNow 22 = .ok (.iinc 1 1, 3) := by decide +kernel
theorem dX11_takeNow_25 : decode cX11_takeNow 25 = .ok (.goto (-23), 3) := by decide +kernel
theorem dX11_takeNow_28 : decode cX11_takeNow 28 = .ok (.return_, 1) := by decide +kernel
theorem dX11_becomeNow_0 : decode cX11_becomeNow 0 = .ok (.iconst 0, 1) := by decide +kernel
theorem dX11_becomeNow_1 : decode cX11_becomeNow 1 = .ok (.istore_n 1, 1) := by decide +kernel
theorem dX11_becomeNow_2 : decode cX11_becomeNow 2 = .ok (.iload_n 1, 1) := by decide +kernel
theorem dX11_becomeNow_3 : decode cX11_becomeNow 3 = .ok (.aload_n 0, 1) := by decide +kernel
theorem dX11_becomeNow_4 : decode cX11_becomeNow 4 = .ok (.getfield 85, 3) := by decide +kernel
theorem dX11_becomeNow_7 : decode cX11_becomeNow 7 = .ok (.if_icmp .ge 21, 3) := by decide +kernel
theorem dX11_becomeNow_10 : decode cX11_becomeNow 10 = .ok (.aload_n 0, 1) := by decide +kernel
theorem dX11_becomeNow_11 : decode cX11_becomeNow 11 = .ok (.getfield 24, 3) := by decide +kernel
theorem dX11_becomeNow_14 : decode cX11_becomeNow 14 = .ok (.iload_n 1, 1) := by decide +kernel
theorem dX11_becomeNow_15 : decode cX11_becomeNow 15 = .ok (.aload_n 0, 1) := by decide +kernel
theorem dX11_becomeNow_16 : decode cX11_becomeNow 16 = .ok (.getfield 57, 3) := by decide +kernel
theorem dX11_becomeNow_19 : decode cX11_becomeNow 19 = .ok (.iload_n 1, 1) := by decide +kernel
theorem dX11_becomeNow_20 : decode cX11_becomeNow 20 = .ok (.iaload, 1) := by decide +kernel
theorem dX11_becomeNow_21 : decode cX11_becomeNow 21 = .ok (.iastore, 1) := by decide +kernel
theorem dX11_becomeNow_22 : decode cX11_becomeNow 22 = .ok (.iinc 1 1, 3) := by decide +kernel
theorem dX11_becomeNow_25 : decode cX11_becomeNow 25 = .ok (.goto (-23), 3) := by decide +kernel
theorem dX11_becomeNow_28 : decode cX11_becomeNow 28 = .ok (.return_, 1) := by decide +kernel
theorem dX11_layTold_0 : decode cX11_layTold 0 = .ok (.iload_n 1, 1) := by decide +kernel
theorem dX11_layTold_1 : decode cX11_layTold 1 = .ok (.ifCond .lt 11, 3) := by decide +kernel
theorem dX11_layTold_4 : decode cX11_layTold 4 = .ok (.iload_n 1, 1) := by decide +kernel
theorem dX11_layTold_5 : decode cX11_layTold 5 = .ok (.aload_n 0, 1) := by decide +kernel
theorem dX11_layTold_6 : decode cX11_layTold 6 = .ok (.invokevirtual 116, 3) := by decide +kernel
theorem dX11_layTold_9 : decode cX11_layTold 9 = .ok (.if_icmp .lt 5, 3) := by decide +kernel
theorem dX11_layTold_12 : decode cX11_layTold 12 = .ok (.iconst 0, 1) := by decide +kernel
theorem dX11_layTold_13 : decode cX11_layTold 13 = .ok (.ireturn, 1) := by decide +kernel
theorem dX11_layTold_14 : decode cX11_layTold 14 = .ok (.iload_n 1, 1) := by decide +kernel
theorem dX11_layTold_15 : decode cX11_layTold 15 = .ok (.istore_n 2, 1) := by decide +kernel
theorem dX11_layTold_16 : decode cX11_layTold 16 = .ok (.iconst 0, 1) := by decide +kernel
theorem dX11_layTold_17 : decode cX11_layTold 17 = .ok (.istore_n 3, 1) := by decide +kernel
theorem dX11_layTold_18 : decode cX11_layTold 18 = .ok (.iconst 1, 1) := by decide +kernel
theorem dX11_layTold_19 : decode cX11_layTold 19 = .ok (.istore 4, 2) := by decide +kernel
theorem dX11_layTold_21 : decode cX11_layTold 21 = .ok (.iconst 0, 1) := by decide +kernel
theorem dX11_layTold_22 : decode cX11_layTold 22 = .ok (.istore 5, 2) := by decide +kernel
theorem dX11_layTold_24 : decode cX11_layTold 24 = .ok (.iload 5, 2) := by decide +kernel
theorem dX11_layTold_26 : decode cX11_layTold 26 = .ok (.aload_n 0, 1) := by decide +kernel
theorem dX11_layTold_27 : decode cX11_layTold 27 = .ok (.getfield 85, 3) := by decide +kernel
theorem dX11_layTold_30 : decode cX11_layTold 30 = .ok (.if_icmp .ge 77, 3) := by decide +kernel
theorem dX11_layTold_33 : decode cX11_layTold 33 = .ok (.aload_n 0, 1) := by decide +kernel
theorem dX11_layTold_34 : decode cX11_layTold 34 = .ok (.getfield 57, 3) := by decide +kernel
theorem dX11_layTold_37 : decode cX11_layTold 37 = .ok (.iload 5, 2) := by decide +kernel
theorem dX11_layTold_39 : decode cX11_layTold 39 = .ok (.iload_n 2, 1) := by decide +kernel
theorem dX11_layTold_40 : decode cX11_layTold 40 = .ok (.bipush 6, 2) := by decide +kernel
theorem dX11_layTold_42 : decode cX11_layTold 42 = .ok (.irem, 1) := by decide +kernel
theorem dX11_layTold_43 : decode cX11_layTold 43 = .ok (.iastore, 1) := by decide +kernel
theorem dX11_layTold_44 : decode cX11_layTold 44 = .ok (.iload_n 2, 1) := by decide +kernel
theorem dX11_layTold_45 : decode cX11_layTold 45 = .ok (.bipush 6, 2) := by decide +kernel
theorem dX11_layTold_47 : decode cX11_layTold 47 = .ok (.idiv, 1) := by decide +kernel
theorem dX11_layTold_48 : decode cX11_layTold 48 = .ok (.istore_n 2, 1) := by decide +kernel
theorem dX11_layTold_49 : decode cX11_layTold 49 = .ok (.iload 4, 2) := by decide +kernel
theorem dX11_layTold_51 : decode cX11_layTold 51 = .ok (.ifCond .eq 35, 3) := by decide +kernel
theorem dX11_layTold_54 : decode cX11_layTold 54 = .ok (.aload_n 0, 1) := by decide +kernel
theorem dX11_layTold_55 : decode cX11_layTold 55 = .ok (.getfield 57, 3) := by decide +kernel
theorem dX11_layTold_58 : decode cX11_layTold 58 = .ok (.iload 5, 2) := by decide +kernel
theorem dX11_layTold_60 : decode cX11_layTold 60 = .ok (.iaload, 1) := by decide +kernel
theorem dX11_layTold_61 : decode cX11_layTold 61 = .ok (.aload_n 0, 1) := by decide +kernel
theorem dX11_layTold_62 : decode cX11_layTold 62 = .ok (.getfield 82, 3) := by decide +kernel
theorem dX11_layTold_65 : decode cX11_layTold 65 = .ok (.if_icmp .ge 21, 3) := by decide +kernel
theorem dX11_layTold_68 : decode cX11_layTold 68 = .ok (.iload_n 3, 1) := by decide +kernel
theorem dX11_layTold_69 : decode cX11_layTold 69 = .ok (.aload_n 0, 1) := by decide +kernel
theorem dX11_layTold_70 : decode cX11_layTold 70 = .ok (.getfield 57, 3) := by decide +kernel
theorem dX11_layTold_73 : decode cX11_layTold 73 = .ok (.iload 5, 2) := by decide +kernel
theorem dX11_layTold_75 : decode cX11_layTold 75 = .ok (.iaload, 1) := by decide +kernel
theorem dX11_layTold_76 : decode cX11_layTold 76 = .ok (.ishr, 1) := by decide +kernel
theorem dX11_layTold_77 : decode cX11_layTold 77 = .ok (.iconst 1, 1) := by decide +kernel
theorem dX11_layTold_78 : decode cX11_layTold 78 = .ok (.iand, 1) := by decide +kernel
theorem dX11_layTold_79 : decode cX11_layTold 79 = .ok (.ifCond .ne 7, 3) := by decide +kernel
theorem dX11_layTold_82 : decode cX11_layTold 82 = .ok (.iconst 1, 1) := by decide +kernel
theorem dX11_layTold_83 : decode cX11_layTold 83 = .ok (.goto 4, 3) := by decide +kernel
theorem dX11_layTold_86 : decode cX11_layTold 86 = .ok (.iconst 0, 1) := by decide +kernel
theorem dX11_layTold_87 : decode cX11_layTold 87 = .ok (.istore 4, 2) := by decide +kernel
theorem dX11_layTold_89 : decode cX11_layTold 89 = .ok (.iload_n 3, 1) := by decide +kernel
theorem dX11_layTold_90 : decode cX11_layTold 90 = .ok (.iconst 1, 1) := by decide +kernel
theorem dX11_layTold_91 : decode cX11_layTold 91 = .ok (.aload_n 0, 1) := by decide +kernel
theorem dX11_layTold_92 : decode cX11_layTold 92 = .ok (.getfield 57, 3) := by decide +kernel
theorem dX11_layTold_95 : decode cX11_layTold 95 = .ok (.iload 5, 2) := by decide +kernel
theorem dX11_layTold_97 : decode cX11_layTold 97 = .ok (.iaload, 1) := by decide +kernel
theorem dX11_layTold_98 : decode cX11_layTold 98 = .ok (.ishl, 1) := by decide +kernel
theorem dX11_layTold_99 : decode cX11_layTold 99 = .ok (.ior, 1) := by decide +kernel
theorem dX11_layTold_100 : decode cX11_layTold 100 = .ok (.istore_n 3, 1) := by decide +kernel
theorem dX11_layTold_101 : decode cX11_layTold 101 = .ok (.iinc 5 1, 3) := by decide +kernel
theorem dX11_layTold_104 : decode cX11_layTold 104 = .ok (.goto (-80), 3) := by decide +kernel
theorem dX11_layTold_107 : decode cX11_layTold 107 = .ok (.iload 4, 2) := by decide +kernel
theorem dX11_layTold_109 : decode cX11_layTold 109 = .ok (.ireturn, 1) := by decide +kernel
theorem dX11_toldOf_0 : decode cX11_toldOf 0 = .ok (.iconst 0, 1) := by decide +kernel
theorem dX11_toldOf_1 : decode cX11_toldOf 1 = .ok (.istore_n 1, 1) := by decide +kernel
theorem dX11_toldOf_2 : decode cX11_toldOf 2 = .ok (.aload_n 0, 1) := by decide +kernel
theorem dX11_toldOf_3 : decode cX11_toldOf 3 = .ok (.getfield 85, 3) := by decide +kernel
theorem dX11_toldOf_6 : decode cX11_toldOf 6 = .ok (.iconst 1, 1) := by decide +kernel
theorem dX11_toldOf_7 : decode cX11_toldOf 7 = .ok (.isub, 1) := by decide +kernel
theorem dX11_toldOf_8 : decode cX11_toldOf 8 = .ok (.istore_n 2, 1) := by decide +kernel
theorem dX11_toldOf_9 : decode cX11_toldOf 9 = .ok (.iload_n 2, 1) := by decide +kernel
theorem dX11_toldOf_10 : decode cX11_toldOf 10 = .ok (.ifCond .lt 21, 3) := by decide +kernel
theorem dX11_toldOf_13 : decode cX11_toldOf 13 = .ok (.bipush 6, 2) := by decide +kernel
theorem dX11_toldOf_15 : decode cX11_toldOf 15 = .ok (.iload_n 1, 1) := by decide +kernel
theorem dX11_toldOf_16 : decode cX11_toldOf 16 = .ok (.imul, 1) := by decide +kernel
theorem dX11_toldOf_17 : decode cX11_toldOf 17 = .ok (.aload_n 0, 1) := by decide +kernel
theorem dX11_toldOf_18 : decode cX11_toldOf 18 = .ok (.getfield 57, 3) := by decide +kernel
theorem dX11_toldOf_21 : decode cX11_toldOf 21 = .ok (.iload_n 2, 1) := by decide +kernel
theorem dX11_toldOf_22 : decode cX11_toldOf 22 = .ok (.iaload, 1) := by decide +kernel
theorem dX11_toldOf_23 : decode cX11_toldOf 23 = .ok (.iadd, 1) := by decide +kernel
theorem dX11_toldOf_24 : decode cX11_toldOf 24 = .ok (.istore_n 1, 1) := by decide +kernel
theorem dX11_toldOf_25 : decode cX11_toldOf 25 = .ok (.iinc 2 (-1), 3) := by decide +kernel
theorem dX11_toldOf_28 : decode cX11_toldOf 28 = .ok (.goto (-19), 3) := by decide +kernel
theorem dX11_toldOf_31 : decode cX11_toldOf 31 = .ok (.iload_n 1, 1) := by decide +kernel
theorem dX11_toldOf_32 : decode cX11_toldOf 32 = .ok (.ireturn, 1) := by decide +kernel
theorem dX11_put_0 : decode cX11_put 0 = .ok (.aload_n 0, 1) := by decide +kernel
theorem dX11_put_1 : decode cX11_put 1 = .ok (.iload_n 1, 1) := by decide +kernel
theorem dX11_put_2 : decode cX11_put 2 = .ok (.invokevirtual 120, 3) := by decide +kernel
theorem dX11_put_5 : decode cX11_put 5 = .ok (.ifCond .ne 6, 3) := by decide +kernel
theorem dX11_put_8 : decode cX11_put 8 = .ok (.bipush (-2), 2) := by decide +kernel
theorem dX11_put_10 : decode cX11_put 10 = .ok (.ireturn, 1) := by decide +kernel
theorem dX11_put_11 : decode cX11_put 11 = .ok (.aload_n 0, 1) := by decide +kernel
theorem dX11_put_12 : decode cX11_put 12 = .ok (.invokevirtual 123, 3) := by decide +kernel
theorem dX11_put_15 : decode cX11_put 15 = .ok (.iconst 1, 1) := by decide +kernel
theorem dX11_put_16 : decode cX11_put 16 = .ok (.ireturn, 1) := by decide +kernel
theorem dX11_places_0 : decode cX11_places 0 = .ok (.aload_n 0, 1) := by decide +kernel
theorem dX11_places_1 : decode cX11_places 1 = .ok (.invokevirtual 126, 3) := by decide +kernel
theorem dX11_places_4 : decode cX11_places 4 = .ok (.aload_n 0, 1) := by decide +kernel
theorem dX11_places_5 : decode cX11_places 5 = .ok (.invokevirtual 129, 3) := by decide +kernel
theorem dX11_places_8 : decode cX11_places 8 = .ok (.ireturn, 1) := by decide +kernel
theorem dX11_farOf_0 : decode cX11_farOf 0 = .ok (.aload_n 0, 1) := by decide +kernel
theorem dX11_farOf_1 : decode cX11_farOf 1 = .ok (.getfield 51, 3) := by decide +kernel
theorem dX11_farOf_4 : decode cX11_farOf 4 = .ok (.bipush 6, 2) := by decide +kernel
theorem dX11_farOf_6 : decode cX11_farOf 6 = .ok (.aload_n 0, 1) := by decide +kernel
theorem dX11_farOf_7 : decode cX11_farOf 7 = .ok (.getfield 57, 3) := by decide +kernel
theorem dX11_farOf_10 : decode cX11_farOf 10 = .ok (.iload_n 1, 1) := by decide +kernel
theorem dX11_farOf_11 : decode cX11_farOf 11 = .ok (.iaload, 1) := by decide +kernel
theorem dX11_farOf_12 : decode cX11_farOf 12 = .ok (.imul, 1) := by decide +kernel
theorem dX11_farOf_13 : decode cX11_farOf 13 = .ok (.aload_n 0, 1) := by decide +kernel
theorem dX11_farOf_14 : decode cX11_farOf 14 = .ok (.getfield 57, 3) := by decide +kernel
theorem dX11_farOf_17 : decode cX11_farOf 17 = .ok (.iload_n 2, 1) := by decide +kernel
theorem dX11_farOf_18 : decode cX11_farOf 18 = .ok (.iaload, 1) := by decide +kernel
theorem dX11_farOf_19 : decode cX11_farOf 19 = .ok (.iadd, 1) := by decide +kernel
theorem dX11_farOf_20 : decode cX11_farOf 20 = .ok (.iaload, 1) := by decide +kernel
theorem dX11_farOf_21 : decode cX11_farOf 21 = .ok (.ireturn, 1) := by decide +kernel
theorem dX11_meets_0 : decode cX11_meets 0 = .ok (.aload_n 0, 1) := by decide +kernel
theorem dX11_meets_1 : decode cX11_meets 1 = .ok (.aload_n 0, 1) := by decide +kernel
theorem dX11_meets_2 : decode cX11_meets 2 = .ok (.getfield 33, 3) := by decide +kernel
theorem dX11_meets_5 : decode cX11_meets 5 = .ok (.iload_n 1, 1) := by decide +kernel
theorem dX11_meets_6 : decode cX11_meets 6 = .ok (.iaload, 1) := by decide +kernel
theorem dX11_meets_7 : decode cX11_meets 7 = .ok (.aload_n 0, 1) := by decide +kernel
theorem dX11_meets_8 : decode cX11_meets 8 = .ok (.getfield 36, 3) := by decide +kernel
theorem dX11_meets_11 : decode cX11_meets 11 = .ok (.iload_n 1, 1) := by decide +kernel
theorem dX11_meets_12 : decode cX11_meets 12 = .ok (.iaload, 1) := by decide +kernel
theorem dX11_meets_13 : decode cX11_meets 13 = .ok (.invokevirtual 132, 3) := by decide +kernel
theorem dX11_meets_16 : decode cX11_meets 16 = .ok (.istore_n 2, 1) := by decide +kernel
theorem dX11_meets_17 : decode cX11_meets 17 = .ok (.aload_n 0, 1) := by decide +kernel
theorem dX11_meets_18 : decode cX11_meets 18 = .ok (.getfield 39, 3) := by decide +kernel
theorem dX11_meets_21 : decode cX11_meets 21 = .ok (.iload_n 1, 1) := by decide +kernel
theorem dX11_meets_22 : decode cX11_meets 22 = .ok (.baload, 1) := by decide +kernel
theorem dX11_meets_23 : decode cX11_meets 23 = .ok (.ifCond .eq 26, 3) := by decide +kernel
theorem dX11_meets_26 : decode cX11_meets 26 = .ok (.iload_n 2, 1) := by decide +kernel
theorem dX11_meets_27 : decode cX11_meets 27 = .ok (.iconst (-1), 1) := by decide +kernel
theorem dX11_meets_28 : decode cX11_meets 28 = .ok (.if_icmp .eq 17, 3) := by decide +kernel
theorem dX11_meets_31 : decode cX11_meets 31 = .ok (.iload_n 2, 1) := by decide +kernel
theorem dX11_meets_32 : decode cX11_meets 32 = .ok (.aload_n 0, 1) := by decide +kernel
theorem dX11_meets_33 : decode cX11_meets 33 = .ok (.getfield 42, 3) := by decide +kernel
theorem dX11_meets_36 : decode cX11_meets 36 = .ok (.iload_n 1, 1) := by decide +kernel
theorem dX11_meets_37 : decode cX11_meets 37 = .ok (.iaload, 1) := by decide +kernel
theorem dX11_meets_38 : decode cX11_meets 38 = .ok (.if_icmp .gt 7, 3) := by decide +kernel
theorem dX11_meets_41 : decode cX11_meets 41 = .ok (.iconst 1, 1) := by decide +kernel
theorem dX11_meets_42 : decode cX11_meets 42 = .ok (.goto 27, 3) := by decide +kernel
theorem dX11_meets_45 : decode cX11_meets 45 = .ok (.iconst 0, 1) := by decide +kernel
theorem dX11_meets_46 : decode cX11_meets 46 = .ok (.goto 23, 3) := by decide +kernel
theorem dX11_meets_49 : decode cX11_meets 49 = .ok (.iload_n 2, 1) := by decide +kernel
theorem dX11_meets_50 : decode cX11_meets 50 = .ok (.iconst (-1), 1) := by decide +kernel
theorem dX11_meets_51 : decode cX11_meets 51 = .ok (.if_icmp .eq 13, 3) := by decide +kernel
theorem dX11_meets_54 : decode cX11_meets 54 = .ok (.iload_n 2, 1) := by decide +kernel
theorem dX11_meets_55 : decode cX11_meets 55 = .ok (.aload_n 0, 1) := by decide +kernel
theorem dX11_meets_56 : decode cX11_meets 56 = .ok (.getfield 42, 3) := by decide +kernel
theorem dX11_meets_59 : decode cX11_meets 59 = .ok (.iload_n 1, 1) := by decide +kernel
theorem dX11_meets_60 : decode cX11_meets 60 = .ok (.iaload, 1) := by decide +kernel
theorem dX11_meets_61 : decode cX11_meets 61 = .ok (.if_icmp .lt 7, 3) := by decide +kernel
theorem dX11_meets_64 : decode cX11_meets 64 = .ok (.iconst 1, 1) := by decide +kernel
theorem dX11_meets_65 : decode cX11_meets 65 = .ok (.goto 4, 3) := by decide +kernel
theorem dX11_meets_68 : decode cX11_meets 68 = .ok (.iconst 0, 1) := by decide +kernel
theorem dX11_meets_69 : decode cX11_meets 69 = .ok (.ireturn, 1) := by decide +kernel
theorem dX11_costOf_0 : decode cX11_costOf 0 = .ok (.iconst 0, 1) := by decide +kernel
theorem dX11_costOf_1 : decode cX11_costOf 1 = .ok (.istore_n 2, 1) := by decide +kernel
theorem dX11_costOf_2 : decode cX11_costOf 2 = .ok (.iconst 0, 1) := by decide +kernel
theorem dX11_costOf_3 : decode cX11_costOf 3 = .ok (.istore_n 3, 1) := by decide +kernel
theorem dX11_costOf_4 : decode cX11_costOf 4 = .ok (.iload_n 3, 1) := by decide +kernel
theorem dX11_costOf_5 : decode cX11_costOf 5 = .ok (.aload_n 0, 1) := by decide +kernel
theorem dX11_costOf_6 : decode cX11_costOf 6 = .ok (.getfield 113, 3) := by decide +kernel
theorem dX11_costOf_9 : decode cX11_costOf 9 = .ok (.if_icmp .ge 20, 3) := by decide +kernel
theorem dX11_costOf_12 : decode cX11_costOf 12 = .ok (.aload_n 0, 1) := by decide +kernel
theorem dX11_costOf_13 : decode cX11_costOf 13 = .ok (.iload_n 3, 1) := by decide +kernel
theorem dX11_costOf_14 : decode cX11_costOf 14 = .ok (.invokevirtual 135, 3) := by decide +kernel
theorem dX11_costOf_17 : decode cX11_costOf 17 = .ok (.ifCond .ne 6, 3) := by decide +kernel
theorem dX11_costOf_20 : decode cX11_costOf 20 = .ok (.ldc 138, 2) := by decide +kernel
theorem dX11_costOf_22 : decode cX11_costOf 22 = .ok (.ireturn, 1) := by decide +kernel
theorem dX11_costOf_23 : decode cX11_costOf 23 = .ok (.iinc 3 1, 3) := by decide +kernel
theorem dX11_costOf_26 : decode cX11_costOf 26 = .ok (.goto (-22), 3) := by decide +kernel
theorem dX11_costOf_29 : decode cX11_costOf 29 = .ok (.iconst 0, 1) := by decide +kernel
theorem dX11_costOf_30 : decode cX11_costOf 30 = .ok (.istore_n 3, 1) := by decide +kernel
theorem dX11_costOf_31 : decode cX11_costOf 31 = .ok (.iload_n 3, 1) := by decide +kernel
theorem dX11_costOf_32 : decode cX11_costOf 32 = .ok (.aload_n 0, 1) := by decide +kernel
theorem dX11_costOf_33 : decode cX11_costOf 33 = .ok (.getfield 85, 3) := by decide +kernel
theorem dX11_costOf_36 : decode cX11_costOf 36 = .ok (.if_icmp .ge 117, 3) := by decide +kernel
theorem dX11_costOf_39 : decode cX11_costOf 39 = .ok (.aload_n 0, 1) := by decide +kernel
theorem dX11_costOf_40 : decode cX11_costOf 40 = .ok (.getfield 54, 3) := by decide +kernel
theorem dX11_costOf_43 : decode cX11_costOf 43 = .ok (.aload_n 0, 1) := by decide +kernel
theorem dX11_costOf_44 : decode cX11_costOf 44 = .ok (.getfield 57, 3) := by decide +kernel
theorem dX11_costOf_47 : decode cX11_costOf 47 = .ok (.iload_n 3, 1) := by decide +kernel
theorem dX11_costOf_48 : decode cX11_costOf 48 = .ok (.iaload, 1) := by decide +kernel
theorem dX11_costOf_49 : decode cX11_costOf 49 = .ok (.iaload, 1) := by decide +kernel
theorem dX11_costOf_50 : decode cX11_costOf 50 = .ok (.istore 4, 2) := by decide +kernel
theorem dX11_costOf_52 : decode cX11_costOf 52 = .ok (.aload_n 0, 1) := by decide +kernel
theorem dX11_costOf_53 : decode cX11_costOf 53 = .ok (.getfield 20, 3) := by decide +kernel
theorem dX11_costOf_56 : decode cX11_costOf 56 = .ok (.bipush 41, 2) := by decide +kernel
theorem dX11_costOf_58 : decode cX11_costOf 58 = .ok (.if_icmp .ge 21, 3) := by decide +kernel
theorem dX11_costOf_61 : decode cX11_costOf 61 = .ok (.iload 4, 2) := by decide +kernel
theorem dX11_costOf_63 : decode cX11_costOf 63 = .ok (.iconst (-1), 1) := by decide +kernel
theorem dX11_costOf_64 : decode cX11_costOf 64 = .ok (.if_icmp .eq 12, 3) := by decide +kernel
theorem dX11_costOf_67 : decode cX11_costOf 67 = .ok (.iload 4, 2) := by decide +kernel
theorem dX11_costOf_69 : decode cX11_costOf 69 = .ok (.aload_n 0, 1) := by decide +kernel
theorem dX11_costOf_70 : decode cX11_costOf 70 = .ok (.getfield 20, 3) := by decide +kernel
theorem dX11_costOf_73 : decode cX11_costOf 73 = .ok (.if_icmp .le 6, 3) := by decide +kernel
theorem dX11_costOf_76 : decode cX11_costOf 76 = .ok (.ldc 138, 2) := by decide +kernel
theorem dX11_costOf_78 : decode cX11_costOf 78 = .ok (.ireturn, 1) := by decide +kernel
theorem dX11_costOf_79 : decode cX11_costOf 79 = .ok (.iconst 0, 1) := by decide +kernel
theorem dX11_costOf_80 : decode cX11_costOf 80 = .ok (.istore 5, 2) := by decide +kernel
theorem dX11_costOf_82 : decode cX11_costOf 82 = .ok (.iload 5, 2) := by decide +kernel
theorem dX11_costOf_84 : decode cX11_costOf 84 = .ok (.aload_n 0, 1) := by decide +kernel
theorem dX11_costOf_85 : decode cX11_costOf 85 = .ok (.getfield 85, 3) := by decide +kernel
theorem dX11_costOf_88 : decode cX11_costOf 88 = .ok (.if_icmp .ge 59, 3) := by decide +kernel
theorem dX11_costOf_91 : decode cX11_costOf 91 = .ok (.aload_n 0, 1) := by decide +kernel
theorem dX11_costOf_92 : decode cX11_costOf 92 = .ok (.getfield 27, 3) := by decide +kernel
theorem dX11_costOf_95 : decode cX11_costOf 95 = .ok (.bipush 25, 2) := by decide +kernel
theorem dX11_costOf_97 : decode cX11_costOf 97 = .ok (.iload_n 1, 1) := by decide +kernel
theorem dX11_costOf_98 : decode cX11_costOf 98 = .ok (.imul, 1) := by decide +kernel
theorem dX11_costOf_99 : decode cX11_costOf 99 = .ok (.iconst 5, 1) := by decide +kernel
theorem dX11_costOf_100 : decode cX11_costOf 100 = .ok (.iload_n 3, 1) := by decide +kernel
theorem dX11_costOf_101 : decode cX11_costOf 101 = .ok (.imul, 1) := by decide +kernel
theorem dX11_costOf_102 : decode cX11_costOf 102 = .ok (.iadd, 1) := by decide +kernel
theorem dX11_costOf_103 : decode cX11_costOf 103 = .ok (.iload 5, 2) := by decide +kernel
theorem dX11_costOf_105 : decode cX11_costOf 105 = .ok (.iadd, 1) := by decide +kernel
theorem dX11_costOf_106 : decode cX11_costOf 106 = .ok (.iaload, 1) := by decide +kernel
theorem dX11_costOf_107 : decode cX11_costOf 107 = .ok (.istore 6, 2) := by decide +kernel
theorem dX11_costOf_109 : decode cX11_costOf 109 = .ok (.iload 6, 2) := by decide +kernel
theorem dX11_costOf_111 : decode cX11_costOf 111 = .ok (.ifCond .le 17, 3) := by decide +kernel
theorem dX11_costOf_114 : decode cX11_costOf 114 = .ok (.aload_n 0, 1) := by decide +kernel
theorem dX11_costOf_115 : decode cX11_costOf 115 = .ok (.iload_n 3, 1) := by decide +kernel
theorem dX11_costOf_116 : decode cX11_costOf 116 = .ok (.iload 5, 2) := by decide +kernel
theorem dX11_costOf_118 : decode cX11_costOf 118 = .ok (.invokevirtual 132, 3) := by decide +kernel
theorem dX11_costOf_121 : decode cX11_costOf 121 = .ok (.iconst (-1), 1) := by decide +kernel
theorem dX11_costOf_122 : decode cX11_costOf 122 = .ok (.if_icmp .ne 6, 3) := by decide +kernel
theorem dX11_costOf_125 : decode cX11_costOf 125 = .ok (.ldc 138, 2) := by decide +kernel
theorem dX11_costOf_127 : decode cX11_costOf 127 = .ok (.ireturn, 1) := by decide +kernel
theorem dX11_costOf_128 : decode cX11_costOf 128 = .ok (.iload_n 2, 1) := by decide +kernel
theorem dX11_costOf_129 : decode cX11_costOf 129 = .ok (.iload 6, 2) := by decide +kernel
theorem dX11_costOf_131 : decode cX11_costOf 131 = .ok (.aload_n 0, 1) := by decide +kernel
theorem dX11_costOf_132 : decode cX11_costOf 132 = .ok (.iload_n 3, 1) := by decide +kernel
theorem dX11_costOf_133 : decode cX11_costOf 133 = .ok (.iload 5, 2) := by decide +kernel
theorem dX11_costOf_135 : decode cX11_costOf 135 = .ok (.invokevirtual 132, 3) := by decide +kernel
theorem dX11_costOf_138 : decode cX11_costOf 138 = .ok (.imul, 1) := by decide +kernel
theorem dX11_costOf_139 : decode cX11_costOf 139 = .ok (.iadd, 1) := by decide +kernel
theorem dX11_costOf_140 : decode cX11_costOf 140 = .ok (.istore_n 2, 1) := by decide +kernel
theorem dX11_costOf_141 : decode cX11_costOf 141 = .ok (.iinc 5 1, 3) := by decide +kernel
theorem dX11_costOf_144 : decode cX11_costOf 144 = .ok (.goto (-62), 3) := by decide +kernel
theorem dX11_costOf_147 : decode cX11_costOf 147 = .ok (.iinc 3 1, 3) := by decide +kernel
theorem dX11_costOf_150 : decode cX11_costOf 150 = .ok (.goto (-119), 3) := by decide +kernel
theorem dX11_costOf_153 : decode cX11_costOf 153 = .ok (.iload_n 2, 1) := by decide +kernel
theorem dX11_costOf_154 : decode cX11_costOf 154 = .ok (.ireturn, 1) := by decide +kernel
theorem dX11_cost_0 : decode cX11_cost 0 = .ok (.iload_n 1, 1) := by decide +kernel
theorem dX11_cost_1 : decode cX11_cost 1 = .ok (.invokestatic 107, 3) := by decide +kernel
theorem dX11_cost_4 : decode cX11_cost 4 = .ok (.ifCond .ne 6, 3) := by decide +kernel
theorem dX11_cost_7 : decode cX11_cost 7 = .ok (.bipush (-2), 2) := by decide +kernel
theorem dX11_cost_9 : decode cX11_cost 9 = .ok (.ireturn, 1) := by decide +kernel
theorem dX11_cost_10 : decode cX11_cost 10 = .ok (.aload_n 0, 1) := by decide +kernel
theorem dX11_cost_11 : decode cX11_cost 11 = .ok (.invokevirtual 104, 3) := by decide +kernel
theorem dX11_cost_14 : decode cX11_cost 14 = .ok (.aload_n 0, 1) := by decide +kernel
theorem dX11_cost_15 : decode cX11_cost 15 = .ok (.invokevirtual 126, 3) := by decide +kernel
theorem dX11_cost_18 : decode cX11_cost 18 = .ok (.aload_n 0, 1) := by decide +kernel
theorem dX11_cost_19 : decode cX11_cost 19 = .ok (.iload_n 1, 1) := by decide +kernel
theorem dX11_cost_20 : decode cX11_cost 20 = .ok (.invokevirtual 139, 3) := by decide +kernel
theorem dX11_cost_23 : decode cX11_cost 23 = .ok (.istore_n 2, 1) := by decide +kernel
theorem dX11_cost_24 : decode cX11_cost 24 = .ok (.iload_n 2, 1) := by decide +kernel
theorem dX11_cost_25 : decode cX11_cost 25 = .ok (.ldc 138, 2) := by decide +kernel
theorem dX11_cost_27 : decode cX11_cost 27 = .ok (.if_icmp .ne 7, 3) := by decide +kernel
theorem dX11_cost_30 : decode cX11_cost 30 = .ok (.iconst (-1), 1) := by decide +kernel
theorem dX11_cost_31 : decode cX11_cost 31 = .ok (.goto 4, 3) := by decide +kernel
theorem dX11_cost_34 : decode cX11_cost 34 = .ok (.iload_n 2, 1) := by decide +kernel
theorem dX11_cost_35 : decode cX11_cost 35 = .ok (.ireturn, 1) := by decide +kernel
theorem dX11_bestOf_0 : decode cX11_bestOf 0 = .ok (.aload_n 0, 1) := by decide +kernel
theorem dX11_bestOf_1 : decode cX11_bestOf 1 = .ok (.invokevirtual 104, 3) := by decide +kernel
theorem dX11_bestOf_4 : decode cX11_bestOf 4 = .ok (.ldc 138, 2) := by decide +kernel
theorem dX11_bestOf_6 : decode cX11_bestOf 6 = .ok (.istore_n 2, 1) := by decide +kernel
theorem dX11_bestOf_7 : decode cX11_bestOf 7 = .ok (.aload_n 0, 1) := by decide +kernel
theorem dX11_bestOf_8 : decode cX11_bestOf 8 = .ok (.iconst 0, 1) := by decide +kernel
theorem dX11_bestOf_9 : decode cX11_bestOf 9 = .ok (.putfield 143, 3) := by decide +kernel
theorem dX11_bestOf_12 : decode cX11_bestOf 12 = .ok (.aload_n 0, 1) := by decide +kernel
theorem dX11_bestOf_13 : decode cX11_bestOf 13 = .ok (.iconst (-1), 1) := by decide +kernel
theorem dX11_bestOf_14 : decode cX11_bestOf 14 = .ok (.putfield 146, 3) := by decide +kernel
theorem dX11_bestOf_17 : decode cX11_bestOf 17 = .ok (.aload_n 0, 1) := by decide +kernel
theorem dX11_bestOf_18 : decode cX11_bestOf 18 = .ok (.invokevirtual 116, 3) := by decide +kernel
theorem dX11_bestOf_21 : decode cX11_bestOf 21 = .ok (.istore_n 3, 1) := by decide +kernel
theorem dX11_bestOf_22 : decode cX11_bestOf 22 = .ok (.iconst 0, 1) := by decide +kernel
theorem dX11_bestOf_23 : decode cX11_bestOf 23 = .ok (.istore 4, 2) := by decide +kernel
theorem dX11_bestOf_25 : decode cX11_bestOf 25 = .ok (.iload 4, 2) := by decide +kernel
theorem dX11_bestOf_27 : decode cX11_bestOf 27 = .ok (.iload_n 3, 1) := by decide +kernel
theorem dX11_bestOf_28 : decode cX11_bestOf 28 = .ok (.if_icmp .ge 77, 3) := by decide +kernel
theorem dX11_bestOf_31 : decode cX11_bestOf 31 = .ok (.aload_n 0, 1) := by decide +kernel
theorem dX11_bestOf_32 : decode cX11_bestOf 32 = .ok (.iload 4, 2) := by decide +kernel
theorem dX11_bestOf_34 : decode cX11_bestOf 34 = .ok (.invokevirtual 149, 3) := by decide +kernel
theorem dX11_bestOf_37 : decode cX11_bestOf 37 = .ok (.ifCond .eq 11, 3) := by decide +kernel
theorem dX11_bestOf_40 : decode cX11_bestOf 40 = .ok (.aload_n 0, 1) := by decide +kernel
theorem dX11_bestOf_41 : decode cX11_bestOf 41 = .ok (.iload_n 1, 1) := by decide +kernel
theorem dX11_bestOf_42 : decode cX11_bestOf 42 = .ok (.invokevirtual 139, 3) := by decide +kernel
theorem dX11_bestOf_45 : decode cX11_bestOf 45 = .ok (.goto 5, 3) := by decide +kernel
theorem dX11_bestOf_48 : decode cX11_bestOf 48 = .ok (.ldc 138, 2) := by decide +kernel
theorem dX11_bestOf_50 : decode cX11_bestOf 50 = .ok (.istore 5, 2) := by decide +kernel
theorem dX11_bestOf_52 : decode cX11_bestOf 52 = .ok (.iload 5, 2) := by decide +kernel
theorem dX11_bestOf_54 : decode cX11_bestOf 54 = .ok (.iload_n 2, 1) := by decide +kernel
theorem dX11_bestOf_55 : decode cX11_bestOf 55 = .ok (.if_icmp .ge 17, 3) := by decide +kernel
theorem dX11_bestOf_58 : decode cX11_bestOf 58 = .ok (.iload 5, 2) := by decide +kernel
theorem dX11_bestOf_60 : decode cX11_bestOf 60 = .ok (.istore_n 2, 1) := by decide +kernel
theorem dX11_bestOf_61 : decode cX11_bestOf 61 = .ok (.aload_n 0, 1) := by decide +kernel
theorem dX11_bestOf_62 : decode cX11_bestOf 62 = .ok (.iconst 0, 1) := by decide +kernel
theorem dX11_bestOf_63 : decode cX11_bestOf 63 = .ok (.putfield 143, 3) := by decide +kernel
theorem dX11_bestOf_66 : decode cX11_bestOf 66 = .ok (.aload_n 0, 1) := by decide +kernel
theorem dX11_bestOf_67 : decode cX11_bestOf 67 = .ok (.iload 4, 2) := by decide +kernel
theorem dX11_bestOf_69 : decode cX11_bestOf 69 = .ok (.putfield 146, 3) := by decide +kernel
theorem dX11_bestOf_72 : decode cX11_bestOf 72 = .ok (.aload_n 0, 1) := by decide +kernel
theorem dX11_bestOf_73 : decode cX11_bestOf 73 = .ok (.dup, 1) := by decide +kernel
theorem dX11_bestOf_74 : decode cX11_bestOf 74 = .ok (.getfield 143, 3) := by decide +kernel
theorem dX11_bestOf_77 : decode cX11_bestOf 77 = .ok (.iload 5, 2) := by decide +kernel
theorem dX11_bestOf_79 : decode cX11_bestOf 79 = .ok (.ldc 138, 2) := by decide +kernel
theorem dX11_bestOf_81 : decode cX11_bestOf 81 = .ok (.if_icmp .ge 13, 3) := by decide +kernel
theorem dX11_bestOf_84 : decode cX11_bestOf 84 = .ok (.iload 5, 2) := by decide +kernel
theorem dX11_bestOf_86 : decode cX11_bestOf 86 = .ok (.iload_n 2, 1) := by decide +kernel
theorem dX11_bestOf_87 : decode cX11_bestOf 87 = .ok (.if_icmp .ne 7, 3) := by decide +kernel
theorem dX11_bestOf_90 : decode cX11_bestOf 90 = .ok (.iconst 1, 1) := by decide +kernel
theorem dX11_bestOf_91 : decode cX11_bestOf 91 = .ok (.goto 4, 3) := by decide +kernel
theorem dX11_bestOf_94 : decode cX11_bestOf 94 = .ok (.iconst 0, 1) := by decide +kernel
theorem dX11_bestOf_95 : decode cX11_bestOf 95 = .ok (.iadd, 1) := by decide +kernel
theorem dX11_bestOf_96 : decode cX11_bestOf 96 = .ok (.putfield 143, 3) := by decide +kernel
theorem dX11_bestOf_99 : decode cX11_bestOf 99 = .ok (.iinc 4 1, 3) := by decide +kernel
theorem dX11_bestOf_102 : decode cX11_bestOf 102 = .ok (.goto (-77), 3) := by decide +kernel
theorem dX11_bestOf_105 : decode cX11_bestOf 105 = .ok (.iload_n 2, 1) := by decide +kernel
theorem dX11_bestOf_106 : decode cX11_bestOf 106 = .ok (.ireturn, 1) := by decide +kernel
theorem dX11_best_0 : decode cX11_best 0 = .ok (.iload_n 1, 1) := by decide +kernel
theorem dX11_best_1 : decode cX11_best 1 = .ok (.invokestatic 107, 3) := by decide +kernel
theorem dX11_best_4 : decode cX11_best 4 = .ok (.ifCond .ne 6, 3) := by decide +kernel
theorem dX11_best_7 : decode cX11_best 7 = .ok (.bipush (-2), 2) := by decide +kernel
theorem dX11_best_9 : decode cX11_best 9 = .ok (.ireturn, 1) := by decide +kernel
theorem dX11_best_10 : decode cX11_best 10 = .ok (.aload_n 0, 1) := by decide +kernel
theorem dX11_best_11 : decode cX11_best 11 = .ok (.iload_n 1, 1) := by decide +kernel
theorem dX11_best_12 : decode cX11_best 12 = .ok (.invokevirtual 152, 3) := by decide +kernel
theorem dX11_best_15 : decode cX11_best 15 = .ok (.istore_n 2, 1) := by decide +kernel
theorem dX11_best_16 : decode cX11_best 16 = .ok (.iload_n 2, 1) := by decide +kernel
theorem dX11_best_17 : decode cX11_best 17 = .ok (.ldc 138, 2) := by decide +kernel
theorem dX11_best_19 : decode cX11_best 19 = .ok (.if_icmp .ne 7, 3) := by decide +kernel
theorem dX11_best_22 : decode cX11_best 22 = .ok (.iconst (-1), 1) := by decide +kernel
theorem dX11_best_23 : decode cX11_best 23 = .ok (.goto 4, 3) := by decide +kernel
theorem dX11_best_26 : decode cX11_best 26 = .ok (.iload_n 2, 1) := by decide +kernel
theorem dX11_best_27 : decode cX11_best 27 = .ok (.ireturn, 1) := by decide +kernel
theorem dX11_many_0 : decode cX11_many 0 = .ok (.iload_n 1, 1) := by decide +kernel
theorem dX11_many_1 : decode cX11_many 1 = .ok (.invokestatic 107, 3) := by decide +kernel
theorem dX11_many_4 : decode cX11_many 4 = .ok (.ifCond .ne 6, 3) := by decide +kernel
theorem dX11_many_7 : decode cX11_many 7 = .ok (.bipush (-2), 2) := by decide +kernel
theorem dX11_many_9 : decode cX11_many 9 = .ok (.ireturn, 1) := by decide +kernel
theorem dX11_many_10 : decode cX11_many 10 = .ok (.aload_n 0, 1) := by decide +kernel
theorem dX11_many_11 : decode cX11_many 11 = .ok (.iload_n 1, 1) := by decide +kernel
theorem dX11_many_12 : decode cX11_many 12 = .ok (.invokevirtual 152, 3) := by decide +kernel
theorem dX11_many_15 : decode cX11_many 15 = .ok (.pop, 1) := by decide +kernel
theorem dX11_many_16 : decode cX11_many 16 = .ok (.aload_n 0, 1) := by decide +kernel
theorem dX11_many_17 : decode cX11_many 17 = .ok (.getfield 143, 3) := by decide +kernel
theorem dX11_many_20 : decode cX11_many 20 = .ok (.ireturn, 1) := by decide +kernel
theorem dX11_take_0 : decode cX11_take 0 = .ok (.iload_n 1, 1) := by decide +kernel
theorem dX11_take_1 : decode cX11_take 1 = .ok (.invokestatic 107, 3) := by decide +kernel
theorem dX11_take_4 : decode cX11_take 4 = .ok (.ifCond .ne 6, 3) := by decide +kernel
theorem dX11_take_7 : decode cX11_take 7 = .ok (.bipush (-2), 2) := by decide +kernel
theorem dX11_take_9 : decode cX11_take 9 = .ok (.ireturn, 1) := by decide +kernel
theorem dX11_take_10 : decode cX11_take 10 = .ok (.aload_n 0, 1) := by decide +kernel
theorem dX11_take_11 : decode cX11_take 11 = .ok (.iload_n 1, 1) := by decide +kernel
theorem dX11_take_12 : decode cX11_take 12 = .ok (.invokevirtual 152, 3) := by decide +kernel
theorem dX11_take_15 : decode cX11_take 15 = .ok (.istore_n 2, 1) := by decide +kernel
theorem dX11_take_16 : decode cX11_take 16 = .ok (.iload_n 2, 1) := by decide +kernel
theorem dX11_take_17 : decode cX11_take 17 = .ok (.ldc 138, 2) := by decide +kernel
theorem dX11_take_19 : decode cX11_take 19 = .ok (.if_icmp .ne 6, 3) := by decide +kernel
theorem dX11_take_22 : decode cX11_take 22 = .ok (.bipush (-3), 2) := by decide +kernel
theorem dX11_take_24 : decode cX11_take 24 = .ok (.ireturn, 1) := by decide +kernel
theorem dX11_take_25 : decode cX11_take 25 = .ok (.aload_n 0, 1) := by decide +kernel
theorem dX11_take_26 : decode cX11_take 26 = .ok (.aload_n 0, 1) := by decide +kernel
theorem dX11_take_27 : decode cX11_take 27 = .ok (.getfield 146, 3) := by decide +kernel
theorem dX11_take_30 : decode cX11_take 30 = .ok (.invokevirtual 149, 3) := by decide +kernel
theorem dX11_take_33 : decode cX11_take 33 = .ok (.pop, 1) := by decide +kernel
theorem dX11_take_34 : decode cX11_take 34 = .ok (.aload_n 0, 1) := by decide +kernel
theorem dX11_take_35 : decode cX11_take 35 = .ok (.invokevirtual 123, 3) := by decide +kernel
theorem dX11_take_38 : decode cX11_take 38 = .ok (.iload_n 2, 1) := by decide +kernel
theorem dX11_take_39 : decode cX11_take 39 = .ok (.ireturn, 1) := by decide +kernel
theorem dX11_sortIn_0 : decode cX11_sortIn 0 = .ok (.iload_n 2, 1) := by decide +kernel
theorem dX11_sortIn_1 : decode cX11_sortIn 1 = .ok (.istore_n 3, 1) := by decide +kernel
theorem dX11_sortIn_2 : decode cX11_sortIn 2 = .ok (.iload_n 3, 1) := by decide +kernel
theorem dX11_sortIn_3 : decode cX11_sortIn 3 = .ok (.ifCond .le 35, 3) := by decide +kernel
theorem dX11_sortIn_6 : decode cX11_sortIn 6 = .ok (.aload_n 0, 1) := by decide +kernel
theorem dX11_sortIn_7 : decode cX11_sortIn 7 = .ok (.getfield 60, 3) := by decide +kernel
theorem dX11_sortIn_10 : decode cX11_sortIn 10 = .ok (.iload_n 3, 1) := by decide +kernel
theorem dX11_sortIn_11 : decode cX11_sortIn 11 = .ok (.iconst 1, 1) := by decide +kernel
theorem dX11_sortIn_12 : decode cX11_sortIn 12 = .ok (.isub, 1) := by decide +kernel
theorem dX11_sortIn_13 : decode cX11_sortIn 13 = .ok (.iaload, 1) := by decide +kernel
theorem dX11_sortIn_14 : decode cX11_sortIn 14 = .ok (.iload_n 1, 1) := by decide +kernel
theorem dX11_sortIn_15 : decode cX11_sortIn 15 = .ok (.if_icmp .le 23, 3) := by decide +kernel
theorem dX11_sortIn_18 : decode cX11_sortIn 18 = .ok (.aload_n 0, 1) := by decide +kernel
theorem dX11_sortIn_19 : decode cX11_sortIn 19 = .ok (.getfield 60, 3) := by decide +kernel
theorem dX11_sortIn_22 : decode cX11_sortIn 22 = .ok (.iload_n 3, 1) := by decide +kernel
theorem dX11_sortIn_23 : decode cX11_sortIn 23 = .ok (.aload_n 0, 1) := by decide +kernel
theorem dX11_sortIn_24 : decode cX11_sortIn 24 = .ok (.getfield 60, 3) := by decide +kernel
theorem dX11_sortIn_27 : decode cX11_sortIn 27 = .ok (.iload_n 3, 1) := by decide +kernel
theorem dX11_sortIn_28 : decode cX11_sortIn 28 = .ok (.iconst 1, 1) := by decide +kernel
theorem dX11_sortIn_29 : decode cX11_sortIn 29 = .ok (.isub, 1) := by decide +kernel
theorem dX11_sortIn_30 : decode cX11_sortIn 30 = .ok (.iaload, 1) := by decide +kernel
theorem dX11_sortIn_31 : decode cX11_sortIn 31 = .ok (.iastore, 1) := by decide +kernel
theorem dX11_sortIn_32 : decode cX11_sortIn 32 = .ok (.iinc 3 (-1), 3) := by decide +kernel
theorem dX11_sortIn_35 : decode cX11_sortIn 35 = .ok (.goto (-33), 3) := by decide +kernel
theorem dX11_sortIn_38 : decode cX11_sortIn 38 = .ok (.aload_n 0, 1) := by decide +kernel
theorem dX11_sortIn_39 : decode cX11_sortIn 39 = .ok (.getfield 60, 3) := by decide +kernel
theorem dX11_sortIn_42 : decode cX11_sortIn 42 = .ok (.iload_n 3, 1) := by decide +kernel
theorem dX11_sortIn_43 : decode cX11_sortIn 43 = .ok (.iload_n 1, 1) := by decide +kernel
theorem dX11_sortIn_44 : decode cX11_sortIn 44 = .ok (.iastore, 1) := by decide +kernel
theorem dX11_sortIn_45 : decode cX11_sortIn 45 = .ok (.return_, 1) := by decide +kernel
theorem dX11_floor_0 : decode cX11_floor 0 = .ok (.iload_n 1, 1) := by decide +kernel
theorem dX11_floor_1 : decode cX11_floor 1 = .ok (.invokestatic 107, 3) := by decide +kernel
theorem dX11_floor_4 : decode cX11_floor 4 = .ok (.ifCond .ne 6, 3) := by decide +kernel
theorem dX11_floor_7 : decode cX11_floor 7 = .ok (.bipush (-2), 2) := by decide +kernel
theorem dX11_floor_9 : decode cX11_floor 9 = .ok (.ireturn, 1) := by decide +kernel
theorem dX11_floor_10 : decode cX11_floor 10 = .ok (.aload_n 0, 1) := by decide +kernel
theorem dX11_floor_11 : decode cX11_floor 11 = .ok (.invokevirtual 104, 3) := by decide +kernel
theorem dX11_floor_14 : decode cX11_floor 14 = .ok (.iconst 0, 1) := by decide +kernel
theorem dX11_floor_15 : decode cX11_floor 15 = .ok (.istore_n 2, 1) := by decide +kernel
theorem dX11_floor_16 : decode cX11_floor 16 = .ok (.iconst 0, 1) := by decide +kernel
theorem dX11_floor_17 : decode cX11_floor 17 = .ok (.istore_n 3, 1) := by decide +kernel
theorem dX11_floor_18 : decode cX11_floor 18 = .ok (.iload_n 3, 1) := by decide +kernel
theorem dX11_floor_19 : decode cX11_floor 19 = .ok (.aload_n 0, 1) := by decide +kernel
theorem dX11_floor_20 : decode cX11_floor 20 = .ok (.getfield 85, 3) := by decide +kernel
theorem dX11_floor_23 : decode cX11_floor 23 = .ok (.if_icmp .ge 74, 3) := by decide +kernel
theorem dX11_floor_26 : decode cX11_floor 26 = .ok (.iconst 0, 1) := by decide +kernel
theorem dX11_floor_27 : decode cX11_floor 27 = .ok (.istore 4, 2) := by decide +kernel
theorem dX11_floor_29 : decode cX11_floor 29 = .ok (.iload 4, 2) := by decide +kernel
theorem dX11_floor_31 : decode cX11_floor 31 = .ok (.iload_n 3, 1) := by decide +kernel
theorem dX11_floor_32 : decode cX11_floor 32 = .ok (.if_icmp .ge 59, 3) := by decide +kernel
theorem dX11_floor_35 : decode cX11_floor 35 = .ok (.aload_n 0, 1) := by decide +kernel
theorem dX11_floor_36 : decode cX11_floor 36 = .ok (.getfield 27, 3) := by decide +kernel
theorem dX11_floor_39 : decode cX11_floor 39 = .ok (.bipush 25, 2) := by decide +kernel
theorem dX11_floor_41 : decode cX11_floor 41 = .ok (.iload_n 1, 1) := by decide +kernel
theorem dX11_floor_42 : decode cX11_floor 42 = .ok (.imul, 1) := by decide +kernel
theorem dX11_floor_43 : decode cX11_floor 43 = .ok (.iconst 5, 1) := by decide +kernel
theorem dX11_floor_44 : decode cX11_floor 44 = .ok (.iload_n 3, 1) := by decide +kernel
theorem dX11_floor_45 : decode cX11_floor 45 = .ok (.imul, 1) := by decide +kernel
theorem dX11_floor_46 : decode cX11_floor 46 = .ok (.iadd, 1) := by decide +kernel
theorem dX11_floor_47 : decode cX11_floor 47 = .ok (.iload 4, 2) := by decide +kernel
theorem dX11_floor_49 : decode cX11_floor 49 = .ok (.iadd, 1) := by decide +kernel
theorem dX11_floor_50 : decode cX11_floor 50 = .ok (.iaload, 1) := by decide +kernel
theorem dX11_floor_51 : decode cX11_floor 51 = .ok (.aload_n 0, 1) := by decide +kernel
theorem dX11_floor_52 : decode cX11_floor 52 = .ok (.getfield 27, 3) := by decide +kernel
theorem dX11_floor_55 : decode cX11_floor 55 = .ok (.bipush 25, 2) := by decide +kernel
theorem dX11_floor_57 : decode cX11_floor 57 = .ok (.iload_n 1, 1) := by decide +kernel
theorem dX11_floor_58 : decode cX11_floor 58 = .ok (.imul, 1) := by decide +kernel
theorem dX11_floor_59 : decode cX11_floor 59 = .ok (.iconst 5, 1) := by decide +kernel
theorem dX11_floor_60 : decode cX11_floor 60 = .ok (.iload 4, 2) := by decide +kernel
theorem dX11_floor_62 : decode cX11_floor 62 = .ok (.imul, 1) := by decide +kernel
theorem dX11_floor_63 : decode cX11_floor 63 = .ok (.iadd, 1) := by decide +kernel
theorem dX11_floor_64 : decode cX11_floor 64 = .ok (.iload_n 3, 1) := by decide +kernel
theorem dX11_floor_65 : decode cX11_floor 65 = .ok (.iadd, 1) := by decide +kernel
theorem dX11_floor_66 : decode cX11_floor 66 = .ok (.iaload, 1) := by decide +kernel
theorem dX11_floor_67 : decode cX11_floor 67 = .ok (.iadd, 1) := by decide +kernel
theorem dX11_floor_68 : decode cX11_floor 68 = .ok (.istore 5, 2) := by decide +kernel
theorem dX11_floor_70 : decode cX11_floor 70 = .ok (.iload 5, 2) := by decide +kernel
theorem dX11_floor_72 : decode cX11_floor 72 = .ok (.ifCond .le 13, 3) := by decide +kernel
theorem dX11_floor_75 : decode cX11_floor 75 = .ok (.aload_n 0, 1) := by decide +kernel
theorem dX11_floor_76 : decode cX11_floor 76 = .ok (.iload 5, 2) := by decide +kernel
theorem dX11_floor_78 : decode cX11_floor 78 = .ok (.iload_n 2, 1) := by decide +kernel
theorem dX11_floor_79 : decode cX11_floor 79 = .ok (.invokevirtual 155, 3) := by decide +kernel
theorem dX11_floor_82 : decode cX11_floor 82 = .ok (.iinc 2 1, 3) := by decide +kernel
theorem dX11_floor_85 : decode cX11_floor 85 = .ok (.iinc 4 1, 3) := by decide +kernel
theorem dX11_floor_88 : decode cX11_floor 88 = .ok (.goto (-59), 3) := by decide +kernel
theorem dX11_floor_91 : decode cX11_floor 91 = .ok (.iinc 3 1, 3) := by decide +kernel
theorem dX11_floor_94 : decode cX11_floor 94 = .ok (.goto (-76), 3) := by decide +kernel
theorem dX11_floor_97 : decode cX11_floor 97 = .ok (.iconst 0, 1) := by decide +kernel
theorem dX11_floor_98 : decode cX11_floor 98 = .ok (.istore_n 3, 1) := by decide +kernel
theorem dX11_floor_99 : decode cX11_floor 99 = .ok (.iload_n 3, 1) := by decide +kernel
theorem dX11_floor_100 : decode cX11_floor 100 = .ok (.iload_n 2, 1) := by decide +kernel
theorem dX11_floor_101 : decode cX11_floor 101 = .ok (.if_icmp .ge 25, 3) := by decide +kernel
theorem dX11_floor_104 : decode cX11_floor 104 = .ok (.aload_n 0, 1) := by decide +kernel
theorem dX11_floor_105 : decode cX11_floor 105 = .ok (.getfield 63, 3) := by decide +kernel
theorem dX11_floor_108 : decode cX11_floor 108 = .ok (.iload_n 3, 1) := by decide +kernel
theorem dX11_floor_109 : decode cX11_floor 109 = .ok (.aload_n 0, 1) := by decide +kernel
theorem dX11_floor_110 : decode cX11_floor 110 = .ok (.getfield 60, 3) := by decide +kernel
theorem dX11_floor_113 : decode cX11_floor 113 = .ok (.iload_n 2, 1) := by decide +kernel
theorem dX11_floor_114 : decode cX11_floor 114 = .ok (.iconst 1, 1) := by decide +kernel
theorem dX11_floor_115 : decode cX11_floor 115 = .ok (.isub, 1) := by decide +kernel
theorem dX11_floor_116 : decode cX11_floor 116 = .ok (.iload_n 3, 1) := by decide +kernel
theorem dX11_floor_117 : decode cX11_floor 117 = .ok (.isub, 1) := by decide +kernel
theorem dX11_floor_118 : decode cX11_floor 118 = .ok (.iaload, 1) := by decide +kernel
theorem dX11_floor_119 : decode cX11_floor 119 = .ok (.iastore, 1) := by decide +kernel
theorem dX11_floor_120 : decode cX11_floor 120 = .ok (.iinc 3 1, 3) := by decide +kernel
theorem dX11_floor_123 : decode cX11_floor 123 = .ok (.goto (-24), 3) := by decide +kernel
theorem dX11_floor_126 : decode cX11_floor 126 = .ok (.iconst 0, 1) := by decide +kernel
theorem dX11_floor_127 : decode cX11_floor 127 = .ok (.istore_n 3, 1) := by decide +kernel
theorem dX11_floor_128 : decode cX11_floor 128 = .ok (.iconst 0, 1) := by decide +kernel
theorem dX11_floor_129 : decode cX11_floor 129 = .ok (.istore 4, 2) := by decide +kernel
theorem dX11_floor_131 : decode cX11_floor 131 = .ok (.iload 4, 2) := by decide +kernel
theorem dX11_floor_133 : decode cX11_floor 133 = .ok (.aload_n 0, 1) := by decide +kernel
theorem dX11_floor_134 : decode cX11_floor 134 = .ok (.getfield 82, 3) := by decide +kernel
theorem dX11_floor_137 : decode cX11_floor 137 = .ok (.if_icmp .ge 63, 3) := by decide +kernel
theorem dX11_floor_140 : decode cX11_floor 140 = .ok (.iconst 0, 1) := by decide +kernel
theorem dX11_floor_141 : decode cX11_floor 141 = .ok (.istore 5, 2) := by decide +kernel
theorem dX11_floor_143 : decode cX11_floor 143 = .ok (.iload 5, 2) := by decide +kernel
theorem dX11_floor_145 : decode cX11_floor 145 = .ok (.iload 4, 2) := by decide +kernel
theorem dX11_floor_147 : decode cX11_floor 147 = .ok (.if_icmp .ge 47, 3) := by decide +kernel
theorem dX11_floor_150 : decode cX11_floor 150 = .ok (.aload_n 0, 1) := by decide +kernel
theorem dX11_floor_151 : decode cX11_floor 151 = .ok (.getfield 51, 3) := by decide +kernel
theorem dX11_floor_154 : decode cX11_floor 154 = .ok (.bipush 6, 2) := by decide +kernel
theorem dX11_floor_156 : decode cX11_floor 156 = .ok (.iload 4, 2) := by decide +kernel
theorem dX11_floor_158 : decode cX11_floor 158 = .ok (.imul, 1) := by decide +kernel
theorem dX11_floor_159 : decode cX11_floor 159 = .ok (.iload 5, 2) := by decide +kernel
theorem dX11_floor_161 : decode cX11_floor 161 = .ok (.iadd, 1) := by decide +kernel
theorem dX11_floor_162 : decode cX11_floor 162 = .ok (.iaload, 1) := by decide +kernel
theorem dX11_floor_163 : decode cX11_floor 163 = .ok (.iconst (-1), 1) := by decide +kernel
theorem dX11_floor_164 : decode cX11_floor 164 = .ok (.if_icmp .eq 24, 3) := by decide +kernel
theorem dX11_floor_167 : decode cX11_floor 167 = .ok (.aload_n 0, 1) := by decide +kernel
theorem dX11_floor_168 : decode cX11_floor 168 = .ok (.aload_n 0, 1) := by decide +kernel
theorem dX11_floor_169 : decode cX11_floor 169 = .ok (.getfield 51, 3) := by decide +kernel
theorem dX11_floor_172 : decode cX11_floor 172 = .ok (.bipush 6, 2) := by decide +kernel
theorem dX11_floor_174 : decode cX11_floor 174 = .ok (.iload 4, 2) := by decide +kernel
theorem dX11_floor_176 : decode cX11_floor 176 = .ok (.imul, 1) := by decide +kernel
theorem dX11_floor_177 : decode cX11_floor 177 = .ok (.iload 5, 2) := by decide +kernel
theorem dX11_floor_179 : decode cX11_floor 179 = .ok (.iadd, 1) := by decide +kernel
theorem dX11_floor_180 : decode cX11_floor 180 = .ok (.iaload, 1) := by decide +kernel
theorem dX11_floor_181 : decode cX11_floor 181 = .ok (.iload_n 3, 1) := by decide +kernel
theorem dX11_floor_182 : decode cX11_floor 182 = .ok (.invokevirtual 155, 3) := by decide +kernel
theorem dX11_floor_185 : decode cX11_floor 185 = .ok (.iinc 3 1, 3) := by decide +kernel
theorem dX11_floor_188 : decode cX11_floor 188 = .ok (.iinc 5 1, 3) := by decide +kernel
theorem dX11_floor_191 : decode cX11_floor 191 = .ok (.goto (-48), 3) := by decide +kernel
theorem dX11_floor_194 : decode cX11_floor 194 = .ok (.iinc 4 1, 3) := by decide +kernel
theorem dX11_floor_197 : decode cX11_floor 197 = .ok (.goto (-66), 3) := by decide +kernel
theorem dX11_floor_200 : decode cX11_floor 200 = .ok (.iconst 0, 1) := by decide +kernel
theorem dX11_floor_201 : decode cX11_floor 201 = .ok (.istore 4, 2) := by decide +kernel
theorem dX11_floor_203 : decode cX11_floor 203 = .ok (.iconst 0, 1) := by decide +kernel
theorem dX11_floor_204 : decode cX11_floor 204 = .ok (.istore 5, 2) := by decide +kernel
theorem dX11_floor_206 : decode cX11_floor 206 = .ok (.iload 5, 2) := by decide +kernel
theorem dX11_floor_208 : decode cX11_floor 208 = .ok (.iload_n 2, 1) := by decide +kernel
theorem dX11_floor_209 : decode cX11_floor 209 = .ok (.if_icmp .ge 34, 3) := by decide +kernel
theorem dX11_floor_212 : decode cX11_floor 212 = .ok (.iload_n 3, 1) := by decide +kernel
theorem dX11_floor_213 : decode cX11_floor 213 = .ok (.iload_n 2, 1) := by decide +kernel
theorem dX11_floor_214 : decode cX11_floor 214 = .ok (.if_icmp .lt 29, 3) := by decide +kernel
theorem dX11_floor_217 : decode cX11_floor 217 = .ok (.iload 4, 2) := by decide +kernel
theorem dX11_floor_219 : decode cX11_floor 219 = .ok (.aload_n 0, 1) := by decide +kernel
theorem dX11_floor_220 : decode cX11_floor 220 = .ok (.getfield 63, 3) := by decide +kernel
theorem dX11_floor_223 : decode cX11_floor 223 = .ok (.iload 5, 2) := by decide +kernel
theorem dX11_floor_225 : decode cX11_floor 225 = .ok (.iaload, 1) := by decide +kernel
theorem dX11_floor_226 : decode cX11_floor 226 = .ok (.aload_n 0, 1) := by decide +kernel
theorem dX11_floor_227 : decode cX11_floor 227 = .ok (.getfield 60, 3) := by decide +kernel
theorem dX11_floor_230 : decode cX11_floor 230 = .ok (.iload 5, 2) := by decide +kernel
theorem dX11_floor_232 : decode cX11_floor 232 = .ok (.iaload, 1) := by decide +kernel
theorem dX11_floor_233 : decode cX11_floor 233 = .ok (.imul, 1) := by decide +kernel
theorem dX11_floor_234 : decode cX11_floor 234 = .ok (.iadd, 1) := by decide +kernel
theorem dX11_floor_235 : decode cX11_floor 235 = .ok (.istore 4, 2) := by decide +kernel
theorem dX11_floor_237 : decode cX11_floor 237 = .ok (.iinc 5 1, 3) := by decide +kernel
theorem dX11_floor_240 : decode cX11_floor 240 = .ok (.goto (-34), 3) := by decide +kernel
theorem dX11_floor_243 : decode cX11_floor 243 = .ok (.iload_n 3, 1) := by decide +kernel
theorem dX11_floor_244 : decode cX11_floor 244 = .ok (.iload_n 2, 1) := by decide +kernel
theorem dX11_floor_245 : decode cX11_floor 245 = .ok (.if_icmp .ge 7, 3) := by decide +kernel
theorem dX11_floor_248 : decode cX11_floor 248 = .ok (.iconst (-1), 1) := by decide +kernel
theorem dX11_floor_249 : decode cX11_floor 249 = .ok (.goto 5, 3) := by decide +kernel
theorem dX11_floor_252 : decode cX11_floor 252 = .ok (.iload 4, 2) := by decide +kernel
theorem dX11_floor_254 : decode cX11_floor 254 = .ok (.ireturn, 1) := by decide +kernel
theorem dX11_look_0 : decode cX11_look 0 = .ok (.aload_n 0, 1) := by decide +kernel
theorem dX11_look_1 : decode cX11_look 1 = .ok (.iload_n 1, 1) := by decide +kernel
theorem dX11_look_2 : decode cX11_look 2 = .ok (.invokevirtual 139, 3) := by decide +kernel
theorem dX11_look_5 : decode cX11_look 5 = .ok (.istore_n 2, 1) := by decide +kernel
theorem dX11_look_6 : decode cX11_look 6 = .ok (.aload_n 0, 1) := by decide +kernel
theorem dX11_look_7 : decode cX11_look 7 = .ok (.invokevirtual 159, 3) := by decide +kernel
theorem dX11_look_10 : decode cX11_look 10 = .ok (.istore_n 3, 1) := by decide +kernel
theorem dX11_look_11 : decode cX11_look 11 = .ok (.iload_n 2, 1) := by decide +kernel
theorem dX11_look_12 : decode cX11_look 12 = .ok (.aload_n 0, 1) := by decide +kernel
theorem dX11_look_13 : decode cX11_look 13 = .ok (.getfield 162, 3) := by decide +kernel
theorem dX11_look_16 : decode cX11_look 16 = .ok (.if_icmp .lt 33, 3) := by decide +kernel
theorem dX11_look_19 : decode cX11_look 19 = .ok (.iload_n 2, 1) := by decide +kernel
theorem dX11_look_20 : decode cX11_look 20 = .ok (.aload_n 0, 1) := by decide +kernel
theorem dX11_look_21 : decode cX11_look 21 = .ok (.getfield 162, 3) := by decide +kernel
theorem dX11_look_24 : decode cX11_look 24 = .ok (.if_icmp .ne 35, 3) := by decide +kernel
theorem dX11_look_27 : decode cX11_look 27 = .ok (.iload_n 2, 1) := by decide +kernel
theorem dX11_look_28 : decode cX11_look 28 = .ok (.ldc 138, 2) := by decide +kernel
theorem dX11_look_30 : decode cX11_look 30 = .ok (.if_icmp .ge 29, 3) := by decide +kernel
theorem dX11_look_33 : decode cX11_look 33 = .ok (.aload_n 0, 1) := by decide +kernel
theorem dX11_look_34 : decode cX11_look 34 = .ok (.getfield 165, 3) := by decide +kernel
theorem dX11_look_37 : decode cX11_look 37 = .ok (.iconst (-1), 1) := by decide +kernel
theorem dX11_look_38 : decode cX11_look 38 = .ok (.if_icmp .eq 21, 3) := by decide +kernel
theorem dX11_look_41 : decode cX11_look 41 = .ok (.iload_n 3, 1) := by decide +kernel
theorem dX11_look_42 : decode cX11_look 42 = .ok (.aload_n 0, 1) := by decide +kernel
theorem dX11_look_43 : decode cX11_look 43 = .ok (.getfield 165, 3) := by decide +kernel
theorem dX11_look_46 : decode cX11_look 46 = .ok (.if_icmp .ge 13, 3) := by decide +kernel
theorem dX11_look_49 : decode cX11_look 49 = .ok (.aload_n 0, 1) := by decide +kernel
theorem dX11_look_50 : decode cX11_look 50 = .ok (.iload_n 2, 1) := by decide +kernel
theorem dX11_look_51 : decode cX11_look 51 = .ok (.putfield 162, 3) := by decide +kernel
theorem dX11_look_54 : decode cX11_look 54 = .ok (.aload_n 0, 1) := by decide +kernel
theorem dX11_look_55 : decode cX11_look 55 = .ok (.iload_n 3, 1) := by decide +kernel
theorem dX11_look_56 : decode cX11_look 56 = .ok (.putfield 165, 3) := by decide +kernel
theorem dX11_look_59 : decode cX11_look 59 = .ok (.return_, 1) := by decide +kernel
theorem dX11_findChange_0 : decode cX11_findChange 0 = .ok (.aload_n 0, 1) := by decide +kernel
theorem dX11_findChange_1 : decode cX11_findChange 1 = .ok (.invokevirtual 126, 3) := by decide +kernel
theorem dX11_findChange_4 : decode cX11_findChange 4 = .ok (.aload_n 0, 1) := by decide +kernel
theorem dX11_findChange_5 : decode cX11_findChange 5 = .ok (.aload_n 0, 1) := by decide +kernel
theorem dX11_findChange_6 : decode cX11_findChange 6 = .ok (.iload_n 1, 1) := by decide +kernel
theorem dX11_findChange_7 : decode cX11_findChange 7 = .ok (.invokevirtual 139, 3) := by decide +kernel
theorem dX11_findChange_10 : decode cX11_findChange 10 = .ok (.putfield 162, 3) := by decide +kernel
theorem dX11_findChange_13 : decode cX11_findChange 13 = .ok (.aload_n 0, 1) := by decide +kernel
theorem dX11_findChange_14 : decode cX11_findChange 14 = .ok (.iconst (-1), 1) := by decide +kernel
theorem dX11_findChange_15 : decode cX11_findChange 15 = .ok (.putfield 165, 3) := by decide +kernel
theorem dX11_findChange_18 : decode cX11_findChange 18 = .ok (.iconst 0, 1) := by decide +kernel
theorem dX11_findChange_19 : decode cX11_findChange 19 = .ok (.istore_n 2, 1) := by decide +kernel
theorem dX11_findChange_20 : decode cX11_findChange 20 = .ok (.iload_n 2, 1) := by decide +kernel
theorem dX11_findChange_21 : decode cX11_findChange 21 = .ok (.aload_n 0, 1) := by decide +kernel
theorem dX11_findChange_22 : decode cX11_findChange 22 = .ok (.getfield 85, 3) := by decide +kernel
theorem dX11_findChange_25 : decode cX11_findChange 25 = .ok (.if_icmp .ge 107, 3) := by decide +kernel
theorem dX11_findChange_28 : decode cX11_findChange 28 = .ok (.iconst 0, 1) := by decide +kernel
theorem dX11_findChange_29 : decode cX11_findChange 29 = .ok (.istore_n 3, 1) := by decide +kernel
theorem dX11_findChange_30 : decode cX11_findChange 30 = .ok (.iload_n 3, 1) := by decide +kernel
theorem dX11_findChange_31 : decode cX11_findChange 31 = .ok (.aload_n 0, 1) := by decide +kernel
theorem dX11_findChange_32 : decode cX11_findChange 32 = .ok (.getfield 82, 3) := by decide +kernel
theorem dX11_findChange_35 : decode cX11_findChange 35 = .ok (.if_icmp .ge 91, 3) := by decide +kernel
theorem dX11_findChange_38 : decode cX11_findChange 38 = .ok (.aload_n 0, 1) := by decide +kernel
theorem dX11_findChange_39 : decode cX11_findChange 39 = .ok (.invokevirtual 126, 3) := by decide +kernel
theorem dX11_findChange_42 : decode cX11_findChange 42 = .ok (.iconst (-1), 1) := by decide +kernel
theorem dX11_findChange_43 : decode cX11_findChange 43 = .ok (.istore 4, 2) := by decide +kernel
theorem dX11_findChange_45 : decode cX11_findChange 45 = .ok (.iconst 0, 1) := by decide +kernel
theorem dX11_findChange_46 : decode cX11_findChange 46 = .ok (.istore 5, 2) := by decide +kernel
theorem dX11_findChange_48 : decode cX11_findChange 48 = .ok (.iload 5, 2) := by decide +kernel
theorem dX11_findChange_50 : decode cX11_findChange 50 = .ok (.aload_n 0, 1) := by decide +kernel
theorem dX11_findChange_51 : decode cX11_findChange 51 = .ok (.getfield 85, 3) := by decide +kernel
theorem dX11_findChange_54 : decode cX11_findChange 54 = .ok (.if_icmp .ge 29, 3) := by decide +kernel
theorem dX11_findChange_57 : decode cX11_findChange 57 = .ok (.aload_n 0, 1) := by decide +kernel
theorem dX11_findChange_58 : decode cX11_findChange 58 = .ok (.getfield 57, 3) := by decide +kernel
theorem dX11_findChange_61 : decode cX11_findChange 61 = .ok (.iload 5, 2) := by decide +kernel
theorem dX11_findChange_63 : decode cX11_findChange 63 = .ok (.iaload, 1) := by decide +kernel
theorem dX11_findChange_64 : decode cX11_findChange 64 = .ok (.iload_n 3, 1) := by decide +kernel
theorem dX11_findChange_65 : decode cX11_findChange 65 = .ok (.if_icmp .ne 8, 3) := by decide +kernel
theorem dX11_findChange_68 : decode cX11_findChange 68 = .ok (.iload 5, 2) := by decide +kernel
theorem dX11_findChange_70 : decode cX11_findChange 70 = .ok (.goto 5, 3) := by decide +kernel
theorem dX11_findChange_73 : decode cX11_findChange 73 = .ok (.iload 4, 2) := by decide +kernel
theorem dX11_findChange_75 : decode cX11_findChange 75 = .ok (.istore 4, 2) := by decide +kernel
theorem dX11_findChange_77 : decode cX11_findChange 77 = .ok (.iinc 5 1, 3) := by decide +kernel
theorem dX11_findChange_80 : decode cX11_findChange 80 = .ok (.goto (-32), 3) := by decide +kernel
theorem dX11_findChange_83 : decode cX11_findChange 83 = .ok (.iload 4, 2) := by decide +kernel
theorem dX11_findChange_85 : decode cX11_findChange 85 = .ok (.iload_n 2, 1) := by decide +kernel
theorem dX11_findChange_86 : decode cX11_findChange 86 = .ok (.if_icmp .eq 34, 3) := by decide +kernel
theorem dX11_findChange_89 : decode cX11_findChange 89 = .ok (.iload 4, 2) := by decide +kernel
theorem dX11_findChange_91 : decode cX11_findChange 91 = .ok (.iconst (-1), 1) := by decide +kernel
theorem dX11_findChange_92 : decode cX11_findChange 92 = .ok (.if_icmp .eq 16, 3) := by decide +kernel
theorem dX11_findChange_95 : decode cX11_findChange 95 = .ok (.aload_n 0, 1) := by decide +kernel
theorem dX11_findChange_96 : decode cX11_findChange 96 = .ok (.getfield 57, 3) := by decide +kernel
theorem dX11_findChange_99 : decode cX11_findChange 99 = .ok (.iload 4, 2) := by decide +kernel
theorem dX11_findChange_101 : decode cX11_findChange 101 = .ok (.aload_n 0, 1) := by decide +kernel
theorem dX11_findChange_102 : decode cX11_findChange 102 = .ok (.getfield 57, 3) := by decide +kernel
theorem dX11_findChange_105 : decode cX11_findChange 105 = .ok (.iload_n 2, 1) := by decide +kernel
theorem dX11_findChange_106 : decode cX11_findChange 106 = .ok (.iaload, 1) := by decide +kernel
theorem dX11_findChange_107 : decode cX11_findChange 107 = .ok (.iastore, 1) := by decide +kernel
theorem dX11_findChange_108 : decode cX11_findChange 108 = .ok (.aload_n 0, 1) := by decide +kernel
theorem dX11_findChange_109 : decode cX11_findChange 109 = .ok (.getfield 57, 3) := by decide +kernel
theorem dX11_findChange_112 : decode cX11_findChange 112 = .ok (.iload_n 2, 1) := by decide +kernel
theorem dX11_findChange_113 : decode cX11_findChange 113 = .ok (.iload_n 3, 1) := by decide +kernel
theorem dX11_findChange_114 : decode cX11_findChange 114 = .ok (.iastore, 1) := by decide +kernel
theorem dX11_findChange_115 : decode cX11_findChange 115 = .ok (.aload_n 0, 1) := by decide +kernel
theorem dX11_findChange_116 : decode cX11_findChange 116 = .ok (.iload_n 1, 1) := by decide +kernel
theorem dX11_findChange_117 : decode cX11_findChange 117 = .ok (.invokevirtual 168, 3) := by decide +kernel
theorem dX11_findChange_120 : decode cX11_findChange 120 = .ok (.iinc 3 1, 3) := by decide +kernel
theorem dX11_findChange_123 : decode cX11_findChange 123 = .ok (.goto (-93), 3) := by decide +kernel
theorem dX11_findChange_126 : decode cX11_findChange 126 = .ok (.iinc 2 1, 3) := by decide +kernel
theorem dX11_findChange_129 : decode cX11_findChange 129 = .ok (.goto (-109), 3) := by decide +kernel
theorem dX11_findChange_132 : decode cX11_findChange 132 = .ok (.return_, 1) := by decide +kernel
theorem dX11_settled_0 : decode cX11_settled 0 = .ok (.iload_n 1, 1) := by decide +kernel
theorem dX11_settled_1 : decode cX11_settled 1 = .ok (.invokestatic 107, 3) := by decide +kernel
theorem dX11_settled_4 : decode cX11_settled 4 = .ok (.ifCond .ne 6, 3) := by decide +kernel
theorem dX11_settled_7 : decode cX11_settled 7 = .ok (.bipush (-2), 2) := by decide +kernel
theorem dX11_settled_9 : decode cX11_settled 9 = .ok (.ireturn, 1) := by decide +kernel
theorem dX11_settled_10 : decode cX11_settled 10 = .ok (.aload_n 0, 1) := by decide +kernel
theorem dX11_settled_11 : decode cX11_settled 11 = .ok (.invokevirtual 104, 3) := by decide +kernel
theorem dX11_settled_14 : decode cX11_settled 14 = .ok (.aload_n 0, 1) := by decide +kernel
theorem dX11_settled_15 : decode cX11_settled 15 = .ok (.invokevirtual 126, 3) := by decide +kernel
theorem dX11_settled_18 : decode cX11_settled 18 = .ok (.aload_n 0, 1) := by decide +kernel
theorem dX11_settled_19 : decode cX11_settled 19 = .ok (.iload_n 1, 1) := by decide +kernel
theorem dX11_settled_20 : decode cX11_settled 20 = .ok (.invokevirtual 139, 3) := by decide +kernel
theorem dX11_settled_23 : decode cX11_settled 23 = .ok (.ldc 138, 2) := by decide +kernel
theorem dX11_settled_25 : decode cX11_settled 25 = .ok (.if_icmp .ne 5, 3) := by decide +kernel
theorem dX11_settled_28 : decode cX11_settled 28 = .ok (.iconst 0, 1) := by decide +kernel
theorem dX11_settled_29 : decode cX11_settled 29 = .ok (.ireturn, 1) := by decide +kernel
theorem dX11_settled_30 : decode cX11_settled 30 = .ok (.aload_n 0, 1) := by decide +kernel
theorem dX11_settled_31 : decode cX11_settled 31 = .ok (.iload_n 1, 1) := by decide +kernel
theorem dX11_settled_32 : decode cX11_settled 32 = .ok (.invokevirtual 171, 3) := by decide +kernel
theorem dX11_settled_35 : decode cX11_settled 35 = .ok (.aload_n 0, 1) := by decide +kernel
theorem dX11_settled_36 : decode cX11_settled 36 = .ok (.getfield 165, 3) := by decide +kernel
theorem dX11_settled_39 : decode cX11_settled 39 = .ok (.iconst (-1), 1) := by decide +kernel
theorem dX11_settled_40 : decode cX11_settled 40 = .ok (.if_icmp .ne 7, 3) := by decide +kernel
theorem dX11_settled_43 : decode cX11_settled 43 = .ok (.iconst 1, 1) := by decide +kernel
theorem dX11_settled_44 : decode cX11_settled 44 = .ok (.goto 4, 3) := by decide +kernel
theorem dX11_settled_47 : decode cX11_settled 47 = .ok (.iconst 0, 1) := by decide +kernel
theorem dX11_settled_48 : decode cX11_settled 48 = .ok (.ireturn, 1) := by decide +kernel
theorem dX11_climb_0 : decode cX11_climb 0 = .ok (.iload_n 1, 1) := by decide +kernel
theorem dX11_climb_1 : decode cX11_climb 1 = .ok (.invokestatic 107, 3) := by decide +kernel
theorem dX11_climb_4 : decode cX11_climb 4 = .ok (.ifCond .ne 6, 3) := by decide +kernel
theorem dX11_climb_7 : decode cX11_climb 7 = .ok (.bipush (-2), 2) := by decide +kernel
theorem dX11_climb_9 : decode cX11_climb 9 = .ok (.ireturn, 1) := by decide +kernel
theorem dX11_climb_10 : decode cX11_climb 10 = .ok (.aload_n 0, 1) := by decide +kernel
theorem dX11_climb_11 : decode cX11_climb 11 = .ok (.invokevirtual 104, 3) := by decide +kernel
theorem dX11_climb_14 : decode cX11_climb 14 = .ok (.iconst 0, 1) := by decide +kernel
theorem dX11_climb_15 : decode cX11_climb 15 = .ok (.istore_n 2, 1) := by decide +kernel
theorem dX11_climb_16 : decode cX11_climb 16 = .ok (.aload_n 0, 1) := by decide +kernel
theorem dX11_climb_17 : decode cX11_climb 17 = .ok (.iload_n 1, 1) := by decide +kernel
theorem dX11_climb_18 : decode cX11_climb 18 = .ok (.invokevirtual 171, 3) := by decide +kernel
theorem dX11_climb_21 : decode cX11_climb 21 = .ok (.aload_n 0, 1) := by decide +kernel
theorem dX11_climb_22 : decode cX11_climb 22 = .ok (.getfield 165, 3) := by decide +kernel
theorem dX11_climb_25 : decode cX11_climb 25 = .ok (.iconst (-1), 1) := by decide +kernel
theorem dX11_climb_26 : decode cX11_climb 26 = .ok (.if_icmp .eq 27, 3) := by decide +kernel
theorem dX11_climb_29 : decode cX11_climb 29 = .ok (.aload_n 0, 1) := by decide +kernel
theorem dX11_climb_30 : decode cX11_climb 30 = .ok (.aload_n 0, 1) := by decide +kernel
theorem dX11_climb_31 : decode cX11_climb 31 = .ok (.getfield 165, 3) := by decide +kernel
theorem dX11_climb_34 : decode cX11_climb 34 = .ok (.invokevirtual 149, 3) := by decide +kernel
theorem dX11_climb_37 : decode cX11_climb 37 = .ok (.pop, 1) := by decide +kernel
theorem dX11_climb_38 : decode cX11_climb 38 = .ok (.aload_n 0, 1) := by decide +kernel
theorem dX11_climb_39 : decode cX11_climb 39 = .ok (.invokevirtual 123, 3) := by decide +kernel
theorem dX11_climb_42 : decode cX11_climb 42 = .ok (.iinc 2 1, 3) := by decide +kernel
theorem dX11_climb_45 : decode cX11_climb 45 = .ok (.aload_n 0, 1) := by decide +kernel
theorem dX11_climb_46 : decode cX11_climb 46 = .ok (.iload_n 1, 1) := by decide +kernel
theorem dX11_climb_47 : decode cX11_climb 47 = .ok (.invokevirtual 171, 3) := by decide +kernel
theorem dX11_climb_50 : decode cX11_climb 50 = .ok (.goto (-29), 3) := by decide +kernel
theorem dX11_climb_53 : decode cX11_climb 53 = .ok (.iload_n 2, 1) := by decide +kernel
theorem dX11_climb_54 : decode cX11_climb 54 = .ok (.ireturn, 1) := by decide +kernel
theorem dX11_stepTo_0 : decode cX11_stepTo 0 = .ok (.aload_n 0, 1) := by decide +kernel
theorem dX11_stepTo_1 : decode cX11_stepTo 1 = .ok (.iload_n 1, 1) := by decide +kernel
theorem dX11_stepTo_2 : decode cX11_stepTo 2 = .ok (.invokevirtual 149, 3) := by decide +kernel
theorem dX11_stepTo_5 : decode cX11_stepTo 5 = .ok (.pop, 1) := by decide +kernel
theorem dX11_stepTo_6 : decode cX11_stepTo 6 = .ok (.iconst 0, 1) := by decide +kernel
theorem dX11_stepTo_7 : decode cX11_stepTo 7 = .ok (.istore 4, 2) := by decide +kernel
theorem dX11_stepTo_9 : decode cX11_stepTo 9 = .ok (.iload 4, 2) := by decide +kernel
theorem dX11_stepTo_11 : decode cX11_stepTo 11 = .ok (.aload_n 0, 1) := by decide +kernel
theorem dX11_stepTo_12 : decode cX11_stepTo 12 = .ok (.getfield 85, 3) := by decide +kernel
theorem dX11_stepTo_15 : decode cX11_stepTo 15 = .ok (.if_icmp .ge 22, 3) := by decide +kernel
theorem dX11_stepTo_18 : decode cX11_stepTo 18 = .ok (.aload_n 0, 1) := by decide +kernel
theorem dX11_stepTo_19 : decode cX11_stepTo 19 = .ok (.getfield 57, 3) := by decide +kernel
theorem dX11_stepTo_22 : decode cX11_stepTo 22 = .ok (.iload 4, 2) := by decide +kernel
theorem dX11_stepTo_24 : decode cX11_stepTo 24 = .ok (.iaload, 1) := by decide +kernel
theorem dX11_stepTo_25 : decode cX11_stepTo 25 = .ok (.iload_n 3, 1) := by decide +kernel
theorem dX11_stepTo_26 : decode cX11_stepTo 26 = .ok (.if_icmp .ne 5, 3) := by decide +kernel
theorem dX11_stepTo_29 : decode cX11_stepTo 29 = .ok (.iconst (-1), 1) := by decide +kernel
theorem dX11_stepTo_30 : decode cX11_stepTo 30 = .ok (.ireturn, 1) := by decide +kernel
theorem dX11_stepTo_31 : decode cX11_stepTo 31 = .ok (.iinc 4 1, 3) := by decide +kernel
theorem dX11_stepTo_34 : decode cX11_stepTo 34 = .ok (.goto (-25), 3) := by decide +kernel
theorem dX11_stepTo_37 : decode cX11_stepTo 37 = .ok (.aload_n 0, 1) := by decide +kernel
theorem dX11_stepTo_38 : decode cX11_stepTo 38 = .ok (.getfield 57, 3) := by decide +kernel
theorem dX11_stepTo_41 : decode cX11_stepTo 41 = .ok (.iload_n 2, 1) := by decide +kernel
theorem dX11_stepTo_42 : decode cX11_stepTo 42 = .ok (.iload_n 3, 1) := by decide +kernel
theorem dX11_stepTo_43 : decode cX11_stepTo 43 = .ok (.iastore, 1) := by decide +kernel
theorem dX11_stepTo_44 : decode cX11_stepTo 44 = .ok (.aload_n 0, 1) := by decide +kernel
theorem dX11_stepTo_45 : decode cX11_stepTo 45 = .ok (.invokevirtual 159, 3) := by decide +kernel
theorem dX11_stepTo_48 : decode cX11_stepTo 48 = .ok (.ireturn, 1) := by decide +kernel
theorem dX11_withStep_0 : decode cX11_withStep 0 = .ok (.aload_n 0, 1) := by decide +kernel
theorem dX11_withStep_1 : decode cX11_withStep 1 = .ok (.iload_n 1, 1) := by decide +kernel
theorem dX11_withStep_2 : decode cX11_withStep 2 = .ok (.iload_n 2, 1) := by decide +kernel
theorem dX11_withStep_3 : decode cX11_withStep 3 = .ok (.iload_n 3, 1) := by decide +kernel
theorem dX11_withStep_4 : decode cX11_withStep 4 = .ok (.invokevirtual 174, 3) := by decide +kernel
theorem dX11_withStep_7 : decode cX11_withStep 7 = .ok (.istore 4, 2) := by decide +kernel
theorem dX11_withStep_9 : decode cX11_withStep 9 = .ok (.iload 4, 2) := by decide +kernel
theorem dX11_withStep_11 : decode cX11_withStep 11 = .ok (.iconst (-1), 1) := by decide +kernel
theorem dX11_withStep_12 : decode cX11_withStep 12 = .ok (.if_icmp .eq 15, 3) := by decide +kernel
theorem dX11_withStep_15 : decode cX11_withStep 15 = .ok (.aload_n 0, 1) := by decide +kernel
theorem dX11_withStep_16 : decode cX11_withStep 16 = .ok (.getfield 66, 3) := by decide +kernel
theorem dX11_withStep_19 : decode cX11_withStep 19 = .ok (.iload 4, 2) := by decide +kernel
theorem dX11_withStep_21 : decode cX11_withStep 21 = .ok (.iaload, 1) := by decide +kernel
theorem dX11_withStep_22 : decode cX11_withStep 22 = .ok (.ldc 138, 2) := by decide +kernel
theorem dX11_withStep_24 : decode cX11_withStep 24 = .ok (.if_icmp .ne 8, 3) := by decide +kernel
theorem dX11_withStep_27 : decode cX11_withStep 27 = .ok (.ldc 138, 2) := by decide +kernel
theorem dX11_withStep_29 : decode cX11_withStep 29 = .ok (.goto 23, 3) := by decide +kernel
theorem dX11_withStep_32 : decode cX11_withStep 32 = .ok (.aload_n 0, 1) := by decide +kernel
theorem dX11_withStep_33 : decode cX11_withStep 33 = .ok (.getfield 66, 3) := by decide +kernel
theorem dX11_withStep_36 : decode cX11_withStep 36 = .ok (.iload 4, 2) := by decide +kernel
theorem dX11_withStep_38 : decode cX11_withStep 38 = .ok (.iaload, 1) := by decide +kernel
theorem dX11_withStep_39 : decode cX11_withStep 39 = .ok (.sipush 1000, 3) := by decide +kernel
theorem dX11_withStep_42 : decode cX11_withStep 42 = .ok (.aload_n 0, 1) := by decide +kernel
theorem dX11_withStep_43 : decode cX11_withStep 43 = .ok (.getfield 30, 3) := by decide +kernel
theorem dX11_withStep_46 : decode cX11_withStep 46 = .ok (.iload_n 2, 1) := by decide +kernel
theorem dX11_withStep_47 : decode cX11_withStep 47 = .ok (.iaload, 1) := by decide +kernel
theorem dX11_withStep_48 : decode cX11_withStep 48 = .ok (.imul, 1) := by decide +kernel
theorem dX11_withStep_49 : decode cX11_withStep 49 = .ok (.iadd, 1) := by decide +kernel
theorem dX11_withStep_50 : decode cX11_withStep 50 = .ok (.iconst 1, 1) := by decide +kernel
theorem dX11_withStep_51 : decode cX11_withStep 51 = .ok (.iadd, 1) := by decide +kernel
theorem dX11_withStep_52 : decode cX11_withStep 52 = .ok (.ireturn, 1) := by decide +kernel
theorem dX11_leastStep_0 : decode cX11_leastStep 0 = .ok (.aload_n 0, 1) := by decide +kernel
theorem dX11_leastStep_1 : decode cX11_leastStep 1 = .ok (.getfield 66, 3) := by decide +kernel
theorem dX11_leastStep_4 : decode cX11_leastStep 4 = .ok (.iload_n 1, 1) := by decide +kernel
theorem dX11_leastStep_5 : decode cX11_leastStep 5 = .ok (.iaload, 1) := by decide +kernel
theorem dX11_leastStep_6 : decode cX11_leastStep 6 = .ok (.istore_n 2, 1) := by decide +kernel
theorem dX11_leastStep_7 : decode cX11_leastStep 7 = .ok (.iconst 0, 1) := by decide +kernel
theorem dX11_leastStep_8 : decode cX11_leastStep 8 = .ok (.istore_n 3, 1) := by decide +kernel
theorem dX11_leastStep_9 : decode cX11_leastStep 9 = .ok (.iload_n 3, 1) := by decide +kernel
theorem dX11_leastStep_10 : decode cX11_leastStep 10 = .ok (.aload_n 0, 1) := by decide +kernel
theorem dX11_leastStep_11 : decode cX11_leastStep 11 = .ok (.getfield 85, 3) := by decide +kernel
theorem dX11_leastStep_14 : decode cX11_leastStep 14 = .ok (.if_icmp .ge 50, 3) := by decide +kernel
theorem dX11_leastStep_17 : decode cX11_leastStep 17 = .ok (.iconst 0, 1) := by decide +kernel
theorem dX11_leastStep_18 : decode cX11_leastStep 18 = .ok (.istore 4, 2) := by decide +kernel
theorem dX11_leastStep_20 : decode cX11_leastStep 20 = .ok (.iload 4, 2) := by decide +kernel
theorem dX11_leastStep_22 : decode cX11_leastStep 22 = .ok (.aload_n 0, 1) := by decide +kernel
theorem dX11_leastStep_23 : decode cX11_leastStep 23 = .ok (.getfield 82, 3) := by decide +kernel
theorem dX11_leastStep_26 : decode cX11_leastStep 26 = .ok (.if_icmp .ge 32, 3) := by decide +kernel
theorem dX11_leastStep_29 : decode cX11_leastStep 29 = .ok (.aload_n 0, 1) := by decide +kernel
theorem dX11_leastStep_30 : decode cX11_leastStep 30 = .ok (.iload_n 1, 1) := by decide +kernel
theorem dX11_leastStep_31 : decode cX11_leastStep 31 = .ok (.iload_n 3, 1) := by decide +kernel
theorem dX11_leastStep_32 : decode cX11_leastStep 32 = .ok (.iload 4, 2) := by decide +kernel
theorem dX11_leastStep_34 : decode cX11_leastStep 34 = .ok (.invokevirtual 178, 3) := by decide +kernel
theorem dX11_leastStep_37 : decode cX11_leastStep 37 = .ok (.istore 5, 2) := by decide +kernel
theorem dX11_leastStep_39 : decode cX11_leastStep 39 = .ok (.iload 5, 2) := by decide +kernel
theorem dX11_leastStep_41 : decode cX11_leastStep 41 = .ok (.iload_n 2, 1) := by decide +kernel
theorem dX11_leastStep_42 : decode cX11_leastStep 42 = .ok (.if_icmp .ge 8, 3) := by decide +kernel
theorem dX11_leastStep_45 : decode cX11_leastStep 45 = .ok (.iload 5, 2) := by decide +kernel
theorem dX11_leastStep_47 : decode cX11_leastStep 47 = .ok (.goto 4, 3) := by decide +kernel
theorem dX11_leastStep_50 : decode cX11_leastStep 50 = .ok (.iload_n 2, 1) := by decide +kernel
theorem dX11_leastStep_51 : decode cX11_leastStep 51 = .ok (.istore_n 2, 1) := by decide +kernel
theorem dX11_leastStep_52 : decode cX11_leastStep 52 = .ok (.iinc 4 1, 3) := by decide +kernel
theorem dX11_leastStep_55 : decode cX11_leastStep 55 = .ok (.goto (-35), 3) := by decide +kernel
theorem dX11_leastStep_58 : decode cX11_leastStep 58 = .ok (.iinc 3 1, 3) := by decide +kernel
theorem dX11_leastStep_61 : decode cX11_leastStep 61 = .ok (.goto (-52), 3) := by decide +kernel
theorem dX11_leastStep_64 : decode cX11_leastStep 64 = .ok (.iload_n 2, 1) := by decide +kernel
theorem dX11_leastStep_65 : decode cX11_leastStep 65 = .ok (.ireturn, 1) := by decide +kernel
theorem dX11_layMoves_0 : decode cX11_layMoves 0 = .ok (.aload_n 0, 1) := by decide +kernel
theorem dX11_layMoves_1 : decode cX11_layMoves 1 = .ok (.invokevirtual 116, 3) := by decide +kernel
theorem dX11_layMoves_4 : decode cX11_layMoves 4 = .ok (.istore_n 1, 1) := by decide +kernel
theorem dX11_layMoves_5 : decode cX11_layMoves 5 = .ok (.aload_n 0, 1) := by decide +kernel
theorem dX11_layMoves_6 : decode cX11_layMoves 6 = .ok (.invokevirtual 159, 3) := by decide +kernel
theorem dX11_layMoves_9 : decode cX11_layMoves 9 = .ok (.istore_n 2, 1) := by decide +kernel
theorem dX11_layMoves_10 : decode cX11_layMoves 10 = .ok (.iconst 0, 1) := by decide +kernel
theorem dX11_layMoves_11 : decode cX11_layMoves 11 = .ok (.istore_n 3, 1) := by decide +kernel
theorem dX11_layMoves_12 : decode cX11_layMoves 12 = .ok (.iload_n 3, 1) := by decide +kernel
theorem dX11_layMoves_13 : decode cX11_layMoves 13 = .ok (.iload_n 1, 1) := by decide +kernel
theorem dX11_layMoves_14 : decode cX11_layMoves 14 = .ok (.if_icmp .ge 17, 3) := by decide +kernel
theorem dX11_layMoves_17 : decode cX11_layMoves 17 = .ok (.aload_n 0, 1) := by decide +kernel
theorem dX11_layMoves_18 : decode cX11_layMoves 18 = .ok (.getfield 66, 3) := by decide +kernel
theorem dX11_layMoves_21 : decode cX11_layMoves 21 = .ok (.iload_n 3, 1) := by decide +kernel
theorem dX11_layMoves_22 : decode cX11_layMoves 22 = .ok (.ldc 138, 2) := by decide +kernel
theorem dX11_layMoves_24 : decode cX11_layMoves 24 = .ok (.iastore, 1) := by decide +kernel
theorem dX11_layMoves_25 : decode cX11_layMoves 25 = .ok (.iinc 3 1, 3) := by decide +kernel
theorem dX11_layMoves_28 : decode cX11_layMoves 28 = .ok (.goto (-16), 3) := by decide +kernel
theorem dX11_layMoves_31 : decode cX11_layMoves 31 = .ok (.aload_n 0, 1) := by decide +kernel
theorem dX11_layMoves_32 : decode cX11_layMoves 32 = .ok (.getfield 66, 3) := by decide +kernel
theorem dX11_layMoves_35 : decode cX11_layMoves 35 = .ok (.iload_n 2, 1) := by decide +kernel
theorem dX11_layMoves_36 : decode cX11_layMoves 36 = .ok (.iconst 0, 1) := by decide +kernel
theorem dX11_layMoves_37 : decode cX11_layMoves 37 = .ok (.iastore, 1) := by decide +kernel
theorem dX11_layMoves_38 : decode cX11_layMoves 38 = .ok (.iconst 1, 1) := by decide +kernel
theorem dX11_layMoves_39 : decode cX11_layMoves 39 = .ok (.istore_n 3, 1) := by decide +kernel
theorem dX11_layMoves_40 : decode cX11_layMoves 40 = .ok (.iload_n 3, 1) := by decide +kernel
theorem dX11_layMoves_41 : decode cX11_layMoves 41 = .ok (.ifCond .eq 76, 3) := by decide +kernel
theorem dX11_layMoves_44 : decode cX11_layMoves 44 = .ok (.iconst 0, 1) := by decide +kernel
theorem dX11_layMoves_45 : decode cX11_layMoves 45 = .ok (.istore_n 3, 1) := by decide +kernel
theorem dX11_layMoves_46 : decode cX11_layMoves 46 = .ok (.iconst 0, 1) := by decide +kernel
theorem dX11_layMoves_47 : decode cX11_layMoves 47 = .ok (.istore 4, 2) := by decide +kernel
theorem dX11_layMoves_49 : decode cX11_layMoves 49 = .ok (.iload 4, 2) := by decide +kernel
theorem dX11_layMoves_51 : decode cX11_layMoves 51 = .ok (.iload_n 1, 1) := by decide +kernel
theorem dX11_layMoves_52 : decode cX11_layMoves 52 = .ok (.if_icmp .ge 62, 3) := by decide +kernel
theorem dX11_layMoves_55 : decode cX11_layMoves 55 = .ok (.aload_n 0, 1) := by decide +kernel
theorem dX11_layMoves_56 : decode cX11_layMoves 56 = .ok (.iload 4, 2) := by decide +kernel
theorem dX11_layMoves_58 : decode cX11_layMoves 58 = .ok (.invokevirtual 149, 3) := by decide +kernel
theorem dX11_layMoves_61 : decode cX11_layMoves 61 = .ok (.ifCond .eq 12, 3) := by decide +kernel
theorem dX11_layMoves_64 : decode cX11_layMoves 64 = .ok (.aload_n 0, 1) := by decide +kernel
theorem dX11_layMoves_65 : decode cX11_layMoves 65 = .ok (.iload 4, 2) := by decide +kernel
theorem dX11_layMoves_67 : decode cX11_layMoves 67 = .ok (.invokevirtual 181, 3) := by decide +kernel
theorem dX11_layMoves_70 : decode cX11_layMoves 70 = .ok (.goto 5, 3) := by decide +kernel
theorem dX11_layMoves_73 : decode cX11_layMoves 73 = .ok (.ldc 138, 2) := by decide +kernel
theorem dX11_layMoves_75 : decode cX11_layMoves 75 = .ok (.istore 5, 2) := by decide +kernel
theorem dX11_layMoves_77 : decode cX11_layMoves 77 = .ok (.iload_n 3, 1) := by decide +kernel
theorem dX11_layMoves_78 : decode cX11_layMoves 78 = .ok (.ifCond .ne 15, 3) := by decide +kernel
theorem dX11_layMoves_81 : decode cX11_layMoves 81 = .ok (.iload 5, 2) := by decide +kernel
theorem dX11_layMoves_83 : decode cX11_layMoves 83 = .ok (.aload_n 0, 1) := by decide +kernel
theorem dX11_layMoves_84 : decode cX11_layMoves 84 = .ok (.getfield 66, 3) := by decide +kernel
theorem dX11_layMoves_87 : decode cX11_layMoves 87 = .ok (.iload 4, 2) := by decide +kernel
theorem dX11_layMoves_89 : decode cX11_layMoves 89 = .ok (.iaload, 1) := by decide +kernel
theorem dX11_layMoves_90 : decode cX11_layMoves 90 = .ok (.if_icmp .ge 7, 3) := by decide +kernel
theorem dX11_layMoves_93 : decode cX11_layMoves 93 = .ok (.iconst 1, 1) := by decide +kernel
theorem dX11_layMoves_94 : decode cX11_layMoves 94 = .ok (.goto 4, 3) := by decide +kernel
theorem dX11_layMoves_97 : decode cX11_layMoves 97 = .ok (.iconst 0, 1) := by decide +kernel
theorem dX11_layMoves_98 : decode cX11_layMoves 98 = .ok (.istore_n 3, 1) := by decide +kernel
theorem dX11_layMoves_99 : decode cX11_layMoves 99 = .ok (.aload_n 0, 1) := by decide +kernel
theorem dX11_layMoves_100 : decode cX11_layMoves 100 = .ok (.getfield 66, 3) := by decide +kernel
theorem dX11_layMoves_103 : decode cX11_layMoves 103 = .ok (.iload 4, 2) := by decide +kernel
theorem dX11_layMoves_105 : decode cX11_layMoves 105 = .ok (.iload 5, 2) := by decide +kernel
theorem dX11_layMoves_107 : decode cX11_layMoves 107 = .ok (.iastore, 1) := by decide +kernel
theorem dX11_layMoves_108 : decode cX11_layMoves 108 = .ok (.iinc 4 1, 3) := by decide +kernel
theorem dX11_layMoves_111 : decode cX11_layMoves 111 = .ok (.goto (-62), 3) := by decide +kernel
theorem dX11_layMoves_114 : decode cX11_layMoves 114 = .ok (.goto (-74), 3) := by decide +kernel
theorem dX11_layMoves_117 : decode cX11_layMoves 117 = .ok (.return_, 1) := by decide +kernel
theorem dX11_move_0 : decode cX11_move 0 = .ok (.aload_n 0, 1) := by decide +kernel
theorem dX11_move_1 : decode cX11_move 1 = .ok (.iload_n 1, 1) := by decide +kernel
theorem dX11_move_2 : decode cX11_move 2 = .ok (.invokevirtual 120, 3) := by decide +kernel
theorem dX11_move_5 : decode cX11_move 5 = .ok (.ifCond .ne 6, 3) := by decide +kernel
theorem dX11_move_8 : decode cX11_move 8 = .ok (.bipush (-2), 2) := by decide +kernel
theorem dX11_move_10 : decode cX11_move 10 = .ok (.ireturn, 1) := by decide +kernel
theorem dX11_move_11 : decode cX11_move 11 = .ok (.aload_n 0, 1) := by decide +kernel
theorem dX11_move_12 : decode cX11_move 12 = .ok (.invokevirtual 184, 3) := by decide +kernel
theorem dX11_move_15 : decode cX11_move 15 = .ok (.aload_n 0, 1) := by decide +kernel
theorem dX11_move_16 : decode cX11_move 16 = .ok (.invokevirtual 126, 3) := by decide +kernel
theorem dX11_move_19 : decode cX11_move 19 = .ok (.aload_n 0, 1) := by decide +kernel
theorem dX11_move_20 : decode cX11_move 20 = .ok (.getfield 66, 3) := by decide +kernel
theorem dX11_move_23 : decode cX11_move 23 = .ok (.aload_n 0, 1) := by decide +kernel
theorem dX11_move_24 : decode cX11_move 24 = .ok (.invokevirtual 159, 3) := by decide +kernel
theorem dX11_move_27 : decode cX11_move 27 = .ok (.iaload, 1) := by decide +kernel
theorem dX11_move_28 : decode cX11_move 28 = .ok (.istore_n 2, 1) := by decide +kernel
theorem dX11_move_29 : decode cX11_move 29 = .ok (.iload_n 2, 1) := by decide +kernel
theorem dX11_move_30 : decode cX11_move 30 = .ok (.ldc 138, 2) := by decide +kernel
theorem dX11_move_32 : decode cX11_move 32 = .ok (.if_icmp .ne 7, 3) := by decide +kernel
theorem dX11_move_35 : decode cX11_move 35 = .ok (.iconst (-1), 1) := by decide +kernel
theorem dX11_move_36 : decode cX11_move 36 = .ok (.goto 8, 3) := by decide +kernel
theorem dX11_move_39 : decode cX11_move 39 = .ok (.iload_n 2, 1) := by decide +kernel
theorem dX11_move_40 : decode cX11_move 40 = .ok (.sipush 1000, 3) := by decide +kernel
theorem dX11_move_43 : decode cX11_move 43 = .ok (.idiv, 1) := by decide +kernel
theorem dX11_move_44 : decode cX11_move 44 = .ok (.ireturn, 1) := by decide +kernel
theorem dX11_step_0 : decode cX11_step 0 = .ok (.iload_n 2, 1) := by decide +kernel
theorem dX11_step_1 : decode cX11_step 1 = .ok (.ifCond .lt 11, 3) := by decide +kernel
theorem dX11_step_4 : decode cX11_step 4 = .ok (.aload_n 0, 1) := by decide +kernel
theorem dX11_step_5 : decode cX11_step 5 = .ok (.iload_n 1, 1) := by decide +kernel
theorem dX11_step_6 : decode cX11_step 6 = .ok (.invokevirtual 120, 3) := by decide +kernel
theorem dX11_step_9 : decode cX11_step 9 = .ok (.ifCond .ne 6, 3) := by decide +kernel
theorem dX11_step_12 : decode cX11_step 12 = .ok (.bipush (-2), 2) := by decide +kernel
theorem dX11_step_14 : decode cX11_step 14 = .ok (.ireturn, 1) := by decide +kernel
theorem dX11_step_15 : decode cX11_step 15 = .ok (.aload_n 0, 1) := by decide +kernel
theorem dX11_step_16 : decode cX11_step 16 = .ok (.invokevirtual 184, 3) := by decide +kernel
theorem dX11_step_19 : decode cX11_step 19 = .ok (.aload_n 0, 1) := by decide +kernel
theorem dX11_step_20 : decode cX11_step 20 = .ok (.invokevirtual 126, 3) := by decide +kernel
theorem dX11_step_23 : decode cX11_step 23 = .ok (.aload_n 0, 1) := by decide +kernel
theorem dX11_step_24 : decode cX11_step 24 = .ok (.invokevirtual 159, 3) := by decide +kernel
theorem dX11_step_27 : decode cX11_step 27 = .ok (.istore_n 3, 1) := by decide +kernel
theorem dX11_step_28 : decode cX11_step 28 = .ok (.iconst (-1), 1) := by decide +kernel
theorem dX11_step_29 : decode cX11_step 29 = .ok (.istore 4, 2) := by decide +kernel
theorem dX11_step_31 : decode cX11_step 31 = .ok (.iconst 0, 1) := by decide +kernel
theorem dX11_step_32 : decode cX11_step 32 = .ok (.istore 5, 2) := by decide +kernel
theorem dX11_step_34 : decode cX11_step 34 = .ok (.iload 5, 2) := by decide +kernel
theorem dX11_step_36 : decode cX11_step 36 = .ok (.iload_n 2, 1) := by decide +kernel
theorem dX11_step_37 : decode cX11_step 37 = .ok (.if_icmp .gt 96, 3) := by decide +kernel
theorem dX11_step_40 : decode cX11_step 40 = .ok (.aload_n 0, 1) := by decide +kernel
theorem dX11_step_41 : decode cX11_step 41 = .ok (.getfield 66, 3) := by decide +kernel
theorem dX11_step_44 : decode cX11_step 44 = .ok (.iload_n 3, 1) := by decide +kernel
theorem dX11_step_45 : decode cX11_step 45 = .ok (.iaload, 1) := by decide +kernel
theorem dX11_step_46 : decode cX11_step 46 = .ok (.ifCond .eq 14, 3) := by decide +kernel
theorem dX11_step_49 : decode cX11_step 49 = .ok (.aload_n 0, 1) := by decide +kernel
theorem dX11_step_50 : decode cX11_step 50 = .ok (.getfield 66, 3) := by decide +kernel
theorem dX11_step_53 : decode cX11_step 53 = .ok (.iload_n 3, 1) := by decide +kernel
theorem dX11_step_54 : decode cX11_step 54 = .ok (.iaload, 1) := by decide +kernel
theorem dX11_step_55 : decode cX11_step 55 = .ok (.ldc 138, 2) := by decide +kernel
theorem dX11_step_57 : decode cX11_step 57 = .ok (.if_icmp .ne 5, 3) := by decide +kernel
theorem dX11_step_60 : decode cX11_step 60 = .ok (.iconst (-1), 1) := by decide +kernel
theorem dX11_step_61 : decode cX11_step 61 = .ok (.ireturn, 1) := by decide +kernel
theorem dX11_step_62 : decode cX11_step 62 = .ok (.iconst 0, 1) := by decide +kernel
theorem dX11_step_63 : decode cX11_step 63 = .ok (.istore 6, 2) := by decide +kernel
theorem dX11_step_65 : decode cX11_step 65 = .ok (.aload_n 0, 1) := by decide +kernel
theorem dX11_step_66 : decode cX11_step 66 = .ok (.iload_n 3, 1) := by decide +kernel
theorem dX11_step_67 : decode cX11_step 67 = .ok (.iload 6, 2) := by decide +kernel
theorem dX11_step_69 : decode cX11_step 69 = .ok (.bipush 6, 2) := by decide +kernel
theorem dX11_step_71 : decode cX11_step 71 = .ok (.idiv, 1) := by decide +kernel
theorem dX11_step_72 : decode cX11_step 72 = .ok (.iload 6, 2) := by decide +kernel
theorem dX11_step_74 : decode cX11_step 74 = .ok (.bipush 6, 2) := by decide +kernel
theorem dX11_step_76 : decode cX11_step 76 = .ok (.irem, 1) := by decide +kernel
theorem dX11_step_77 : decode cX11_step 77 = .ok (.invokevirtual 178, 3) := by decide +kernel
theorem dX11_step_80 : decode cX11_step 80 = .ok (.aload_n 0, 1) := by decide +kernel
theorem dX11_step_81 : decode cX11_step 81 = .ok (.getfield 66, 3) := by decide +kernel
theorem dX11_step_84 : decode cX11_step 84 = .ok (.iload_n 3, 1) := by decide +kernel
theorem dX11_step_85 : decode cX11_step 85 = .ok (.iaload, 1) := by decide +kernel
theorem dX11_step_86 : decode cX11_step 86 = .ok (.if_icmp .eq 9, 3) := by decide +kernel
theorem dX11_step_89 : decode cX11_step 89 = .ok (.iinc 6 1, 3) := by decide +kernel
theorem dX11_step_92 : decode cX11_step 92 = .ok (.goto (-27), 3) := by decide +kernel
theorem dX11_step_95 : decode cX11_step 95 = .ok (.bipush 10, 2) := by decide +kernel
theorem dX11_step_97 : decode cX11_step 97 = .ok (.iload 6, 2) := by decide +kernel
theorem dX11_step_99 : decode cX11_step 99 = .ok (.bipush 6, 2) := by decide +kernel
theorem dX11_step_101 : decode cX11_step 101 = .ok (.idiv, 1) := by decide +kernel
theorem dX11_step_102 : decode cX11_step 102 = .ok (.imul, 1) := by decide +kernel
theorem dX11_step_103 : decode cX11_step 103 = .ok (.iload 6, 2) := by decide +kernel
theorem dX11_step_105 : decode cX11_step 105 = .ok (.bipush 6, 2) := by decide +kernel
theorem dX11_step_107 : decode cX11_step 107 = .ok (.irem, 1) := by decide +kernel
theorem dX11_step_108 : decode cX11_step 108 = .ok (.iadd, 1) := by decide +kernel
theorem dX11_step_109 : decode cX11_step 109 = .ok (.istore 4, 2) := by decide +kernel
theorem dX11_step_111 : decode cX11_step 111 = .ok (.aload_n 0, 1) := by decide +kernel
theorem dX11_step_112 : decode cX11_step 112 = .ok (.iload_n 3, 1) := by decide +kernel
theorem dX11_step_113 : decode cX11_step 113 = .ok (.iload 6, 2) := by decide +kernel
theorem dX11_step_115 : decode cX11_step 115 = .ok (.bipush 6, 2) := by decide +kernel
theorem dX11_step_117 : decode cX11_step 117 = .ok (.idiv, 1) := by decide +kernel
theorem dX11_step_118 : decode cX11_step 118 = .ok (.iload 6, 2) := by decide +kernel
theorem dX11_step_120 : decode cX11_step 120 = .ok (.bipush 6, 2) := by decide +kernel
theorem dX11_step_122 : decode cX11_step 122 = .ok (.irem, 1) := by decide +kernel
theorem dX11_step_123 : decode cX11_step 123 = .ok (.invokevirtual 174, 3) := by decide +kernel
theorem dX11_step_126 : decode cX11_step 126 = .ok (.istore_n 3, 1) := by decide +kernel
theorem dX11_step_127 : decode cX11_step 127 = .ok (.iinc 5 1, 3) := by decide +kernel
theorem dX11_step_130 : decode cX11_step 130 = .ok (.goto (-96), 3) := by decide +kernel
theorem dX11_step_133 : decode cX11_step 133 = .ok (.iload 4, 2) := by decide +kernel
theorem dX11_step_135 : decode cX11_step 135 = .ok (.ireturn, 1) := by decide +kernel
theorem dX11_changed_0 : decode cX11_changed 0 = .ok (.aload_n 0, 1) := by decide +kernel
theorem dX11_changed_1 : decode cX11_changed 1 = .ok (.aload_n 0, 1) := by decide +kernel
theorem dX11_changed_2 : decode cX11_changed 2 = .ok (.getfield 69, 3) := by decide +kernel
theorem dX11_changed_5 : decode cX11_changed 5 = .ok (.iload_n 1, 1) := by decide +kernel
theorem dX11_changed_6 : decode cX11_changed 6 = .ok (.iaload, 1) := by decide +kernel
theorem dX11_changed_7 : decode cX11_changed 7 = .ok (.invokevirtual 149, 3) := by decide +kernel
theorem dX11_changed_10 : decode cX11_changed 10 = .ok (.pop, 1) := by decide +kernel
theorem dX11_changed_11 : decode cX11_changed 11 = .ok (.iconst 0, 1) := by decide +kernel
theorem dX11_changed_12 : decode cX11_changed 12 = .ok (.istore_n 3, 1) := by decide +kernel
theorem dX11_changed_13 : decode cX11_changed 13 = .ok (.iload_n 3, 1) := by decide +kernel
theorem dX11_changed_14 : decode cX11_changed 14 = .ok (.aload_n 0, 1) := by decide +kernel
theorem dX11_changed_15 : decode cX11_changed 15 = .ok (.getfield 85, 3) := by decide +kernel
theorem dX11_changed_18 : decode cX11_changed 18 = .ok (.if_icmp .ge 21, 3) := by decide +kernel
theorem dX11_changed_21 : decode cX11_changed 21 = .ok (.aload_n 0, 1) := by decide +kernel
theorem dX11_changed_22 : decode cX11_changed 22 = .ok (.getfield 75, 3) := by decide +kernel
theorem dX11_changed_25 : decode cX11_changed 25 = .ok (.iload_n 3, 1) := by decide +kernel
theorem dX11_changed_26 : decode cX11_changed 26 = .ok (.aload_n 0, 1) := by decide +kernel
theorem dX11_changed_27 : decode cX11_changed 27 = .ok (.getfield 57, 3) := by decide +kernel
theorem dX11_changed_30 : decode cX11_changed 30 = .ok (.iload_n 3, 1) := by decide +kernel
theorem dX11_changed_31 : decode cX11_changed 31 = .ok (.iaload, 1) := by decide +kernel
theorem dX11_changed_32 : decode cX11_changed 32 = .ok (.iastore, 1) := by decide +kernel
theorem dX11_changed_33 : decode cX11_changed 33 = .ok (.iinc 3 1, 3) := by decide +kernel
theorem dX11_changed_36 : decode cX11_changed 36 = .ok (.goto (-23), 3) := by decide +kernel
theorem dX11_changed_39 : decode cX11_changed 39 = .ok (.aload_n 0, 1) := by decide +kernel
theorem dX11_changed_40 : decode cX11_changed 40 = .ok (.aload_n 0, 1) := by decide +kernel
theorem dX11_changed_41 : decode cX11_changed 41 = .ok (.getfield 69, 3) := by decide +kernel
theorem dX11_changed_44 : decode cX11_changed 44 = .ok (.iload_n 2, 1) := by decide +kernel
theorem dX11_changed_45 : decode cX11_changed 45 = .ok (.iaload, 1) := by decide +kernel
theorem dX11_changed_46 : decode cX11_changed 46 = .ok (.invokevirtual 149, 3) := by decide +kernel
theorem dX11_changed_49 : decode cX11_changed 49 = .ok (.pop, 1) := by decide +kernel
theorem dX11_changed_50 : decode cX11_changed 50 = .ok (.iconst 0, 1) := by decide +kernel
theorem dX11_changed_51 : decode cX11_changed 51 = .ok (.istore_n 3, 1) := by decide +kernel
theorem dX11_changed_52 : decode cX11_changed 52 = .ok (.iconst 0, 1) := by decide +kernel
theorem dX11_changed_53 : decode cX11_changed 53 = .ok (.istore 4, 2) := by decide +kernel
theorem dX11_changed_55 : decode cX11_changed 55 = .ok (.iload 4, 2) := by decide +kernel
theorem dX11_changed_57 : decode cX11_changed 57 = .ok (.aload_n 0, 1) := by decide +kernel
theorem dX11_changed_58 : decode cX11_changed 58 = .ok (.getfield 85, 3) := by decide +kernel
theorem dX11_changed_61 : decode cX11_changed 61 = .ok (.if_icmp .ge 40, 3) := by decide +kernel
theorem dX11_changed_64 : decode cX11_changed 64 = .ok (.iload_n 3, 1) := by decide +kernel
theorem dX11_changed_65 : decode cX11_changed 65 = .ok (.aload_n 0, 1) := by decide +kernel
theorem dX11_changed_66 : decode cX11_changed 66 = .ok (.getfield 57, 3) := by decide +kernel
theorem dX11_changed_69 : decode cX11_changed 69 = .ok (.iload 4, 2) := by decide +kernel
theorem dX11_changed_71 : decode cX11_changed 71 = .ok (.iaload, 1) := by decide +kernel
theorem dX11_changed_72 : decode cX11_changed 72 = .ok (.aload_n 0, 1) := by decide +kernel
theorem dX11_changed_73 : decode cX11_changed 73 = .ok (.getfield 75, 3) := by decide +kernel
theorem dX11_changed_76 : decode cX11_changed 76 = .ok (.iload 4, 2) := by decide +kernel
theorem dX11_changed_78 : decode cX11_changed 78 = .ok (.iaload, 1) := by decide +kernel
theorem dX11_changed_79 : decode cX11_changed 79 = .ok (.if_icmp .ne 7, 3) := by decide +kernel
theorem dX11_changed_82 : decode cX11_changed 82 = .ok (.iconst 0, 1) := by decide +kernel
theorem dX11_changed_83 : decode cX11_changed 83 = .ok (.goto 10, 3) := by decide +kernel
theorem dX11_changed_86 : decode cX11_changed 86 = .ok (.aload_n 0, 1) := by decide +kernel
theorem dX11_changed_87 : decode cX11_changed 87 = .ok (.getfield 30, 3) := by decide +kernel
theorem dX11_changed_90 : decode cX11_changed 90 = .ok (.iload 4, 2) := by decide +kernel
theorem dX11_changed_92 : decode cX11_changed 92 = .ok (.iaload, 1) := by decide +kernel
theorem dX11_changed_93 : decode cX11_changed 93 = .ok (.iadd, 1) := by decide +kernel
theorem dX11_changed_94 : decode cX11_changed 94 = .ok (.istore_n 3, 1) := by decide +kernel
theorem dX11_changed_95 : decode cX11_changed 95 = .ok (.iinc 4 1, 3) := by decide +kernel
theorem dX11_changed_98 : decode cX11_changed 98 = .ok (.goto (-43), 3) := by decide +kernel
theorem dX11_changed_101 : decode cX11_changed 101 = .ok (.iload_n 3, 1) := by decide +kernel
theorem dX11_changed_102 : decode cX11_changed 102 = .ok (.ireturn, 1) := by decide +kernel
theorem dX11_layPlans_0 : decode cX11_layPlans 0 = .ok (.aload_n 0, 1) := by decide +kernel
theorem dX11_layPlans_1 : decode cX11_layPlans 1 = .ok (.invokevirtual 104, 3) := by decide +kernel
theorem dX11_layPlans_4 : decode cX11_layPlans 4 = .ok (.aload_n 0, 1) := by decide +kernel
theorem dX11_layPlans_5 : decode cX11_layPlans 5 = .ok (.iconst 0, 1) := by decide +kernel
theorem dX11_layPlans_6 : decode cX11_layPlans 6 = .ok (.putfield 187, 3) := by decide +kernel
theorem dX11_layPlans_9 : decode cX11_layPlans 9 = .ok (.aload_n 0, 1) := by decide +kernel
theorem dX11_layPlans_10 : decode cX11_layPlans 10 = .ok (.invokevirtual 116, 3) := by decide +kernel
theorem dX11_layPlans_13 : decode cX11_layPlans 13 = .ok (.istore_n 2, 1) := by decide +kernel
theorem dX11_layPlans_14 : decode cX11_layPlans 14 = .ok (.iconst 0, 1) := by decide +kernel
theorem dX11_layPlans_15 : decode cX11_layPlans 15 = .ok (.istore_n 3, 1) := by decide +kernel
theorem dX11_layPlans_16 : decode cX11_layPlans 16 = .ok (.iload_n 3, 1) := by decide +kernel
theorem dX11_layPlans_17 : decode cX11_layPlans 17 = .ok (.iload_n 2, 1) := by decide +kernel
theorem dX11_layPlans_18 : decode cX11_layPlans 18 = .ok (.if_icmp .ge 37, 3) := by decide +kernel
theorem dX11_layPlans_21 : decode cX11_layPlans 21 = .ok (.aload_n 0, 1) := by decide +kernel
theorem dX11_layPlans_22 : decode cX11_layPlans 22 = .ok (.iload_n 3, 1) := by decide +kernel
theorem dX11_layPlans_23 : decode cX11_layPlans 23 = .ok (.invokevirtual 149, 3) := by decide +kernel
theorem dX11_layPlans_26 : decode cX11_layPlans 26 = .ok (.ifCond .eq 23, 3) := by decide +kernel
theorem dX11_layPlans_29 : decode cX11_layPlans 29 = .ok (.aload_n 0, 1) := by decide +kernel
theorem dX11_layPlans_30 : decode cX11_layPlans 30 = .ok (.getfield 69, 3) := by decide +kernel
theorem dX11_layPlans_33 : decode cX11_layPlans 33 = .ok (.aload_n 0, 1) := by decide +kernel
theorem dX11_layPlans_34 : decode cX11_layPlans 34 = .ok (.getfield 187, 3) := by decide +kernel
theorem dX11_layPlans_37 : decode cX11_layPlans 37 = .ok (.iload_n 3, 1) := by decide +kernel
theorem dX11_layPlans_38 : decode cX11_layPlans 38 = .ok (.iastore, 1) := by decide +kernel
theorem dX11_layPlans_39 : decode cX11_layPlans 39 = .ok (.aload_n 0, 1) := by decide +kernel
theorem dX11_layPlans_40 : decode cX11_layPlans 40 = .ok (.dup, 1) := by decide +kernel
theorem dX11_layPlans_41 : decode cX11_layPlans 41 = .ok (.getfield 187, 3) := by decide +kernel
theorem dX11_layPlans_44 : decode cX11_layPlans 44 = .ok (.iconst 1, 1) := by decide +kernel
theorem dX11_layPlans_45 : decode cX11_layPlans 45 = .ok (.iadd, 1) := by decide +kernel
theorem dX11_layPlans_46 : decode cX11_layPlans 46 = .ok (.putfield 187, 3) := by decide +kernel
theorem dX11_layPlans_49 : decode cX11_layPlans 49 = .ok (.iinc 3 1, 3) := by decide +kernel
theorem dX11_layPlans_52 : decode cX11_layPlans 52 = .ok (.goto (-36), 3) := by decide +kernel
theorem dX11_layPlans_55 : decode cX11_layPlans 55 = .ok (.iload_n 1, 1) := by decide +kernel
theorem dX11_layPlans_56 : decode cX11_layPlans 56 = .ok (.iconst 1, 1) := by decide +kernel
theorem dX11_layPlans_57 : decode cX11_layPlans 57 = .ok (.isub, 1) := by decide +kernel
theorem dX11_layPlans_58 : decode cX11_layPlans 58 = .ok (.istore_n 3, 1) := by decide +kernel
theorem dX11_layPlans_59 : decode cX11_layPlans 59 = .ok (.iload_n 3, 1) := by decide +kernel
theorem dX11_layPlans_60 : decode cX11_layPlans 60 = .ok (.ifCond .lt 197, 3) := by decide +kernel
theorem dX11_layPlans_63 : decode cX11_layPlans 63 = .ok (.iconst 0, 1) := by decide +kernel
theorem dX11_layPlans_64 : decode cX11_layPlans 64 = .ok (.istore 4, 2) := by decide +kernel
theorem dX11_layPlans_66 : decode cX11_layPlans 66 = .ok (.iload 4, 2) := by decide +kernel
theorem dX11_layPlans_68 : decode cX11_layPlans 68 = .ok (.aload_n 0, 1) := by decide +kernel
theorem dX11_layPlans_69 : decode cX11_layPlans 69 = .ok (.getfield 187, 3) := by decide +kernel
theorem dX11_layPlans_72 : decode cX11_layPlans 72 = .ok (.if_icmp .ge 179, 3) := by decide +kernel
theorem dX11_layPlans_75 : decode cX11_layPlans 75 = .ok (.aload_n 0, 1) := by decide +kernel
theorem dX11_layPlans_76 : decode cX11_layPlans 76 = .ok (.aload_n 0, 1) := by decide +kernel
theorem dX11_layPlans_77 : decode cX11_layPlans 77 = .ok (.getfield 69, 3) := by decide +kernel
theorem dX11_layPlans_80 : decode cX11_layPlans 80 = .ok (.iload 4, 2) := by decide +kernel
theorem dX11_layPlans_82 : decode cX11_layPlans 82 = .ok (.iaload, 1) := by decide +kernel
theorem dX11_layPlans_83 : decode cX11_layPlans 83 = .ok (.invokevirtual 149, 3) := by decide +kernel
theorem dX11_layPlans_86 : decode cX11_layPlans 86 = .ok (.pop, 1) := by decide +kernel
theorem dX11_layPlans_87 : decode cX11_layPlans 87 = .ok (.aload_n 0, 1) := by decide +kernel
theorem dX11_layPlans_88 : decode cX11_layPlans 88 = .ok (.iload_n 3, 1) := by decide +kernel
theorem dX11_layPlans_89 : decode cX11_layPlans 89 = .ok (.invokevirtual 139, 3) := by decide +kernel
theorem dX11_layPlans_92 : decode cX11_layPlans 92 = .ok (.istore 5, 2) := by decide +kernel
theorem dX11_layPlans_94 : decode cX11_layPlans 94 = .ok (.iload_n 3, 1) := by decide +kernel
theorem dX11_layPlans_95 : decode cX11_layPlans 95 = .ok (.iload_n 1, 1) := by decide +kernel
theorem dX11_layPlans_96 : decode cX11_layPlans 96 = .ok (.iconst 1, 1) := by decide +kernel
theorem dX11_layPlans_97 : decode cX11_layPlans 97 = .ok (.isub, 1) := by decide +kernel
theorem dX11_layPlans_98 : decode cX11_layPlans 98 = .ok (.if_icmp .ne 7, 3) := by decide +kernel
theorem dX11_layPlans_101 : decode cX11_layPlans 101 = .ok (.iconst 0, 1) := by decide +kernel
theorem dX11_layPlans_102 : decode cX11_layPlans 102 = .ok (.goto 5, 3) := by decide +kernel
theorem dX11_layPlans_105 : decode cX11_layPlans 105 = .ok (.ldc 138, 2) := by decide +kernel
theorem dX11_layPlans_107 : decode cX11_layPlans 107 = .ok (.istore 6, 2) := by decide +kernel
theorem dX11_layPlans_109 : decode cX11_layPlans 109 = .ok (.iconst 0, 1) := by decide +kernel
theorem dX11_layPlans_110 : decode cX11_layPlans 110 = .ok (.istore 7, 2) := by decide +kernel
theorem dX11_layPlans_112 : decode cX11_layPlans 112 = .ok (.iload 7, 2) := by decide +kernel
theorem dX11_layPlans_114 : decode cX11_layPlans 114 = .ok (.aload_n 0, 1) := by decide +kernel
theorem dX11_layPlans_115 : decode cX11_layPlans 115 = .ok (.getfield 187, 3) := by decide +kernel
theorem dX11_layPlans_118 : decode cX11_layPlans 118 = .ok (.if_icmp .ge 90, 3) := by decide +kernel
theorem dX11_layPlans_121 : decode cX11_layPlans 121 = .ok (.iload_n 3, 1) := by decide +kernel
theorem dX11_layPlans_122 : decode cX11_layPlans 122 = .ok (.iload_n 1, 1) := by decide +kernel
theorem dX11_layPlans_123 : decode cX11_layPlans 123 = .ok (.iconst 1, 1) := by decide +kernel
theorem dX11_layPlans_124 : decode cX11_layPlans 124 = .ok (.isub, 1) := by decide +kernel
theorem dX11_layPlans_125 : decode cX11_layPlans 125 = .ok (.if_icmp .ge 83, 3) := by decide +kernel
theorem dX11_layPlans_128 : decode cX11_layPlans 128 = .ok (.iload 5, 2) := by decide +kernel
theorem dX11_layPlans_130 : decode cX11_layPlans 130 = .ok (.ldc 138, 2) := by decide +kernel
theorem dX11_layPlans_132 : decode cX11_layPlans 132 = .ok (.if_icmp .ge 76, 3) := by decide +kernel
theorem dX11_layPlans_135 : decode cX11_layPlans 135 = .ok (.aload_n 0, 1) := by decide +kernel
theorem dX11_layPlans_136 : decode cX11_layPlans 136 = .ok (.getfield 72, 3) := by decide +kernel
theorem dX11_layPlans_139 : decode cX11_layPlans 139 = .ok (.sipush 720, 3) := by decide +kernel
theorem dX11_layPlans_142 : decode cX11_layPlans 142 = .ok (.iload_n 3, 1) := by decide +kernel
theorem dX11_layPlans_143 : decode cX11_layPlans 143 = .ok (.iconst 1, 1) := by decide +kernel
theorem dX11_layPlans_144 : decode cX11_layPlans 144 = .ok (.iadd, 1) := by decide +kernel
theorem dX11_layPlans_145 : decode cX11_layPlans 145 = .ok (.imul, 1) := by decide +kernel
theorem dX11_layPlans_146 : decode cX11_layPlans 146 = .ok (.iload 7, 2) := by decide +kernel
theorem dX11_layPlans_148 : decode cX11_layPlans 148 = .ok (.iadd, 1) := by decide +kernel
theorem dX11_layPlans_149 : decode cX11_layPlans 149 = .ok (.iaload, 1) := by decide +kernel
theorem dX11_layPlans_150 : decode cX11_layPlans 150 = .ok (.ldc 138, 2) := by decide +kernel
theorem dX11_layPlans_152 : decode cX11_layPlans 152 = .ok (.if_icmp .ne 8, 3) := by decide +kernel
theorem dX11_layPlans_155 : decode cX11_layPlans 155 = .ok (.ldc 138, 2) := by decide +kernel
theorem dX11_layPlans_157 : decode cX11_layPlans 157 = .ok (.goto 27, 3) := by decide +kernel
theorem dX11_layPlans_160 : decode cX11_layPlans 160 = .ok (.aload_n 0, 1) := by decide +kernel
theorem dX11_layPlans_161 : decode cX11_layPlans 161 = .ok (.getfield 72, 3) := by decide +kernel
theorem dX11_layPlans_164 : decode cX11_layPlans 164 = .ok (.sipush 720, 3) := by decide +kernel
theorem dX11_layPlans_167 : decode cX11_layPlans 167 = .ok (.iload_n 3, 1) := by decide +kernel
theorem dX11_layPlans_168 : decode cX11_layPlans 168 = .ok (.iconst 1, 1) := by decide +kernel
theorem dX11_layPlans_169 : decode cX11_layPlans 169 = .ok (.iadd, 1) := by decide +kernel
theorem dX11_layPlans_170 : decode cX11_layPlans 170 = .ok (.imul, 1) := by decide +kernel
theorem dX11_layPlans_171 : decode cX11_layPlans 171 = .ok (.iload 7, 2) := by decide +kernel
theorem dX11_layPlans_173 : decode cX11_layPlans 173 = .ok (.iadd, 1) := by decide +kernel
theorem dX11_layPlans_174 : decode cX11_layPlans 174 = .ok (.iaload, 1) := by decide +kernel
theorem dX11_layPlans_175 : decode cX11_layPlans 175 = .ok (.aload_n 0, 1) := by decide +kernel
theorem dX11_layPlans_176 : decode cX11_layPlans 176 = .ok (.iload 4, 2) := by decide +kernel
theorem dX11_layPlans_178 : decode cX11_layPlans 178 = .ok (.iload 7, 2) := by decide +kernel
theorem dX11_layPlans_180 : decode cX11_layPlans 180 = .ok (.invokevirtual 190, 3) := by decide +kernel
theorem dX11_layPlans_183 : decode cX11_layPlans 183 = .ok (.iadd, 1) := by decide +kernel
theorem dX11_layPlans_184 : decode cX11_layPlans 184 = .ok (.istore 8, 2) := by decide +kernel
theorem dX11_layPlans_186 : decode cX11_layPlans 186 = .ok (.iload 8, 2) := by decide +kernel
theorem dX11_layPlans_188 : decode cX11_layPlans 188 = .ok (.iload 6, 2) := by decide +kernel
theorem dX11_layPlans_190 : decode cX11_layPlans 190 = .ok (.if_icmp .ge 8, 3) := by decide +kernel
theorem dX11_layPlans_193 : decode cX11_layPlans 193 = .ok (.iload 8, 2) := by decide +kernel
theorem dX11_layPlans_195 : decode cX11_layPlans 195 = .ok (.goto 5, 3) := by decide +kernel
theorem dX11_layPlans_198 : decode cX11_layPlans 198 = .ok (.iload 6, 2) := by decide +kernel
theorem dX11_layPlans_200 : decode cX11_layPlans 200 = .ok (.istore 6, 2) := by decide +kernel
theorem dX11_layPlans_202 : decode cX11_layPlans 202 = .ok (.iinc 7 1, 3) := by decide +kernel
theorem dX11_layPlans_205 : decode cX11_layPlans 205 = .ok (.goto (-93), 3) := by decide +kernel
theorem dX11_layPlans_208 : decode cX11_layPlans 208 = .ok (.aload_n 0, 1) := by decide +kernel
theorem dX11_layPlans_209 : decode cX11_layPlans 209 = .ok (.getfield 72, 3) := by decide +kernel
theorem dX11_layPlans_212 : decode cX11_layPlans 212 = .ok (.sipush 720, 3) := by decide +kernel
theorem dX11_layPlans_215 : decode cX11_layPlans 215 = .ok (.iload_n 3, 1) := by decide +kernel
theorem dX11_layPlans_216 : decode cX11_layPlans 216 = .ok (.imul, 1) := by decide +kernel
theorem dX11_layPlans_217 : decode cX11_layPlans 217 = .ok (.iload 4, 2) := by decide +kernel
theorem dX11_layPlans_219 : decode cX11_layPlans 219 = .ok (.iadd, 1) := by decide +kernel
theorem dX11_layPlans_220 : decode cX11_layPlans 220 = .ok (.iload 5, 2) := by decide +kernel
theorem dX11_layPlans_222 : decode cX11_layPlans 222 = .ok (.ldc 138, 2) := by decide +kernel
theorem dX11_layPlans_224 : decode cX11_layPlans 224 = .ok (.if_icmp .eq 10, 3) := by decide +kernel
theorem dX11_layPlans_227 : decode cX11_layPlans 227 = .ok (.iload 6, 2) := by decide +kernel
theorem dX11_layPlans_229 : decode cX11_layPlans 229 = .ok (.ldc 138, 2) := by decide +kernel
theorem dX11_layPlans_231 : decode cX11_layPlans 231 = .ok (.if_icmp .ne 8, 3) := by decide +kernel
theorem dX11_layPlans_234 : decode cX11_layPlans 234 = .ok (.ldc 138, 2) := by decide +kernel
theorem dX11_layPlans_236 : decode cX11_layPlans 236 = .ok (.goto 8, 3) := by decide +kernel
theorem dX11_layPlans_239 : decode cX11_layPlans 239 = .ok (.iload 5, 2) := by decide +kernel
theorem dX11_layPlans_241 : decode cX11_layPlans 241 = .ok (.iload 6, 2) := by decide +kernel
theorem dX11_layPlans_243 : decode cX11_layPlans 243 = .ok (.iadd, 1) := by decide +kernel
theorem dX11_layPlans_244 : decode cX11_layPlans 244 = .ok (.iastore, 1) := by decide +kernel
theorem dX11_layPlans_245 : decode cX11_layPlans 245 = .ok (.iinc 4 1, 3) := by decide +kernel
theorem dX11_layPlans_248 : decode cX11_layPlans 248 = .ok (.goto (-182), 3) := by decide +kernel
theorem dX11_layPlans_251 : decode cX11_layPlans 251 = .ok (.iinc 3 (-1), 3) := by decide +kernel
theorem dX11_layPlans_254 : decode cX11_layPlans 254 = .ok (.goto (-195), 3) := by decide +kernel
theorem dX11_layPlans_257 : decode cX11_layPlans 257 = .ok (.return_, 1) := by decide +kernel
theorem dX11_firstOf_0 : decode cX11_firstOf 0 = .ok (.iconst (-1), 1) := by decide +kernel
theorem dX11_firstOf_1 : decode cX11_firstOf 1 = .ok (.istore_n 3, 1) := by decide +kernel
theorem dX11_firstOf_2 : decode cX11_firstOf 2 = .ok (.ldc 138, 2) := by decide +kernel
theorem dX11_firstOf_4 : decode cX11_firstOf 4 = .ok (.istore 4, 2) := by decide +kernel
theorem dX11_firstOf_6 : decode cX11_firstOf 6 = .ok (.iconst 0, 1) := by decide +kernel
theorem dX11_firstOf_7 : decode cX11_firstOf 7 = .ok (.istore 5, 2) := by decide +kernel
theorem dX11_firstOf_9 : decode cX11_firstOf 9 = .ok (.iload 5, 2) := by decide +kernel
theorem dX11_firstOf_11 : decode cX11_firstOf 11 = .ok (.aload_n 0, 1) := by decide +kernel
theorem dX11_firstOf_12 : decode cX11_firstOf 12 = .ok (.getfield 187, 3) := by decide +kernel
theorem dX11_firstOf_15 : decode cX11_firstOf 15 = .ok (.if_icmp .ge 66, 3) := by decide +kernel
theorem dX11_firstOf_18 : decode cX11_firstOf 18 = .ok (.aload_n 0, 1) := by decide +kernel
theorem dX11_firstOf_19 : decode cX11_firstOf 19 = .ok (.getfield 72, 3) := by decide +kernel
theorem dX11_firstOf_22 : decode cX11_firstOf 22 = .ok (.sipush 720, 3) := by decide +kernel
theorem dX11_firstOf_25 : decode cX11_firstOf 25 = .ok (.iload_n 1, 1) := by decide +kernel
theorem dX11_firstOf_26 : decode cX11_firstOf 26 = .ok (.imul, 1) := by decide +kernel
theorem dX11_firstOf_27 : decode cX11_firstOf 27 = .ok (.iload 5, 2) := by decide +kernel
theorem dX11_firstOf_29 : decode cX11_firstOf 29 = .ok (.iadd, 1) := by decide +kernel
theorem dX11_firstOf_30 : decode cX11_firstOf 30 = .ok (.iaload, 1) := by decide +kernel
theorem dX11_firstOf_31 : decode cX11_firstOf 31 = .ok (.istore 6, 2) := by decide +kernel
theorem dX11_firstOf_33 : decode cX11_firstOf 33 = .ok (.iload 6, 2) := by decide +kernel
theorem dX11_firstOf_35 : decode cX11_firstOf 35 = .ok (.iload 6, 2) := by decide +kernel
theorem dX11_firstOf_37 : decode cX11_firstOf 37 = .ok (.ldc 138, 2) := by decide +kernel
theorem dX11_firstOf_39 : decode cX11_firstOf 39 = .ok (.if_icmp .ge 18, 3) := by decide +kernel
theorem dX11_firstOf_42 : decode cX11_firstOf 42 = .ok (.iload_n 2, 1) := by decide +kernel
theorem dX11_firstOf_43 : decode cX11_firstOf 43 = .ok (.iconst (-1), 1) := by decide +kernel
theorem dX11_firstOf_44 : decode cX11_firstOf 44 = .ok (.if_icmp .eq 13, 3) := by decide +kernel
theorem dX11_firstOf_47 : decode cX11_firstOf 47 = .ok (.aload_n 0, 1) := by decide +kernel
theorem dX11_firstOf_48 : decode cX11_firstOf 48 = .ok (.iload_n 2, 1) := by decide +kernel
theorem dX11_firstOf_49 : decode cX11_firstOf 49 = .ok (.iload 5, 2) := by decide +kernel
theorem dX11_firstOf_51 : decode cX11_firstOf 51 = .ok (.invokevirtual 190, 3) := by decide +kernel
theorem dX11_firstOf_54 : decode cX11_firstOf 54 = .ok (.goto 4, 3) := by decide +kernel
theorem dX11_firstOf_57 : decode cX11_firstOf 57 = .ok (.iconst 0, 1) := by decide +kernel
theorem dX11_firstOf_58 : decode cX11_firstOf 58 = .ok (.iadd, 1) := by decide +kernel
theorem dX11_firstOf_59 : decode cX11_firstOf 59 = .ok (.istore 6, 2) := by decide +kernel
theorem dX11_firstOf_61 : decode cX11_firstOf 61 = .ok (.iload 6, 2) := by decide +kernel
theorem dX11_firstOf_63 : decode cX11_firstOf 63 = .ok (.iload 4, 2) := by decide +kernel
theorem dX11_firstOf_65 : decode cX11_firstOf 65 = .ok (.if_icmp .ge 10, 3) := by decide +kernel
theorem dX11_firstOf_68 : decode cX11_firstOf 68 = .ok (.iload 6, 2) := by decide +kernel
theorem dX11_firstOf_70 : decode cX11_firstOf 70 = .ok (.istore 4, 2) := by decide +kernel
theorem dX11_firstOf_72 : decode cX11_firstOf 72 = .ok (.iload 5, 2) := by decide +kernel
theorem dX11_firstOf_74 : decode cX11_firstOf 74 = .ok (.istore_n 3, 1) := by decide +kernel
theorem dX11_firstOf_75 : decode cX11_firstOf 75 = .ok (.iinc 5 1, 3) := by decide +kernel
theorem dX11_firstOf_78 : decode cX11_firstOf 78 = .ok (.goto (-69), 3) := by decide +kernel
theorem dX11_firstOf_81 : decode cX11_firstOf 81 = .ok (.iload_n 3, 1) := by decide +kernel
theorem dX11_firstOf_82 : decode cX11_firstOf 82 = .ok (.ireturn, 1) := by decide +kernel
theorem dX11_isSpan_0 : decode cX11_isSpan 0 = .ok (.iload_n 0, 1) := by decide +kernel
theorem dX11_isSpan_1 : decode cX11_isSpan 1 = .ok (.iconst 1, 1) := by decide +kernel
theorem dX11_isSpan_2 : decode cX11_isSpan 2 = .ok (.iconst 4, 1) := by decide +kernel
theorem dX11_isSpan_3 : decode cX11_isSpan 3 = .ok (.invokestatic 78, 3) := by decide +kernel
theorem dX11_isSpan_6 : decode cX11_isSpan 6 = .ok (.ireturn, 1) := by decide +kernel
theorem dX11_plan_0 : decode cX11_plan 0 = .ok (.iload_n 1, 1) := by decide +kernel
theorem dX11_plan_1 : decode cX11_plan 1 = .ok (.invokestatic 193, 3) := by decide +kernel
theorem dX11_plan_4 : decode cX11_plan 4 = .ok (.ifCond .ne 6, 3) := by decide +kernel
theorem dX11_plan_7 : decode cX11_plan 7 = .ok (.bipush (-2), 2) := by decide +kernel
theorem dX11_plan_9 : decode cX11_plan 9 = .ok (.ireturn, 1) := by decide +kernel
theorem dX11_plan_10 : decode cX11_plan 10 = .ok (.aload_n 0, 1) := by decide +kernel
theorem dX11_plan_11 : decode cX11_plan 11 = .ok (.iload_n 1, 1) := by decide +kernel
theorem dX11_plan_12 : decode cX11_plan 12 = .ok (.invokevirtual 196, 3) := by decide +kernel
theorem dX11_plan_15 : decode cX11_plan 15 = .ok (.aload_n 0, 1) := by decide +kernel
theorem dX11_plan_16 : decode cX11_plan 16 = .ok (.iconst 0, 1) := by decide +kernel
theorem dX11_plan_17 : decode cX11_plan 17 = .ok (.iconst (-1), 1) := by decide +kernel
theorem dX11_plan_18 : decode cX11_plan 18 = .ok (.invokevirtual 199, 3) := by decide +kernel
theorem dX11_plan_21 : decode cX11_plan 21 = .ok (.istore_n 2, 1) := by decide +kernel
theorem dX11_plan_22 : decode cX11_plan 22 = .ok (.iload_n 2, 1) := by decide +kernel
theorem dX11_plan_23 : decode cX11_plan 23 = .ok (.iconst (-1), 1) := by decide +kernel
theorem dX11_plan_24 : decode cX11_plan 24 = .ok (.if_icmp .ne 7, 3) := by decide +kernel
theorem dX11_plan_27 : decode cX11_plan 27 = .ok (.iconst (-1), 1) := by decide +kernel
theorem dX11_plan_28 : decode cX11_plan 28 = .ok (.goto 9, 3) := by decide +kernel
theorem dX11_plan_31 : decode cX11_plan 31 = .ok (.aload_n 0, 1) := by decide +kernel
theorem dX11_plan_32 : decode cX11_plan 32 = .ok (.getfield 72, 3) := by decide +kernel
theorem dX11_plan_35 : decode cX11_plan 35 = .ok (.iload_n 2, 1) := by decide +kernel
theorem dX11_plan_36 : decode cX11_plan 36 = .ok (.iaload, 1) := by decide +kernel
theorem dX11_plan_37 : decode cX11_plan 37 = .ok (.ireturn, 1) := by decide +kernel
theorem dX11_planned_0 : decode cX11_planned 0 = .ok (.iload_n 1, 1) := by decide +kernel
theorem dX11_planned_1 : decode cX11_planned 1 = .ok (.invokestatic 193, 3) := by decide +kernel
theorem dX11_planned_4 : decode cX11_planned 4 = .ok (.ifCond .eq 14, 3) := by decide +kernel
theorem dX11_planned_7 : decode cX11_planned 7 = .ok (.iload_n 2, 1) := by decide +kernel
theorem dX11_planned_8 : decode cX11_planned 8 = .ok (.iconst 0, 1) := by decide +kernel
theorem dX11_planned_9 : decode cX11_planned 9 = .ok (.iload_n 1, 1) := by decide +kernel
theorem dX11_planned_10 : decode cX11_planned 10 = .ok (.iconst 1, 1) := by decide +kernel
theorem dX11_planned_11 : decode cX11_planned 11 = .ok (.isub, 1) := by decide +kernel
theorem dX11_planned_12 : decode cX11_planned 12 = .ok (.invokestatic 78, 3) := by decide +kernel
theorem dX11_planned_15 : decode cX11_planned 15 = .ok (.ifCond .ne 6, 3) := by decide +kernel
theorem dX11_planned_18 : decode cX11_planned 18 = .ok (.bipush (-2), 2) := by decide +kernel
theorem dX11_planned_20 : decode cX11_planned 20 = .ok (.ireturn, 1) := by decide +kernel
theorem dX11_planned_21 : decode cX11_planned 21 = .ok (.aload_n 0, 1) := by decide +kernel
theorem dX11_planned_22 : decode cX11_planned 22 = .ok (.iload_n 1, 1) := by decide +kernel
theorem dX11_planned_23 : decode cX11_planned 23 = .ok (.invokevirtual 196, 3) := by decide +kernel
theorem dX11_planned_26 : decode cX11_planned 26 = .ok (.aload_n 0, 1) := by decide +kernel
theorem dX11_planned_27 : decode cX11_planned 27 = .ok (.iconst 0, 1) := by decide +kernel
theorem dX11_planned_28 : decode cX11_planned 28 = .ok (.iconst (-1), 1) := by decide +kernel
theorem dX11_planned_29 : decode cX11_planned 29 = .ok (.invokevirtual 199, 3) := by decide +kernel
theorem dX11_planned_32 : decode cX11_planned 32 = .ok (.istore_n 3, 1) := by decide +kernel
theorem dX11_planned_33 : decode cX11_planned 33 = .ok (.iconst 1, 1) := by decide +kernel
theorem dX11_planned_34 : decode cX11_planned 34 = .ok (.istore 4, 2) := by decide +kernel
theorem dX11_planned_36 : decode cX11_planned 36 = .ok (.iload 4, 2) := by decide +kernel
theorem dX11_planned_38 : decode cX11_planned 38 = .ok (.iload_n 2, 1) := by decide +kernel
theorem dX11_planned_39 : decode cX11_planned 39 = .ok (.if_icmp .gt 22, 3) := by decide +kernel
theorem dX11_planned_42 : decode cX11_planned 42 = .ok (.iload_n 3, 1) := by decide +kernel
theorem dX11_planned_43 : decode cX11_planned 43 = .ok (.iconst (-1), 1) := by decide +kernel
theorem dX11_planned_44 : decode cX11_planned 44 = .ok (.if_icmp .eq 17, 3) := by decide +kernel
theorem dX11_planned_47 : decode cX11_planned 47 = .ok (.aload_n 0, 1) := by decide +kernel
theorem dX11_planned_48 : decode cX11_planned 48 = .ok (.iload 4, 2) := by decide +kernel
theorem dX11_planned_50 : decode cX11_planned 50 = .ok (.iload_n 3, 1) := by decide +kernel
theorem dX11_planned_51 : decode cX11_planned 51 = .ok (.invokevirtual 199, 3) := by decide +kernel
theorem dX11_planned_54 : decode cX11_planned 54 = .ok (.istore_n 3, 1) := by decide +kernel
theorem dX11_planned_55 : decode cX11_planned 55 = .ok (.iinc 4 1, 3) := by decide +kernel
theorem dX11_planned_58 : decode cX11_planned 58 = .ok (.goto (-22), 3) := by decide +kernel
theorem dX11_planned_61 : decode cX11_planned 61 = .ok (.iload_n 3, 1) := by decide +kernel
theorem dX11_planned_62 : decode cX11_planned 62 = .ok (.iconst (-1), 1) := by decide +kernel
theorem dX11_planned_63 : decode cX11_planned 63 = .ok (.if_icmp .ne 5, 3) := by decide +kernel
theorem dX11_planned_66 : decode cX11_planned 66 = .ok (.iconst (-1), 1) := by decide +kernel
theorem dX11_planned_67 : decode cX11_planned 67 = .ok (.ireturn, 1) := by decide +kernel
theorem dX11_planned_68 : decode cX11_planned 68 = .ok (.aload_n 0, 1) := by decide +kernel
theorem dX11_planned_69 : decode cX11_planned 69 = .ok (.aload_n 0, 1) := by decide +kernel
theorem dX11_planned_70 : decode cX11_planned 70 = .ok (.getfield 69, 3) := by decide +kernel
theorem dX11_planned_73 : decode cX11_planned 73 = .ok (.iload_n 3, 1) := by decide +kernel
theorem dX11_planned_74 : decode cX11_planned 74 = .ok (.iaload, 1) := by decide +kernel
theorem dX11_planned_75 : decode cX11_planned 75 = .ok (.invokevirtual 149, 3) := by decide +kernel
theorem dX11_planned_78 : decode cX11_planned 78 = .ok (.pop, 1) := by decide +kernel
theorem dX11_planned_79 : decode cX11_planned 79 = .ok (.aload_n 0, 1) := by decide +kernel
theorem dX11_planned_80 : decode cX11_planned 80 = .ok (.invokevirtual 129, 3) := by decide +kernel
theorem dX11_planned_83 : decode cX11_planned 83 = .ok (.ireturn, 1) := by decide +kernel
theorem dX11_count_0 : decode cX11_count 0 = .ok (.iconst 0, 1) := by decide +kernel
theorem dX11_count_1 : decode cX11_count 1 = .ok (.istore_n 2, 1) := by decide +kernel
theorem dX11_count_2 : decode cX11_count 2 = .ok (.iload_n 1, 1) := by decide +kernel
theorem dX11_count_3 : decode cX11_count 3 = .ok (.tableswitch 116 0 4 #[33, 38, 43, 48, 83], 33) := by decide +kernel
theorem dX11_count_36 : decode cX11_count 36 = .ok (.aload_n 0, 1) := by decide +kernel
theorem dX11_count_37 : decode cX11_count 37 = .ok (.getfield 82, 3) := by decide +kernel
theorem dX11_count_40 : decode cX11_count 40 = .ok (.ireturn, 1) := by decide +kernel
theorem dX11_count_41 : decode cX11_count 41 = .ok (.aload_n 0, 1) := by decide +kernel
theorem dX11_count_42 : decode cX11_count 42 = .ok (.getfield 85, 3) := by decide +kernel
theorem dX11_count_45 : decode cX11_count 45 = .ok (.ireturn, 1) := by decide +kernel
theorem dX11_count_46 : decode cX11_count 46 = .ok (.aload_n 0, 1) := by decide +kernel
theorem dX11_count_47 : decode cX11_count 47 = .ok (.getfield 113, 3) := by decide +kernel
theorem dX11_count_50 : decode cX11_count 50 = .ok (.ireturn, 1) := by decide +kernel
theorem dX11_count_51 : decode cX11_count 51 = .ok (.iconst 0, 1) := by decide +kernel
theorem dX11_count_52 : decode cX11_count 52 = .ok (.istore_n 3, 1) := by decide +kernel
theorem dX11_count_53 : decode cX11_count 53 = .ok (.iload_n 3, 1) := by decide +kernel
theorem dX11_count_54 : decode cX11_count 54 = .ok (.bipush 36, 2) := by decide +kernel
theorem dX11_count_56 : decode cX11_count 56 = .ok (.if_icmp .ge 28, 3) := by decide +kernel
theorem dX11_count_59 : decode cX11_count 59 = .ok (.iload_n 2, 1) := by decide +kernel
theorem dX11_count_60 : decode cX11_count 60 = .ok (.aload_n 0, 1) := by decide +kernel
theorem dX11_count_61 : decode cX11_count 61 = .ok (.getfield 7, 3) := by decide +kernel
theorem dX11_count_64 : decode cX11_count 64 = .ok (.iload_n 3, 1) := by decide +kernel
theorem dX11_count_65 : decode cX11_count 65 = .ok (.iaload, 1) := by decide +kernel
theorem dX11_count_66 : decode cX11_count 66 = .ok (.bipush (-2), 2) := by decide +kernel
theorem dX11_count_68 : decode cX11_count 68 = .ok (.if_icmp .ne 7, 3) := by decide +kernel
theorem dX11_count_71 : decode cX11_count 71 = .ok (.iconst 1, 1) := by decide +kernel
theorem dX11_count_72 : decode cX11_count 72 = .ok (.goto 4, 3) := by decide +kernel
theorem dX11_count_75 : decode cX11_count 75 = .ok (.iconst 0, 1) := by decide +kernel
theorem dX11_count_76 : decode cX11_count 76 = .ok (.iadd, 1) := by decide +kernel
theorem dX11_count_77 : decode cX11_count 77 = .ok (.istore_n 2, 1) := by decide +kernel
theorem dX11_count_78 : decode cX11_count 78 = .ok (.iinc 3 1, 3) := by decide +kernel
theorem dX11_count_81 : decode cX11_count 81 = .ok (.goto (-28), 3) := by decide +kernel
theorem dX11_count_84 : decode cX11_count 84 = .ok (.iload_n 2, 1) := by decide +kernel
theorem dX11_count_85 : decode cX11_count 85 = .ok (.ireturn, 1) := by decide +kernel
theorem dX11_count_86 : decode cX11_count 86 = .ok (.iconst 0, 1) := by decide +kernel
theorem dX11_count_87 : decode cX11_count 87 = .ok (.istore_n 3, 1) := by decide +kernel
theorem dX11_count_88 : decode cX11_count 88 = .ok (.iload_n 3, 1) := by decide +kernel
theorem dX11_count_89 : decode cX11_count 89 = .ok (.bipush 36, 2) := by decide +kernel
theorem dX11_count_91 : decode cX11_count 91 = .ok (.if_icmp .ge 26, 3) := by decide +kernel
theorem dX11_count_94 : decode cX11_count 94 = .ok (.iload_n 2, 1) := by decide +kernel
theorem dX11_count_95 : decode cX11_count 95 = .ok (.aload_n 0, 1) := by decide +kernel
theorem dX11_count_96 : decode cX11_count 96 = .ok (.getfield 13, 3) := by decide +kernel
theorem dX11_count_99 : decode cX11_count 99 = .ok (.iload_n 3, 1) := by decide +kernel
theorem dX11_count_100 : decode cX11_count 100 = .ok (.baload, 1) := by decide +kernel
theorem dX11_count_101 : decode cX11_count 101 = .ok (.ifCond .eq 7, 3) := by decide +kernel
theorem dX11_count_104 : decode cX11_count 104 = .ok (.iconst 1, 1) := by decide +kernel
theorem dX11_count_105 : decode cX11_count 105 = .ok (.goto 4, 3) := by decide +kernel
theorem dX11_count_108 : decode cX11_count 108 = .ok (.iconst 0, 1) := by decide +kernel
theorem dX11_count_109 : decode cX11_count 109 = .ok (.iadd, 1) := by decide +kernel
theorem dX11_count_110 : decode cX11_count 110 = .ok (.istore_n 2, 1) := by decide +kernel
theorem dX11_count_111 : decode cX11_count 111 = .ok (.iinc 3 1, 3) := by decide +kernel
theorem dX11_count_114 : decode cX11_count 114 = .ok (.goto (-26), 3) := by decide +kernel
theorem dX11_count_117 : decode cX11_count 117 = .ok (.iload_n 2, 1) := by decide +kernel
theorem dX11_count_118 : decode cX11_count 118 = .ok (.ireturn, 1) := by decide +kernel
theorem dX11_count_119 : decode cX11_count 119 = .ok (.bipush (-2), 2) := by decide +kernel
theorem dX11_count_121 : decode cX11_count 121 = .ok (.ireturn, 1) := by decide +kernel
