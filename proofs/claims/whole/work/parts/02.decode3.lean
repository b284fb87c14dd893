theorem dX12_alike_56 : decode cX12_alike 56 = .ok (.aload_n 0, 1) := by decide +kernel
theorem dX12_alike_57 : decode cX12_alike 57 = .ok (.iload 6, 2) := by decide +kernel
theorem dX12_alike_59 : decode cX12_alike 59 = .ok (.aload_n 0, 1) := by decide +kernel
theorem dX12_alike_60 : decode cX12_alike 60 = .ok (.iload 6, 2) := by decide +kernel
theorem dX12_alike_62 : decode cX12_alike 62 = .ok (.iaload, 1) := by decide +kernel
theorem dX12_alike_63 : decode cX12_alike 63 = .ok (.iload 5, 2) := by decide +kernel
theorem dX12_alike_65 : decode cX12_alike 65 = .ok (.if_icmp .ne 8, 3) := by decide +kernel
theorem dX12_alike_68 : decode cX12_alike 68 = .ok (.iload 4, 2) := by decide +kernel
theorem dX12_alike_70 : decode cX12_alike 70 = .ok (.goto 7, 3) := by decide +kernel
theorem dX12_alike_73 : decode cX12_alike 73 = .ok (.aload_n 0, 1) := by decide +kernel
theorem dX12_alike_74 : decode cX12_alike 74 = .ok (.iload 6, 2) := by decide +kernel
theorem dX12_alike_76 : decode cX12_alike 76 = .ok (.iaload, 1) := by decide +kernel
theorem dX12_alike_77 : decode cX12_alike 77 = .ok (.iastore, 1) := by decide +kernel
theorem dX12_alike_78 : decode cX12_alike 78 = .ok (.iinc 6 1, 3) := by decide +kernel
theorem dX12_alike_81 : decode cX12_alike 81 = .ok (.goto (-38), 3) := by decide +kernel
theorem dX12_alike_84 : decode cX12_alike 84 = .ok (.return_, 1) := by decide +kernel
theorem dX12_glueCorners_0 : decode cX12_glueCorners 0 = .ok (.iload_n 1, 1) := by decide +kernel
theorem dX12_glueCorners_1 : decode cX12_glueCorners 1 = .ok (.iconst 4, 1) := by decide +kernel
theorem dX12_glueCorners_2 : decode cX12_glueCorners 2 = .ok (.irem, 1) := by decide +kernel
theorem dX12_glueCorners_3 : decode cX12_glueCorners 3 = .ok (.istore_n 2, 1) := by decide +kernel
theorem dX12_glueCorners_4 : decode cX12_glueCorners 4 = .ok (.iload_n 1, 1) := by decide +kernel
theorem dX12_glueCorners_5 : decode cX12_glueCorners 5 = .ok (.iconst 4, 1) := by decide +kernel
theorem dX12_glueCorners_6 : decode cX12_glueCorners 6 = .ok (.idiv, 1) := by decide +kernel
theorem dX12_glueCorners_7 : decode cX12_glueCorners 7 = .ok (.istore_n 3, 1) := by decide +kernel
theorem dX12_glueCorners_8 : decode cX12_glueCorners 8 = .ok (.iconst 0, 1) := by decide +kernel
theorem dX12_glueCorners_9 : decode cX12_glueCorners 9 = .ok (.istore 4, 2) := by decide +kernel
theorem dX12_glueCorners_11 : decode cX12_glueCorners 11 = .ok (.iload 4, 2) := by decide +kernel
theorem dX12_glueCorners_13 : decode cX12_glueCorners 13 = .ok (.iconst 4, 1) := by decide +kernel
theorem dX12_glueCorners_14 : decode cX12_glueCorners 14 = .ok (.if_icmp .ge 184, 3) := by decide +kernel
theorem dX12_glueCorners_17 : decode cX12_glueCorners 17 = .ok (.iconst 0, 1) := by decide +kernel
theorem dX12_glueCorners_18 : decode cX12_glueCorners 18 = .ok (.istore 5, 2) := by decide +kernel
theorem dX12_glueCorners_20 : decode cX12_glueCorners 20 = .ok (.iload 5, 2) := by decide +kernel
theorem dX12_glueCorners_22 : decode cX12_glueCorners 22 = .ok (.iconst 4, 1) := by decide +kernel
theorem dX12_glueCorners_23 : decode cX12_glueCorners 23 = .ok (.if_icmp .ge 169, 3) := by decide +kernel
theorem dX12_glueCorners_26 : decode cX12_glueCorners 26 = .ok (.iload 4, 2) := by decide +kernel
theorem dX12_glueCorners_28 : decode cX12_glueCorners 28 = .ok (.iload_n 2, 1) := by decide +kernel
theorem dX12_glueCorners_29 : decode cX12_glueCorners 29 = .ok (.if_icmp .eq 157, 3) := by decide +kernel
theorem dX12_glueCorners_32 : decode cX12_glueCorners 32 = .ok (.iload 5, 2) := by decide +kernel
theorem dX12_glueCorners_34 : decode cX12_glueCorners 34 = .ok (.iload_n 2, 1) := by decide +kernel
theorem dX12_glueCorners_35 : decode cX12_glueCorners 35 = .ok (.if_icmp .eq 151, 3) := by decide +kernel
theorem dX12_glueCorners_38 : decode cX12_glueCorners 38 = .ok (.aload_n 0, 1) := by decide +kernel
theorem dX12_glueCorners_39 : decode cX12_glueCorners 39 = .ok (.iload_n 1, 1) := by decide +kernel
theorem dX12_glueCorners_40 : decode cX12_glueCorners 40 = .ok (.iload 4, 2) := by decide +kernel
theorem dX12_glueCorners_42 : decode cX12_glueCorners 42 = .ok (.invokevirtual 60, 3) := by decide +kernel
theorem dX12_glueCorners_45 : decode cX12_glueCorners 45 = .ok (.istore 6, 2) := by decide +kernel
theorem dX12_glueCorners_47 : decode cX12_glueCorners 47 = .ok (.aload_n 0, 1) := by decide +kernel
theorem dX12_glueCorners_48 : decode cX12_glueCorners 48 = .ok (.iload_n 1, 1) := by decide +kernel
theorem dX12_glueCorners_49 : decode cX12_glueCorners 49 = .ok (.iload 5, 2) := by decide +kernel
theorem dX12_glueCorners_51 : decode cX12_glueCorners 51 = .ok (.invokevirtual 60, 3) := by decide +kernel
theorem dX12_glueCorners_54 : decode cX12_glueCorners 54 = .ok (.istore 7, 2) := by decide +kernel
theorem dX12_glueCorners_56 : decode cX12_glueCorners 56 = .ok (.aload_n 0, 1) := by decide +kernel
theorem dX12_glueCorners_57 : decode cX12_glueCorners 57 = .ok (.getfield 22, 3) := by decide +kernel
theorem dX12_glueCorners_60 : decode cX12_glueCorners 60 = .ok (.bipush 12, 2) := by decide +kernel
theorem dX12_glueCorners_62 : decode cX12_glueCorners 62 = .ok (.iconst 4, 1) := by decide +kernel
theorem dX12_glueCorners_63 : decode cX12_glueCorners 63 = .ok (.iload_n 3, 1) := by decide +kernel
theorem dX12_glueCorners_64 : decode cX12_glueCorners 64 = .ok (.imul, 1) := by decide +kernel
theorem dX12_glueCorners_65 : decode cX12_glueCorners 65 = .ok (.iload 4, 2) := by decide +kernel
theorem dX12_glueCorners_67 : decode cX12_glueCorners 67 = .ok (.iadd, 1) := by decide +kernel
theorem dX12_glueCorners_68 : decode cX12_glueCorners 68 = .ok (.iload 6, 2) := by decide +kernel
theorem dX12_glueCorners_70 : decode cX12_glueCorners 70 = .ok (.invokestatic 63, 3) := by decide +kernel
theorem dX12_glueCorners_73 : decode cX12_glueCorners 73 = .ok (.iload 4, 2) := by decide +kernel
theorem dX12_glueCorners_75 : decode cX12_glueCorners 75 = .ok (.iload 5, 2) := by decide +kernel
theorem dX12_glueCorners_77 : decode cX12_glueCorners 77 = .ok (.if_icmp .ge 109, 3) := by decide +kernel
theorem dX12_glueCorners_80 : decode cX12_glueCorners 80 = .ok (.bipush 6, 2) := by decide +kernel
theorem dX12_glueCorners_82 : decode cX12_glueCorners 82 = .ok (.iload_n 3, 1) := by decide +kernel
theorem dX12_glueCorners_83 : decode cX12_glueCorners 83 = .ok (.imul, 1) := by decide +kernel
theorem dX12_glueCorners_84 : decode cX12_glueCorners 84 = .ok (.iload 4, 2) := by decide +kernel
theorem dX12_glueCorners_86 : decode cX12_glueCorners 86 = .ok (.iload 5, 2) := by decide +kernel
theorem dX12_glueCorners_88 : decode cX12_glueCorners 88 = .ok (.invokestatic 67, 3) := by decide +kernel
theorem dX12_glueCorners_91 : decode cX12_glueCorners 91 = .ok (.iadd, 1) := by decide +kernel
theorem dX12_glueCorners_92 : decode cX12_glueCorners 92 = .ok (.istore 8, 2) := by decide +kernel
theorem dX12_glueCorners_94 : decode cX12_glueCorners 94 = .ok (.bipush 6, 2) := by decide +kernel
theorem dX12_glueCorners_96 : decode cX12_glueCorners 96 = .ok (.iload 6, 2) := by decide +kernel
theorem dX12_glueCorners_98 : decode cX12_glueCorners 98 = .ok (.iconst 4, 1) := by decide +kernel
theorem dX12_glueCorners_99 : decode cX12_glueCorners 99 = .ok (.idiv, 1) := by decide +kernel
theorem dX12_glueCorners_100 : decode cX12_glueCorners 100 = .ok (.imul, 1) := by decide +kernel
theorem dX12_glueCorners_101 : decode cX12_glueCorners 101 = .ok (.iload 6, 2) := by decide +kernel
theorem dX12_glueCorners_103 : decode cX12_glueCorners 103 = .ok (.iconst 4, 1) := by decide +kernel
theorem dX12_glueCorners_104 : decode cX12_glueCorners 104 = .ok (.irem, 1) := by decide +kernel
theorem dX12_glueCorners_105 : decode cX12_glueCorners 105 = .ok (.iload 7, 2) := by decide +kernel
theorem dX12_glueCorners_107 : decode cX12_glueCorners 107 = .ok (.iconst 4, 1) := by decide +kernel
theorem dX12_glueCorners_108 : decode cX12_glueCorners 108 = .ok (.irem, 1) := by decide +kernel
theorem dX12_glueCorners_109 : decode cX12_glueCorners 109 = .ok (.invokestatic 67, 3) := by decide +kernel
theorem dX12_glueCorners_112 : decode cX12_glueCorners 112 = .ok (.iadd, 1) := by decide +kernel
theorem dX12_glueCorners_113 : decode cX12_glueCorners 113 = .ok (.istore 9, 2) := by decide +kernel
theorem dX12_glueCorners_115 : decode cX12_glueCorners 115 = .ok (.iload 6, 2) := by decide +kernel
theorem dX12_glueCorners_117 : decode cX12_glueCorners 117 = .ok (.iload 7, 2) := by decide +kernel
theorem dX12_glueCorners_119 : decode cX12_glueCorners 119 = .ok (.if_icmp .ge 7, 3) := by decide +kernel
theorem dX12_glueCorners_122 : decode cX12_glueCorners 122 = .ok (.iconst 0, 1) := by decide +kernel
theorem dX12_glueCorners_123 : decode cX12_glueCorners 123 = .ok (.goto 4, 3) := by decide +kernel
theorem dX12_glueCorners_126 : decode cX12_glueCorners 126 = .ok (.iconst 1, 1) := by decide +kernel
theorem dX12_glueCorners_127 : decode cX12_glueCorners 127 = .ok (.istore 10, 2) := by decide +kernel
theorem dX12_glueCorners_129 : decode cX12_glueCorners 129 = .ok (.aload_n 0, 1) := by decide +kernel
theorem dX12_glueCorners_130 : decode cX12_glueCorners 130 = .ok (.getfield 25, 3) := by decide +kernel
theorem dX12_glueCorners_133 : decode cX12_glueCorners 133 = .ok (.bipush 18, 2) := by decide +kernel
theorem dX12_glueCorners_135 : decode cX12_glueCorners 135 = .ok (.iload 8, 2) := by decide +kernel
theorem dX12_glueCorners_137 : decode cX12_glueCorners 137 = .ok (.iload 9, 2) := by decide +kernel
theorem dX12_glueCorners_139 : decode cX12_glueCorners 139 = .ok (.invokestatic 63, 3) := by decide +kernel
theorem dX12_glueCorners_142 : decode cX12_glueCorners 142 = .ok (.aload_n 0, 1) := by decide +kernel
theorem dX12_glueCorners_143 : decode cX12_glueCorners 143 = .ok (.getfield 28, 3) := by decide +kernel
theorem dX12_glueCorners_146 : decode cX12_glueCorners 146 = .ok (.bipush 36, 2) := by decide +kernel
theorem dX12_glueCorners_148 : decode cX12_glueCorners 148 = .ok (.iconst 2, 1) := by decide +kernel
theorem dX12_glueCorners_149 : decode cX12_glueCorners 149 = .ok (.iload 8, 2) := by decide +kernel
theorem dX12_glueCorners_151 : decode cX12_glueCorners 151 = .ok (.imul, 1) := by decide +kernel
theorem dX12_glueCorners_152 : decode cX12_glueCorners 152 = .ok (.iconst 2, 1) := by decide +kernel
theorem dX12_glueCorners_153 : decode cX12_glueCorners 153 = .ok (.iload 9, 2) := by decide +kernel
theorem dX12_glueCorners_155 : decode cX12_glueCorners 155 = .ok (.imul, 1) := by decide +kernel
theorem dX12_glueCorners_156 : decode cX12_glueCorners 156 = .ok (.iload 10, 2) := by decide +kernel
theorem dX12_glueCorners_158 : decode cX12_glueCorners 158 = .ok (.iadd, 1) := by decide +kernel
theorem dX12_glueCorners_159 : decode cX12_glueCorners 159 = .ok (.invokestatic 63, 3) := by decide +kernel
theorem dX12_glueCorners_162 : decode cX12_glueCorners 162 = .ok (.aload_n 0, 1) := by decide +kernel
theorem dX12_glueCorners_163 : decode cX12_glueCorners 163 = .ok (.getfield 28, 3) := by decide +kernel
theorem dX12_glueCorners_166 : decode cX12_glueCorners 166 = .ok (.bipush 36, 2) := by decide +kernel
theorem dX12_glueCorners_168 : decode cX12_glueCorners 168 = .ok (.iconst 2, 1) := by decide +kernel
theorem dX12_glueCorners_169 : decode cX12_glueCorners 169 = .ok (.iload 8, 2) := by decide +kernel
theorem dX12_glueCorners_171 : decode cX12_glueCorners 171 = .ok (.imul, 1) := by decide +kernel
theorem dX12_glueCorners_172 : decode cX12_glueCorners 172 = .ok (.iconst 1, 1) := by decide +kernel
theorem dX12_glueCorners_173 : decode cX12_glueCorners 173 = .ok (.iadd, 1) := by decide +kernel
theorem dX12_glueCorners_174 : decode cX12_glueCorners 174 = .ok (.iconst 2, 1) := by decide +kernel
theorem dX12_glueCorners_175 : decode cX12_glueCorners 175 = .ok (.iload 9, 2) := by decide +kernel
theorem dX12_glueCorners_177 : decode cX12_glueCorners 177 = .ok (.imul, 1) := by decide +kernel
theorem dX12_glueCorners_178 : decode cX12_glueCorners 178 = .ok (.iconst 1, 1) := by decide +kernel
theorem dX12_glueCorners_179 : decode cX12_glueCorners 179 = .ok (.iadd, 1) := by decide +kernel
theorem dX12_glueCorners_180 : decode cX12_glueCorners 180 = .ok (.iload 10, 2) := by decide +kernel
theorem dX12_glueCorners_182 : decode cX12_glueCorners 182 = .ok (.isub, 1) := by decide +kernel
theorem dX12_glueCorners_183 : decode cX12_glueCorners 183 = .ok (.invokestatic 63, 3) := by decide +kernel
theorem dX12_glueCorners_186 : decode cX12_glueCorners 186 = .ok (.iinc 5 1, 3) := by decide +kernel
theorem dX12_glueCorners_189 : decode cX12_glueCorners 189 = .ok (.goto (-169), 3) := by decide +kernel
theorem dX12_glueCorners_192 : decode cX12_glueCorners 192 = .ok (.iinc 4 1, 3) := by decide +kernel
theorem dX12_glueCorners_195 : decode cX12_glueCorners 195 = .ok (.goto (-184), 3) := by decide +kernel
theorem dX12_glueCorners_198 : decode cX12_glueCorners 198 = .ok (.return_, 1) := by decide +kernel
theorem dX12_layRoom_0 : decode cX12_layRoom 0 = .ok (.iconst 0, 1) := by decide +kernel
theorem dX12_layRoom_1 : decode cX12_layRoom 1 = .ok (.istore_n 1, 1) := by decide +kernel
theorem dX12_layRoom_2 : decode cX12_layRoom 2 = .ok (.iload_n 1, 1) := by decide +kernel
theorem dX12_layRoom_3 : decode cX12_layRoom 3 = .ok (.bipush 36, 2) := by decide +kernel
theorem dX12_layRoom_5 : decode cX12_layRoom 5 = .ok (.if_icmp .ge 38, 3) := by decide +kernel
theorem dX12_layRoom_8 : decode cX12_layRoom 8 = .ok (.aload_n 0, 1) := by decide +kernel
theorem dX12_layRoom_9 : decode cX12_layRoom 9 = .ok (.getfield 28, 3) := by decide +kernel
theorem dX12_layRoom_12 : decode cX12_layRoom 12 = .ok (.iload_n 1, 1) := by decide +kernel
theorem dX12_layRoom_13 : decode cX12_layRoom 13 = .ok (.iload_n 1, 1) := by decide +kernel
theorem dX12_layRoom_14 : decode cX12_layRoom 14 = .ok (.iastore, 1) := by decide +kernel
theorem dX12_layRoom_15 : decode cX12_layRoom 15 = .ok (.aload_n 0, 1) := by decide +kernel
theorem dX12_layRoom_16 : decode cX12_layRoom 16 = .ok (.getfield 25, 3) := by decide +kernel
theorem dX12_layRoom_19 : decode cX12_layRoom 19 = .ok (.iload_n 1, 1) := by decide +kernel
theorem dX12_layRoom_20 : decode cX12_layRoom 20 = .ok (.iconst 2, 1) := by decide +kernel
theorem dX12_layRoom_21 : decode cX12_layRoom 21 = .ok (.idiv, 1) := by decide +kernel
theorem dX12_layRoom_22 : decode cX12_layRoom 22 = .ok (.iload_n 1, 1) := by decide +kernel
theorem dX12_layRoom_23 : decode cX12_layRoom 23 = .ok (.iconst 2, 1) := by decide +kernel
theorem dX12_layRoom_24 : decode cX12_layRoom 24 = .ok (.idiv, 1) := by decide +kernel
theorem dX12_layRoom_25 : decode cX12_layRoom 25 = .ok (.iastore, 1) := by decide +kernel
theorem dX12_layRoom_26 : decode cX12_layRoom 26 = .ok (.aload_n 0, 1) := by decide +kernel
theorem dX12_layRoom_27 : decode cX12_layRoom 27 = .ok (.getfield 22, 3) := by decide +kernel
theorem dX12_layRoom_30 : decode cX12_layRoom 30 = .ok (.iload_n 1, 1) := by decide +kernel
theorem dX12_layRoom_31 : decode cX12_layRoom 31 = .ok (.iconst 3, 1) := by decide +kernel
theorem dX12_layRoom_32 : decode cX12_layRoom 32 = .ok (.idiv, 1) := by decide +kernel
theorem dX12_layRoom_33 : decode cX12_layRoom 33 = .ok (.iload_n 1, 1) := by decide +kernel
theorem dX12_layRoom_34 : decode cX12_layRoom 34 = .ok (.iconst 3, 1) := by decide +kernel
theorem dX12_layRoom_35 : decode cX12_layRoom 35 = .ok (.idiv, 1) := by decide +kernel
theorem dX12_layRoom_36 : decode cX12_layRoom 36 = .ok (.iastore, 1) := by decide +kernel
theorem dX12_layRoom_37 : decode cX12_layRoom 37 = .ok (.iinc 1 1, 3) := by decide +kernel
theorem dX12_layRoom_40 : decode cX12_layRoom 40 = .ok (.goto (-38), 3) := by decide +kernel
theorem dX12_layRoom_43 : decode cX12_layRoom 43 = .ok (.iconst 0, 1) := by decide +kernel
theorem dX12_layRoom_44 : decode cX12_layRoom 44 = .ok (.istore_n 1, 1) := by decide +kernel
theorem dX12_layRoom_45 : decode cX12_layRoom 45 = .ok (.iload_n 1, 1) := by decide +kernel
theorem dX12_layRoom_46 : decode cX12_layRoom 46 = .ok (.aload_n 0, 1) := by decide +kernel
theorem dX12_layRoom_47 : decode cX12_layRoom 47 = .ok (.invokevirtual 48, 3) := by decide +kernel
theorem dX12_layRoom_50 : decode cX12_layRoom 50 = .ok (.if_icmp .ge 22, 3) := by decide +kernel
theorem dX12_layRoom_53 : decode cX12_layRoom 53 = .ok (.aload_n 0, 1) := by decide +kernel
theorem dX12_layRoom_54 : decode cX12_layRoom 54 = .ok (.iload_n 1, 1) := by decide +kernel
theorem dX12_layRoom_55 : decode cX12_layRoom 55 = .ok (.invokevirtual 52, 3) := by decide +kernel
theorem dX12_layRoom_58 : decode cX12_layRoom 58 = .ok (.ifCond .ne 8, 3) := by decide +kernel
theorem dX12_layRoom_61 : decode cX12_layRoom 61 = .ok (.aload_n 0, 1) := by decide +kernel
theorem dX12_layRoom_62 : decode cX12_layRoom 62 = .ok (.iload_n 1, 1) := by decide +kernel
theorem dX12_layRoom_63 : decode cX12_layRoom 63 = .ok (.invokevirtual 70, 3) := by decide +kernel
theorem dX12_layRoom_66 : decode cX12_layRoom 66 = .ok (.iinc 1 1, 3) := by decide +kernel
theorem dX12_layRoom_69 : decode cX12_layRoom 69 = .ok (.goto (-24), 3) := by decide +kernel
theorem dX12_layRoom_72 : decode cX12_layRoom 72 = .ok (.return_, 1) := by decide +kernel
theorem dX12_firsts_0 : decode cX12_firsts 0 = .ok (.iconst 0, 1) := by decide +kernel
theorem dX12_firsts_1 : decode cX12_firsts 1 = .ok (.istore_n 2, 1) := by decide +kernel
theorem dX12_firsts_2 : decode cX12_firsts 2 = .ok (.iconst 0, 1) := by decide +kernel
theorem dX12_firsts_3 : decode cX12_firsts 3 = .ok (.istore_n 3, 1) := by decide +kernel
theorem dX12_firsts_4 : decode cX12_firsts 4 = .ok (.iload_n 3, 1) := by decide +kernel
theorem dX12_firsts_5 : decode cX12_firsts 5 = .ok (.iload_n 1, 1) := by decide +kernel
theorem dX12_firsts_6 : decode cX12_firsts 6 = .ok (.if_icmp .ge 24, 3) := by decide +kernel
theorem dX12_firsts_9 : decode cX12_firsts 9 = .ok (.iload_n 2, 1) := by decide +kernel
theorem dX12_firsts_10 : decode cX12_firsts 10 = .ok (.aload_n 0, 1) := by decide +kernel
theorem dX12_firsts_11 : decode cX12_firsts 11 = .ok (.iload_n 3, 1) := by decide +kernel
theorem dX12_firsts_12 : decode cX12_firsts 12 = .ok (.iaload, 1) := by decide +kernel
theorem dX12_firsts_13 : decode cX12_firsts 13 = .ok (.iload_n 3, 1) := by decide +kernel
theorem dX12_firsts_14 : decode cX12_firsts 14 = .ok (.if_icmp .ne 7, 3) := by decide +kernel
theorem dX12_firsts_17 : decode cX12_firsts 17 = .ok (.iconst 1, 1) := by decide +kernel
theorem dX12_firsts_18 : decode cX12_firsts 18 = .ok (.goto 4, 3) := by decide +kernel
theorem dX12_firsts_21 : decode cX12_firsts 21 = .ok (.iconst 0, 1) := by decide +kernel
theorem dX12_firsts_22 : decode cX12_firsts 22 = .ok (.iadd, 1) := by decide +kernel
theorem dX12_firsts_23 : decode cX12_firsts 23 = .ok (.istore_n 2, 1) := by decide +kernel
theorem dX12_firsts_24 : decode cX12_firsts 24 = .ok (.iinc 3 1, 3) := by decide +kernel
theorem dX12_firsts_27 : decode cX12_firsts 27 = .ok (.goto (-23), 3) := by decide +kernel
theorem dX12_firsts_30 : decode cX12_firsts 30 = .ok (.iload_n 2, 1) := by decide +kernel
theorem dX12_firsts_31 : decode cX12_firsts 31 = .ok (.ireturn, 1) := by decide +kernel
theorem dX12_isBent_0 : decode cX12_isBent 0 = .ok (.iconst 0, 1) := by decide +kernel
theorem dX12_isBent_1 : decode cX12_isBent 1 = .ok (.istore_n 2, 1) := by decide +kernel
theorem dX12_isBent_2 : decode cX12_isBent 2 = .ok (.iconst 0, 1) := by decide +kernel
theorem dX12_isBent_3 : decode cX12_isBent 3 = .ok (.istore_n 3, 1) := by decide +kernel
theorem dX12_isBent_4 : decode cX12_isBent 4 = .ok (.iload_n 3, 1) := by decide +kernel
theorem dX12_isBent_5 : decode cX12_isBent 5 = .ok (.bipush 6, 2) := by decide +kernel
theorem dX12_isBent_7 : decode cX12_isBent 7 = .ok (.aload_n 0, 1) := by decide +kernel
theorem dX12_isBent_8 : decode cX12_isBent 8 = .ok (.getfield 7, 3) := by decide +kernel
theorem dX12_isBent_11 : decode cX12_isBent 11 = .ok (.iconst 0, 1) := by decide +kernel
theorem dX12_isBent_12 : decode cX12_isBent 12 = .ok (.iaload, 1) := by decide +kernel
theorem dX12_isBent_13 : decode cX12_isBent 13 = .ok (.imul, 1) := by decide +kernel
theorem dX12_isBent_14 : decode cX12_isBent 14 = .ok (.if_icmp .ge 55, 3) := by decide +kernel
theorem dX12_isBent_17 : decode cX12_isBent 17 = .ok (.iload_n 2, 1) := by decide +kernel
theorem dX12_isBent_18 : decode cX12_isBent 18 = .ok (.ifCond .ne 39, 3) := by decide +kernel
theorem dX12_isBent_21 : decode cX12_isBent 21 = .ok (.aload_n 0, 1) := by decide +kernel
theorem dX12_isBent_22 : decode cX12_isBent 22 = .ok (.getfield 25, 3) := by decide +kernel
theorem dX12_isBent_25 : decode cX12_isBent 25 = .ok (.iload_n 3, 1) := by decide +kernel
theorem dX12_isBent_26 : decode cX12_isBent 26 = .ok (.iaload, 1) := by decide +kernel
theorem dX12_isBent_27 : decode cX12_isBent 27 = .ok (.aload_n 0, 1) := by decide +kernel
theorem dX12_isBent_28 : decode cX12_isBent 28 = .ok (.getfield 25, 3) := by decide +kernel
theorem dX12_isBent_31 : decode cX12_isBent 31 = .ok (.iload_n 1, 1) := by decide +kernel
theorem dX12_isBent_32 : decode cX12_isBent 32 = .ok (.iaload, 1) := by decide +kernel
theorem dX12_isBent_33 : decode cX12_isBent 33 = .ok (.if_icmp .ne 28, 3) := by decide +kernel
theorem dX12_isBent_36 : decode cX12_isBent 36 = .ok (.aload_n 0, 1) := by decide +kernel
theorem dX12_isBent_37 : decode cX12_isBent 37 = .ok (.getfield 28, 3) := by decide +kernel
theorem dX12_isBent_40 : decode cX12_isBent 40 = .ok (.iconst 2, 1) := by decide +kernel
theorem dX12_isBent_41 : decode cX12_isBent 41 = .ok (.iload_n 3, 1) := by decide +kernel
theorem dX12_isBent_42 : decode cX12_isBent 42 = .ok (.imul, 1) := by decide +kernel
theorem dX12_isBent_43 : decode cX12_isBent 43 = .ok (.iaload, 1) := by decide +kernel
theorem dX12_isBent_44 : decode cX12_isBent 44 = .ok (.aload_n 0, 1) := by decide +kernel
theorem dX12_isBent_45 : decode cX12_isBent 45 = .ok (.getfield 28, 3) := by decide +kernel
theorem dX12_isBent_48 : decode cX12_isBent 48 = .ok (.iconst 2, 1) := by decide +kernel
theorem dX12_isBent_49 : decode cX12_isBent 49 = .ok (.iload_n 3, 1) := by decide +kernel
theorem dX12_isBent_50 : decode cX12_isBent 50 = .ok (.imul, 1) := by decide +kernel
theorem dX12_isBent_51 : decode cX12_isBent 51 = .ok (.iconst 1, 1) := by decide +kernel
theorem dX12_isBent_52 : decode cX12_isBent 52 = .ok (.iadd, 1) := by decide +kernel
theorem dX12_isBent_53 : decode cX12_isBent 53 = .ok (.iaload, 1) := by decide +kernel
theorem dX12_isBent_54 : decode cX12_isBent 54 = .ok (.if_icmp .ne 7, 3) := by decide +kernel
theorem dX12_isBent_57 : decode cX12_isBent 57 = .ok (.iconst 1, 1) := by decide +kernel
theorem dX12_isBent_58 : decode cX12_isBent 58 = .ok (.goto 4, 3) := by decide +kernel
theorem dX12_isBent_61 : decode cX12_isBent 61 = .ok (.iconst 0, 1) := by decide +kernel
theorem dX12_isBent_62 : decode cX12_isBent 62 = .ok (.istore_n 2, 1) := by decide +kernel
theorem dX12_isBent_63 : decode cX12_isBent 63 = .ok (.iinc 3 1, 3) := by decide +kernel
theorem dX12_isBent_66 : decode cX12_isBent 66 = .ok (.goto (-62), 3) := by decide +kernel
theorem dX12_isBent_69 : decode cX12_isBent 69 = .ok (.iload_n 2, 1) := by decide +kernel
theorem dX12_isBent_70 : decode cX12_isBent 70 = .ok (.ireturn, 1) := by decide +kernel
theorem dX12_aroundOf_0 : decode cX12_aroundOf 0 = .ok (.iconst 0, 1) := by decide +kernel
theorem dX12_aroundOf_1 : decode cX12_aroundOf 1 = .ok (.istore_n 2, 1) := by decide +kernel
theorem dX12_aroundOf_2 : decode cX12_aroundOf 2 = .ok (.iconst 0, 1) := by decide +kernel
theorem dX12_aroundOf_3 : decode cX12_aroundOf 3 = .ok (.istore_n 3, 1) := by decide +kernel
theorem dX12_aroundOf_4 : decode cX12_aroundOf 4 = .ok (.iload_n 3, 1) := by decide +kernel
theorem dX12_aroundOf_5 : decode cX12_aroundOf 5 = .ok (.bipush 6, 2) := by decide +kernel
theorem dX12_aroundOf_7 : decode cX12_aroundOf 7 = .ok (.aload_n 0, 1) := by decide +kernel
theorem dX12_aroundOf_8 : decode cX12_aroundOf 8 = .ok (.getfield 7, 3) := by decide +kernel
theorem dX12_aroundOf_11 : decode cX12_aroundOf 11 = .ok (.iconst 0, 1) := by decide +kernel
theorem dX12_aroundOf_12 : decode cX12_aroundOf 12 = .ok (.iaload, 1) := by decide +kernel
theorem dX12_aroundOf_13 : decode cX12_aroundOf 13 = .ok (.imul, 1) := by decide +kernel
theorem dX12_aroundOf_14 : decode cX12_aroundOf 14 = .ok (.if_icmp .ge 32, 3) := by decide +kernel
theorem dX12_aroundOf_17 : decode cX12_aroundOf 17 = .ok (.iload_n 2, 1) := by decide +kernel
theorem dX12_aroundOf_18 : decode cX12_aroundOf 18 = .ok (.aload_n 0, 1) := by decide +kernel
theorem dX12_aroundOf_19 : decode cX12_aroundOf 19 = .ok (.getfield 25, 3) := by decide +kernel
theorem dX12_aroundOf_22 : decode cX12_aroundOf 22 = .ok (.iload_n 3, 1) := by decide +kernel
theorem dX12_aroundOf_23 : decode cX12_aroundOf 23 = .ok (.iaload, 1) := by decide +kernel
theorem dX12_aroundOf_24 : decode cX12_aroundOf 24 = .ok (.aload_n 0, 1) := by decide +kernel
theorem dX12_aroundOf_25 : decode cX12_aroundOf 25 = .ok (.getfield 25, 3) := by decide +kernel
theorem dX12_aroundOf_28 : decode cX12_aroundOf 28 = .ok (.iload_n 1, 1) := by decide +kernel
theorem dX12_aroundOf_29 : decode cX12_aroundOf 29 = .ok (.iaload, 1) := by decide +kernel
theorem dX12_aroundOf_30 : decode cX12_aroundOf 30 = .ok (.if_icmp .ne 7, 3) := by decide +kernel
theorem dX12_aroundOf_33 : decode cX12_aroundOf 33 = .ok (.iconst 1, 1) := by decide +kernel
theorem dX12_aroundOf_34 : decode cX12_aroundOf 34 = .ok (.goto 4, 3) := by decide +kernel
theorem dX12_aroundOf_37 : decode cX12_aroundOf 37 = .ok (.iconst 0, 1) := by decide +kernel
theorem dX12_aroundOf_38 : decode cX12_aroundOf 38 = .ok (.iadd, 1) := by decide +kernel
theorem dX12_aroundOf_39 : decode cX12_aroundOf 39 = .ok (.istore_n 2, 1) := by decide +kernel
theorem dX12_aroundOf_40 : decode cX12_aroundOf 40 = .ok (.iinc 3 1, 3) := by decide +kernel
theorem dX12_aroundOf_43 : decode cX12_aroundOf 43 = .ok (.goto (-39), 3) := by decide +kernel
theorem dX12_aroundOf_46 : decode cX12_aroundOf 46 = .ok (.iload_n 2, 1) := by decide +kernel
theorem dX12_aroundOf_47 : decode cX12_aroundOf 47 = .ok (.ireturn, 1) := by decide +kernel
theorem dX12_bentMany_0 : decode cX12_bentMany 0 = .ok (.iconst 0, 1) := by decide +kernel
theorem dX12_bentMany_1 : decode cX12_bentMany 1 = .ok (.istore_n 1, 1) := by decide +kernel
theorem dX12_bentMany_2 : decode cX12_bentMany 2 = .ok (.iconst 0, 1) := by decide +kernel
theorem dX12_bentMany_3 : decode cX12_bentMany 3 = .ok (.istore_n 2, 1) := by decide +kernel
theorem dX12_bentMany_4 : decode cX12_bentMany 4 = .ok (.iload_n 2, 1) := by decide +kernel
theorem dX12_bentMany_5 : decode cX12_bentMany 5 = .ok (.bipush 6, 2) := by decide +kernel
theorem dX12_bentMany_7 : decode cX12_bentMany 7 = .ok (.aload_n 0, 1) := by decide +kernel
theorem dX12_bentMany_8 : decode cX12_bentMany 8 = .ok (.getfield 7, 3) := by decide +kernel
theorem dX12_bentMany_11 : decode cX12_bentMany 11 = .ok (.iconst 0, 1) := by decide +kernel
theorem dX12_bentMany_12 : decode cX12_bentMany 12 = .ok (.iaload, 1) := by decide +kernel
theorem dX12_bentMany_13 : decode cX12_bentMany 13 = .ok (.imul, 1) := by decide +kernel
theorem dX12_bentMany_14 : decode cX12_bentMany 14 = .ok (.if_icmp .ge 35, 3) := by decide +kernel
theorem dX12_bentMany_17 : decode cX12_bentMany 17 = .ok (.iload_n 1, 1) := by decide +kernel
theorem dX12_bentMany_18 : decode cX12_bentMany 18 = .ok (.aload_n 0, 1) := by decide +kernel
theorem dX12_bentMany_19 : decode cX12_bentMany 19 = .ok (.getfield 25, 3) := by decide +kernel
theorem dX12_bentMany_22 : decode cX12_bentMany 22 = .ok (.iload_n 2, 1) := by decide +kernel
theorem dX12_bentMany_23 : decode cX12_bentMany 23 = .ok (.iaload, 1) := by decide +kernel
theorem dX12_bentMany_24 : decode cX12_bentMany 24 = .ok (.iload_n 2, 1) := by decide +kernel
theorem dX12_bentMany_25 : decode cX12_bentMany 25 = .ok (.if_icmp .ne 15, 3) := by decide +kernel
theorem dX12_bentMany_28 : decode cX12_bentMany 28 = .ok (.aload_n 0, 1) := by decide +kernel
theorem dX12_bentMany_29 : decode cX12_bentMany 29 = .ok (.iload_n 2, 1) := by decide +kernel
theorem dX12_bentMany_30 : decode cX12_bentMany 30 = .ok (.invokevirtual 74, 3) := by decide +kernel
theorem dX12_bentMany_33 : decode cX12_bentMany 33 = .ok (.ifCond .eq 7, 3) := by decide +kernel
theorem dX12_bentMany_36 : decode cX12_bentMany 36 = .ok (.iconst 1, 1) := by decide +kernel
theorem dX12_bentMany_37 : decode cX12_bentMany 37 = .ok (.goto 4, 3) := by decide +kernel
theorem dX12_bentMany_40 : decode cX12_bentMany 40 = .ok (.iconst 0, 1) := by decide +kernel
theorem dX12_bentMany_41 : decode cX12_bentMany 41 = .ok (.iadd, 1) := by decide +kernel
theorem dX12_bentMany_42 : decode cX12_bentMany 42 = .ok (.istore_n 1, 1) := by decide +kernel
theorem dX12_bentMany_43 : decode cX12_bentMany 43 = .ok (.iinc 2 1, 3) := by decide +kernel
theorem dX12_bentMany_46 : decode cX12_bentMany 46 = .ok (.goto (-42), 3) := by decide +kernel
theorem dX12_bentMany_49 : decode cX12_bentMany 49 = .ok (.iload_n 1, 1) := by decide +kernel
theorem dX12_bentMany_50 : decode cX12_bentMany 50 = .ok (.ireturn, 1) := by decide +kernel
theorem dX12_four_0 : decode cX12_four 0 = .ok (.iload_n 0, 1) := by decide +kernel
theorem dX12_four_1 : decode cX12_four 1 = .ok (.ifCond .eq 7, 3) := by decide +kernel
theorem dX12_four_4 : decode cX12_four 4 = .ok (.iload_n 1, 1) := by decide +kernel
theorem dX12_four_5 : decode cX12_four 5 = .ok (.ifCond .ne 11, 3) := by decide +kernel
theorem dX12_four_8 : decode cX12_four 8 = .ok (.iconst 3, 1) := by decide +kernel
theorem dX12_four_9 : decode cX12_four 9 = .ok (.iload_n 0, 1) := by decide +kernel
theorem dX12_four_10 : decode cX12_four 10 = .ok (.iadd, 1) := by decide +kernel
theorem dX12_four_11 : decode cX12_four 11 = .ok (.iload_n 1, 1) := by decide +kernel
theorem dX12_four_12 : decode cX12_four 12 = .ok (.iadd, 1) := by decide +kernel
theorem dX12_four_13 : decode cX12_four 13 = .ok (.goto 9, 3) := by decide +kernel
theorem dX12_four_16 : decode cX12_four 16 = .ok (.bipush 9, 2) := by decide +kernel
theorem dX12_four_18 : decode cX12_four 18 = .ok (.iload_n 0, 1) := by decide +kernel
theorem dX12_four_19 : decode cX12_four 19 = .ok (.isub, 1) := by decide +kernel
theorem dX12_four_20 : decode cX12_four 20 = .ok (.iload_n 1, 1) := by decide +kernel
theorem dX12_four_21 : decode cX12_four 21 = .ok (.isub, 1) := by decide +kernel
theorem dX12_four_22 : decode cX12_four 22 = .ok (.ireturn, 1) := by decide +kernel
theorem dX12_arcsOf_0 : decode cX12_arcsOf 0 = .ok (.iload_n 1, 1) := by decide +kernel
theorem dX12_arcsOf_1 : decode cX12_arcsOf 1 = .ok (.bipush 7, 2) := by decide +kernel
theorem dX12_arcsOf_3 : decode cX12_arcsOf 3 = .ok (.iload_n 2, 1) := by decide +kernel
theorem dX12_arcsOf_4 : decode cX12_arcsOf 4 = .ok (.iconst 4, 1) := by decide +kernel
theorem dX12_arcsOf_5 : decode cX12_arcsOf 5 = .ok (.idiv, 1) := by decide +kernel
theorem dX12_arcsOf_6 : decode cX12_arcsOf 6 = .ok (.imul, 1) := by decide +kernel
theorem dX12_arcsOf_7 : decode cX12_arcsOf 7 = .ok (.iadd, 1) := by decide +kernel
theorem dX12_arcsOf_8 : decode cX12_arcsOf 8 = .ok (.istore 4, 2) := by decide +kernel
theorem dX12_arcsOf_10 : decode cX12_arcsOf 10 = .ok (.aload_n 0, 1) := by decide +kernel
theorem dX12_arcsOf_11 : decode cX12_arcsOf 11 = .ok (.getfield 7, 3) := by decide +kernel
theorem dX12_arcsOf_14 : decode cX12_arcsOf 14 = .ok (.iload 4, 2) := by decide +kernel
theorem dX12_arcsOf_16 : decode cX12_arcsOf 16 = .ok (.iload_n 3, 1) := by decide +kernel
theorem dX12_arcsOf_17 : decode cX12_arcsOf 17 = .ok (.iadd, 1) := by decide +kernel
theorem dX12_arcsOf_18 : decode cX12_arcsOf 18 = .ok (.iaload, 1) := by decide +kernel
theorem dX12_arcsOf_19 : decode cX12_arcsOf 19 = .ok (.aload_n 0, 1) := by decide +kernel
theorem dX12_arcsOf_20 : decode cX12_arcsOf 20 = .ok (.getfield 7, 3) := by decide +kernel
theorem dX12_arcsOf_23 : decode cX12_arcsOf 23 = .ok (.iload 4, 2) := by decide +kernel
theorem dX12_arcsOf_25 : decode cX12_arcsOf 25 = .ok (.iload_n 3, 1) := by decide +kernel
theorem dX12_arcsOf_26 : decode cX12_arcsOf 26 = .ok (.iload_n 2, 1) := by decide +kernel
theorem dX12_arcsOf_27 : decode cX12_arcsOf 27 = .ok (.iconst 4, 1) := by decide +kernel
theorem dX12_arcsOf_28 : decode cX12_arcsOf 28 = .ok (.irem, 1) := by decide +kernel
theorem dX12_arcsOf_29 : decode cX12_arcsOf 29 = .ok (.invokestatic 77, 3) := by decide +kernel
theorem dX12_arcsOf_32 : decode cX12_arcsOf 32 = .ok (.iadd, 1) := by decide +kernel
theorem dX12_arcsOf_33 : decode cX12_arcsOf 33 = .ok (.iaload, 1) := by decide +kernel
theorem dX12_arcsOf_34 : decode cX12_arcsOf 34 = .ok (.iadd, 1) := by decide +kernel
theorem dX12_arcsOf_35 : decode cX12_arcsOf 35 = .ok (.ireturn, 1) := by decide +kernel
theorem dX12_weightOf_0 : decode cX12_weightOf 0 = .ok (.iload_n 3, 1) := by decide +kernel
theorem dX12_weightOf_1 : decode cX12_weightOf 1 = .ok (.invokestatic 56, 3) := by decide +kernel
theorem dX12_weightOf_4 : decode cX12_weightOf 4 = .ok (.istore 4, 2) := by decide +kernel
theorem dX12_weightOf_6 : decode cX12_weightOf 6 = .ok (.iload_n 3, 1) := by decide +kernel
theorem dX12_weightOf_7 : decode cX12_weightOf 7 = .ok (.invokestatic 80, 3) := by decide +kernel
theorem dX12_weightOf_10 : decode cX12_weightOf 10 = .ok (.istore 5, 2) := by decide +kernel
theorem dX12_weightOf_12 : decode cX12_weightOf 12 = .ok (.iload_n 1, 1) := by decide +kernel
theorem dX12_weightOf_13 : decode cX12_weightOf 13 = .ok (.bipush 7, 2) := by decide +kernel
theorem dX12_weightOf_15 : decode cX12_weightOf 15 = .ok (.iload_n 2, 1) := by decide +kernel
theorem dX12_weightOf_16 : decode cX12_weightOf 16 = .ok (.imul, 1) := by decide +kernel
theorem dX12_weightOf_17 : decode cX12_weightOf 17 = .ok (.iadd, 1) := by decide +kernel
theorem dX12_weightOf_18 : decode cX12_weightOf 18 = .ok (.istore 6, 2) := by decide +kernel
theorem dX12_weightOf_20 : decode cX12_weightOf 20 = .ok (.aload_n 0, 1) := by decide +kernel
theorem dX12_weightOf_21 : decode cX12_weightOf 21 = .ok (.getfield 7, 3) := by decide +kernel
theorem dX12_weightOf_24 : decode cX12_weightOf 24 = .ok (.iload 6, 2) := by decide +kernel
theorem dX12_weightOf_26 : decode cX12_weightOf 26 = .ok (.iload 4, 2) := by decide +kernel
theorem dX12_weightOf_28 : decode cX12_weightOf 28 = .ok (.iadd, 1) := by decide +kernel
theorem dX12_weightOf_29 : decode cX12_weightOf 29 = .ok (.iaload, 1) := by decide +kernel
theorem dX12_weightOf_30 : decode cX12_weightOf 30 = .ok (.aload_n 0, 1) := by decide +kernel
theorem dX12_weightOf_31 : decode cX12_weightOf 31 = .ok (.getfield 7, 3) := by decide +kernel
theorem dX12_weightOf_34 : decode cX12_weightOf 34 = .ok (.iload 6, 2) := by decide +kernel
theorem dX12_weightOf_36 : decode cX12_weightOf 36 = .ok (.iload 5, 2) := by decide +kernel
theorem dX12_weightOf_38 : decode cX12_weightOf 38 = .ok (.iadd, 1) := by decide +kernel
theorem dX12_weightOf_39 : decode cX12_weightOf 39 = .ok (.iaload, 1) := by decide +kernel
theorem dX12_weightOf_40 : decode cX12_weightOf 40 = .ok (.iadd, 1) := by decide +kernel
theorem dX12_weightOf_41 : decode cX12_weightOf 41 = .ok (.aload_n 0, 1) := by decide +kernel
theorem dX12_weightOf_42 : decode cX12_weightOf 42 = .ok (.getfield 7, 3) := by decide +kernel
theorem dX12_weightOf_45 : decode cX12_weightOf 45 = .ok (.iload 6, 2) := by decide +kernel
theorem dX12_weightOf_47 : decode cX12_weightOf 47 = .ok (.iconst 4, 1) := by decide +kernel
theorem dX12_weightOf_48 : decode cX12_weightOf 48 = .ok (.iadd, 1) := by decide +kernel
theorem dX12_weightOf_49 : decode cX12_weightOf 49 = .ok (.iaload, 1) := by decide +kernel
theorem dX12_weightOf_50 : decode cX12_weightOf 50 = .ok (.iadd, 1) := by decide +kernel
theorem dX12_weightOf_51 : decode cX12_weightOf 51 = .ok (.aload_n 0, 1) := by decide +kernel
theorem dX12_weightOf_52 : decode cX12_weightOf 52 = .ok (.getfield 7, 3) := by decide +kernel
theorem dX12_weightOf_55 : decode cX12_weightOf 55 = .ok (.iload 6, 2) := by decide +kernel
theorem dX12_weightOf_57 : decode cX12_weightOf 57 = .ok (.iconst 5, 1) := by decide +kernel
theorem dX12_weightOf_58 : decode cX12_weightOf 58 = .ok (.iadd, 1) := by decide +kernel
theorem dX12_weightOf_59 : decode cX12_weightOf 59 = .ok (.iaload, 1) := by decide +kernel
theorem dX12_weightOf_60 : decode cX12_weightOf 60 = .ok (.iadd, 1) := by decide +kernel
theorem dX12_weightOf_61 : decode cX12_weightOf 61 = .ok (.aload_n 0, 1) := by decide +kernel
theorem dX12_weightOf_62 : decode cX12_weightOf 62 = .ok (.getfield 7, 3) := by decide +kernel
theorem dX12_weightOf_65 : decode cX12_weightOf 65 = .ok (.iload 6, 2) := by decide +kernel
theorem dX12_weightOf_67 : decode cX12_weightOf 67 = .ok (.bipush 6, 2) := by decide +kernel
theorem dX12_weightOf_69 : decode cX12_weightOf 69 = .ok (.iadd, 1) := by decide +kernel
theorem dX12_weightOf_70 : decode cX12_weightOf 70 = .ok (.iaload, 1) := by decide +kernel
theorem dX12_weightOf_71 : decode cX12_weightOf 71 = .ok (.iadd, 1) := by decide +kernel
theorem dX12_weightOf_72 : decode cX12_weightOf 72 = .ok (.aload_n 0, 1) := by decide +kernel
theorem dX12_weightOf_73 : decode cX12_weightOf 73 = .ok (.getfield 7, 3) := by decide +kernel
theorem dX12_weightOf_76 : decode cX12_weightOf 76 = .ok (.iload 6, 2) := by decide +kernel
theorem dX12_weightOf_78 : decode cX12_weightOf 78 = .ok (.iload 4, 2) := by decide +kernel
theorem dX12_weightOf_80 : decode cX12_weightOf 80 = .ok (.iload 5, 2) := by decide +kernel
theorem dX12_weightOf_82 : decode cX12_weightOf 82 = .ok (.invokestatic 77, 3) := by decide +kernel
theorem dX12_weightOf_85 : decode cX12_weightOf 85 = .ok (.iadd, 1) := by decide +kernel
theorem dX12_weightOf_86 : decode cX12_weightOf 86 = .ok (.iaload, 1) := by decide +kernel
theorem dX12_weightOf_87 : decode cX12_weightOf 87 = .ok (.isub, 1) := by decide +kernel
theorem dX12_weightOf_88 : decode cX12_weightOf 88 = .ok (.ireturn, 1) := by decide +kernel
theorem dX12_meets_0 : decode cX12_meets 0 = .ok (.iconst 0, 1) := by decide +kernel
theorem dX12_meets_1 : decode cX12_meets 1 = .ok (.istore_n 2, 1) := by decide +kernel
theorem dX12_meets_2 : decode cX12_meets 2 = .ok (.iload_n 2, 1) := by decide +kernel
theorem dX12_meets_3 : decode cX12_meets 3 = .ok (.aload_n 0, 1) := by decide +kernel
theorem dX12_meets_4 : decode cX12_meets 4 = .ok (.invokevirtual 48, 3) := by decide +kernel
theorem dX12_meets_7 : decode cX12_meets 7 = .ok (.if_icmp .ge 74, 3) := by decide +kernel
theorem dX12_meets_10 : decode cX12_meets 10 = .ok (.iconst 0, 1) := by decide +kernel
theorem dX12_meets_11 : decode cX12_meets 11 = .ok (.istore_n 3, 1) := by decide +kernel
theorem dX12_meets_12 : decode cX12_meets 12 = .ok (.iload_n 3, 1) := by decide +kernel
theorem dX12_meets_13 : decode cX12_meets 13 = .ok (.iconst 4, 1) := by decide +kernel
theorem dX12_meets_14 : decode cX12_meets 14 = .ok (.if_icmp .ge 61, 3) := by decide +kernel
theorem dX12_meets_17 : decode cX12_meets 17 = .ok (.aload_n 0, 1) := by decide +kernel
theorem dX12_meets_18 : decode cX12_meets 18 = .ok (.iload_n 2, 1) := by decide +kernel
theorem dX12_meets_19 : decode cX12_meets 19 = .ok (.invokevirtual 52, 3) := by decide +kernel
theorem dX12_meets_22 : decode cX12_meets 22 = .ok (.ifCond .ne 53, 3) := by decide +kernel
theorem dX12_meets_25 : decode cX12_meets 25 = .ok (.iload_n 3, 1) := by decide +kernel
theorem dX12_meets_26 : decode cX12_meets 26 = .ok (.iload_n 2, 1) := by decide +kernel
theorem dX12_meets_27 : decode cX12_meets 27 = .ok (.iconst 4, 1) := by decide +kernel
theorem dX12_meets_28 : decode cX12_meets 28 = .ok (.irem, 1) := by decide +kernel
theorem dX12_meets_29 : decode cX12_meets 29 = .ok (.if_icmp .eq 40, 3) := by decide +kernel
theorem dX12_meets_32 : decode cX12_meets 32 = .ok (.aload_n 0, 1) := by decide +kernel
theorem dX12_meets_33 : decode cX12_meets 33 = .ok (.iload_n 2, 1) := by decide +kernel
theorem dX12_meets_34 : decode cX12_meets 34 = .ok (.iload_n 3, 1) := by decide +kernel
theorem dX12_meets_35 : decode cX12_meets 35 = .ok (.invokevirtual 60, 3) := by decide +kernel
theorem dX12_meets_38 : decode cX12_meets 38 = .ok (.istore 4, 2) := by decide +kernel
theorem dX12_meets_40 : decode cX12_meets 40 = .ok (.aload_n 0, 1) := by decide +kernel
theorem dX12_meets_41 : decode cX12_meets 41 = .ok (.iload_n 1, 1) := by decide +kernel
theorem dX12_meets_42 : decode cX12_meets 42 = .ok (.iload_n 2, 1) := by decide +kernel
theorem dX12_meets_43 : decode cX12_meets 43 = .ok (.iload_n 3, 1) := by decide +kernel
theorem dX12_meets_44 : decode cX12_meets 44 = .ok (.invokevirtual 83, 3) := by decide +kernel
theorem dX12_meets_47 : decode cX12_meets 47 = .ok (.aload_n 0, 1) := by decide +kernel
theorem dX12_meets_48 : decode cX12_meets 48 = .ok (.iload_n 1, 1) := by decide +kernel
theorem dX12_meets_49 : decode cX12_meets 49 = .ok (.aload_n 0, 1) := by decide +kernel
theorem dX12_meets_50 : decode cX12_meets 50 = .ok (.getfield 7, 3) := by decide +kernel
theorem dX12_meets_53 : decode cX12_meets 53 = .ok (.iconst 2, 1) := by decide +kernel
theorem dX12_meets_54 : decode cX12_meets 54 = .ok (.iload_n 2, 1) := by decide +kernel
theorem dX12_meets_55 : decode cX12_meets 55 = .ok (.iadd, 1) := by decide +kernel
theorem dX12_meets_56 : decode cX12_meets 56 = .ok (.iaload, 1) := by decide +kernel
theorem dX12_meets_57 : decode cX12_meets 57 = .ok (.iload 4, 2) := by decide +kernel
theorem dX12_meets_59 : decode cX12_meets 59 = .ok (.iconst 4, 1) := by decide +kernel
theorem dX12_meets_60 : decode cX12_meets 60 = .ok (.irem, 1) := by decide +kernel
theorem dX12_meets_61 : decode cX12_meets 61 = .ok (.invokevirtual 83, 3) := by decide +kernel
theorem dX12_meets_64 : decode cX12_meets 64 = .ok (.if_icmp .eq 5, 3) := by decide +kernel
theorem dX12_meets_67 : decode cX12_meets 67 = .ok (.iconst 0, 1) := by decide +kernel
theorem dX12_meets_68 : decode cX12_meets 68 = .ok (.ireturn, 1) := by decide +kernel
theorem dX12_meets_69 : decode cX12_meets 69 = .ok (.iinc 3 1, 3) := by decide +kernel
theorem dX12_meets_72 : decode cX12_meets 72 = .ok (.goto (-60), 3) := by decide +kernel
theorem dX12_meets_75 : decode cX12_meets 75 = .ok (.iinc 2 1, 3) := by decide +kernel
theorem dX12_meets_78 : decode cX12_meets 78 = .ok (.goto (-76), 3) := by decide +kernel
theorem dX12_meets_81 : decode cX12_meets 81 = .ok (.iconst 1, 1) := by decide +kernel
theorem dX12_meets_82 : decode cX12_meets 82 = .ok (.ireturn, 1) := by decide +kernel
theorem dX12_crosses_0 : decode cX12_crosses 0 = .ok (.iconst 0, 1) := by decide +kernel
theorem dX12_crosses_1 : decode cX12_crosses 1 = .ok (.istore_n 2, 1) := by decide +kernel
theorem dX12_crosses_2 : decode cX12_crosses 2 = .ok (.iconst 0, 1) := by decide +kernel
theorem dX12_crosses_3 : decode cX12_crosses 3 = .ok (.istore_n 3, 1) := by decide +kernel
theorem dX12_crosses_4 : decode cX12_crosses 4 = .ok (.iload_n 3, 1) := by decide +kernel
theorem dX12_crosses_5 : decode cX12_crosses 5 = .ok (.aload_n 0, 1) := by decide +kernel
theorem dX12_crosses_6 : decode cX12_crosses 6 = .ok (.getfield 7, 3) := by decide +kernel
theorem dX12_crosses_9 : decode cX12_crosses 9 = .ok (.iconst 0, 1) := by decide +kernel
theorem dX12_crosses_10 : decode cX12_crosses 10 = .ok (.iaload, 1) := by decide +kernel
theorem dX12_crosses_11 : decode cX12_crosses 11 = .ok (.if_icmp .ge 89, 3) := by decide +kernel
theorem dX12_crosses_14 : decode cX12_crosses 14 = .ok (.iload_n 1, 1) := by decide +kernel
theorem dX12_crosses_15 : decode cX12_crosses 15 = .ok (.bipush 7, 2) := by decide +kernel
theorem dX12_crosses_17 : decode cX12_crosses 17 = .ok (.iload_n 3, 1) := by decide +kernel
theorem dX12_crosses_18 : decode cX12_crosses 18 = .ok (.imul, 1) := by decide +kernel
theorem dX12_crosses_19 : decode cX12_crosses 19 = .ok (.iadd, 1) := by decide +kernel
theorem dX12_crosses_20 : decode cX12_crosses 20 = .ok (.istore 4, 2) := by decide +kernel
theorem dX12_crosses_22 : decode cX12_crosses 22 = .ok (.aload_n 0, 1) := by decide +kernel
theorem dX12_crosses_23 : decode cX12_crosses 23 = .ok (.getfield 7, 3) := by decide +kernel
theorem dX12_crosses_26 : decode cX12_crosses 26 = .ok (.iload 4, 2) := by decide +kernel
theorem dX12_crosses_28 : decode cX12_crosses 28 = .ok (.iconst 4, 1) := by decide +kernel
theorem dX12_crosses_29 : decode cX12_crosses 29 = .ok (.iadd, 1) := by decide +kernel
theorem dX12_crosses_30 : decode cX12_crosses 30 = .ok (.iaload, 1) := by decide +kernel
theorem dX12_crosses_31 : decode cX12_crosses 31 = .ok (.ifCond .le 7, 3) := by decide +kernel
theorem dX12_crosses_34 : decode cX12_crosses 34 = .ok (.iconst 1, 1) := by decide +kernel
theorem dX12_crosses_35 : decode cX12_crosses 35 = .ok (.goto 4, 3) := by decide +kernel
theorem dX12_crosses_38 : decode cX12_crosses 38 = .ok (.iconst 0, 1) := by decide +kernel
theorem dX12_crosses_39 : decode cX12_crosses 39 = .ok (.aload_n 0, 1) := by decide +kernel
theorem dX12_crosses_40 : decode cX12_crosses 40 = .ok (.getfield 7, 3) := by decide +kernel
theorem dX12_crosses_43 : decode cX12_crosses 43 = .ok (.iload 4, 2) := by decide +kernel
theorem dX12_crosses_45 : decode cX12_crosses 45 = .ok (.iconst 5, 1) := by decide +kernel
theorem dX12_crosses_46 : decode cX12_crosses 46 = .ok (.iadd, 1) := by decide +kernel
theorem dX12_crosses_47 : decode cX12_crosses 47 = .ok (.iaload, 1) := by decide +kernel
theorem dX12_crosses_48 : decode cX12_crosses 48 = .ok (.ifCond .le 7, 3) := by decide +kernel
theorem dX12_crosses_51 : decode cX12_crosses 51 = .ok (.iconst 1, 1) := by decide +kernel
theorem dX12_crosses_52 : decode cX12_crosses 52 = .ok (.goto 4, 3) := by decide +kernel
theorem dX12_crosses_55 : decode cX12_crosses 55 = .ok (.iconst 0, 1) := by decide +kernel
theorem dX12_crosses_56 : decode cX12_crosses 56 = .ok (.iadd, 1) := by decide +kernel
theorem dX12_crosses_57 : decode cX12_crosses 57 = .ok (.aload_n 0, 1) := by decide +kernel
theorem dX12_crosses_58 : decode cX12_crosses 58 = .ok (.getfield 7, 3) := by decide +kernel
theorem dX12_crosses_61 : decode cX12_crosses 61 = .ok (.iload 4, 2) := by decide +kernel
theorem dX12_crosses_63 : decode cX12_crosses 63 = .ok (.bipush 6, 2) := by decide +kernel
theorem dX12_crosses_65 : decode cX12_crosses 65 = .ok (.iadd, 1) := by decide +kernel
theorem dX12_crosses_66 : decode cX12_crosses 66 = .ok (.iaload, 1) := by decide +kernel
theorem dX12_crosses_67 : decode cX12_crosses 67 = .ok (.ifCond .le 7, 3) := by decide +kernel
theorem dX12_crosses_70 : decode cX12_crosses 70 = .ok (.iconst 1, 1) := by decide +kernel
theorem dX12_crosses_71 : decode cX12_crosses 71 = .ok (.goto 4, 3) := by decide +kernel
theorem dX12_crosses_74 : decode cX12_crosses 74 = .ok (.iconst 0, 1) := by decide +kernel
theorem dX12_crosses_75 : decode cX12_crosses 75 = .ok (.iadd, 1) := by decide +kernel
theorem dX12_crosses_76 : decode cX12_crosses 76 = .ok (.istore 5, 2) := by decide +kernel
theorem dX12_crosses_78 : decode cX12_crosses 78 = .ok (.iload_n 2, 1) := by decide +kernel
theorem dX12_crosses_79 : decode cX12_crosses 79 = .ok (.ifCond .ne 9, 3) := by decide +kernel
theorem dX12_crosses_82 : decode cX12_crosses 82 = .ok (.iload 5, 2) := by decide +kernel
theorem dX12_crosses_84 : decode cX12_crosses 84 = .ok (.iconst 1, 1) := by decide +kernel
theorem dX12_crosses_85 : decode cX12_crosses 85 = .ok (.if_icmp .le 7, 3) := by decide +kernel
theorem dX12_crosses_88 : decode cX12_crosses 88 = .ok (.iconst 1, 1) := by decide +kernel
theorem dX12_crosses_89 : decode cX12_crosses 89 = .ok (.goto 4, 3) := by decide +kernel
theorem dX12_crosses_92 : decode cX12_crosses 92 = .ok (.iconst 0, 1) := by decide +kernel
theorem dX12_crosses_93 : decode cX12_crosses 93 = .ok (.istore_n 2, 1) := by decide +kernel
theorem dX12_crosses_94 : decode cX12_crosses 94 = .ok (.iinc 3 1, 3) := by decide +kernel
theorem dX12_crosses_97 : decode cX12_crosses 97 = .ok (.goto (-93), 3) := by decide +kernel
theorem dX12_crosses_100 : decode cX12_crosses 100 = .ok (.iload_n 2, 1) := by decide +kernel
theorem dX12_crosses_101 : decode cX12_crosses 101 = .ok (.ireturn, 1) := by decide +kernel
theorem dX12_isWell_0 : decode cX12_isWell 0 = .ok (.aload_n 0, 1) := by decide +kernel
theorem dX12_isWell_1 : decode cX12_isWell 1 = .ok (.iload_n 1, 1) := by decide +kernel
theorem dX12_isWell_2 : decode cX12_isWell 2 = .ok (.invokevirtual 87, 3) := by decide +kernel
theorem dX12_isWell_5 : decode cX12_isWell 5 = .ok (.ifCond .eq 15, 3) := by decide +kernel
theorem dX12_isWell_8 : decode cX12_isWell 8 = .ok (.aload_n 0, 1) := by decide +kernel
theorem dX12_isWell_9 : decode cX12_isWell 9 = .ok (.iload_n 1, 1) := by decide +kernel
theorem dX12_isWell_10 : decode cX12_isWell 10 = .ok (.invokevirtual 90, 3) := by decide +kernel
theorem dX12_isWell_13 : decode cX12_isWell 13 = .ok (.ifCond .ne 7, 3) := by decide +kernel
theorem dX12_isWell_16 : decode cX12_isWell 16 = .ok (.iconst 1, 1) := by decide +kernel
theorem dX12_isWell_17 : decode cX12_isWell 17 = .ok (.goto 4, 3) := by decide +kernel
theorem dX12_isWell_20 : decode cX12_isWell 20 = .ok (.iconst 0, 1) := by decide +kernel
theorem dX12_isWell_21 : decode cX12_isWell 21 = .ok (.ireturn, 1) := by decide +kernel
theorem dX12_allPieces_0 : decode cX12_allPieces 0 = .ok (.iconst 0, 1) := by decide +kernel
theorem dX12_allPieces_1 : decode cX12_allPieces 1 = .ok (.istore_n 2, 1) := by decide +kernel
theorem dX12_allPieces_2 : decode cX12_allPieces 2 = .ok (.iconst 0, 1) := by decide +kernel
theorem dX12_allPieces_3 : decode cX12_allPieces 3 = .ok (.istore_n 3, 1) := by decide +kernel
theorem dX12_allPieces_4 : decode cX12_allPieces 4 = .ok (.iload_n 3, 1) := by decide +kernel
theorem dX12_allPieces_5 : decode cX12_allPieces 5 = .ok (.bipush 7, 2) := by decide +kernel
theorem dX12_allPieces_7 : decode cX12_allPieces 7 = .ok (.aload_n 0, 1) := by decide +kernel
theorem dX12_allPieces_8 : decode cX12_allPieces 8 = .ok (.getfield 7, 3) := by decide +kernel
theorem dX12_allPieces_11 : decode cX12_allPieces 11 = .ok (.iconst 0, 1) := by decide +kernel
theorem dX12_allPieces_12 : decode cX12_allPieces 12 = .ok (.iaload, 1) := by decide +kernel
theorem dX12_allPieces_13 : decode cX12_allPieces 13 = .ok (.imul, 1) := by decide +kernel
theorem dX12_allPieces_14 : decode cX12_allPieces 14 = .ok (.if_icmp .ge 20, 3) := by decide +kernel
theorem dX12_allPieces_17 : decode cX12_allPieces 17 = .ok (.iload_n 2, 1) := by decide +kernel
theorem dX12_allPieces_18 : decode cX12_allPieces 18 = .ok (.aload_n 0, 1) := by decide +kernel
theorem dX12_allPieces_19 : decode cX12_allPieces 19 = .ok (.getfield 7, 3) := by decide +kernel
theorem dX12_allPieces_22 : decode cX12_allPieces 22 = .ok (.iload_n 1, 1) := by decide +kernel
theorem dX12_allPieces_23 : decode cX12_allPieces 23 = .ok (.iload_n 3, 1) := by decide +kernel
theorem dX12_allPieces_24 : decode cX12_allPieces 24 = .ok (.iadd, 1) := by decide +kernel
theorem dX12_allPieces_25 : decode cX12_allPieces 25 = .ok (.iaload, 1) := by decide +kernel
theorem dX12_allPieces_26 : decode cX12_allPieces 26 = .ok (.iadd, 1) := by decide +kernel
theorem dX12_allPieces_27 : decode cX12_allPieces 27 = .ok (.istore_n 2, 1) := by decide +kernel
theorem dX12_allPieces_28 : decode cX12_allPieces 28 = .ok (.iinc 3 1, 3) := by decide +kernel
theorem dX12_allPieces_31 : decode cX12_allPieces 31 = .ok (.goto (-27), 3) := by decide +kernel
theorem dX12_allPieces_34 : decode cX12_allPieces 34 = .ok (.iload_n 2, 1) := by decide +kernel
theorem dX12_allPieces_35 : decode cX12_allPieces 35 = .ok (.ireturn, 1) := by decide +kernel
theorem dX12_arcsOfWall_0 : decode cX12_arcsOfWall 0 = .ok (.iconst 0, 1) := by decide +kernel
theorem dX12_arcsOfWall_1 : decode cX12_arcsOfWall 1 = .ok (.istore_n 3, 1) := by decide +kernel
theorem dX12_arcsOfWall_2 : decode cX12_arcsOfWall 2 = .ok (.iconst 0, 1) := by decide +kernel
theorem dX12_arcsOfWall_3 : decode cX12_arcsOfWall 3 = .ok (.istore 4, 2) := by decide +kernel
theorem dX12_arcsOfWall_5 : decode cX12_arcsOfWall 5 = .ok (.iload 4, 2) := by decide +kernel
theorem dX12_arcsOfWall_7 : decode cX12_arcsOfWall 7 = .ok (.iconst 4, 1) := by decide +kernel
theorem dX12_arcsOfWall_8 : decode cX12_arcsOfWall 8 = .ok (.if_icmp .ge 32, 3) := by decide +kernel
theorem dX12_arcsOfWall_11 : decode cX12_arcsOfWall 11 = .ok (.iload_n 3, 1) := by decide +kernel
theorem dX12_arcsOfWall_12 : decode cX12_arcsOfWall 12 = .ok (.iload 4, 2) := by decide +kernel
theorem dX12_arcsOfWall_14 : decode cX12_arcsOfWall 14 = .ok (.iload_n 2, 1) := by decide +kernel
theorem dX12_arcsOfWall_15 : decode cX12_arcsOfWall 15 = .ok (.iconst 4, 1) := by decide +kernel
theorem dX12_arcsOfWall_16 : decode cX12_arcsOfWall 16 = .ok (.irem, 1) := by decide +kernel
theorem dX12_arcsOfWall_17 : decode cX12_arcsOfWall 17 = .ok (.if_icmp .eq 14, 3) := by decide +kernel
theorem dX12_arcsOfWall_20 : decode cX12_arcsOfWall 20 = .ok (.aload_n 0, 1) := by decide +kernel
theorem dX12_arcsOfWall_21 : decode cX12_arcsOfWall 21 = .ok (.iload_n 1, 1) := by decide +kernel
theorem dX12_arcsOfWall_22 : decode cX12_arcsOfWall 22 = .ok (.iload_n 2, 1) := by decide +kernel
theorem dX12_arcsOfWall_23 : decode cX12_arcsOfWall 23 = .ok (.iload 4, 2) := by decide +kernel
theorem dX12_arcsOfWall_25 : decode cX12_arcsOfWall 25 = .ok (.invokevirtual 83, 3) := by decide +kernel
theorem dX12_arcsOfWall_28 : decode cX12_arcsOfWall 28 = .ok (.goto 4, 3) := by decide +kernel
theorem dX12_arcsOfWall_31 : decode cX12_arcsOfWall 31 = .ok (.iconst 0, 1) := by decide +kernel
theorem dX12_arcsOfWall_32 : decode cX12_arcsOfWall 32 = .ok (.iadd, 1) := by decide +kernel
theorem dX12_arcsOfWall_33 : decode cX12_arcsOfWall 33 = .ok (.istore_n 3, 1) := by decide +kernel
theorem dX12_arcsOfWall_34 : decode cX12_arcsOfWall 34 = .ok (.iinc 4 1, 3) := by decide +kernel
theorem dX12_arcsOfWall_37 : decode cX12_arcsOfWall 37 = .ok (.goto (-32), 3) := by decide +kernel
theorem dX12_arcsOfWall_40 : decode cX12_arcsOfWall 40 = .ok (.iload_n 3, 1) := by decide +kernel
theorem dX12_arcsOfWall_41 : decode cX12_arcsOfWall 41 = .ok (.ireturn, 1) := by decide +kernel
theorem dX12_border_0 : decode cX12_border 0 = .ok (.iconst 0, 1) := by decide +kernel
theorem dX12_border_1 : decode cX12_border 1 = .ok (.istore_n 2, 1) := by decide +kernel
theorem dX12_border_2 : decode cX12_border 2 = .ok (.iconst 0, 1) := by decide +kernel
theorem dX12_border_3 : decode cX12_border 3 = .ok (.istore_n 3, 1) := by decide +kernel
theorem dX12_border_4 : decode cX12_border 4 = .ok (.iload_n 3, 1) := by decide +kernel
theorem dX12_border_5 : decode cX12_border 5 = .ok (.aload_n 0, 1) := by decide +kernel
theorem dX12_border_6 : decode cX12_border 6 = .ok (.invokevirtual 48, 3) := by decide +kernel
theorem dX12_border_9 : decode cX12_border 9 = .ok (.if_icmp .ge 30, 3) := by decide +kernel
theorem dX12_border_12 : decode cX12_border 12 = .ok (.iload_n 2, 1) := by decide +kernel
theorem dX12_border_13 : decode cX12_border 13 = .ok (.aload_n 0, 1) := by decide +kernel
theorem dX12_border_14 : decode cX12_border 14 = .ok (.iload_n 3, 1) := by decide +kernel
theorem dX12_border_15 : decode cX12_border 15 = .ok (.invokevirtual 52, 3) := by decide +kernel
theorem dX12_border_18 : decode cX12_border 18 = .ok (.ifCond .eq 12, 3) := by decide +kernel
theorem dX12_border_21 : decode cX12_border 21 = .ok (.aload_n 0, 1) := by decide +kernel
theorem dX12_border_22 : decode cX12_border 22 = .ok (.iload_n 1, 1) := by decide +kernel
theorem dX12_border_23 : decode cX12_border 23 = .ok (.iload_n 3, 1) := by decide +kernel
theorem dX12_border_24 : decode cX12_border 24 = .ok (.invokevirtual 93, 3) := by decide +kernel
theorem dX12_border_27 : decode cX12_border 27 = .ok (.goto 4, 3) := by decide +kernel
theorem dX12_border_30 : decode cX12_border 30 = .ok (.iconst 0, 1) := by decide +kernel
theorem dX12_border_31 : decode cX12_border 31 = .ok (.iadd, 1) := by decide +kernel
theorem dX12_border_32 : decode cX12_border 32 = .ok (.istore_n 2, 1) := by decide +kernel
theorem dX12_border_33 : decode cX12_border 33 = .ok (.iinc 3 1, 3) := by decide +kernel
theorem dX12_border_36 : decode cX12_border 36 = .ok (.goto (-32), 3) := by decide +kernel
theorem dX12_border_39 : decode cX12_border 39 = .ok (.iload_n 2, 1) := by decide +kernel
theorem dX12_border_40 : decode cX12_border 40 = .ok (.ireturn, 1) := by decide +kernel
theorem dX12_euler_0 : decode cX12_euler 0 = .ok (.aload_n 0, 1) := by decide +kernel
theorem dX12_euler_1 : decode cX12_euler 1 = .ok (.invokevirtual 96, 3) := by decide +kernel
theorem dX12_euler_4 : decode cX12_euler 4 = .ok (.aload_n 0, 1) := by decide +kernel
theorem dX12_euler_5 : decode cX12_euler 5 = .ok (.iload_n 1, 1) := by decide +kernel
theorem dX12_euler_6 : decode cX12_euler 6 = .ok (.invokevirtual 99, 3) := by decide +kernel
theorem dX12_euler_9 : decode cX12_euler 9 = .ok (.istore_n 2, 1) := by decide +kernel
theorem dX12_euler_10 : decode cX12_euler 10 = .ok (.iconst 0, 1) := by decide +kernel
theorem dX12_euler_11 : decode cX12_euler 11 = .ok (.istore_n 3, 1) := by decide +kernel
theorem dX12_euler_12 : decode cX12_euler 12 = .ok (.iload_n 3, 1) := by decide +kernel
theorem dX12_euler_13 : decode cX12_euler 13 = .ok (.bipush 6, 2) := by decide +kernel
theorem dX12_euler_15 : decode cX12_euler 15 = .ok (.aload_n 0, 1) := by decide +kernel
theorem dX12_euler_16 : decode cX12_euler 16 = .ok (.getfield 7, 3) := by decide +kernel
theorem dX12_euler_19 : decode cX12_euler 19 = .ok (.iconst 0, 1) := by decide +kernel
theorem dX12_euler_20 : decode cX12_euler 20 = .ok (.iaload, 1) := by decide +kernel
theorem dX12_euler_21 : decode cX12_euler 21 = .ok (.imul, 1) := by decide +kernel
theorem dX12_euler_22 : decode cX12_euler 22 = .ok (.if_icmp .ge 39, 3) := by decide +kernel
theorem dX12_euler_25 : decode cX12_euler 25 = .ok (.iload_n 2, 1) := by decide +kernel
theorem dX12_euler_26 : decode cX12_euler 26 = .ok (.aload_n 0, 1) := by decide +kernel
theorem dX12_euler_27 : decode cX12_euler 27 = .ok (.getfield 25, 3) := by decide +kernel
theorem dX12_euler_30 : decode cX12_euler 30 = .ok (.iload_n 3, 1) := by decide +kernel
theorem dX12_euler_31 : decode cX12_euler 31 = .ok (.iaload, 1) := by decide +kernel
theorem dX12_euler_32 : decode cX12_euler 32 = .ok (.iload_n 3, 1) := by decide +kernel
theorem dX12_euler_33 : decode cX12_euler 33 = .ok (.if_icmp .ne 19, 3) := by decide +kernel
theorem dX12_euler_36 : decode cX12_euler 36 = .ok (.aload_n 0, 1) := by decide +kernel
theorem dX12_euler_37 : decode cX12_euler 37 = .ok (.iload_n 1, 1) := by decide +kernel
theorem dX12_euler_38 : decode cX12_euler 38 = .ok (.iload_n 3, 1) := by decide +kernel
theorem dX12_euler_39 : decode cX12_euler 39 = .ok (.bipush 6, 2) := by decide +kernel
theorem dX12_euler_41 : decode cX12_euler 41 = .ok (.idiv, 1) := by decide +kernel
theorem dX12_euler_42 : decode cX12_euler 42 = .ok (.iload_n 3, 1) := by decide +kernel
theorem dX12_euler_43 : decode cX12_euler 43 = .ok (.bipush 6, 2) := by decide +kernel
theorem dX12_euler_45 : decode cX12_euler 45 = .ok (.irem, 1) := by decide +kernel
theorem dX12_euler_46 : decode cX12_euler 46 = .ok (.invokevirtual 102, 3) := by decide +kernel
theorem dX12_euler_49 : decode cX12_euler 49 = .ok (.goto 4, 3) := by decide +kernel
theorem dX12_euler_52 : decode cX12_euler 52 = .ok (.iconst 0, 1) := by decide +kernel
theorem dX12_euler_53 : decode cX12_euler 53 = .ok (.iadd, 1) := by decide +kernel
theorem dX12_euler_54 : decode cX12_euler 54 = .ok (.istore_n 2, 1) := by decide +kernel
theorem dX12_euler_55 : decode cX12_euler 55 = .ok (.iinc 3 1, 3) := by decide +kernel
theorem dX12_euler_58 : decode cX12_euler 58 = .ok (.goto (-46), 3) := by decide +kernel
theorem dX12_euler_61 : decode cX12_euler 61 = .ok (.iconst 0, 1) := by decide +kernel
theorem dX12_euler_62 : decode cX12_euler 62 = .ok (.istore_n 3, 1) := by decide +kernel
theorem dX12_euler_63 : decode cX12_euler 63 = .ok (.iload_n 3, 1) := by decide +kernel
theorem dX12_euler_64 : decode cX12_euler 64 = .ok (.aload_n 0, 1) := by decide +kernel
theorem dX12_euler_65 : decode cX12_euler 65 = .ok (.invokevirtual 48, 3) := by decide +kernel
theorem dX12_euler_68 : decode cX12_euler 68 = .ok (.if_icmp .ge 42, 3) := by decide +kernel
theorem dX12_euler_71 : decode cX12_euler 71 = .ok (.iload_n 2, 1) := by decide +kernel
theorem dX12_euler_72 : decode cX12_euler 72 = .ok (.aload_n 0, 1) := by decide +kernel
theorem dX12_euler_73 : decode cX12_euler 73 = .ok (.iload_n 3, 1) := by decide +kernel
theorem dX12_euler_74 : decode cX12_euler 74 = .ok (.invokevirtual 52, 3) := by decide +kernel
theorem dX12_euler_77 : decode cX12_euler 77 = .ok (.ifCond .ne 15, 3) := by decide +kernel
theorem dX12_euler_80 : decode cX12_euler 80 = .ok (.iload_n 3, 1) := by decide +kernel
theorem dX12_euler_81 : decode cX12_euler 81 = .ok (.aload_n 0, 1) := by decide +kernel
theorem dX12_euler_82 : decode cX12_euler 82 = .ok (.getfield 7, 3) := by decide +kernel
theorem dX12_euler_85 : decode cX12_euler 85 = .ok (.iconst 2, 1) := by decide +kernel
theorem dX12_euler_86 : decode cX12_euler 86 = .ok (.iload_n 3, 1) := by decide +kernel
theorem dX12_euler_87 : decode cX12_euler 87 = .ok (.iadd, 1) := by decide +kernel
theorem dX12_euler_88 : decode cX12_euler 88 = .ok (.iaload, 1) := by decide +kernel
theorem dX12_euler_89 : decode cX12_euler 89 = .ok (.if_icmp .ge 12, 3) := by decide +kernel
theorem dX12_euler_92 : decode cX12_euler 92 = .ok (.aload_n 0, 1) := by decide +kernel
theorem dX12_euler_93 : decode cX12_euler 93 = .ok (.iload_n 1, 1) := by decide +kernel
theorem dX12_euler_94 : decode cX12_euler 94 = .ok (.iload_n 3, 1) := by decide +kernel
theorem dX12_euler_95 : decode cX12_euler 95 = .ok (.invokevirtual 93, 3) := by decide +kernel
theorem dX12_euler_98 : decode cX12_euler 98 = .ok (.goto 4, 3) := by decide +kernel
theorem dX12_euler_101 : decode cX12_euler 101 = .ok (.iconst 0, 1) := by decide +kernel
theorem dX12_euler_102 : decode cX12_euler 102 = .ok (.isub, 1) := by decide +kernel
theorem dX12_euler_103 : decode cX12_euler 103 = .ok (.istore_n 2, 1) := by decide +kernel
theorem dX12_euler_104 : decode cX12_euler 104 = .ok (.iinc 3 1, 3) := by decide +kernel
theorem dX12_euler_107 : decode cX12_euler 107 = .ok (.goto (-44), 3) := by decide +kernel
theorem dX12_euler_110 : decode cX12_euler 110 = .ok (.iload_n 2, 1) := by decide +kernel
theorem dX12_euler_111 : decode cX12_euler 111 = .ok (.ireturn, 1) := by decide +kernel
theorem dX12_isWithFirst_0 : decode cX12_isWithFirst 0 = .ok (.iload_n 1, 1) := by decide +kernel
theorem dX12_isWithFirst_1 : decode cX12_isWithFirst 1 = .ok (.ifCond .eq 10, 3) := by decide +kernel
theorem dX12_isWithFirst_4 : decode cX12_isWithFirst 4 = .ok (.iload_n 1, 1) := by decide +kernel
theorem dX12_isWithFirst_5 : decode cX12_isWithFirst 5 = .ok (.iload_n 0, 1) := by decide +kernel
theorem dX12_isWithFirst_6 : decode cX12_isWithFirst 6 = .ok (.iconst 3, 1) := by decide +kernel
theorem dX12_isWithFirst_7 : decode cX12_isWithFirst 7 = .ok (.isub, 1) := by decide +kernel
theorem dX12_isWithFirst_8 : decode cX12_isWithFirst 8 = .ok (.if_icmp .ne 7, 3) := by decide +kernel
theorem dX12_isWithFirst_11 : decode cX12_isWithFirst 11 = .ok (.iconst 1, 1) := by decide +kernel
theorem dX12_isWithFirst_12 : decode cX12_isWithFirst 12 = .ok (.goto 4, 3) := by decide +kernel
theorem dX12_isWithFirst_15 : decode cX12_isWithFirst 15 = .ok (.iconst 0, 1) := by decide +kernel
theorem dX12_isWithFirst_16 : decode cX12_isWithFirst 16 = .ok (.ireturn, 1) := by decide +kernel
theorem dX12_pieceAt_0 : decode cX12_pieceAt 0 = .ok (.iload_n 2, 1) := by decide +kernel
theorem dX12_pieceAt_1 : decode cX12_pieceAt 1 = .ok (.iconst 4, 1) := by decide +kernel
theorem dX12_pieceAt_2 : decode cX12_pieceAt 2 = .ok (.idiv, 1) := by decide +kernel
theorem dX12_pieceAt_3 : decode cX12_pieceAt 3 = .ok (.istore 5, 2) := by decide +kernel
theorem dX12_pieceAt_5 : decode cX12_pieceAt 5 = .ok (.iload_n 3, 1) := by decide +kernel
theorem dX12_pieceAt_6 : decode cX12_pieceAt 6 = .ok (.iload_n 2, 1) := by decide +kernel
theorem dX12_pieceAt_7 : decode cX12_pieceAt 7 = .ok (.iconst 4, 1) := by decide +kernel
theorem dX12_pieceAt_8 : decode cX12_pieceAt 8 = .ok (.irem, 1) := by decide +kernel
theorem dX12_pieceAt_9 : decode cX12_pieceAt 9 = .ok (.invokestatic 77, 3) := by decide +kernel
theorem dX12_pieceAt_12 : decode cX12_pieceAt 12 = .ok (.istore 6, 2) := by decide +kernel
theorem dX12_pieceAt_14 : decode cX12_pieceAt 14 = .ok (.aload_n 0, 1) := by decide +kernel
theorem dX12_pieceAt_15 : decode cX12_pieceAt 15 = .ok (.getfield 7, 3) := by decide +kernel
theorem dX12_pieceAt_18 : decode cX12_pieceAt 18 = .ok (.iload_n 1, 1) := by decide +kernel
theorem dX12_pieceAt_19 : decode cX12_pieceAt 19 = .ok (.bipush 7, 2) := by decide +kernel
theorem dX12_pieceAt_21 : decode cX12_pieceAt 21 = .ok (.iload 5, 2) := by decide +kernel
theorem dX12_pieceAt_23 : decode cX12_pieceAt 23 = .ok (.imul, 1) := by decide +kernel
theorem dX12_pieceAt_24 : decode cX12_pieceAt 24 = .ok (.iadd, 1) := by decide +kernel
theorem dX12_pieceAt_25 : decode cX12_pieceAt 25 = .ok (.iload_n 3, 1) := by decide +kernel
theorem dX12_pieceAt_26 : decode cX12_pieceAt 26 = .ok (.iadd, 1) := by decide +kernel
theorem dX12_pieceAt_27 : decode cX12_pieceAt 27 = .ok (.iaload, 1) := by decide +kernel
theorem dX12_pieceAt_28 : decode cX12_pieceAt 28 = .ok (.istore 7, 2) := by decide +kernel
theorem dX12_pieceAt_30 : decode cX12_pieceAt 30 = .ok (.aload_n 0, 1) := by decide +kernel
theorem dX12_pieceAt_31 : decode cX12_pieceAt 31 = .ok (.getfield 7, 3) := by decide +kernel
theorem dX12_pieceAt_34 : decode cX12_pieceAt 34 = .ok (.iload_n 1, 1) := by decide +kernel
theorem dX12_pieceAt_35 : decode cX12_pieceAt 35 = .ok (.bipush 7, 2) := by decide +kernel
theorem dX12_pieceAt_37 : decode cX12_pieceAt 37 = .ok (.iload 5, 2) := by decide +kernel
theorem dX12_pieceAt_39 : decode cX12_pieceAt 39 = .ok (.imul, 1) := by decide +kernel
theorem dX12_pieceAt_40 : decode cX12_pieceAt 40 = .ok (.iadd, 1) := by decide +kernel
theorem dX12_pieceAt_41 : decode cX12_pieceAt 41 = .ok (.iload 6, 2) := by decide +kernel
theorem dX12_pieceAt_43 : decode cX12_pieceAt 43 = .ok (.iadd, 1) := by decide +kernel
theorem dX12_pieceAt_44 : decode cX12_pieceAt 44 = .ok (.iaload, 1) := by decide +kernel
theorem dX12_pieceAt_45 : decode cX12_pieceAt 45 = .ok (.istore 8, 2) := by decide +kernel
theorem dX12_pieceAt_47 : decode cX12_pieceAt 47 = .ok (.iload 4, 2) := by decide +kernel
theorem dX12_pieceAt_49 : decode cX12_pieceAt 49 = .ok (.iload 7, 2) := by decide +kernel
theorem dX12_pieceAt_51 : decode cX12_pieceAt 51 = .ok (.if_icmp .ge 17, 3) := by decide +kernel
theorem dX12_pieceAt_54 : decode cX12_pieceAt 54 = .ok (.bipush 20, 2) := by decide +kernel
theorem dX12_pieceAt_56 : decode cX12_pieceAt 56 = .ok (.bipush 7, 2) := by decide +kernel
theorem dX12_pieceAt_58 : decode cX12_pieceAt 58 = .ok (.iload 5, 2) := by decide +kernel
theorem dX12_pieceAt_60 : decode cX12_pieceAt 60 = .ok (.imul, 1) := by decide +kernel
theorem dX12_pieceAt_61 : decode cX12_pieceAt 61 = .ok (.iload_n 3, 1) := by decide +kernel
theorem dX12_pieceAt_62 : decode cX12_pieceAt 62 = .ok (.iadd, 1) := by decide +kernel
theorem dX12_pieceAt_63 : decode cX12_pieceAt 63 = .ok (.imul, 1) := by decide +kernel
theorem dX12_pieceAt_64 : decode cX12_pieceAt 64 = .ok (.iload 4, 2) := by decide +kernel
theorem dX12_pieceAt_66 : decode cX12_pieceAt 66 = .ok (.iadd, 1) := by decide +kernel
theorem dX12_pieceAt_67 : decode cX12_pieceAt 67 = .ok (.ireturn, 1) := by decide +kernel
theorem dX12_pieceAt_68 : decode cX12_pieceAt 68 = .ok (.iload 4, 2) := by decide +kernel
theorem dX12_pieceAt_70 : decode cX12_pieceAt 70 = .ok (.iload 7, 2) := by decide +kernel
theorem dX12_pieceAt_72 : decode cX12_pieceAt 72 = .ok (.isub, 1) := by decide +kernel
theorem dX12_pieceAt_73 : decode cX12_pieceAt 73 = .ok (.istore 9, 2) := by decide +kernel
theorem dX12_pieceAt_75 : decode cX12_pieceAt 75 = .ok (.bipush 20, 2) := by decide +kernel
theorem dX12_pieceAt_77 : decode cX12_pieceAt 77 = .ok (.bipush 7, 2) := by decide +kernel
theorem dX12_pieceAt_79 : decode cX12_pieceAt 79 = .ok (.iload 5, 2) := by decide +kernel
theorem dX12_pieceAt_81 : decode cX12_pieceAt 81 = .ok (.imul, 1) := by decide +kernel
theorem dX12_pieceAt_82 : decode cX12_pieceAt 82 = .ok (.iload 6, 2) := by decide +kernel
theorem dX12_pieceAt_84 : decode cX12_pieceAt 84 = .ok (.iadd, 1) := by decide +kernel
theorem dX12_pieceAt_85 : decode cX12_pieceAt 85 = .ok (.imul, 1) := by decide +kernel
theorem dX12_pieceAt_86 : decode cX12_pieceAt 86 = .ok (.iload 6, 2) := by decide +kernel
theorem dX12_pieceAt_88 : decode cX12_pieceAt 88 = .ok (.iload_n 3, 1) := by decide +kernel
theorem dX12_pieceAt_89 : decode cX12_pieceAt 89 = .ok (.invokestatic 105, 3) := by decide +kernel
theorem dX12_pieceAt_92 : decode cX12_pieceAt 92 = .ok (.ifCond .eq 8, 3) := by decide +kernel
theorem dX12_pieceAt_95 : decode cX12_pieceAt 95 = .ok (.iload 9, 2) := by decide +kernel
theorem dX12_pieceAt_97 : decode cX12_pieceAt 97 = .ok (.goto 10, 3) := by decide +kernel
theorem dX12_pieceAt_100 : decode cX12_pieceAt 100 = .ok (.iload 8, 2) := by decide +kernel
theorem dX12_pieceAt_102 : decode cX12_pieceAt 102 = .ok (.iconst 1, 1) := by decide +kernel
theorem dX12_pieceAt_103 : decode cX12_pieceAt 103 = .ok (.isub, 1) := by decide +kernel
theorem dX12_pieceAt_104 : decode cX12_pieceAt 104 = .ok (.iload 9, 2) := by decide +kernel
theorem dX12_pieceAt_106 : decode cX12_pieceAt 106 = .ok (.isub, 1) := by decide +kernel
theorem dX12_pieceAt_107 : decode cX12_pieceAt 107 = .ok (.iadd, 1) := by decide +kernel
theorem dX12_pieceAt_108 : decode cX12_pieceAt 108 = .ok (.ireturn, 1) := by decide +kernel
theorem dX12_sideTo_0 : decode cX12_sideTo 0 = .ok (.iload_n 0, 1) := by decide +kernel
theorem dX12_sideTo_1 : decode cX12_sideTo 1 = .ok (.bipush 20, 2) := by decide +kernel
theorem dX12_sideTo_3 : decode cX12_sideTo 3 = .ok (.idiv, 1) := by decide +kernel
theorem dX12_sideTo_4 : decode cX12_sideTo 4 = .ok (.bipush 7, 2) := by decide +kernel
theorem dX12_sideTo_6 : decode cX12_sideTo 6 = .ok (.irem, 1) := by decide +kernel
theorem dX12_sideTo_7 : decode cX12_sideTo 7 = .ok (.istore_n 2, 1) := by decide +kernel
theorem dX12_sideTo_8 : decode cX12_sideTo 8 = .ok (.iconst 2, 1) := by decide +kernel
theorem dX12_sideTo_9 : decode cX12_sideTo 9 = .ok (.iload_n 0, 1) := by decide +kernel
theorem dX12_sideTo_10 : decode cX12_sideTo 10 = .ok (.imul, 1) := by decide +kernel
theorem dX12_sideTo_11 : decode cX12_sideTo 11 = .ok (.iload_n 2, 1) := by decide +kernel
theorem dX12_sideTo_12 : decode cX12_sideTo 12 = .ok (.iconst 4, 1) := by decide +kernel
theorem dX12_sideTo_13 : decode cX12_sideTo 13 = .ok (.if_icmp .lt 11, 3) := by decide +kernel
theorem dX12_sideTo_16 : decode cX12_sideTo 16 = .ok (.iload_n 2, 1) := by decide +kernel
theorem dX12_sideTo_17 : decode cX12_sideTo 17 = .ok (.iload_n 1, 1) := by decide +kernel
theorem dX12_sideTo_18 : decode cX12_sideTo 18 = .ok (.invokestatic 105, 3) := by decide +kernel
theorem dX12_sideTo_21 : decode cX12_sideTo 21 = .ok (.ifCond .eq 7, 3) := by decide +kernel
theorem dX12_sideTo_24 : decode cX12_sideTo 24 = .ok (.iconst 0, 1) := by decide +kernel
theorem dX12_sideTo_25 : decode cX12_sideTo 25 = .ok (.goto 4, 3) := by decide +kernel
theorem dX12_sideTo_28 : decode cX12_sideTo 28 = .ok (.iconst 1, 1) := by decide +kernel
theorem dX12_sideTo_29 : decode cX12_sideTo 29 = .ok (.iadd, 1) := by decide +kernel
theorem dX12_sideTo_30 : decode cX12_sideTo 30 = .ok (.ireturn, 1) := by decide +kernel
theorem dX12_joinArcs_0 : decode cX12_joinArcs 0 = .ok (.aload_n 0, 1) := by decide +kernel
theorem dX12_joinArcs_1 : decode cX12_joinArcs 1 = .ok (.getfield 7, 3) := by decide +kernel
theorem dX12_joinArcs_4 : decode cX12_joinArcs 4 = .ok (.iconst 2, 1) := by decide +kernel
theorem dX12_joinArcs_5 : decode cX12_joinArcs 5 = .ok (.iload_n 2, 1) := by decide +kernel
theorem dX12_joinArcs_6 : decode cX12_joinArcs 6 = .ok (.iadd, 1) := by decide +kernel
theorem dX12_joinArcs_7 : decode cX12_joinArcs 7 = .ok (.iaload, 1) := by decide +kernel
theorem dX12_joinArcs_8 : decode cX12_joinArcs 8 = .ok (.istore 4, 2) := by decide +kernel
theorem dX12_joinArcs_10 : decode cX12_joinArcs 10 = .ok (.aload_n 0, 1) := by decide +kernel
theorem dX12_joinArcs_11 : decode cX12_joinArcs 11 = .ok (.iload_n 2, 1) := by decide +kernel
theorem dX12_joinArcs_12 : decode cX12_joinArcs 12 = .ok (.iload_n 3, 1) := by decide +kernel
theorem dX12_joinArcs_13 : decode cX12_joinArcs 13 = .ok (.invokevirtual 60, 3) := by decide +kernel
theorem dX12_joinArcs_16 : decode cX12_joinArcs 16 = .ok (.iconst 4, 1) := by decide +kernel
theorem dX12_joinArcs_17 : decode cX12_joinArcs 17 = .ok (.irem, 1) := by decide +kernel
theorem dX12_joinArcs_18 : decode cX12_joinArcs 18 = .ok (.istore 5, 2) := by decide +kernel
theorem dX12_joinArcs_20 : decode cX12_joinArcs 20 = .ok (.aload_n 0, 1) := by decide +kernel
theorem dX12_joinArcs_21 : decode cX12_joinArcs 21 = .ok (.iload_n 1, 1) := by decide +kernel
theorem dX12_joinArcs_22 : decode cX12_joinArcs 22 = .ok (.iload_n 2, 1) := by decide +kernel
theorem dX12_joinArcs_23 : decode cX12_joinArcs 23 = .ok (.iload_n 3, 1) := by decide +kernel
theorem dX12_joinArcs_24 : decode cX12_joinArcs 24 = .ok (.invokevirtual 83, 3) := by decide +kernel
theorem dX12_joinArcs_27 : decode cX12_joinArcs 27 = .ok (.istore 6, 2) := by decide +kernel
theorem dX12_joinArcs_29 : decode cX12_joinArcs 29 = .ok (.iconst 0, 1) := by decide +kernel
theorem dX12_joinArcs_30 : decode cX12_joinArcs 30 = .ok (.istore 7, 2) := by decide +kernel
theorem dX12_joinArcs_32 : decode cX12_joinArcs 32 = .ok (.iload 7, 2) := by decide +kernel
theorem dX12_joinArcs_34 : decode cX12_joinArcs 34 = .ok (.iload 6, 2) := by decide +kernel
theorem dX12_joinArcs_36 : decode cX12_joinArcs 36 = .ok (.if_icmp .ge 96, 3) := by decide +kernel
theorem dX12_joinArcs_39 : decode cX12_joinArcs 39 = .ok (.aload_n 0, 1) := by decide +kernel
theorem dX12_joinArcs_40 : decode cX12_joinArcs 40 = .ok (.iload_n 1, 1) := by decide +kernel
theorem dX12_joinArcs_41 : decode cX12_joinArcs 41 = .ok (.iload_n 2, 1) := by decide +kernel
theorem dX12_joinArcs_42 : decode cX12_joinArcs 42 = .ok (.iload_n 3, 1) := by decide +kernel
theorem dX12_joinArcs_43 : decode cX12_joinArcs 43 = .ok (.iload 7, 2) := by decide +kernel
theorem dX12_joinArcs_45 : decode cX12_joinArcs 45 = .ok (.invokevirtual 109, 3) := by decide +kernel
theorem dX12_joinArcs_48 : decode cX12_joinArcs 48 = .ok (.istore 8, 2) := by decide +kernel
theorem dX12_joinArcs_50 : decode cX12_joinArcs 50 = .ok (.aload_n 0, 1) := by decide +kernel
theorem dX12_joinArcs_51 : decode cX12_joinArcs 51 = .ok (.iload_n 1, 1) := by decide +kernel
theorem dX12_joinArcs_52 : decode cX12_joinArcs 52 = .ok (.iload 4, 2) := by decide +kernel
theorem dX12_joinArcs_54 : decode cX12_joinArcs 54 = .ok (.iload 5, 2) := by decide +kernel
theorem dX12_joinArcs_56 : decode cX12_joinArcs 56 = .ok (.iload 7, 2) := by decide +kernel
theorem dX12_joinArcs_58 : decode cX12_joinArcs 58 = .ok (.invokevirtual 109, 3) := by decide +kernel
theorem dX12_joinArcs_61 : decode cX12_joinArcs 61 = .ok (.istore 9, 2) := by decide +kernel
theorem dX12_joinArcs_63 : decode cX12_joinArcs 63 = .ok (.iload 8, 2) := by decide +kernel
theorem dX12_joinArcs_65 : decode cX12_joinArcs 65 = .ok (.iload_n 3, 1) := by decide +kernel
theorem dX12_joinArcs_66 : decode cX12_joinArcs 66 = .ok (.invokestatic 113, 3) := by decide +kernel
theorem dX12_joinArcs_69 : decode cX12_joinArcs 69 = .ok (.istore 10, 2) := by decide +kernel
theorem dX12_joinArcs_71 : decode cX12_joinArcs 71 = .ok (.iload 9, 2) := by decide +kernel
theorem dX12_joinArcs_73 : decode cX12_joinArcs 73 = .ok (.iload 5, 2) := by decide +kernel
theorem dX12_joinArcs_75 : decode cX12_joinArcs 75 = .ok (.invokestatic 113, 3) := by decide +kernel
theorem dX12_joinArcs_78 : decode cX12_joinArcs 78 = .ok (.istore 11, 2) := by decide +kernel
theorem dX12_joinArcs_80 : decode cX12_joinArcs 80 = .ok (.aload_n 0, 1) := by decide +kernel
theorem dX12_joinArcs_81 : decode cX12_joinArcs 81 = .ok (.getfield 31, 3) := by decide +kernel
theorem dX12_joinArcs_84 : decode cX12_joinArcs 84 = .ok (.sipush 420, 3) := by decide +kernel
theorem dX12_joinArcs_87 : decode cX12_joinArcs 87 = .ok (.iload 8, 2) := by decide +kernel
theorem dX12_joinArcs_89 : decode cX12_joinArcs 89 = .ok (.iload 9, 2) := by decide +kernel
theorem dX12_joinArcs_91 : decode cX12_joinArcs 91 = .ok (.invokestatic 63, 3) := by decide +kernel
theorem dX12_joinArcs_94 : decode cX12_joinArcs 94 = .ok (.aload_n 0, 1) := by decide +kernel
theorem dX12_joinArcs_95 : decode cX12_joinArcs 95 = .ok (.getfield 34, 3) := by decide +kernel
theorem dX12_joinArcs_98 : decode cX12_joinArcs 98 = .ok (.sipush 840, 3) := by decide +kernel
theorem dX12_joinArcs_101 : decode cX12_joinArcs 101 = .ok (.iload 10, 2) := by decide +kernel
theorem dX12_joinArcs_103 : decode cX12_joinArcs 103 = .ok (.iload 11, 2) := by decide +kernel
theorem dX12_joinArcs_105 : decode cX12_joinArcs 105 = .ok (.invokestatic 63, 3) := by decide +kernel
theorem dX12_joinArcs_108 : decode cX12_joinArcs 108 = .ok (.aload_n 0, 1) := by decide +kernel
theorem dX12_joinArcs_109 : decode cX12_joinArcs 109 = .ok (.getfield 34, 3) := by decide +kernel
theorem dX12_joinArcs_112 : decode cX12_joinArcs 112 = .ok (.sipush 840, 3) := by decide +kernel
theorem dX12_joinArcs_115 : decode cX12_joinArcs 115 = .ok (.iload 10, 2) := by decide +kernel
theorem dX12_joinArcs_117 : decode cX12_joinArcs 117 = .ok (.iconst 1, 1) := by decide +kernel
theorem dX12_joinArcs_118 : decode cX12_joinArcs 118 = .ok (.ixor, 1) := by decide +kernel
theorem dX12_joinArcs_119 : decode cX12_joinArcs 119 = .ok (.iload 11, 2) := by decide +kernel
theorem dX12_joinArcs_121 : decode cX12_joinArcs 121 = .ok (.iconst 1, 1) := by decide +kernel
theorem dX12_joinArcs_122 : decode cX12_joinArcs 122 = .ok (.ixor, 1) := by decide +kernel
theorem dX12_joinArcs_123 : decode cX12_joinArcs 123 = .ok (.invokestatic 63, 3) := by decide +kernel
theorem dX12_joinArcs_126 : decode cX12_joinArcs 126 = .ok (.iinc 7 1, 3) := by decide +kernel
theorem dX12_joinArcs_129 : decode cX12_joinArcs 129 = .ok (.goto (-97), 3) := by decide +kernel
theorem dX12_joinArcs_132 : decode cX12_joinArcs 132 = .ok (.return_, 1) := by decide +kernel
theorem dX12_join_0 : decode cX12_join 0 = .ok (.iconst 0, 1) := by decide +kernel
theorem dX12_join_1 : decode cX12_join 1 = .ok (.istore_n 2, 1) := by decide +kernel
theorem dX12_join_2 : decode cX12_join 2 = .ok (.iload_n 2, 1) := by decide +kernel
theorem dX12_join_3 : decode cX12_join 3 = .ok (.sipush 840, 3) := by decide +kernel
theorem dX12_join_6 : decode cX12_join 6 = .ok (.if_icmp .ge 27, 3) := by decide +kernel
theorem dX12_join_9 : decode cX12_join 9 = .ok (.aload_n 0, 1) := by decide +kernel
theorem dX12_join_10 : decode cX12_join 10 = .ok (.getfield 34, 3) := by decide +kernel
theorem dX12_join_13 : decode cX12_join 13 = .ok (.iload_n 2, 1) := by decide +kernel
theorem dX12_join_14 : decode cX12_join 14 = .ok (.iload_n 2, 1) := by decide +kernel
theorem dX12_join_15 : decode cX12_join 15 = .ok (.iastore, 1) := by decide +kernel
theorem dX12_join_16 : decode cX12_join 16 = .ok (.aload_n 0, 1) := by decide +kernel
theorem dX12_join_17 : decode cX12_join 17 = .ok (.getfield 31, 3) := by decide +kernel
theorem dX12_join_20 : decode cX12_join 20 = .ok (.iload_n 2, 1) := by decide +kernel
theorem dX12_join_21 : decode cX12_join 21 = .ok (.iconst 2, 1) := by decide +kernel
theorem dX12_join_22 : decode cX12_join 22 = .ok (.idiv, 1) := by decide +kernel
theorem dX12_join_23 : decode cX12_join 23 = .ok (.iload_n 2, 1) := by decide +kernel
theorem dX12_join_24 : decode cX12_join 24 = .ok (.iconst 2, 1) := by decide +kernel
theorem dX12_join_25 : decode cX12_join 25 = .ok (.idiv, 1) := by decide +kernel
theorem dX12_join_26 : decode cX12_join 26 = .ok (.iastore, 1) := by decide +kernel
theorem dX12_join_27 : decode cX12_join 27 = .ok (.iinc 2 1, 3) := by decide +kernel
theorem dX12_join_30 : decode cX12_join 30 = .ok (.goto (-28), 3) := by decide +kernel
theorem dX12_join_33 : decode cX12_join 33 = .ok (.iconst 0, 1) := by decide +kernel
theorem dX12_join_34 : decode cX12_join 34 = .ok (.istore_n 2, 1) := by decide +kernel
theorem dX12_join_35 : decode cX12_join 35 = .ok (.iload_n 2, 1) := by decide +kernel
theorem dX12_join_36 : decode cX12_join 36 = .ok (.aload_n 0, 1) := by decide +kernel
theorem dX12_join_37 : decode cX12_join 37 = .ok (.invokevirtual 48, 3) := by decide +kernel
theorem dX12_join_40 : decode cX12_join 40 = .ok (.if_icmp .ge 56, 3) := by decide +kernel
theorem dX12_join_43 : decode cX12_join 43 = .ok (.iconst 0, 1) := by decide +kernel
theorem dX12_join_44 : decode cX12_join 44 = .ok (.istore_n 3, 1) := by decide +kernel
theorem dX12_join_45 : decode cX12_join 45 = .ok (.iload_n 3, 1) := by decide +kernel
theorem dX12_join_46 : decode cX12_join 46 = .ok (.iconst 4, 1) := by decide +kernel
theorem dX12_join_47 : decode cX12_join 47 = .ok (.if_icmp .ge 43, 3) := by decide +kernel
theorem dX12_join_50 : decode cX12_join 50 = .ok (.aload_n 0, 1) := by decide +kernel
theorem dX12_join_51 : decode cX12_join 51 = .ok (.iload_n 2, 1) := by decide +kernel
theorem dX12_join_52 : decode cX12_join 52 = .ok (.invokevirtual 52, 3) := by decide +kernel
theorem dX12_join_55 : decode cX12_join 55 = .ok (.ifCond .ne 35, 3) := by decide +kernel
theorem dX12_join_58 : decode cX12_join 58 = .ok (.iload_n 2, 1) := by decide +kernel
theorem dX12_join_59 : decode cX12_join 59 = .ok (.aload_n 0, 1) := by decide +kernel
theorem dX12_join_60 : decode cX12_join 60 = .ok (.getfield 7, 3) := by decide +kernel
theorem dX12_join_63 : decode cX12_join 63 = .ok (.iconst 2, 1) := by decide +kernel
theorem dX12_join_64 : decode cX12_join 64 = .ok (.iload_n 2, 1) := by decide +kernel
theorem dX12_join_65 : decode cX12_join 65 = .ok (.iadd, 1) := by decide +kernel
theorem dX12_join_66 : decode cX12_join 66 = .ok (.iaload, 1) := by decide +kernel
theorem dX12_join_67 : decode cX12_join 67 = .ok (.if_icmp .ge 23, 3) := by decide +kernel
theorem dX12_join_70 : decode cX12_join 70 = .ok (.iload_n 3, 1) := by decide +kernel
theorem dX12_join_71 : decode cX12_join 71 = .ok (.iload_n 2, 1) := by decide +kernel
theorem dX12_join_72 : decode cX12_join 72 = .ok (.iconst 4, 1) := by decide +kernel
theorem dX12_join_73 : decode cX12_join 73 = .ok (.irem, 1) := by decide +kernel
theorem dX12_join_74 : decode cX12_join 74 = .ok (.if_icmp .eq 10, 3) := by decide +kernel
theorem dX12_join_77 : decode cX12_join 77 = .ok (.aload_n 0, 1) := by decide +kernel
theorem dX12_join_78 : decode cX12_join 78 = .ok (.iload_n 1, 1) := by decide +kernel
theorem dX12_join_79 : decode cX12_join 79 = .ok (.iload_n 2, 1) := by decide +kernel
theorem dX12_join_80 : decode cX12_join 80 = .ok (.iload_n 3, 1) := by decide +kernel
theorem dX12_join_81 : decode cX12_join 81 = .ok (.invokevirtual 116, 3) := by decide +kernel
theorem dX12_join_84 : decode cX12_join 84 = .ok (.iinc 3 1, 3) := by decide +kernel
theorem dX12_join_87 : decode cX12_join 87 = .ok (.goto (-42), 3) := by decide +kernel
theorem dX12_join_90 : decode cX12_join 90 = .ok (.iinc 2 1, 3) := by decide +kernel
theorem dX12_join_93 : decode cX12_join 93 = .ok (.goto (-58), 3) := by decide +kernel
theorem dX12_join_96 : decode cX12_join 96 = .ok (.return_, 1) := by decide +kernel
theorem dX12_isThere_0 : decode cX12_isThere 0 = .ok (.iload_n 2, 1) := by decide +kernel
theorem dX12_isThere_1 : decode cX12_isThere 1 = .ok (.bipush 20, 2) := by decide +kernel
theorem dX12_isThere_3 : decode cX12_isThere 3 = .ok (.irem, 1) := by decide +kernel
theorem dX12_isThere_4 : decode cX12_isThere 4 = .ok (.aload_n 0, 1) := by decide +kernel
theorem dX12_isThere_5 : decode cX12_isThere 5 = .ok (.getfield 7, 3) := by decide +kernel
theorem dX12_isThere_8 : decode cX12_isThere 8 = .ok (.iload_n 1, 1) := by decide +kernel
theorem dX12_isThere_9 : decode cX12_isThere 9 = .ok (.iload_n 2, 1) := by decide +kernel
theorem dX12_isThere_10 : decode cX12_isThere 10 = .ok (.bipush 20, 2) := by decide +kernel
theorem dX12_isThere_12 : decode cX12_isThere 12 = .ok (.idiv, 1) := by decide +kernel
theorem dX12_isThere_13 : decode cX12_isThere 13 = .ok (.iadd, 1) := by decide +kernel
theorem dX12_isThere_14 : decode cX12_isThere 14 = .ok (.iaload, 1) := by decide +kernel
theorem dX12_isThere_15 : decode cX12_isThere 15 = .ok (.if_icmp .ge 7, 3) := by decide +kernel
theorem dX12_isThere_18 : decode cX12_isThere 18 = .ok (.iconst 1, 1) := by decide +kernel
theorem dX12_isThere_19 : decode cX12_isThere 19 = .ok (.goto 4, 3) := by decide +kernel
theorem dX12_isThere_22 : decode cX12_isThere 22 = .ok (.iconst 0, 1) := by decide +kernel
theorem dX12_isThere_23 : decode cX12_isThere 23 = .ok (.ireturn, 1) := by decide +kernel
theorem dX12_isTwoSided_0 : decode cX12_isTwoSided 0 = .ok (.iconst 1, 1) := by decide +kernel
theorem dX12_isTwoSided_1 : decode cX12_isTwoSided 1 = .ok (.istore_n 3, 1) := by decide +kernel
theorem dX12_isTwoSided_2 : decode cX12_isTwoSided 2 = .ok (.iconst 0, 1) := by decide +kernel
theorem dX12_isTwoSided_3 : decode cX12_isTwoSided 3 = .ok (.istore 4, 2) := by decide +kernel
theorem dX12_isTwoSided_5 : decode cX12_isTwoSided 5 = .ok (.iload 4, 2) := by decide +kernel
theorem dX12_isTwoSided_7 : decode cX12_isTwoSided 7 = .ok (.sipush 140, 3) := by decide +kernel
theorem dX12_isTwoSided_10 : decode cX12_isTwoSided 10 = .ok (.aload_n 0, 1) := by decide +kernel
theorem dX12_isTwoSided_11 : decode cX12_isTwoSided 11 = .ok (.getfield 7, 3) := by decide +kernel
theorem dX12_isTwoSided_14 : decode cX12_isTwoSided 14 = .ok (.iconst 0, 1) := by decide +kernel
theorem dX12_isTwoSided_15 : decode cX12_isTwoSided 15 = .ok (.iaload, 1) := by decide +kernel
theorem dX12_isTwoSided_16 : decode cX12_isTwoSided 16 = .ok (.imul, 1) := by decide +kernel
theorem dX12_isTwoSided_17 : decode cX12_isTwoSided 17 = .ok (.if_icmp .ge 63, 3) := by decide +kernel
theorem dX12_isTwoSided_20 : decode cX12_isTwoSided 20 = .ok (.iload_n 3, 1) := by decide +kernel
theorem dX12_isTwoSided_21 : decode cX12_isTwoSided 21 = .ok (.ifCond .eq 51, 3) := by decide +kernel
theorem dX12_isTwoSided_24 : decode cX12_isTwoSided 24 = .ok (.aload_n 0, 1) := by decide +kernel
theorem dX12_isTwoSided_25 : decode cX12_isTwoSided 25 = .ok (.getfield 31, 3) := by decide +kernel
theorem dX12_isTwoSided_28 : decode cX12_isTwoSided 28 = .ok (.iload 4, 2) := by decide +kernel
theorem dX12_isTwoSided_30 : decode cX12_isTwoSided 30 = .ok (.iaload, 1) := by decide +kernel
theorem dX12_isTwoSided_31 : decode cX12_isTwoSided 31 = .ok (.iload_n 2, 1) := by decide +kernel
theorem dX12_isTwoSided_32 : decode cX12_isTwoSided 32 = .ok (.if_icmp .ne 36, 3) := by decide +kernel
theorem dX12_isTwoSided_35 : decode cX12_isTwoSided 35 = .ok (.aload_n 0, 1) := by decide +kernel
theorem dX12_isTwoSided_36 : decode cX12_isTwoSided 36 = .ok (.iload_n 1, 1) := by decide +kernel
theorem dX12_isTwoSided_37 : decode cX12_isTwoSided 37 = .ok (.iload 4, 2) := by decide +kernel
theorem dX12_isTwoSided_39 : decode cX12_isTwoSided 39 = .ok (.invokevirtual 120, 3) := by decide +kernel
theorem dX12_isTwoSided_42 : decode cX12_isTwoSided 42 = .ok (.ifCond .eq 26, 3) := by decide +kernel
theorem dX12_isTwoSided_45 : decode cX12_isTwoSided 45 = .ok (.aload_n 0, 1) := by decide +kernel
theorem dX12_isTwoSided_46 : decode cX12_isTwoSided 46 = .ok (.getfield 34, 3) := by decide +kernel
theorem dX12_isTwoSided_49 : decode cX12_isTwoSided 49 = .ok (.iconst 2, 1) := by decide +kernel
theorem dX12_isTwoSided_50 : decode cX12_isTwoSided 50 = .ok (.iload 4, 2) := by decide +kernel
theorem dX12_isTwoSided_52 : decode cX12_isTwoSided 52 = .ok (.imul, 1) := by decide +kernel
theorem dX12_isTwoSided_53 : decode cX12_isTwoSided 53 = .ok (.iaload, 1) := by decide +kernel
theorem dX12_isTwoSided_54 : decode cX12_isTwoSided 54 = .ok (.aload_n 0, 1) := by decide +kernel
theorem dX12_isTwoSided_55 : decode cX12_isTwoSided 55 = .ok (.getfield 34, 3) := by decide +kernel
theorem dX12_isTwoSided_58 : decode cX12_isTwoSided 58 = .ok (.iconst 2, 1) := by decide +kernel
theorem dX12_isTwoSided_59 : decode cX12_isTwoSided 59 = .ok (.iload 4, 2) := by decide +kernel
theorem dX12_isTwoSided_61 : decode cX12_isTwoSided 61 = .ok (.imul, 1) := by decide +kernel
theorem dX12_isTwoSided_62 : decode cX12_isTwoSided 62 = .ok (.iconst 1, 1) := by decide +kernel
theorem dX12_isTwoSided_63 : decode cX12_isTwoSided 63 = .ok (.iadd, 1) := by decide +kernel
theorem dX12_isTwoSided_64 : decode cX12_isTwoSided 64 = .ok (.iaload, 1) := by decide +kernel
theorem dX12_isTwoSided_65 : decode cX12_isTwoSided 65 = .ok (.if_icmp .eq 7, 3) := by decide +kernel
theorem dX12_isTwoSided_68 : decode cX12_isTwoSided 68 = .ok (.iconst 1, 1) := by decide +kernel
theorem dX12_isTwoSided_69 : decode cX12_isTwoSided 69 = .ok (.goto 4, 3) := by decide +kernel
theorem dX12_isTwoSided_72 : decode cX12_isTwoSided 72 = .ok (.iconst 0, 1) := by decide +kernel
theorem dX12_isTwoSided_73 : decode cX12_isTwoSided 73 = .ok (.istore_n 3, 1) := by decide +kernel
theorem dX12_isTwoSided_74 : decode cX12_isTwoSided 74 = .ok (.iinc 4 1, 3) := by decide +kernel
theorem dX12_isTwoSided_77 : decode cX12_isTwoSided 77 = .ok (.goto (-72), 3) := by decide +kernel
theorem dX12_isTwoSided_80 : decode cX12_isTwoSided 80 = .ok (.iload_n 3, 1) := by decide +kernel
theorem dX12_isTwoSided_81 : decode cX12_isTwoSided 81 = .ok (.ireturn, 1) := by decide +kernel
theorem dX12_parts_0 : decode cX12_parts 0 = .ok (.aload_n 0, 1) := by decide +kernel
theorem dX12_parts_1 : decode cX12_parts 1 = .ok (.iload_n 1, 1) := by decide +kernel
theorem dX12_parts_2 : decode cX12_parts 2 = .ok (.invokevirtual 123, 3) := by decide +kernel
theorem dX12_parts_5 : decode cX12_parts 5 = .ok (.iconst 0, 1) := by decide +kernel
theorem dX12_parts_6 : decode cX12_parts 6 = .ok (.istore_n 3, 1) := by decide +kernel
theorem dX12_parts_7 : decode cX12_parts 7 = .ok (.iconst 0, 1) := by decide +kernel
theorem dX12_parts_8 : decode cX12_parts 8 = .ok (.istore 4, 2) := by decide +kernel
theorem dX12_parts_10 : decode cX12_parts 10 = .ok (.iload 4, 2) := by decide +kernel
theorem dX12_parts_12 : decode cX12_parts 12 = .ok (.sipush 140, 3) := by decide +kernel
theorem dX12_parts_15 : decode cX12_parts 15 = .ok (.aload_n 0, 1) := by decide +kernel
theorem dX12_parts_16 : decode cX12_parts 16 = .ok (.getfield 7, 3) := by decide +kernel
theorem dX12_parts_19 : decode cX12_parts 19 = .ok (.iconst 0, 1) := by decide +kernel
theorem dX12_parts_20 : decode cX12_parts 20 = .ok (.iaload, 1) := by decide +kernel
theorem dX12_parts_21 : decode cX12_parts 21 = .ok (.imul, 1) := by decide +kernel
theorem dX12_parts_22 : decode cX12_parts 22 = .ok (.if_icmp .ge 53, 3) := by decide +kernel
theorem dX12_parts_25 : decode cX12_parts 25 = .ok (.iload_n 3, 1) := by decide +kernel
theorem dX12_parts_26 : decode cX12_parts 26 = .ok (.aload_n 0, 1) := by decide +kernel
theorem dX12_parts_27 : decode cX12_parts 27 = .ok (.iload_n 1, 1) := by decide +kernel
theorem dX12_parts_28 : decode cX12_parts 28 = .ok (.iload 4, 2) := by decide +kernel
theorem dX12_parts_30 : decode cX12_parts 30 = .ok (.invokevirtual 120, 3) := by decide +kernel
theorem dX12_parts_33 : decode cX12_parts 33 = .ok (.ifCond .eq 33, 3) := by decide +kernel
theorem dX12_parts_36 : decode cX12_parts 36 = .ok (.aload_n 0, 1) := by decide +kernel
theorem dX12_parts_37 : decode cX12_parts 37 = .ok (.getfield 31, 3) := by decide +kernel
theorem dX12_parts_40 : decode cX12_parts 40 = .ok (.iload 4, 2) := by decide +kernel
theorem dX12_parts_42 : decode cX12_parts 42 = .ok (.iaload, 1) := by decide +kernel
theorem dX12_parts_43 : decode cX12_parts 43 = .ok (.iload 4, 2) := by decide +kernel
theorem dX12_parts_45 : decode cX12_parts 45 = .ok (.if_icmp .ne 21, 3) := by decide +kernel
theorem dX12_parts_48 : decode cX12_parts 48 = .ok (.iload_n 2, 1) := by decide +kernel
theorem dX12_parts_49 : decode cX12_parts 49 = .ok (.ifCond .eq 13, 3) := by decide +kernel
theorem dX12_parts_52 : decode cX12_parts 52 = .ok (.aload_n 0, 1) := by decide +kernel
theorem dX12_parts_53 : decode cX12_parts 53 = .ok (.iload_n 1, 1) := by decide +kernel
theorem dX12_parts_54 : decode cX12_parts 54 = .ok (.iload 4, 2) := by decide +kernel
theorem dX12_parts_56 : decode cX12_parts 56 = .ok (.invokevirtual 126, 3) := by decide +kernel
theorem dX12_parts_59 : decode cX12_parts 59 = .ok (.ifCond .eq 7, 3) := by decide +kernel
theorem dX12_parts_62 : decode cX12_parts 62 = .ok (.iconst 1, 1) := by decide +kernel
theorem dX12_parts_63 : decode cX12_parts 63 = .ok (.goto 4, 3) := by decide +kernel
theorem dX12_parts_66 : decode cX12_parts 66 = .ok (.iconst 0, 1) := by decide +kernel
theorem dX12_parts_67 : decode cX12_parts 67 = .ok (.iadd, 1) := by decide +kernel
theorem dX12_parts_68 : decode cX12_parts 68 = .ok (.istore_n 3, 1) := by decide +kernel
theorem dX12_parts_69 : decode cX12_parts 69 = .ok (.iinc 4 1, 3) := by decide +kernel
theorem dX12_parts_72 : decode cX12_parts 72 = .ok (.goto (-62), 3) := by decide +kernel
theorem dX12_parts_75 : decode cX12_parts 75 = .ok (.iload_n 3, 1) := by decide +kernel
theorem dX12_parts_76 : decode cX12_parts 76 = .ok (.ireturn, 1) := by decide +kernel
theorem dX12_name_0 : decode cX12_name 0 = .ok (.aload_n 0, 1) := by decide +kernel
theorem dX12_name_1 : decode cX12_name 1 = .ok (.iload_n 1, 1) := by decide +kernel
theorem dX12_name_2 : decode cX12_name 2 = .ok (.invokevirtual 129, 3) := by decide +kernel
theorem dX12_name_5 : decode cX12_name 5 = .ok (.ifCond .ne 5, 3) := by decide +kernel
theorem dX12_name_8 : decode cX12_name 8 = .ok (.iconst (-1), 1) := by decide +kernel
theorem dX12_name_9 : decode cX12_name 9 = .ok (.ireturn, 1) := by decide +kernel
theorem dX12_name_10 : decode cX12_name 10 = .ok (.aload_n 0, 1) := by decide +kernel
theorem dX12_name_11 : decode cX12_name 11 = .ok (.iload_n 1, 1) := by decide +kernel
theorem dX12_name_12 : decode cX12_name 12 = .ok (.iconst 0, 1) := by decide +kernel
theorem dX12_name_13 : decode cX12_name 13 = .ok (.invokevirtual 132, 3) := by decide +kernel
theorem dX12_name_16 : decode cX12_name 16 = .ok (.iconst 1, 1) := by decide +kernel
theorem dX12_name_17 : decode cX12_name 17 = .ok (.if_icmp .eq 5, 3) := by decide +kernel
theorem dX12_name_20 : decode cX12_name 20 = .ok (.iconst 0, 1) := by decide +kernel
theorem dX12_name_21 : decode cX12_name 21 = .ok (.ireturn, 1) := by decide +kernel
theorem dX12_name_22 : decode cX12_name 22 = .ok (.aload_n 0, 1) := by decide +kernel
theorem dX12_name_23 : decode cX12_name 23 = .ok (.iload_n 1, 1) := by decide +kernel
theorem dX12_name_24 : decode cX12_name 24 = .ok (.invokevirtual 136, 3) := by decide +kernel
theorem dX12_name_27 : decode cX12_name 27 = .ok (.ifCond .le 5, 3) := by decide +kernel
theorem dX12_name_30 : decode cX12_name 30 = .ok (.iconst 1, 1) := by decide +kernel
theorem dX12_name_31 : decode cX12_name 31 = .ok (.ireturn, 1) := by decide +kernel
theorem dX12_name_32 : decode cX12_name 32 = .ok (.aload_n 0, 1) := by decide +kernel
theorem dX12_name_33 : decode cX12_name 33 = .ok (.iload_n 1, 1) := by decide +kernel
theorem dX12_name_34 : decode cX12_name 34 = .ok (.invokevirtual 139, 3) := by decide +kernel
theorem dX12_name_37 : decode cX12_name 37 = .ok (.tableswitch 47 0 2 #[31, 29, 27], 27) := by decide +kernel
theorem dX12_name_64 : decode cX12_name 64 = .ok (.iconst 2, 1) := by decide +kernel
theorem dX12_name_65 : decode cX12_name 65 = .ok (.ireturn, 1) := by decide +kernel
theorem dX12_name_66 : decode cX12_name 66 = .ok (.iconst 3, 1) := by decide +kernel
theorem dX12_name_67 : decode cX12_name 67 = .ok (.ireturn, 1) := by decide +kernel
theorem dX12_name_68 : decode cX12_name 68 = .ok (.aload_n 0, 1) := by decide +kernel
theorem dX12_name_69 : decode cX12_name 69 = .ok (.iload_n 1, 1) := by decide +kernel
theorem dX12_name_70 : decode cX12_name 70 = .ok (.iconst 1, 1) := by decide +kernel
theorem dX12_name_71 : decode cX12_name 71 = .ok (.invokevirtual 132, 3) := by decide +kernel
theorem dX12_name_74 : decode cX12_name 74 = .ok (.iconst 1, 1) := by decide +kernel
theorem dX12_name_75 : decode cX12_name 75 = .ok (.if_icmp .ne 7, 3) := by decide +kernel
theorem dX12_name_78 : decode cX12_name 78 = .ok (.iconst 4, 1) := by decide +kernel
theorem dX12_name_79 : decode cX12_name 79 = .ok (.goto 4, 3) := by decide +kernel
theorem dX12_name_82 : decode cX12_name 82 = .ok (.iconst 5, 1) := by decide +kernel
theorem dX12_name_83 : decode cX12_name 83 = .ok (.ireturn, 1) := by decide +kernel
theorem dX12_name_84 : decode cX12_name 84 = .ok (.bipush 6, 2) := by decide +kernel
theorem dX12_name_86 : decode cX12_name 86 = .ok (.ireturn, 1) := by decide +kernel
theorem dX12_layAbout_0 : decode cX12_layAbout 0 = .ok (.iconst 0, 1) := by decide +kernel
theorem dX12_layAbout_1 : decode cX12_layAbout 1 = .ok (.istore_n 3, 1) := by decide +kernel
theorem dX12_layAbout_2 : decode cX12_layAbout 2 = .ok (.iload_n 3, 1) := by decide +kernel
theorem dX12_layAbout_3 : decode cX12_layAbout 3 = .ok (.bipush 21, 2) := by decide +kernel
theorem dX12_layAbout_5 : decode cX12_layAbout 5 = .ok (.if_icmp .ge 18, 3) := by decide +kernel
theorem dX12_layAbout_8 : decode cX12_layAbout 8 = .ok (.aload_n 0, 1) := by decide +kernel
theorem dX12_layAbout_9 : decode cX12_layAbout 9 = .ok (.getfield 7, 3) := by decide +kernel
theorem dX12_layAbout_12 : decode cX12_layAbout 12 = .ok (.iload_n 2, 1) := by decide +kernel
theorem dX12_layAbout_13 : decode cX12_layAbout 13 = .ok (.iload_n 3, 1) := by decide +kernel
theorem dX12_layAbout_14 : decode cX12_layAbout 14 = .ok (.iadd, 1) := by decide +kernel
theorem dX12_layAbout_15 : decode cX12_layAbout 15 = .ok (.iconst 0, 1) := by decide +kernel
theorem dX12_layAbout_16 : decode cX12_layAbout 16 = .ok (.iastore, 1) := by decide +kernel
theorem dX12_layAbout_17 : decode cX12_layAbout 17 = .ok (.iinc 3 1, 3) := by decide +kernel
theorem dX12_layAbout_20 : decode cX12_layAbout 20 = .ok (.goto (-18), 3) := by decide +kernel
theorem dX12_layAbout_23 : decode cX12_layAbout 23 = .ok (.iconst 0, 1) := by decide +kernel
theorem dX12_layAbout_24 : decode cX12_layAbout 24 = .ok (.istore_n 3, 1) := by decide +kernel
theorem dX12_layAbout_25 : decode cX12_layAbout 25 = .ok (.iload_n 3, 1) := by decide +kernel
theorem dX12_layAbout_26 : decode cX12_layAbout 26 = .ok (.aload_n 0, 1) := by decide +kernel
theorem dX12_layAbout_27 : decode cX12_layAbout 27 = .ok (.invokevirtual 48, 3) := by decide +kernel
theorem dX12_layAbout_30 : decode cX12_layAbout 30 = .ok (.if_icmp .ge 41, 3) := by decide +kernel
theorem dX12_layAbout_33 : decode cX12_layAbout 33 = .ok (.aload_n 0, 1) := by decide +kernel
theorem dX12_layAbout_34 : decode cX12_layAbout 34 = .ok (.getfield 7, 3) := by decide +kernel
theorem dX12_layAbout_37 : decode cX12_layAbout 37 = .ok (.iload_n 2, 1) := by decide +kernel
theorem dX12_layAbout_38 : decode cX12_layAbout 38 = .ok (.bipush 7, 2) := by decide +kernel
theorem dX12_layAbout_40 : decode cX12_layAbout 40 = .ok (.iload_n 3, 1) := by decide +kernel
theorem dX12_layAbout_41 : decode cX12_layAbout 41 = .ok (.iconst 4, 1) := by decide +kernel
theorem dX12_layAbout_42 : decode cX12_layAbout 42 = .ok (.idiv, 1) := by decide +kernel
theorem dX12_layAbout_43 : decode cX12_layAbout 43 = .ok (.imul, 1) := by decide +kernel
theorem dX12_layAbout_44 : decode cX12_layAbout 44 = .ok (.iadd, 1) := by decide +kernel
theorem dX12_layAbout_45 : decode cX12_layAbout 45 = .ok (.iload_n 3, 1) := by decide +kernel
theorem dX12_layAbout_46 : decode cX12_layAbout 46 = .ok (.iconst 4, 1) := by decide +kernel
theorem dX12_layAbout_47 : decode cX12_layAbout 47 = .ok (.irem, 1) := by decide +kernel
theorem dX12_layAbout_48 : decode cX12_layAbout 48 = .ok (.iadd, 1) := by decide +kernel
theorem dX12_layAbout_49 : decode cX12_layAbout 49 = .ok (.aload_n 0, 1) := by decide +kernel
theorem dX12_layAbout_50 : decode cX12_layAbout 50 = .ok (.getfield 22, 3) := by decide +kernel
theorem dX12_layAbout_53 : decode cX12_layAbout 53 = .ok (.iload_n 3, 1) := by decide +kernel
theorem dX12_layAbout_54 : decode cX12_layAbout 54 = .ok (.iaload, 1) := by decide +kernel
theorem dX12_layAbout_55 : decode cX12_layAbout 55 = .ok (.iload_n 1, 1) := by decide +kernel
theorem dX12_layAbout_56 : decode cX12_layAbout 56 = .ok (.if_icmp .ne 7, 3) := by decide +kernel
theorem dX12_layAbout_59 : decode cX12_layAbout 59 = .ok (.iconst 1, 1) := by decide +kernel
theorem dX12_layAbout_60 : decode cX12_layAbout 60 = .ok (.goto 4, 3) := by decide +kernel
theorem dX12_layAbout_63 : decode cX12_layAbout 63 = .ok (.iconst 0, 1) := by decide +kernel
theorem dX12_layAbout_64 : decode cX12_layAbout 64 = .ok (.iastore, 1) := by decide +kernel
theorem dX12_layAbout_65 : decode cX12_layAbout 65 = .ok (.iinc 3 1, 3) := by decide +kernel
theorem dX12_layAbout_68 : decode cX12_layAbout 68 = .ok (.goto (-43), 3) := by decide +kernel
theorem dX12_layAbout_71 : decode cX12_layAbout 71 = .ok (.return_, 1) := by decide +kernel
theorem dX12_isGood_0 : decode cX12_isGood 0 = .ok (.aload_n 0, 1) := by decide +kernel
theorem dX12_isGood_1 : decode cX12_isGood 1 = .ok (.invokevirtual 96, 3) := by decide +kernel
theorem dX12_isGood_4 : decode cX12_isGood 4 = .ok (.aload_n 0, 1) := by decide +kernel
theorem dX12_isGood_5 : decode cX12_isGood 5 = .ok (.iload_n 1, 1) := by decide +kernel
theorem dX12_isGood_6 : decode cX12_isGood 6 = .ok (.sipush 2888, 3) := by decide +kernel
theorem dX12_isGood_9 : decode cX12_isGood 9 = .ok (.invokevirtual 142, 3) := by decide +kernel
theorem dX12_isGood_12 : decode cX12_isGood 12 = .ok (.aload_n 0, 1) := by decide +kernel
theorem dX12_isGood_13 : decode cX12_isGood 13 = .ok (.sipush 2888, 3) := by decide +kernel
theorem dX12_isGood_16 : decode cX12_isGood 16 = .ok (.iconst 0, 1) := by decide +kernel
theorem dX12_isGood_17 : decode cX12_isGood 17 = .ok (.invokevirtual 132, 3) := by decide +kernel
theorem dX12_isGood_20 : decode cX12_isGood 20 = .ok (.iconst 1, 1) := by decide +kernel
theorem dX12_isGood_21 : decode cX12_isGood 21 = .ok (.if_icmp .ne 32, 3) := by decide +kernel
theorem dX12_isGood_24 : decode cX12_isGood 24 = .ok (.aload_n 0, 1) := by decide +kernel
theorem dX12_isGood_25 : decode cX12_isGood 25 = .ok (.sipush 2888, 3) := by decide +kernel
theorem dX12_isGood_28 : decode cX12_isGood 28 = .ok (.invokevirtual 139, 3) := by decide +kernel
theorem dX12_isGood_31 : decode cX12_isGood 31 = .ok (.aload_n 0, 1) := by decide +kernel
theorem dX12_isGood_32 : decode cX12_isGood 32 = .ok (.sipush 2888, 3) := by decide +kernel
theorem dX12_isGood_35 : decode cX12_isGood 35 = .ok (.invokevirtual 136, 3) := by decide +kernel
theorem dX12_isGood_38 : decode cX12_isGood 38 = .ok (.ifCond .le 7, 3) := by decide +kernel
theorem dX12_isGood_41 : decode cX12_isGood 41 = .ok (.iconst 1, 1) := by decide +kernel
theorem dX12_isGood_42 : decode cX12_isGood 42 = .ok (.goto 4, 3) := by decide +kernel
theorem dX12_isGood_45 : decode cX12_isGood 45 = .ok (.iconst 2, 1) := by decide +kernel
theorem dX12_isGood_46 : decode cX12_isGood 46 = .ok (.if_icmp .ne 7, 3) := by decide +kernel
theorem dX12_isGood_49 : decode cX12_isGood 49 = .ok (.iconst 1, 1) := by decide +kernel
theorem dX12_isGood_50 : decode cX12_isGood 50 = .ok (.goto 4, 3) := by decide +kernel
theorem dX12_isGood_53 : decode cX12_isGood 53 = .ok (.iconst 0, 1) := by decide +kernel
theorem dX12_isGood_54 : decode cX12_isGood 54 = .ok (.ireturn, 1) := by decide +kernel
theorem dX12_goodMany_0 : decode cX12_goodMany 0 = .ok (.iconst 0, 1) := by decide +kernel
theorem dX12_goodMany_1 : decode cX12_goodMany 1 = .ok (.istore_n 1, 1) := by decide +kernel
theorem dX12_goodMany_2 : decode cX12_goodMany 2 = .ok (.aload_n 0, 1) := by decide +kernel
theorem dX12_goodMany_3 : decode cX12_goodMany 3 = .ok (.invokevirtual 96, 3) := by decide +kernel
theorem dX12_goodMany_6 : decode cX12_goodMany 6 = .ok (.iconst 0, 1) := by decide +kernel
theorem dX12_goodMany_7 : decode cX12_goodMany 7 = .ok (.istore_n 2, 1) := by decide +kernel
theorem dX12_goodMany_8 : decode cX12_goodMany 8 = .ok (.iload_n 2, 1) := by decide +kernel
theorem dX12_goodMany_9 : decode cX12_goodMany 9 = .ok (.aload_n 0, 1) := by decide +kernel
theorem dX12_goodMany_10 : decode cX12_goodMany 10 = .ok (.invokevirtual 48, 3) := by decide +kernel
theorem dX12_goodMany_13 : decode cX12_goodMany 13 = .ok (.if_icmp .ge 35, 3) := by decide +kernel
theorem dX12_goodMany_16 : decode cX12_goodMany 16 = .ok (.iload_n 1, 1) := by decide +kernel
theorem dX12_goodMany_17 : decode cX12_goodMany 17 = .ok (.aload_n 0, 1) := by decide +kernel
theorem dX12_goodMany_18 : decode cX12_goodMany 18 = .ok (.getfield 22, 3) := by decide +kernel
theorem dX12_goodMany_21 : decode cX12_goodMany 21 = .ok (.iload_n 2, 1) := by decide +kernel
theorem dX12_goodMany_22 : decode cX12_goodMany 22 = .ok (.iaload, 1) := by decide +kernel
theorem dX12_goodMany_23 : decode cX12_goodMany 23 = .ok (.iload_n 2, 1) := by decide +kernel
theorem dX12_goodMany_24 : decode cX12_goodMany 24 = .ok (.if_icmp .ne 15, 3) := by decide +kernel
theorem dX12_goodMany_27 : decode cX12_goodMany 27 = .ok (.aload_n 0, 1) := by decide +kernel
theorem dX12_goodMany_28 : decode cX12_goodMany 28 = .ok (.iload_n 2, 1) := by decide +kernel
theorem dX12_goodMany_29 : decode cX12_goodMany 29 = .ok (.invokevirtual 146, 3) := by decide +kernel
theorem dX12_goodMany_32 : decode cX12_goodMany 32 = .ok (.ifCond .eq 7, 3) := by decide +kernel
theorem dX12_goodMany_35 : decode cX12_goodMany 35 = .ok (.iconst 1, 1) := by decide +kernel
theorem dX12_goodMany_36 : decode cX12_goodMany 36 = .ok (.goto 4, 3) := by decide +kernel
theorem dX12_goodMany_39 : decode cX12_goodMany 39 = .ok (.iconst 0, 1) := by decide +kernel
theorem dX12_goodMany_40 : decode cX12_goodMany 40 = .ok (.iadd, 1) := by decide +kernel
theorem dX12_goodMany_41 : decode cX12_goodMany 41 = .ok (.istore_n 1, 1) := by decide +kernel
theorem dX12_goodMany_42 : decode cX12_goodMany 42 = .ok (.iinc 2 1, 3) := by decide +kernel
theorem dX12_goodMany_45 : decode cX12_goodMany 45 = .ok (.goto (-37), 3) := by decide +kernel
theorem dX12_goodMany_48 : decode cX12_goodMany 48 = .ok (.iload_n 1, 1) := by decide +kernel
theorem dX12_goodMany_49 : decode cX12_goodMany 49 = .ok (.ireturn, 1) := by decide +kernel
theorem dX12_points_0 : decode cX12_points 0 = .ok (.aload_n 0, 1) := by decide +kernel
theorem dX12_points_1 : decode cX12_points 1 = .ok (.invokevirtual 96, 3) := by decide +kernel
theorem dX12_points_4 : decode cX12_points 4 = .ok (.aload_n 0, 1) := by decide +kernel
theorem dX12_points_5 : decode cX12_points 5 = .ok (.getfield 22, 3) := by decide +kernel
theorem dX12_points_8 : decode cX12_points 8 = .ok (.aload_n 0, 1) := by decide +kernel
theorem dX12_points_9 : decode cX12_points 9 = .ok (.invokevirtual 48, 3) := by decide +kernel
theorem dX12_points_12 : decode cX12_points 12 = .ok (.invokestatic 149, 3) := by decide +kernel
theorem dX12_points_15 : decode cX12_points 15 = .ok (.ireturn, 1) := by decide +kernel
theorem dX12_lines_0 : decode cX12_lines 0 = .ok (.aload_n 0, 1) := by decide +kernel
theorem dX12_lines_1 : decode cX12_lines 1 = .ok (.invokevirtual 96, 3) := by decide +kernel
theorem dX12_lines_4 : decode cX12_lines 4 = .ok (.aload_n 0, 1) := by decide +kernel
theorem dX12_lines_5 : decode cX12_lines 5 = .ok (.getfield 25, 3) := by decide +kernel
theorem dX12_lines_8 : decode cX12_lines 8 = .ok (.bipush 6, 2) := by decide +kernel
theorem dX12_lines_10 : decode cX12_lines 10 = .ok (.aload_n 0, 1) := by decide +kernel
theorem dX12_lines_11 : decode cX12_lines 11 = .ok (.getfield 7, 3) := by decide +kernel
theorem dX12_lines_14 : decode cX12_lines 14 = .ok (.iconst 0, 1) := by decide +kernel
theorem dX12_lines_15 : decode cX12_lines 15 = .ok (.iaload, 1) := by decide +kernel
theorem dX12_lines_16 : decode cX12_lines 16 = .ok (.imul, 1) := by decide +kernel
theorem dX12_lines_17 : decode cX12_lines 17 = .ok (.invokestatic 149, 3) := by decide +kernel
theorem dX12_lines_20 : decode cX12_lines 20 = .ok (.ireturn, 1) := by decide +kernel
theorem dX12_bents_0 : decode cX12_bents 0 = .ok (.aload_n 0, 1) := by decide +kernel
theorem dX12_bents_1 : decode cX12_bents 1 = .ok (.invokevirtual 96, 3) := by decide +kernel
theorem dX12_bents_4 : decode cX12_bents 4 = .ok (.aload_n 0, 1) := by decide +kernel
theorem dX12_bents_5 : decode cX12_bents 5 = .ok (.invokevirtual 153, 3) := by decide +kernel
theorem dX12_bents_8 : decode cX12_bents 8 = .ok (.ireturn, 1) := by decide +kernel
theorem dX12_characteristic_0 : decode cX12_characteristic 0 = .ok (.aload_n 0, 1) := by decide +kernel
theorem dX12_characteristic_1 : decode cX12_characteristic 1 = .ok (.invokevirtual 48, 3) := by decide +kernel
theorem dX12_characteristic_4 : decode cX12_characteristic 4 = .ok (.aload_n 0, 1) := by decide +kernel
theorem dX12_characteristic_5 : decode cX12_characteristic 5 = .ok (.invokevirtual 156, 3) := by decide +kernel
theorem dX12_characteristic_8 : decode cX12_characteristic 8 = .ok (.iadd, 1) := by decide +kernel
theorem dX12_characteristic_9 : decode cX12_characteristic 9 = .ok (.iconst 2, 1) := by decide +kernel
theorem dX12_characteristic_10 : decode cX12_characteristic 10 = .ok (.idiv, 1) := by decide +kernel
theorem dX12_characteristic_11 : decode cX12_characteristic 11 = .ok (.istore_n 1, 1) := by decide +kernel
theorem dX12_characteristic_12 : decode cX12_characteristic 12 = .ok (.aload_n 0, 1) := by decide +kernel
theorem dX12_characteristic_13 : decode cX12_characteristic 13 = .ok (.invokevirtual 159, 3) := by decide +kernel
theorem dX12_characteristic_16 : decode cX12_characteristic 16 = .ok (.aload_n 0, 1) := by decide +kernel
theorem dX12_characteristic_17 : decode cX12_characteristic 17 = .ok (.invokevirtual 162, 3) := by decide +kernel
theorem dX12_characteristic_20 : decode cX12_characteristic 20 = .ok (.isub, 1) := by decide +kernel
theorem dX12_characteristic_21 : decode cX12_characteristic 21 = .ok (.iload_n 1, 1) := by decide +kernel
theorem dX12_characteristic_22 : decode cX12_characteristic 22 = .ok (.iadd, 1) := by decide +kernel
theorem dX12_characteristic_23 : decode cX12_characteristic 23 = .ok (.aload_n 0, 1) := by decide +kernel
theorem dX12_characteristic_24 : decode cX12_characteristic 24 = .ok (.getfield 7, 3) := by decide +kernel
theorem dX12_characteristic_27 : decode cX12_characteristic 27 = .ok (.iconst 0, 1) := by decide +kernel
theorem dX12_characteristic_28 : decode cX12_characteristic 28 = .ok (.iaload, 1) := by decide +kernel
theorem dX12_characteristic_29 : decode cX12_characteristic 29 = .ok (.isub, 1) := by decide +kernel
theorem dX12_characteristic_30 : decode cX12_characteristic 30 = .ok (.ireturn, 1) := by decide +kernel
theorem dX12_split_0 : decode cX12_split 0 = .ok (.aload_n 0, 1) := by decide +kernel
theorem dX12_split_1 : decode cX12_split 1 = .ok (.iload_n 1, 1) := by decide +kernel
theorem dX12_split_2 : decode cX12_split 2 = .ok (.invokevirtual 129, 3) := by decide +kernel
theorem dX12_split_5 : decode cX12_split 5 = .ok (.ifCond .ne 5, 3) := by decide +kernel
theorem dX12_split_8 : decode cX12_split 8 = .ok (.iconst (-1), 1) := by decide +kernel
theorem dX12_split_9 : decode cX12_split 9 = .ok (.ireturn, 1) := by decide +kernel
theorem dX12_split_10 : decode cX12_split 10 = .ok (.iconst 1, 1) := by decide +kernel
theorem dX12_split_11 : decode cX12_split 11 = .ok (.istore_n 2, 1) := by decide +kernel
theorem dX12_split_12 : decode cX12_split 12 = .ok (.iconst 0, 1) := by decide +kernel
theorem dX12_split_13 : decode cX12_split 13 = .ok (.istore_n 3, 1) := by decide +kernel
theorem dX12_split_14 : decode cX12_split 14 = .ok (.iload_n 3, 1) := by decide +kernel
theorem dX12_split_15 : decode cX12_split 15 = .ok (.bipush 7, 2) := by decide +kernel
theorem dX12_split_17 : decode cX12_split 17 = .ok (.aload_n 0, 1) := by decide +kernel
theorem dX12_split_18 : decode cX12_split 18 = .ok (.getfield 7, 3) := by decide +kernel
theorem dX12_split_21 : decode cX12_split 21 = .ok (.iconst 0, 1) := by decide +kernel
theorem dX12_split_22 : decode cX12_split 22 = .ok (.iaload, 1) := by decide +kernel
theorem dX12_split_23 : decode cX12_split 23 = .ok (.imul, 1) := by decide +kernel
theorem dX12_split_24 : decode cX12_split 24 = .ok (.if_icmp .ge 33, 3) := by decide +kernel
theorem dX12_split_27 : decode cX12_split 27 = .ok (.iload_n 2, 1) := by decide +kernel
theorem dX12_split_28 : decode cX12_split 28 = .ok (.sipush 6000, 3) := by decide +kernel
theorem dX12_split_31 : decode cX12_split 31 = .ok (.if_icmp .le 7, 3) := by decide +kernel
theorem dX12_split_34 : decode cX12_split 34 = .ok (.iload_n 2, 1) := by decide +kernel
theorem dX12_split_35 : decode cX12_split 35 = .ok (.goto 15, 3) := by decide +kernel
theorem dX12_split_38 : decode cX12_split 38 = .ok (.iload_n 2, 1) := by decide +kernel
theorem dX12_split_39 : decode cX12_split 39 = .ok (.aload_n 0, 1) := by decide +kernel
theorem dX12_split_40 : decode cX12_split 40 = .ok (.getfield 7, 3) := by decide +kernel
theorem dX12_split_43 : decode cX12_split 43 = .ok (.iload_n 1, 1) := by decide +kernel
theorem dX12_split_44 : decode cX12_split 44 = .ok (.iload_n 3, 1) := by decide +kernel
theorem dX12_split_45 : decode cX12_split 45 = .ok (.iadd, 1) := by decide +kernel
theorem dX12_split_46 : decode cX12_split 46 = .ok (.iaload, 1) := by decide +kernel
theorem dX12_split_47 : decode cX12_split 47 = .ok (.iconst 1, 1) := by decide +kernel
theorem dX12_split_48 : decode cX12_split 48 = .ok (.iadd, 1) := by decide +kernel
theorem dX12_split_49 : decode cX12_split 49 = .ok (.imul, 1) := by decide +kernel
theorem dX12_split_50 : decode cX12_split 50 = .ok (.istore_n 2, 1) := by decide +kernel
theorem dX12_split_51 : decode cX12_split 51 = .ok (.iinc 3 1, 3) := by decide +kernel
theorem dX12_split_54 : decode cX12_split 54 = .ok (.goto (-40), 3) := by decide +kernel
theorem dX12_split_57 : decode cX12_split 57 = .ok (.iload_n 2, 1) := by decide +kernel
theorem dX12_split_58 : decode cX12_split 58 = .ok (.sipush 6000, 3) := by decide +kernel
theorem dX12_split_61 : decode cX12_split 61 = .ok (.if_icmp .le 5, 3) := by decide +kernel
theorem dX12_split_64 : decode cX12_split 64 = .ok (.iconst (-1), 1) := by decide +kernel
theorem dX12_split_65 : decode cX12_split 65 = .ok (.ireturn, 1) := by decide +kernel
theorem dX12_split_66 : decode cX12_split 66 = .ok (.iconst 1, 1) := by decide +kernel
theorem dX12_split_67 : decode cX12_split 67 = .ok (.istore_n 3, 1) := by decide +kernel
theorem dX12_split_68 : decode cX12_split 68 = .ok (.iload_n 3, 1) := by decide +kernel
theorem dX12_split_69 : decode cX12_split 69 = .ok (.iload_n 2, 1) := by decide +kernel
theorem dX12_split_70 : decode cX12_split 70 = .ok (.iconst 1, 1) := by decide +kernel
theorem dX12_split_71 : decode cX12_split 71 = .ok (.isub, 1) := by decide +kernel
theorem dX12_split_72 : decode cX12_split 72 = .ok (.if_icmp .ge 88, 3) := by decide +kernel
theorem dX12_split_75 : decode cX12_split 75 = .ok (.iload_n 3, 1) := by decide +kernel
theorem dX12_split_76 : decode cX12_split 76 = .ok (.istore 4, 2) := by decide +kernel
theorem dX12_split_78 : decode cX12_split 78 = .ok (.iconst 0, 1) := by decide +kernel
theorem dX12_split_79 : decode cX12_split 79 = .ok (.istore 5, 2) := by decide +kernel
theorem dX12_split_81 : decode cX12_split 81 = .ok (.iload 5, 2) := by decide +kernel
theorem dX12_split_83 : decode cX12_split 83 = .ok (.bipush 7, 2) := by decide +kernel
theorem dX12_split_85 : decode cX12_split 85 = .ok (.aload_n 0, 1) := by decide +kernel
theorem dX12_split_86 : decode cX12_split 86 = .ok (.getfield 7, 3) := by decide +kernel
theorem dX12_split_89 : decode cX12_split 89 = .ok (.iconst 0, 1) := by decide +kernel
theorem dX12_split_90 : decode cX12_split 90 = .ok (.iaload, 1) := by decide +kernel
theorem dX12_split_91 : decode cX12_split 91 = .ok (.imul, 1) := by decide +kernel
theorem dX12_split_92 : decode cX12_split 92 = .ok (.if_icmp .ge 50, 3) := by decide +kernel
theorem dX12_split_95 : decode cX12_split 95 = .ok (.aload_n 0, 1) := by decide +kernel
theorem dX12_split_96 : decode cX12_split 96 = .ok (.getfield 7, 3) := by decide +kernel
theorem dX12_split_99 : decode cX12_split 99 = .ok (.sipush 2888, 3) := by decide +kernel
theorem dX12_split_102 : decode cX12_split 102 = .ok (.iload 5, 2) := by decide +kernel
theorem dX12_split_104 : decode cX12_split 104 = .ok (.iadd, 1) := by decide +kernel
theorem dX12_split_105 : decode cX12_split 105 = .ok (.iload 4, 2) := by decide +kernel
theorem dX12_split_107 : decode cX12_split 107 = .ok (.aload_n 0, 1) := by decide +kernel
theorem dX12_split_108 : decode cX12_split 108 = .ok (.getfield 7, 3) := by decide +kernel
theorem dX12_split_111 : decode cX12_split 111 = .ok (.iload_n 1, 1) := by decide +kernel
theorem dX12_split_112 : decode cX12_split 112 = .ok (.iload 5, 2) := by decide +kernel
theorem dX12_split_114 : decode cX12_split 114 = .ok (.iadd, 1) := by decide +kernel
theorem dX12_split_115 : decode cX12_split 115 = .ok (.iaload, 1) := by decide +kernel
theorem dX12_split_116 : decode cX12_split 116 = .ok (.iconst 1, 1) := by decide +kernel
theorem dX12_split_117 : decode cX12_split 117 = .ok (.iadd, 1) := by decide +kernel
theorem dX12_split_118 : decode cX12_split 118 = .ok (.irem, 1) := by decide +kernel
theorem dX12_split_119 : decode cX12_split 119 = .ok (.iastore, 1) := by decide +kernel
theorem dX12_split_120 : decode cX12_split 120 = .ok (.iload 4, 2) := by decide +kernel
theorem dX12_split_122 : decode cX12_split 122 = .ok (.aload_n 0, 1) := by decide +kernel
theorem dX12_split_123 : decode cX12_split 123 = .ok (.getfield 7, 3) := by decide +kernel
theorem dX12_split_126 : decode cX12_split 126 = .ok (.iload_n 1, 1) := by decide +kernel
theorem dX12_split_127 : decode cX12_split 127 = .ok (.iload 5, 2) := by decide +kernel
theorem dX12_split_129 : decode cX12_split 129 = .ok (.iadd, 1) := by decide +kernel
theorem dX12_split_130 : decode cX12_split 130 = .ok (.iaload, 1) := by decide +kernel
theorem dX12_split_131 : decode cX12_split 131 = .ok (.iconst 1, 1) := by decide +kernel
theorem dX12_split_132 : decode cX12_split 132 = .ok (.iadd, 1) := by decide +kernel
theorem dX12_split_133 : decode cX12_split 133 = .ok (.idiv, 1) := by decide +kernel
theorem dX12_split_134 : decode cX12_split 134 = .ok (.istore 4, 2) := by decide +kernel
theorem dX12_split_136 : decode cX12_split 136 = .ok (.iinc 5 1, 3) := by decide +kernel
theorem dX12_split_139 : decode cX12_split 139 = .ok (.goto (-58), 3) := by decide +kernel
theorem dX12_split_142 : decode cX12_split 142 = .ok (.aload_n 0, 1) := by decide +kernel
theorem dX12_split_143 : decode cX12_split 143 = .ok (.sipush 2888, 3) := by decide +kernel
theorem dX12_split_146 : decode cX12_split 146 = .ok (.invokevirtual 87, 3) := by decide +kernel
theorem dX12_split_149 : decode cX12_split 149 = .ok (.ifCond .eq 5, 3) := by decide +kernel
theorem dX12_split_152 : decode cX12_split 152 = .ok (.iconst 1, 1) := by decide +kernel
theorem dX12_split_153 : decode cX12_split 153 = .ok (.ireturn, 1) := by decide +kernel
theorem dX12_split_154 : decode cX12_split 154 = .ok (.iinc 3 1, 3) := by decide +kernel
theorem dX12_split_157 : decode cX12_split 157 = .ok (.goto (-89), 3) := by decide +kernel
theorem dX12_split_160 : decode cX12_split 160 = .ok (.iconst 0, 1) := by decide +kernel
theorem dX12_split_161 : decode cX12_split 161 = .ok (.ireturn, 1) := by decide +kernel
theorem dX12_wrongEntry_0 : decode cX12_wrongEntry 0 = .ok (.iconst 0, 1) := by decide +kernel
theorem dX12_wrongEntry_1 : decode cX12_wrongEntry 1 = .ok (.istore_n 1, 1) := by decide +kernel
theorem dX12_wrongEntry_2 : decode cX12_wrongEntry 2 = .ok (.iload_n 1, 1) := by decide +kernel
theorem dX12_wrongEntry_3 : decode cX12_wrongEntry 3 = .ok (.aload_n 0, 1) := by decide +kernel
theorem dX12_wrongEntry_4 : decode cX12_wrongEntry 4 = .ok (.getfield 165, 3) := by decide +kernel
theorem dX12_wrongEntry_7 : decode cX12_wrongEntry 7 = .ok (.if_icmp .ge 56, 3) := by decide +kernel
theorem dX12_wrongEntry_10 : decode cX12_wrongEntry 10 = .ok (.aload_n 0, 1) := by decide +kernel
theorem dX12_wrongEntry_11 : decode cX12_wrongEntry 11 = .ok (.getfield 16, 3) := by decide +kernel
theorem dX12_wrongEntry_14 : decode cX12_wrongEntry 14 = .ok (.iload_n 1, 1) := by decide +kernel
theorem dX12_wrongEntry_15 : decode cX12_wrongEntry 15 = .ok (.iaload, 1) := by decide +kernel
theorem dX12_wrongEntry_16 : decode cX12_wrongEntry 16 = .ok (.invokestatic 169, 3) := by decide +kernel
theorem dX12_wrongEntry_19 : decode cX12_wrongEntry 19 = .ok (.istore_n 2, 1) := by decide +kernel
theorem dX12_wrongEntry_20 : decode cX12_wrongEntry 20 = .ok (.aload_n 0, 1) := by decide +kernel
theorem dX12_wrongEntry_21 : decode cX12_wrongEntry 21 = .ok (.aload_n 0, 1) := by decide +kernel
theorem dX12_wrongEntry_22 : decode cX12_wrongEntry 22 = .ok (.getfield 16, 3) := by decide +kernel
theorem dX12_wrongEntry_25 : decode cX12_wrongEntry 25 = .ok (.iload_n 1, 1) := by decide +kernel
theorem dX12_wrongEntry_26 : decode cX12_wrongEntry 26 = .ok (.iaload, 1) := by decide +kernel
theorem dX12_wrongEntry_27 : decode cX12_wrongEntry 27 = .ok (.invokevirtual 172, 3) := by decide +kernel
theorem dX12_wrongEntry_30 : decode cX12_wrongEntry 30 = .ok (.ifCond .eq 25, 3) := by decide +kernel
theorem dX12_wrongEntry_33 : decode cX12_wrongEntry 33 = .ok (.aload_n 0, 1) := by decide +kernel
theorem dX12_wrongEntry_34 : decode cX12_wrongEntry 34 = .ok (.iload_n 2, 1) := by decide +kernel
theorem dX12_wrongEntry_35 : decode cX12_wrongEntry 35 = .ok (.invokevirtual 129, 3) := by decide +kernel
theorem dX12_wrongEntry_38 : decode cX12_wrongEntry 38 = .ok (.ifCond .eq 17, 3) := by decide +kernel
theorem dX12_wrongEntry_41 : decode cX12_wrongEntry 41 = .ok (.aload_n 0, 1) := by decide +kernel
theorem dX12_wrongEntry_42 : decode cX12_wrongEntry 42 = .ok (.iload_n 2, 1) := by decide +kernel
theorem dX12_wrongEntry_43 : decode cX12_wrongEntry 43 = .ok (.invokevirtual 139, 3) := by decide +kernel
theorem dX12_wrongEntry_46 : decode cX12_wrongEntry 46 = .ok (.aload_n 0, 1) := by decide +kernel
theorem dX12_wrongEntry_47 : decode cX12_wrongEntry 47 = .ok (.getfield 19, 3) := by decide +kernel
theorem dX12_wrongEntry_50 : decode cX12_wrongEntry 50 = .ok (.iload_n 1, 1) := by decide +kernel
theorem dX12_wrongEntry_51 : decode cX12_wrongEntry 51 = .ok (.iaload, 1) := by decide +kernel
theorem dX12_wrongEntry_52 : decode cX12_wrongEntry 52 = .ok (.if_icmp .eq 5, 3) := by decide +kernel
theorem dX12_wrongEntry_55 : decode cX12_wrongEntry 55 = .ok (.iload_n 1, 1) := by decide +kernel
theorem dX12_wrongEntry_56 : decode cX12_wrongEntry 56 = .ok (.ireturn, 1) := by decide +kernel
theorem dX12_wrongEntry_57 : decode cX12_wrongEntry 57 = .ok (.iinc 1 1, 3) := by decide +kernel
theorem dX12_wrongEntry_60 : decode cX12_wrongEntry 60 = .ok (.goto (-58), 3) := by decide +kernel
theorem dX12_wrongEntry_63 : decode cX12_wrongEntry 63 = .ok (.iconst (-1), 1) := by decide +kernel
theorem dX12_wrongEntry_64 : decode cX12_wrongEntry 64 = .ok (.ireturn, 1) := by decide +kernel
theorem dX12_told_0 : decode cX12_told 0 = .ok (.iload_n 1, 1) := by decide +kernel
theorem dX12_told_1 : decode cX12_told 1 = .ok (.tableswitch 149 0 11 #[63, 70, 75, 80, 85, 90, 95, 119, 126, 134, 139, 144], 63) := by decide +kernel
theorem dX12_told_64 : decode cX12_told 64 = .ok (.aload_n 0, 1) := by decide +kernel
theorem dX12_told_65 : decode cX12_told 65 = .ok (.getfield 7, 3) := by decide +kernel
theorem dX12_told_68 : decode cX12_told 68 = .ok (.iconst 0, 1) := by decide +kernel
theorem dX12_told_69 : decode cX12_told 69 = .ok (.iaload, 1) := by decide +kernel
theorem dX12_told_70 : decode cX12_told 70 = .ok (.ireturn, 1) := by decide +kernel
theorem dX12_told_71 : decode cX12_told 71 = .ok (.aload_n 0, 1) := by decide +kernel
theorem dX12_told_72 : decode cX12_told 72 = .ok (.invokevirtual 156, 3) := by decide +kernel
theorem dX12_told_75 : decode cX12_told 75 = .ok (.ireturn, 1) := by decide +kernel
theorem dX12_told_76 : decode cX12_told 76 = .ok (.aload_n 0, 1) := by decide +kernel
theorem dX12_told_77 : decode cX12_told 77 = .ok (.invokevirtual 159, 3) := by decide +kernel
theorem dX12_told_80 : decode cX12_told 80 = .ok (.ireturn, 1) := by decide +kernel
theorem dX12_told_81 : decode cX12_told 81 = .ok (.aload_n 0, 1) := by decide +kernel
theorem dX12_told_82 : decode cX12_told 82 = .ok (.invokevirtual 162, 3) := by decide +kernel
theorem dX12_told_85 : decode cX12_told 85 = .ok (.ireturn, 1) := by decide +kernel
theorem dX12_told_86 : decode cX12_told 86 = .ok (.aload_n 0, 1) := by decide +kernel
theorem dX12_told_87 : decode cX12_told 87 = .ok (.invokevirtual 175, 3) := by decide +kernel
theorem dX12_told_90 : decode cX12_told 90 = .ok (.ireturn, 1) := by decide +kernel
theorem dX12_told_91 : decode cX12_told 91 = .ok (.aload_n 0, 1) := by decide +kernel
theorem dX12_told_92 : decode cX12_told 92 = .ok (.invokevirtual 178, 3) := by decide +kernel
theorem dX12_told_95 : decode cX12_told 95 = .ok (.ireturn, 1) := by decide +kernel
theorem dX12_told_96 : decode cX12_told 96 = .ok (.aload_n 0, 1) := by decide +kernel
theorem dX12_told_97 : decode cX12_told 97 = .ok (.invokevirtual 178, 3) := by decide +kernel
theorem dX12_told_100 : decode cX12_told 100 = .ok (.aload_n 0, 1) := by decide +kernel
theorem dX12_told_101 : decode cX12_told 101 = .ok (.invokevirtual 159, 3) := by decide +kernel
theorem dX12_told_104 : decode cX12_told 104 = .ok (.if_icmp .ne 14, 3) := by decide +kernel
theorem dX12_told_107 : decode cX12_told 107 = .ok (.aload_n 0, 1) := by decide +kernel
theorem dX12_told_108 : decode cX12_told 108 = .ok (.invokevirtual 175, 3) := by decide +kernel
theorem dX12_told_111 : decode cX12_told 111 = .ok (.ifCond .ne 7, 3) := by decide +kernel
theorem dX12_told_114 : decode cX12_told 114 = .ok (.iconst 1, 1) := by decide +kernel
theorem dX12_told_115 : decode cX12_told 115 = .ok (.goto 4, 3) := by decide +kernel
theorem dX12_told_118 : decode cX12_told 118 = .ok (.iconst 0, 1) := by decide +kernel
theorem dX12_told_119 : decode cX12_told 119 = .ok (.ireturn, 1) := by decide +kernel
theorem dX12_told_120 : decode cX12_told 120 = .ok (.aload_n 0, 1) := by decide +kernel
theorem dX12_told_121 : decode cX12_told 121 = .ok (.getfield 7, 3) := by decide +kernel
theorem dX12_told_124 : decode cX12_told 124 = .ok (.iconst 1, 1) := by decide +kernel
theorem dX12_told_125 : decode cX12_told 125 = .ok (.iaload, 1) := by decide +kernel
theorem dX12_told_126 : decode cX12_told 126 = .ok (.ireturn, 1) := by decide +kernel
theorem dX12_told_127 : decode cX12_told 127 = .ok (.aload_n 0, 1) := by decide +kernel
theorem dX12_told_128 : decode cX12_told 128 = .ok (.invokevirtual 181, 3) := by decide +kernel
theorem dX12_told_131 : decode cX12_told 131 = .ok (.bipush 100, 2) := by decide +kernel
theorem dX12_told_133 : decode cX12_told 133 = .ok (.iadd, 1) := by decide +kernel
theorem dX12_told_134 : decode cX12_told 134 = .ok (.ireturn, 1) := by decide +kernel
theorem dX12_told_135 : decode cX12_told 135 = .ok (.aload_n 0, 1) := by decide +kernel
theorem dX12_told_136 : decode cX12_told 136 = .ok (.getfield 165, 3) := by decide +kernel
theorem dX12_told_139 : decode cX12_told 139 = .ok (.ireturn, 1) := by decide +kernel
theorem dX12_told_140 : decode cX12_told 140 = .ok (.aload_n 0, 1) := by decide +kernel
theorem dX12_told_141 : decode cX12_told 141 = .ok (.invokevirtual 184, 3) := by decide +kernel
theorem dX12_told_144 : decode cX12_told 144 = .ok (.ireturn, 1) := by decide +kernel
theorem dX12_told_145 : decode cX12_told 145 = .ok (.aload_n 0, 1) := by decide +kernel
theorem dX12_told_146 : decode cX12_told 146 = .ok (.getfield 187, 3) := by decide +kernel
theorem dX12_told_149 : decode cX12_told 149 = .ok (.ireturn, 1) := by decide +kernel
theorem dX12_told_150 : decode cX12_told 150 = .ok (.ldc 190, 2) := by decide +kernel
theorem dX12_told_152 : decode cX12_told 152 = .ok (.ireturn, 1) := by decide +kernel
theorem dX12_wall_0 : decode cX12_wall 0 = .ok (.aload_n 0, 1) := by decide +kernel
theorem dX12_wall_1 : decode cX12_wall 1 = .ok (.iload_n 1, 1) := by decide +kernel
theorem dX12_wall_2 : decode cX12_wall 2 = .ok (.invokevirtual 191, 3) := by decide +kernel
theorem dX12_wall_5 : decode cX12_wall 5 = .ok (.ifCond .eq 10, 3) := by decide +kernel
theorem dX12_wall_8 : decode cX12_wall 8 = .ok (.iload_n 2, 1) := by decide +kernel
theorem dX12_wall_9 : decode cX12_wall 9 = .ok (.invokestatic 194, 3) := by decide +kernel
theorem dX12_wall_12 : decode cX12_wall 12 = .ok (.ifCond .ne 6, 3) := by decide +kernel
theorem dX12_wall_15 : decode cX12_wall 15 = .ok (.ldc 197, 2) := by decide +kernel
theorem dX12_wall_17 : decode cX12_wall 17 = .ok (.ireturn, 1) := by decide +kernel
theorem dX12_wall_18 : decode cX12_wall 18 = .ok (.iload_n 3, 1) := by decide +kernel
theorem dX12_wall_19 : decode cX12_wall 19 = .ok (.iconst 0, 1) := by decide +kernel
theorem dX12_wall_20 : decode cX12_wall 20 = .ok (.iconst 2, 1) := by decide +kernel
theorem dX12_wall_21 : decode cX12_wall 21 = .ok (.invokestatic 40, 3) := by decide +kernel
theorem dX12_wall_24 : decode cX12_wall 24 = .ok (.ifCond .ne 6, 3) := by decide +kernel
theorem dX12_wall_27 : decode cX12_wall 27 = .ok (.ldc 190, 2) := by decide +kernel
theorem dX12_wall_29 : decode cX12_wall 29 = .ok (.ireturn, 1) := by decide +kernel
theorem dX12_wall_30 : decode cX12_wall 30 = .ok (.iconst 4, 1) := by decide +kernel
theorem dX12_wall_31 : decode cX12_wall 31 = .ok (.iload_n 1, 1) := by decide +kernel
theorem dX12_wall_32 : decode cX12_wall 32 = .ok (.imul, 1) := by decide +kernel
theorem dX12_wall_33 : decode cX12_wall 33 = .ok (.iload_n 2, 1) := by decide +kernel
theorem dX12_wall_34 : decode cX12_wall 34 = .ok (.iadd, 1) := by decide +kernel
theorem dX12_wall_35 : decode cX12_wall 35 = .ok (.istore 4, 2) := by decide +kernel
theorem dX12_wall_37 : decode cX12_wall 37 = .ok (.aload_n 0, 1) := by decide +kernel
theorem dX12_wall_38 : decode cX12_wall 38 = .ok (.iload 4, 2) := by decide +kernel
theorem dX12_wall_40 : decode cX12_wall 40 = .ok (.invokevirtual 52, 3) := by decide +kernel
theorem dX12_wall_43 : decode cX12_wall 43 = .ok (.ifCond .eq 5, 3) := by decide +kernel
theorem dX12_wall_46 : decode cX12_wall 46 = .ok (.iconst (-1), 1) := by decide +kernel
theorem dX12_wall_47 : decode cX12_wall 47 = .ok (.ireturn, 1) := by decide +kernel
theorem dX12_wall_48 : decode cX12_wall 48 = .ok (.iload_n 3, 1) := by decide +kernel
theorem dX12_wall_49 : decode cX12_wall 49 = .ok (.ifCond .ne 17, 3) := by decide +kernel
theorem dX12_wall_52 : decode cX12_wall 52 = .ok (.aload_n 0, 1) := by decide +kernel
theorem dX12_wall_53 : decode cX12_wall 53 = .ok (.getfield 7, 3) := by decide +kernel
theorem dX12_wall_56 : decode cX12_wall 56 = .ok (.iconst 2, 1) := by decide +kernel
theorem dX12_wall_57 : decode cX12_wall 57 = .ok (.iload 4, 2) := by decide +kernel
theorem dX12_wall_59 : decode cX12_wall 59 = .ok (.iadd, 1) := by decide +kernel
theorem dX12_wall_60 : decode cX12_wall 60 = .ok (.iaload, 1) := by decide +kernel
theorem dX12_wall_61 : decode cX12_wall 61 = .ok (.iconst 4, 1) := by decide +kernel
theorem dX12_wall_62 : decode cX12_wall 62 = .ok (.idiv, 1) := by decide +kernel
theorem dX12_wall_63 : decode cX12_wall 63 = .ok (.goto 32, 3) := by decide +kernel
theorem dX12_wall_66 : decode cX12_wall 66 = .ok (.iload_n 3, 1) := by decide +kernel
theorem dX12_wall_67 : decode cX12_wall 67 = .ok (.iconst 1, 1) := by decide +kernel
theorem dX12_wall_68 : decode cX12_wall 68 = .ok (.if_icmp .ne 17, 3) := by decide +kernel
theorem dX12_wall_71 : decode cX12_wall 71 = .ok (.aload_n 0, 1) := by decide +kernel
theorem dX12_wall_72 : decode cX12_wall 72 = .ok (.getfield 7, 3) := by decide +kernel
theorem dX12_wall_75 : decode cX12_wall 75 = .ok (.iconst 2, 1) := by decide +kernel
theorem dX12_wall_76 : decode cX12_wall 76 = .ok (.iload 4, 2) := by decide +kernel
theorem dX12_wall_78 : decode cX12_wall 78 = .ok (.iadd, 1) := by decide +kernel
theorem dX12_wall_79 : decode cX12_wall 79 = .ok (.iaload, 1) := by decide +kernel
theorem dX12_wall_80 : decode cX12_wall 80 = .ok (.iconst 4, 1) := by decide +kernel
theorem dX12_wall_81 : decode cX12_wall 81 = .ok (.irem, 1) := by decide +kernel
theorem dX12_wall_82 : decode cX12_wall 82 = .ok (.goto 13, 3) := by decide +kernel
theorem dX12_wall_85 : decode cX12_wall 85 = .ok (.aload_n 0, 1) := by decide +kernel
theorem dX12_wall_86 : decode cX12_wall 86 = .ok (.getfield 7, 3) := by decide +kernel
theorem dX12_wall_89 : decode cX12_wall 89 = .ok (.bipush 14, 2) := by decide +kernel
theorem dX12_wall_91 : decode cX12_wall 91 = .ok (.iload 4, 2) := by decide +kernel
theorem dX12_wall_93 : decode cX12_wall 93 = .ok (.iadd, 1) := by decide +kernel
theorem dX12_wall_94 : decode cX12_wall 94 = .ok (.iaload, 1) := by decide +kernel
theorem dX12_wall_95 : decode cX12_wall 95 = .ok (.ireturn, 1) := by decide +kernel
theorem dX12_corner_0 : decode cX12_corner 0 = .ok (.aload_n 0, 1) := by decide +kernel
theorem dX12_corner_1 : decode cX12_corner 1 = .ok (.iload_n 1, 1) := by decide +kernel
theorem dX12_corner_2 : decode cX12_corner 2 = .ok (.invokevirtual 191, 3) := by decide +kernel
theorem dX12_corner_5 : decode cX12_corner 5 = .ok (.ifCond .eq 10, 3) := by decide +kernel
theorem dX12_corner_8 : decode cX12_corner 8 = .ok (.iload_n 2, 1) := by decide +kernel
theorem dX12_corner_9 : decode cX12_corner 9 = .ok (.invokestatic 194, 3) := by decide +kernel
theorem dX12_corner_12 : decode cX12_corner 12 = .ok (.ifCond .ne 6, 3) := by decide +kernel
theorem dX12_corner_15 : decode cX12_corner 15 = .ok (.ldc 197, 2) := by decide +kernel
theorem dX12_corner_17 : decode cX12_corner 17 = .ok (.ireturn, 1) := by decide +kernel
theorem dX12_corner_18 : decode cX12_corner 18 = .ok (.iload_n 3, 1) := by decide +kernel
theorem dX12_corner_19 : decode cX12_corner 19 = .ok (.iconst 0, 1) := by decide +kernel
theorem dX12_corner_20 : decode cX12_corner 20 = .ok (.iconst 4, 1) := by decide +kernel
theorem dX12_corner_21 : decode cX12_corner 21 = .ok (.invokestatic 40, 3) := by decide +kernel
theorem dX12_corner_24 : decode cX12_corner 24 = .ok (.ifCond .ne 6, 3) := by decide +kernel
theorem dX12_corner_27 : decode cX12_corner 27 = .ok (.ldc 190, 2) := by decide +kernel
theorem dX12_corner_29 : decode cX12_corner 29 = .ok (.ireturn, 1) := by decide +kernel
theorem dX12_corner_30 : decode cX12_corner 30 = .ok (.iload_n 3, 1) := by decide +kernel
theorem dX12_corner_31 : decode cX12_corner 31 = .ok (.ifCond .ne 25, 3) := by decide +kernel
theorem dX12_corner_34 : decode cX12_corner 34 = .ok (.aload_n 0, 1) := by decide +kernel
theorem dX12_corner_35 : decode cX12_corner 35 = .ok (.invokevirtual 96, 3) := by decide +kernel
theorem dX12_corner_38 : decode cX12_corner 38 = .ok (.aload_n 0, 1) := by decide +kernel
theorem dX12_corner_39 : decode cX12_corner 39 = .ok (.getfield 22, 3) := by decide +kernel
theorem dX12_corner_42 : decode cX12_corner 42 = .ok (.aload_n 0, 1) := by decide +kernel
theorem dX12_corner_43 : decode cX12_corner 43 = .ok (.getfield 22, 3) := by decide +kernel
theorem dX12_corner_46 : decode cX12_corner 46 = .ok (.iconst 4, 1) := by decide +kernel
theorem dX12_corner_47 : decode cX12_corner 47 = .ok (.iload_n 1, 1) := by decide +kernel
theorem dX12_corner_48 : decode cX12_corner 48 = .ok (.imul, 1) := by decide +kernel
theorem dX12_corner_49 : decode cX12_corner 49 = .ok (.iload_n 2, 1) := by decide +kernel
theorem dX12_corner_50 : decode cX12_corner 50 = .ok (.iadd, 1) := by decide +kernel
theorem dX12_corner_51 : decode cX12_corner 51 = .ok (.iaload, 1) := by decide +kernel
theorem dX12_corner_52 : decode cX12_corner 52 = .ok (.invokestatic 149, 3) := by decide +kernel
theorem dX12_corner_55 : decode cX12_corner 55 = .ok (.ireturn, 1) := by decide +kernel
theorem dX12_corner_56 : decode cX12_corner 56 = .ok (.iconst 4, 1) := by decide +kernel
theorem dX12_corner_57 : decode cX12_corner 57 = .ok (.iload_n 1, 1) := by decide +kernel
theorem dX12_corner_58 : decode cX12_corner 58 = .ok (.imul, 1) := by decide +kernel
theorem dX12_corner_59 : decode cX12_corner 59 = .ok (.iload_n 3, 1) := by decide +kernel
theorem dX12_corner_60 : decode cX12_corner 60 = .ok (.iadd, 1) := by decide +kernel
theorem dX12_corner_61 : decode cX12_corner 61 = .ok (.iconst 1, 1) := by decide +kernel
theorem dX12_corner_62 : decode cX12_corner 62 = .ok (.isub, 1) := by decide +kernel
theorem dX12_corner_63 : decode cX12_corner 63 = .ok (.istore 4, 2) := by decide +kernel
theorem dX12_corner_65 : decode cX12_corner 65 = .ok (.iload_n 2, 1) := by decide +kernel
theorem dX12_corner_66 : decode cX12_corner 66 = .ok (.iload_n 3, 1) := by decide +kernel
theorem dX12_corner_67 : decode cX12_corner 67 = .ok (.iconst 1, 1) := by decide +kernel
theorem dX12_corner_68 : decode cX12_corner 68 = .ok (.isub, 1) := by decide +kernel
theorem dX12_corner_69 : decode cX12_corner 69 = .ok (.if_icmp .eq 12, 3) := by decide +kernel
theorem dX12_corner_72 : decode cX12_corner 72 = .ok (.aload_n 0, 1) := by decide +kernel
theorem dX12_corner_73 : decode cX12_corner 73 = .ok (.iload 4, 2) := by decide +kernel
theorem dX12_corner_75 : decode cX12_corner 75 = .ok (.invokevirtual 52, 3) := by decide +kernel
theorem dX12_corner_78 : decode cX12_corner 78 = .ok (.ifCond .eq 7, 3) := by decide +kernel
theorem dX12_corner_81 : decode cX12_corner 81 = .ok (.iconst (-1), 1) := by decide +kernel
theorem dX12_corner_82 : decode cX12_corner 82 = .ok (.goto 10, 3) := by decide +kernel
theorem dX12_corner_85 : decode cX12_corner 85 = .ok (.aload_n 0, 1) := by decide +kernel
theorem dX12_corner_86 : decode cX12_corner 86 = .ok (.iload 4, 2) := by decide +kernel
theorem dX12_corner_88 : decode cX12_corner 88 = .ok (.iload_n 2, 1) := by decide +kernel
theorem dX12_corner_89 : decode cX12_corner 89 = .ok (.invokevirtual 60, 3) := by decide +kernel
theorem dX12_corner_92 : decode cX12_corner 92 = .ok (.ireturn, 1) := by decide +kernel
theorem dX12_edge_0 : decode cX12_edge 0 = .ok (.aload_n 0, 1) := by decide +kernel
theorem dX12_edge_1 : decode cX12_edge 1 = .ok (.iload_n 1, 1) := by decide +kernel
theorem dX12_edge_2 : decode cX12_edge 2 = .ok (.invokevirtual 191, 3) := by decide +kernel
theorem dX12_edge_5 : decode cX12_edge 5 = .ok (.ifCond .eq 12, 3) := by decide +kernel
theorem dX12_edge_8 : decode cX12_edge 8 = .ok (.iload_n 2, 1) := by decide +kernel
theorem dX12_edge_9 : decode cX12_edge 9 = .ok (.iconst 0, 1) := by decide +kernel
theorem dX12_edge_10 : decode cX12_edge 10 = .ok (.iconst 5, 1) := by decide +kernel
theorem dX12_edge_11 : decode cX12_edge 11 = .ok (.invokestatic 40, 3) := by decide +kernel
theorem dX12_edge_14 : decode cX12_edge 14 = .ok (.ifCond .ne 6, 3) := by decide +kernel
theorem dX12_edge_17 : decode cX12_edge 17 = .ok (.ldc 197, 2) := by decide +kernel
theorem dX12_edge_19 : decode cX12_edge 19 = .ok (.ireturn, 1) := by decide +kernel
theorem dX12_edge_20 : decode cX12_edge 20 = .ok (.aload_n 0, 1) := by decide +kernel
theorem dX12_edge_21 : decode cX12_edge 21 = .ok (.invokevirtual 96, 3) := by decide +kernel
theorem dX12_edge_24 : decode cX12_edge 24 = .ok (.bipush 6, 2) := by decide +kernel
theorem dX12_edge_26 : decode cX12_edge 26 = .ok (.iload_n 1, 1) := by decide +kernel
theorem dX12_edge_27 : decode cX12_edge 27 = .ok (.imul, 1) := by decide +kernel
theorem dX12_edge_28 : decode cX12_edge 28 = .ok (.iload_n 2, 1) := by decide +kernel
theorem dX12_edge_29 : decode cX12_edge 29 = .ok (.iadd, 1) := by decide +kernel
theorem dX12_edge_30 : decode cX12_edge 30 = .ok (.istore 4, 2) := by decide +kernel
theorem dX12_edge_32 : decode cX12_edge 32 = .ok (.iload_n 3, 1) := by decide +kernel
theorem dX12_edge_33 : decode cX12_edge 33 = .ok (.tableswitch 64 0 2 #[27, 42, 49], 27) := by decide +kernel
theorem dX12_edge_60 : decode cX12_edge 60 = .ok (.aload_n 0, 1) := by decide +kernel
theorem dX12_edge_61 : decode cX12_edge 61 = .ok (.getfield 25, 3) := by decide +kernel
theorem dX12_edge_64 : decode cX12_edge 64 = .ok (.aload_n 0, 1) := by decide +kernel
theorem dX12_edge_65 : decode cX12_edge 65 = .ok (.getfield 25, 3) := by decide +kernel
theorem dX12_edge_68 : decode cX12_edge 68 = .ok (.iload 4, 2) := by decide +kernel
theorem dX12_edge_70 : decode cX12_edge 70 = .ok (.iaload, 1) := by decide +kernel
theorem dX12_edge_71 : decode cX12_edge 71 = .ok (.invokestatic 149, 3) := by decide +kernel
theorem dX12_edge_74 : decode cX12_edge 74 = .ok (.ireturn, 1) := by decide +kernel
theorem dX12_edge_75 : decode cX12_edge 75 = .ok (.aload_n 0, 1) := by decide +kernel
theorem dX12_edge_76 : decode cX12_edge 76 = .ok (.iload 4, 2) := by decide +kernel
theorem dX12_edge_78 : decode cX12_edge 78 = .ok (.invokevirtual 198, 3) := by decide +kernel
theorem dX12_edge_81 : decode cX12_edge 81 = .ok (.ireturn, 1) := by decide +kernel
theorem dX12_edge_82 : decode cX12_edge 82 = .ok (.aload_n 0, 1) := by decide +kernel
theorem dX12_edge_83 : decode cX12_edge 83 = .ok (.iload 4, 2) := by decide +kernel
theorem dX12_edge_85 : decode cX12_edge 85 = .ok (.invokevirtual 74, 3) := by decide +kernel
theorem dX12_edge_88 : decode cX12_edge 88 = .ok (.ifCond .eq 7, 3) := by decide +kernel
theorem dX12_edge_91 : decode cX12_edge 91 = .ok (.iconst 1, 1) := by decide +kernel
theorem dX12_edge_92 : decode cX12_edge 92 = .ok (.goto 4, 3) := by decide +kernel
theorem dX12_edge_95 : decode cX12_edge 95 = .ok (.iconst 0, 1) := by decide +kernel
theorem dX12_edge_96 : decode cX12_edge 96 = .ok (.ireturn, 1) := by decide +kernel
theorem dX12_edge_97 : decode cX12_edge 97 = .ok (.ldc 190, 2) := by decide +kernel
theorem dX12_edge_99 : decode cX12_edge 99 = .ok (.ireturn, 1) := by decide +kernel
theorem dX12_pieces_0 : decode cX12_pieces 0 = .ok (.aload_n 0, 1) := by decide +kernel
theorem dX12_pieces_1 : decode cX12_pieces 1 = .ok (.iload_n 1, 1) := by decide +kernel
theorem dX12_pieces_2 : decode cX12_pieces 2 = .ok (.invokevirtual 172, 3) := by decide +kernel
theorem dX12_pieces_5 : decode cX12_pieces 5 = .ok (.ifCond .eq 11, 3) := by decide +kernel
theorem dX12_pieces_8 : decode cX12_pieces 8 = .ok (.aload_n 0, 1) := by decide +kernel
theorem dX12_pieces_9 : decode cX12_pieces 9 = .ok (.iload_n 2, 1) := by decide +kernel
theorem dX12_pieces_10 : decode cX12_pieces 10 = .ok (.invokevirtual 191, 3) := by decide +kernel
theorem dX12_pieces_13 : decode cX12_pieces 13 = .ok (.ifCond .ne 6, 3) := by decide +kernel
theorem dX12_pieces_16 : decode cX12_pieces 16 = .ok (.ldc 197, 2) := by decide +kernel
theorem dX12_pieces_18 : decode cX12_pieces 18 = .ok (.ireturn, 1) := by decide +kernel
theorem dX12_pieces_19 : decode cX12_pieces 19 = .ok (.iload_n 3, 1) := by decide +kernel
theorem dX12_pieces_20 : decode cX12_pieces 20 = .ok (.iconst 0, 1) := by decide +kernel
theorem dX12_pieces_21 : decode cX12_pieces 21 = .ok (.bipush 6, 2) := by decide +kernel
theorem dX12_pieces_23 : decode cX12_pieces 23 = .ok (.invokestatic 40, 3) := by decide +kernel
theorem dX12_pieces_26 : decode cX12_pieces 26 = .ok (.ifCond .eq 22, 3) := by decide +kernel
theorem dX12_pieces_29 : decode cX12_pieces 29 = .ok (.aload_n 0, 1) := by decide +kernel
theorem dX12_pieces_30 : decode cX12_pieces 30 = .ok (.getfield 7, 3) := by decide +kernel
theorem dX12_pieces_33 : decode cX12_pieces 33 = .ok (.iload_n 1, 1) := by decide +kernel
theorem dX12_pieces_34 : decode cX12_pieces 34 = .ok (.invokestatic 169, 3) := by decide +kernel
theorem dX12_pieces_37 : decode cX12_pieces 37 = .ok (.bipush 7, 2) := by decide +kernel
theorem dX12_pieces_39 : decode cX12_pieces 39 = .ok (.iload_n 2, 1) := by decide +kernel
theorem dX12_pieces_40 : decode cX12_pieces 40 = .ok (.imul, 1) := by decide +kernel
theorem dX12_pieces_41 : decode cX12_pieces 41 = .ok (.iadd, 1) := by decide +kernel
theorem dX12_pieces_42 : decode cX12_pieces 42 = .ok (.iload_n 3, 1) := by decide +kernel
theorem dX12_pieces_43 : decode cX12_pieces 43 = .ok (.iadd, 1) := by decide +kernel
theorem dX12_pieces_44 : decode cX12_pieces 44 = .ok (.iaload, 1) := by decide +kernel
theorem dX12_pieces_45 : decode cX12_pieces 45 = .ok (.goto 5, 3) := by decide +kernel
theorem dX12_pieces_48 : decode cX12_pieces 48 = .ok (.ldc 190, 2) := by decide +kernel
theorem dX12_pieces_50 : decode cX12_pieces 50 = .ok (.ireturn, 1) := by decide +kernel
theorem dX12_ofWell_0 : decode cX12_ofWell 0 = .ok (.aload_n 0, 1) := by decide +kernel
theorem dX12_ofWell_1 : decode cX12_ofWell 1 = .ok (.iload_n 1, 1) := by decide +kernel
theorem dX12_ofWell_2 : decode cX12_ofWell 2 = .ok (.invokevirtual 129, 3) := by decide +kernel
theorem dX12_ofWell_5 : decode cX12_ofWell 5 = .ok (.ifCond .ne 5, 3) := by decide +kernel
theorem dX12_ofWell_8 : decode cX12_ofWell 8 = .ok (.iconst (-1), 1) := by decide +kernel
theorem dX12_ofWell_9 : decode cX12_ofWell 9 = .ok (.ireturn, 1) := by decide +kernel
theorem dX12_ofWell_10 : decode cX12_ofWell 10 = .ok (.iload_n 2, 1) := by decide +kernel
theorem dX12_ofWell_11 : decode cX12_ofWell 11 = .ok (.tableswitch 48 3 5 #[25, 35, 42], 25) := by decide +kernel
theorem dX12_ofWell_36 : decode cX12_ofWell 36 = .ok (.aload_n 0, 1) := by decide +kernel
theorem dX12_ofWell_37 : decode cX12_ofWell 37 = .ok (.iload_n 1, 1) := by decide +kernel
theorem dX12_ofWell_38 : decode cX12_ofWell 38 = .ok (.invokevirtual 139, 3) := by decide +kernel
theorem dX12_ofWell_41 : decode cX12_ofWell 41 = .ok (.sipush 1000, 3) := by decide +kernel
theorem dX12_ofWell_44 : decode cX12_ofWell 44 = .ok (.iadd, 1) := by decide +kernel
theorem dX12_ofWell_45 : decode cX12_ofWell 45 = .ok (.ireturn, 1) := by decide +kernel
theorem dX12_ofWell_46 : decode cX12_ofWell 46 = .ok (.aload_n 0, 1) := by decide +kernel
theorem dX12_ofWell_47 : decode cX12_ofWell 47 = .ok (.iload_n 1, 1) := by decide +kernel
theorem dX12_ofWell_48 : decode cX12_ofWell 48 = .ok (.iconst 0, 1) := by decide +kernel
theorem dX12_ofWell_49 : decode cX12_ofWell 49 = .ok (.invokevirtual 132, 3) := by decide +kernel
theorem dX12_ofWell_52 : decode cX12_ofWell 52 = .ok (.ireturn, 1) := by decide +kernel
theorem dX12_ofWell_53 : decode cX12_ofWell 53 = .ok (.aload_n 0, 1) := by decide +kernel
theorem dX12_ofWell_54 : decode cX12_ofWell 54 = .ok (.iload_n 1, 1) := by decide +kernel
theorem dX12_ofWell_55 : decode cX12_ofWell 55 = .ok (.invokevirtual 136, 3) := by decide +kernel
theorem dX12_ofWell_58 : decode cX12_ofWell 58 = .ok (.ireturn, 1) := by decide +kernel
theorem dX12_ofWell_59 : decode cX12_ofWell 59 = .ok (.aload_n 0, 1) := by decide +kernel
theorem dX12_ofWell_60 : decode cX12_ofWell 60 = .ok (.iload_n 1, 1) := by decide +kernel
theorem dX12_ofWell_61 : decode cX12_ofWell 61 = .ok (.iconst 1, 1) := by decide +kernel
theorem dX12_ofWell_62 : decode cX12_ofWell 62 = .ok (.invokevirtual 132, 3) := by decide +kernel
theorem dX12_ofWell_65 : decode cX12_ofWell 65 = .ok (.ireturn, 1) := by decide +kernel
theorem dX12_surface_0 : decode cX12_surface 0 = .ok (.aload_n 0, 1) := by decide +kernel
theorem dX12_surface_1 : decode cX12_surface 1 = .ok (.iload_n 1, 1) := by decide +kernel
theorem dX12_surface_2 : decode cX12_surface 2 = .ok (.invokevirtual 172, 3) := by decide +kernel
theorem dX12_surface_5 : decode cX12_surface 5 = .ok (.ifCond .ne 6, 3) := by decide +kernel
theorem dX12_surface_8 : decode cX12_surface 8 = .ok (.ldc 197, 2) := by decide +kernel
theorem dX12_surface_10 : decode cX12_surface 10 = .ok (.ireturn, 1) := by decide +kernel
theorem dX12_surface_11 : decode cX12_surface 11 = .ok (.iload_n 1, 1) := by decide +kernel
theorem dX12_surface_12 : decode cX12_surface 12 = .ok (.invokestatic 169, 3) := by decide +kernel
theorem dX12_surface_15 : decode cX12_surface 15 = .ok (.istore_n 3, 1) := by decide +kernel
theorem dX12_surface_16 : decode cX12_surface 16 = .ok (.iload_n 2, 1) := by decide +kernel
theorem dX12_surface_17 : decode cX12_surface 17 = .ok (.tableswitch 104 0 8 #[51, 65, 79, 85, 85, 85, 85, 92, 98], 51) := by decide +kernel
theorem dX12_surface_68 : decode cX12_surface 68 = .ok (.aload_n 0, 1) := by decide +kernel
theorem dX12_surface_69 : decode cX12_surface 69 = .ok (.iload_n 3, 1) := by decide +kernel
theorem dX12_surface_70 : decode cX12_surface 70 = .ok (.invokevirtual 87, 3) := by decide +kernel
theorem dX12_surface_73 : decode cX12_surface 73 = .ok (.ifCond .eq 7, 3) := by decide +kernel
theorem dX12_surface_76 : decode cX12_surface 76 = .ok (.iconst 1, 1) := by decide +kernel
theorem dX12_surface_77 : decode cX12_surface 77 = .ok (.goto 4, 3) := by decide +kernel
theorem dX12_surface_80 : decode cX12_surface 80 = .ok (.iconst 0, 1) := by decide +kernel
theorem dX12_surface_81 : decode cX12_surface 81 = .ok (.ireturn, 1) := by decide +kernel
theorem dX12_surface_82 : decode cX12_surface 82 = .ok (.aload_n 0, 1) := by decide +kernel
theorem dX12_surface_83 : decode cX12_surface 83 = .ok (.iload_n 3, 1) := by decide +kernel
theorem dX12_surface_84 : decode cX12_surface 84 = .ok (.invokevirtual 90, 3) := by decide +kernel
theorem dX12_surface_87 : decode cX12_surface 87 = .ok (.ifCond .eq 7, 3) := by decide +kernel
theorem dX12_surface_90 : decode cX12_surface 90 = .ok (.iconst 1, 1) := by decide +kernel
theorem dX12_surface_91 : decode cX12_surface 91 = .ok (.goto 4, 3) := by decide +kernel
theorem dX12_surface_94 : decode cX12_surface 94 = .ok (.iconst 0, 1) := by decide +kernel
theorem dX12_surface_95 : decode cX12_surface 95 = .ok (.ireturn, 1) := by decide +kernel
theorem dX12_surface_96 : decode cX12_surface 96 = .ok (.aload_n 0, 1) := by decide +kernel
theorem dX12_surface_97 : decode cX12_surface 97 = .ok (.iload_n 3, 1) := by decide +kernel
theorem dX12_surface_98 : decode cX12_surface 98 = .ok (.invokevirtual 99, 3) := by decide +kernel
theorem dX12_surface_101 : decode cX12_surface 101 = .ok (.ireturn, 1) := by decide +kernel
theorem dX12_surface_102 : decode cX12_surface 102 = .ok (.aload_n 0, 1) := by decide +kernel
theorem dX12_surface_103 : decode cX12_surface 103 = .ok (.iload_n 3, 1) := by decide +kernel
theorem dX12_surface_104 : decode cX12_surface 104 = .ok (.iload_n 2, 1) := by decide +kernel
theorem dX12_surface_105 : decode cX12_surface 105 = .ok (.invokevirtual 201, 3) := by decide +kernel
theorem dX12_surface_108 : decode cX12_surface 108 = .ok (.ireturn, 1) := by decide +kernel
theorem dX12_surface_109 : decode cX12_surface 109 = .ok (.aload_n 0, 1) := by decide +kernel
theorem dX12_surface_110 : decode cX12_surface 110 = .ok (.iload_n 3, 1) := by decide +kernel
theorem dX12_surface_111 : decode cX12_surface 111 = .ok (.invokevirtual 204, 3) := by decide +kernel
theorem dX12_surface_114 : decode cX12_surface 114 = .ok (.ireturn, 1) := by decide +kernel
theorem dX12_surface_115 : decode cX12_surface 115 = .ok (.aload_n 0, 1) := by decide +kernel
theorem dX12_surface_116 : decode cX12_surface 116 = .ok (.iload_n 3, 1) := by decide +kernel
theorem dX12_surface_117 : decode cX12_surface 117 = .ok (.invokevirtual 207, 3) := by decide +kernel
theorem dX12_surface_120 : decode cX12_surface 120 = .ok (.ireturn, 1) := by decide +kernel
theorem dX12_surface_121 : decode cX12_surface 121 = .ok (.ldc 190, 2) := by decide +kernel
theorem dX12_surface_123 : decode cX12_surface 123 = .ok (.ireturn, 1) := by decide +kernel
theorem dX12_weight_0 : decode cX12_weight 0 = .ok (.aload_n 0, 1) := by decide +kernel
theorem dX12_weight_1 : decode cX12_weight 1 = .ok (.iload_n 1, 1) := by decide +kernel
theorem dX12_weight_2 : decode cX12_weight 2 = .ok (.invokevirtual 172, 3) := by decide +kernel
theorem dX12_weight_5 : decode cX12_weight 5 = .ok (.ifCond .eq 24, 3) := by decide +kernel
theorem dX12_weight_8 : decode cX12_weight 8 = .ok (.aload_n 0, 1) := by decide +kernel
theorem dX12_weight_9 : decode cX12_weight 9 = .ok (.iload_n 2, 1) := by decide +kernel
theorem dX12_weight_10 : decode cX12_weight 10 = .ok (.invokevirtual 191, 3) := by decide +kernel
theorem dX12_weight_13 : decode cX12_weight 13 = .ok (.ifCond .eq 16, 3) := by decide +kernel
theorem dX12_weight_16 : decode cX12_weight 16 = .ok (.iload_n 3, 1) := by decide +kernel
theorem dX12_weight_17 : decode cX12_weight 17 = .ok (.iconst 0, 1) := by decide +kernel
theorem dX12_weight_18 : decode cX12_weight 18 = .ok (.iconst 5, 1) := by decide +kernel
theorem dX12_weight_19 : decode cX12_weight 19 = .ok (.invokestatic 40, 3) := by decide +kernel
theorem dX12_weight_22 : decode cX12_weight 22 = .ok (.ifCond .eq 7, 3) := by decide +kernel
theorem dX12_weight_25 : decode cX12_weight 25 = .ok (.iconst 1, 1) := by decide +kernel
theorem dX12_weight_26 : decode cX12_weight 26 = .ok (.goto 4, 3) := by decide +kernel
theorem dX12_weight_29 : decode cX12_weight 29 = .ok (.iconst 0, 1) := by decide +kernel
theorem dX12_weight_30 : decode cX12_weight 30 = .ok (.istore 4, 2) := by decide +kernel
theorem dX12_weight_32 : decode cX12_weight 32 = .ok (.iload 4, 2) := by decide +kernel
theorem dX12_weight_34 : decode cX12_weight 34 = .ok (.ifCond .eq 16, 3) := by decide +kernel
theorem dX12_weight_37 : decode cX12_weight 37 = .ok (.aload_n 0, 1) := by decide +kernel
theorem dX12_weight_38 : decode cX12_weight 38 = .ok (.iload_n 1, 1) := by decide +kernel
theorem dX12_weight_39 : decode cX12_weight 39 = .ok (.invokestatic 169, 3) := by decide +kernel
theorem dX12_weight_42 : decode cX12_weight 42 = .ok (.iload_n 2, 1) := by decide +kernel
theorem dX12_weight_43 : decode cX12_weight 43 = .ok (.iload_n 3, 1) := by decide +kernel
theorem dX12_weight_44 : decode cX12_weight 44 = .ok (.invokevirtual 102, 3) := by decide +kernel
theorem dX12_weight_47 : decode cX12_weight 47 = .ok (.goto 5, 3) := by decide +kernel
theorem dX12_weight_50 : decode cX12_weight 50 = .ok (.ldc 197, 2) := by decide +kernel
theorem dX12_weight_52 : decode cX12_weight 52 = .ok (.ireturn, 1) := by decide +kernel
theorem dX12_arcs_0 : decode cX12_arcs 0 = .ok (.aload_n 0, 1) := by decide +kernel
theorem dX12_arcs_1 : decode cX12_arcs 1 = .ok (.iload_n 1, 1) := by decide +kernel
theorem dX12_arcs_2 : decode cX12_arcs 2 = .ok (.invokevirtual 172, 3) := by decide +kernel
theorem dX12_arcs_5 : decode cX12_arcs 5 = .ok (.ifCond .eq 36, 3) := by decide +kernel
theorem dX12_arcs_8 : decode cX12_arcs 8 = .ok (.aload_n 0, 1) := by decide +kernel
theorem dX12_arcs_9 : decode cX12_arcs 9 = .ok (.iload_n 2, 1) := by decide +kernel
theorem dX12_arcs_10 : decode cX12_arcs 10 = .ok (.invokevirtual 191, 3) := by decide +kernel
theorem dX12_arcs_13 : decode cX12_arcs 13 = .ok (.ifCond .eq 28, 3) := by decide +kernel
theorem dX12_arcs_16 : decode cX12_arcs 16 = .ok (.iload_n 3, 1) := by decide +kernel
theorem dX12_arcs_17 : decode cX12_arcs 17 = .ok (.invokestatic 194, 3) := by decide +kernel
theorem dX12_arcs_20 : decode cX12_arcs 20 = .ok (.ifCond .eq 21, 3) := by decide +kernel
theorem dX12_arcs_23 : decode cX12_arcs 23 = .ok (.iload 4, 2) := by decide +kernel
theorem dX12_arcs_25 : decode cX12_arcs 25 = .ok (.invokestatic 194, 3) := by decide +kernel
theorem dX12_arcs_28 : decode cX12_arcs 28 = .ok (.ifCond .eq 13, 3) := by decide +kernel
theorem dX12_arcs_31 : decode cX12_arcs 31 = .ok (.iload_n 3, 1) := by decide +kernel
theorem dX12_arcs_32 : decode cX12_arcs 32 = .ok (.iload 4, 2) := by decide +kernel
theorem dX12_arcs_34 : decode cX12_arcs 34 = .ok (.if_icmp .eq 7, 3) := by decide +kernel
