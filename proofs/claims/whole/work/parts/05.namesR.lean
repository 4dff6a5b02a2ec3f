theorem dX8_init_0 : decode cX8_init 0 = .ok (.aload_n 0, 1) := by decide +kernel
theorem dX8_init_1 : decode cX8_init 1 = .ok (.invokespecial 1, 3) := by decide +kernel
theorem dX8_init_4 : decode cX8_init 4 = .ok (.aload_n 0, 1) := by decide +kernel
theorem dX8_init_5 : decode cX8_init 5 = .ok (.bipush 17, 2) := by decide +kernel
theorem dX8_init_7 : decode cX8_init 7 = .ok (.newarray .int, 2) := by decide +kernel
theorem dX8_init_9 : decode cX8_init 9 = .ok (.putfield 7, 3) := by decide +kernel
theorem dX8_init_12 : decode cX8_init 12 = .ok (.aload_n 0, 1) := by decide +kernel
theorem dX8_init_13 : decode cX8_init 13 = .ok (.bipush 17, 2) := by decide +kernel
theorem dX8_init_15 : decode cX8_init 15 = .ok (.newarray .int, 2) := by decide +kernel
theorem dX8_init_17 : decode cX8_init 17 = .ok (.putfield 13, 3) := by decide +kernel
theorem dX8_init_20 : decode cX8_init 20 = .ok (.aload_n 0, 1) := by decide +kernel
theorem dX8_init_21 : decode cX8_init 21 = .ok (.bipush 17, 2) := by decide +kernel
theorem dX8_init_23 : decode cX8_init 23 = .ok (.newarray .int, 2) := by decide +kernel
theorem dX8_init_25 : decode cX8_init 25 = .ok (.putfield 16, 3) := by decide +kernel
theorem dX8_init_28 : decode cX8_init 28 = .ok (.aload_n 0, 1) := by decide +kernel
theorem dX8_init_29 : decode cX8_init 29 = .ok (.bipush 41, 2) := by decide +kernel
theorem dX8_init_31 : decode cX8_init 31 = .ok (.newarray .int, 2) := by decide +kernel
theorem dX8_init_33 : decode cX8_init 33 = .ok (.putfield 19, 3) := by decide +kernel
theorem dX8_init_36 : decode cX8_init 36 = .ok (.aload_n 0, 1) := by decide +kernel
theorem dX8_init_37 : decode cX8_init 37 = .ok (.bipush 41, 2) := by decide +kernel
theorem dX8_init_39 : decode cX8_init 39 = .ok (.newarray .int, 2) := by decide +kernel
theorem dX8_init_41 : decode cX8_init 41 = .ok (.putfield 22, 3) := by decide +kernel
theorem dX8_init_44 : decode cX8_init 44 = .ok (.aload_n 0, 1) := by decide +kernel
theorem dX8_init_45 : decode cX8_init 45 = .ok (.bipush 41, 2) := by decide +kernel
theorem dX8_init_47 : decode cX8_init 47 = .ok (.newarray .int, 2) := by decide +kernel
theorem dX8_init_49 : decode cX8_init 49 = .ok (.putfield 25, 3) := by decide +kernel
theorem dX8_init_52 : decode cX8_init 52 = .ok (.aload_n 0, 1) := by decide +kernel
theorem dX8_init_53 : decode cX8_init 53 = .ok (.ldc 28, 2) := by decide +kernel
theorem dX8_init_55 : decode cX8_init 55 = .ok (.newarray .byte, 2) := by decide +kernel
theorem dX8_init_57 : decode cX8_init 57 = .ok (.putfield 29, 3) := by decide +kernel
theorem dX8_init_60 : decode cX8_init 60 = .ok (.aload_n 0, 1) := by decide +kernel
theorem dX8_init_61 : decode cX8_init 61 = .ok (.ldc 28, 2) := by decide +kernel
theorem dX8_init_63 : decode cX8_init 63 = .ok (.newarray .byte, 2) := by decide +kernel
theorem dX8_init_65 : decode cX8_init 65 = .ok (.putfield 33, 3) := by decide +kernel
theorem dX8_init_68 : decode cX8_init 68 = .ok (.aload_n 0, 1) := by decide +kernel
theorem dX8_init_69 : decode cX8_init 69 = .ok (.bipush 41, 2) := by decide +kernel
theorem dX8_init_71 : decode cX8_init 71 = .ok (.newarray .int, 2) := by decide +kernel
theorem dX8_init_73 : decode cX8_init 73 = .ok (.putfield 36, 3) := by decide +kernel
theorem dX8_init_76 : decode cX8_init 76 = .ok (.aload_n 0, 1) := by decide +kernel
theorem dX8_init_77 : decode cX8_init 77 = .ok (.bipush 41, 2) := by decide +kernel
theorem dX8_init_79 : decode cX8_init 79 = .ok (.newarray .int, 2) := by decide +kernel
theorem dX8_init_81 : decode cX8_init 81 = .ok (.putfield 39, 3) := by decide +kernel
theorem dX8_init_84 : decode cX8_init 84 = .ok (.aload_n 0, 1) := by decide +kernel
theorem dX8_init_85 : decode cX8_init 85 = .ok (.sipush 2091, 3) := by decide +kernel
theorem dX8_init_88 : decode cX8_init 88 = .ok (.newarray .int, 2) := by decide +kernel
theorem dX8_init_90 : decode cX8_init 90 = .ok (.putfield 42, 3) := by decide +kernel
theorem dX8_init_93 : decode cX8_init 93 = .ok (.aload_n 0, 1) := by decide +kernel
theorem dX8_init_94 : decode cX8_init 94 = .ok (.bipush 51, 2) := by decide +kernel
theorem dX8_init_96 : decode cX8_init 96 = .ok (.newarray .int, 2) := by decide +kernel
theorem dX8_init_98 : decode cX8_init 98 = .ok (.putfield 45, 3) := by decide +kernel
theorem dX8_init_101 : decode cX8_init 101 = .ok (.aload_n 0, 1) := by decide +kernel
theorem dX8_init_102 : decode cX8_init 102 = .ok (.bipush 31, 2) := by decide +kernel
theorem dX8_init_104 : decode cX8_init 104 = .ok (.newarray .long, 2) := by decide +kernel
theorem dX8_init_106 : decode cX8_init 106 = .ok (.putfield 48, 3) := by decide +kernel
theorem dX8_init_109 : decode cX8_init 109 = .ok (.aload_n 0, 1) := by decide +kernel
theorem dX8_init_110 : decode cX8_init 110 = .ok (.sipush 961, 3) := by decide +kernel
theorem dX8_init_113 : decode cX8_init 113 = .ok (.newarray .boolean, 2) := by decide +kernel
theorem dX8_init_115 : decode cX8_init 115 = .ok (.putfield 52, 3) := by decide +kernel
theorem dX8_init_118 : decode cX8_init 118 = .ok (.aload_n 0, 1) := by decide +kernel
theorem dX8_init_119 : decode cX8_init 119 = .ok (.bipush 31, 2) := by decide +kernel
theorem dX8_init_121 : decode cX8_init 121 = .ok (.newarray .long, 2) := by decide +kernel
theorem dX8_init_123 : decode cX8_init 123 = .ok (.putfield 56, 3) := by decide +kernel
theorem dX8_init_126 : decode cX8_init 126 = .ok (.aload_n 0, 1) := by decide +kernel
theorem dX8_init_127 : decode cX8_init 127 = .ok (.bipush 21, 2) := by decide +kernel
theorem dX8_init_129 : decode cX8_init 129 = .ok (.newarray .int, 2) := by decide +kernel
theorem dX8_init_131 : decode cX8_init 131 = .ok (.putfield 59, 3) := by decide +kernel
theorem dX8_init_134 : decode cX8_init 134 = .ok (.aload_n 0, 1) := by decide +kernel
theorem dX8_init_135 : decode cX8_init 135 = .ok (.sipush 1344, 3) := by decide +kernel
theorem dX8_init_138 : decode cX8_init 138 = .ok (.newarray .byte, 2) := by decide +kernel
theorem dX8_init_140 : decode cX8_init 140 = .ok (.putfield 62, 3) := by decide +kernel
theorem dX8_init_143 : decode cX8_init 143 = .ok (.aload_n 0, 1) := by decide +kernel
theorem dX8_init_144 : decode cX8_init 144 = .ok (.bipush 42, 2) := by decide +kernel
theorem dX8_init_146 : decode cX8_init 146 = .ok (.newarray .int, 2) := by decide +kernel
theorem dX8_init_148 : decode cX8_init 148 = .ok (.putfield 65, 3) := by decide +kernel
theorem dX8_init_151 : decode cX8_init 151 = .ok (.aload_n 0, 1) := by decide +kernel
theorem dX8_init_152 : decode cX8_init 152 = .ok (.lload_n 1, 1) := by decide +kernel
theorem dX8_init_153 : decode cX8_init 153 = .ok (.lconst 1, 1) := by decide +kernel
theorem dX8_init_154 : decode cX8_init 154 = .ok (.lcmp, 1) := by decide +kernel
theorem dX8_init_155 : decode cX8_init 155 = .ok (.ifCond .lt 16, 3) := by decide +kernel
theorem dX8_init_158 : decode cX8_init 158 = .ok (.lload_n 1, 1) := by decide +kernel
theorem dX8_init_159 : decode cX8_init 159 = .ok (.ldc2_w 68, 3) := by decide +kernel
theorem dX8_init_162 : decode cX8_init 162 = .ok (.lcmp, 1) := by decide +kernel
theorem dX8_init_163 : decode cX8_init 163 = .ok (.ifCond .gt 8, 3) := by decide +kernel
theorem dX8_init_166 : decode cX8_init 166 = .ok (.lload_n 1, 1) := by decide +kernel
theorem dX8_init_167 : decode cX8_init 167 = .ok (.l2i, 1) := by decide +kernel
theorem dX8_init_168 : decode cX8_init 168 = .ok (.goto 6, 3) := by decide +kernel
theorem dX8_init_171 : decode cX8_init 171 = .ok (.sipush 4096, 3) := by decide +kernel
theorem dX8_init_174 : decode cX8_init 174 = .ok (.putfield 70, 3) := by decide +kernel
theorem dX8_init_177 : decode cX8_init 177 = .ok (.iconst 0, 1) := by decide +kernel
theorem dX8_init_178 : decode cX8_init 178 = .ok (.istore_n 3, 1) := by decide +kernel
theorem dX8_init_179 : decode cX8_init 179 = .ok (.iload_n 3, 1) := by decide +kernel
theorem dX8_init_180 : decode cX8_init 180 = .ok (.ldc 28, 2) := by decide +kernel
theorem dX8_init_182 : decode cX8_init 182 = .ok (.if_icmp .ge 16, 3) := by decide +kernel
theorem dX8_init_185 : decode cX8_init 185 = .ok (.aload_n 0, 1) := by decide +kernel
theorem dX8_init_186 : decode cX8_init 186 = .ok (.getfield 33, 3) := by decide +kernel
theorem dX8_init_189 : decode cX8_init 189 = .ok (.iload_n 3, 1) := by decide +kernel
theorem dX8_init_190 : decode cX8_init 190 = .ok (.iconst (-1), 1) := by decide +kernel
theorem dX8_init_191 : decode cX8_init 191 = .ok (.bastore, 1) := by decide +kernel
theorem dX8_init_192 : decode cX8_init 192 = .ok (.iinc 3 1, 3) := by decide +kernel
theorem dX8_init_195 : decode cX8_init 195 = .ok (.goto (-16), 3) := by decide +kernel
theorem dX8_init_198 : decode cX8_init 198 = .ok (.return_, 1) := by decide +kernel
theorem dX8_thrown_0 : decode cX8_thrown 0 = .ok (.aload_n 0, 1) := by decide +kernel
theorem dX8_thrown_1 : decode cX8_thrown 1 = .ok (.getfield 74, 3) := by decide +kernel
theorem dX8_thrown_4 : decode cX8_thrown 4 = .ok (.ireturn, 1) := by decide +kernel
theorem dX8_region_0 : decode cX8_region 0 = .ok (.aload_n 0, 1) := by decide +kernel
theorem dX8_region_1 : decode cX8_region 1 = .ok (.iconst 0, 1) := by decide +kernel
theorem dX8_region_2 : decode cX8_region 2 = .ok (.putfield 74, 3) := by decide +kernel
theorem dX8_region_5 : decode cX8_region 5 = .ok (.lload_n 3, 1) := by decide +kernel
theorem dX8_region_6 : decode cX8_region 6 = .ok (.lconst 1, 1) := by decide +kernel
theorem dX8_region_7 : decode cX8_region 7 = .ok (.lcmp, 1) := by decide +kernel
theorem dX8_region_8 : decode cX8_region 8 = .ok (.ifCond .lt 43, 3) := by decide +kernel
theorem dX8_region_11 : decode cX8_region 11 = .ok (.lload_n 3, 1) := by decide +kernel
theorem dX8_region_12 : decode cX8_region 12 = .ok (.aload_n 0, 1) := by decide +kernel
theorem dX8_region_13 : decode cX8_region 13 = .ok (.getfield 70, 3) := by decide +kernel
theorem dX8_region_16 : decode cX8_region 16 = .ok (.i2l, 1) := by decide +kernel
theorem dX8_region_17 : decode cX8_region 17 = .ok (.lcmp, 1) := by decide +kernel
theorem dX8_region_18 : decode cX8_region 18 = .ok (.ifCond .gt 33, 3) := by decide +kernel
theorem dX8_region_21 : decode cX8_region 21 = .ok (.lload_n 1, 1) := by decide +kernel
theorem dX8_region_22 : decode cX8_region 22 = .ok (.lconst 0, 1) := by decide +kernel
theorem dX8_region_23 : decode cX8_region 23 = .ok (.lcmp, 1) := by decide +kernel
theorem dX8_region_24 : decode cX8_region 24 = .ok (.ifCond .lt 27, 3) := by decide +kernel
theorem dX8_region_27 : decode cX8_region 27 = .ok (.lload_n 1, 1) := by decide +kernel
theorem dX8_region_28 : decode cX8_region 28 = .ok (.aload_n 0, 1) := by decide +kernel
theorem dX8_region_29 : decode cX8_region 29 = .ok (.getfield 70, 3) := by decide +kernel
theorem dX8_region_32 : decode cX8_region 32 = .ok (.i2l, 1) := by decide +kernel
theorem dX8_region_33 : decode cX8_region 33 = .ok (.lload_n 3, 1) := by decide +kernel
theorem dX8_region_34 : decode cX8_region 34 = .ok (.lsub, 1) := by decide +kernel
theorem dX8_region_35 : decode cX8_region 35 = .ok (.lcmp, 1) := by decide +kernel
theorem dX8_region_36 : decode cX8_region 36 = .ok (.ifCond .gt 15, 3) := by decide +kernel
theorem dX8_region_39 : decode cX8_region 39 = .ok (.iload 5, 2) := by decide +kernel
theorem dX8_region_41 : decode cX8_region 41 = .ok (.ifCond .lt 10, 3) := by decide +kernel
theorem dX8_region_44 : decode cX8_region 44 = .ok (.iload 5, 2) := by decide +kernel
theorem dX8_region_46 : decode cX8_region 46 = .ok (.bipush 7, 2) := by decide +kernel
theorem dX8_region_48 : decode cX8_region 48 = .ok (.if_icmp .le 6, 3) := by decide +kernel
theorem dX8_region_51 : decode cX8_region 51 = .ok (.bipush (-2), 2) := by decide +kernel
theorem dX8_region_53 : decode cX8_region 53 = .ok (.ireturn, 1) := by decide +kernel
theorem dX8_region_54 : decode cX8_region 54 = .ok (.iconst 1, 1) := by decide +kernel
theorem dX8_region_55 : decode cX8_region 55 = .ok (.istore 6, 2) := by decide +kernel
theorem dX8_region_57 : decode cX8_region 57 = .ok (.iload 6, 2) := by decide +kernel
theorem dX8_region_59 : decode cX8_region 59 = .ok (.aload_n 0, 1) := by decide +kernel
theorem dX8_region_60 : decode cX8_region 60 = .ok (.getfield 77, 3) := by decide +kernel
theorem dX8_region_63 : decode cX8_region 63 = .ok (.if_icmp .gt 40, 3) := by decide +kernel
theorem dX8_region_66 : decode cX8_region 66 = .ok (.lload_n 1, 1) := by decide +kernel
theorem dX8_region_67 : decode cX8_region 67 = .ok (.aload_n 0, 1) := by decide +kernel
theorem dX8_region_68 : decode cX8_region 68 = .ok (.getfield 13, 3) := by decide +kernel
theorem dX8_region_71 : decode cX8_region 71 = .ok (.iload 6, 2) := by decide +kernel
theorem dX8_region_73 : decode cX8_region 73 = .ok (.iaload, 1) := by decide +kernel
theorem dX8_region_74 : decode cX8_region 74 = .ok (.i2l, 1) := by decide +kernel
theorem dX8_region_75 : decode cX8_region 75 = .ok (.lcmp, 1) := by decide +kernel
theorem dX8_region_76 : decode cX8_region 76 = .ok (.ifCond .ge 21, 3) := by decide +kernel
theorem dX8_region_79 : decode cX8_region 79 = .ok (.lload_n 1, 1) := by decide +kernel
theorem dX8_region_80 : decode cX8_region 80 = .ok (.lload_n 3, 1) := by decide +kernel
theorem dX8_region_81 : decode cX8_region 81 = .ok (.ladd, 1) := by decide +kernel
theorem dX8_region_82 : decode cX8_region 82 = .ok (.aload_n 0, 1) := by decide +kernel
theorem dX8_region_83 : decode cX8_region 83 = .ok (.getfield 7, 3) := by decide +kernel
theorem dX8_region_86 : decode cX8_region 86 = .ok (.iload 6, 2) := by decide +kernel
theorem dX8_region_88 : decode cX8_region 88 = .ok (.iaload, 1) := by decide +kernel
theorem dX8_region_89 : decode cX8_region 89 = .ok (.i2l, 1) := by decide +kernel
theorem dX8_region_90 : decode cX8_region 90 = .ok (.lcmp, 1) := by decide +kernel
theorem dX8_region_91 : decode cX8_region 91 = .ok (.ifCond .le 6, 3) := by decide +kernel
theorem dX8_region_94 : decode cX8_region 94 = .ok (.bipush (-3), 2) := by decide +kernel
theorem dX8_region_96 : decode cX8_region 96 = .ok (.ireturn, 1) := by decide +kernel
theorem dX8_region_97 : decode cX8_region 97 = .ok (.iinc 6 1, 3) := by decide +kernel
theorem dX8_region_100 : decode cX8_region 100 = .ok (.goto (-43), 3) := by decide +kernel
theorem dX8_region_103 : decode cX8_region 103 = .ok (.aload_n 0, 1) := by decide +kernel
theorem dX8_region_104 : decode cX8_region 104 = .ok (.getfield 77, 3) := by decide +kernel
theorem dX8_region_107 : decode cX8_region 107 = .ok (.bipush 16, 2) := by decide +kernel
theorem dX8_region_109 : decode cX8_region 109 = .ok (.if_icmp .ne 6, 3) := by decide +kernel
theorem dX8_region_112 : decode cX8_region 112 = .ok (.bipush (-4), 2) := by decide +kernel
theorem dX8_region_114 : decode cX8_region 114 = .ok (.ireturn, 1) := by decide +kernel
theorem dX8_region_115 : decode cX8_region 115 = .ok (.aload_n 0, 1) := by decide +kernel
theorem dX8_region_116 : decode cX8_region 116 = .ok (.dup, 1) := by decide +kernel
theorem dX8_region_117 : decode cX8_region 117 = .ok (.getfield 77, 3) := by decide +kernel
theorem dX8_region_120 : decode cX8_region 120 = .ok (.iconst 1, 1) := by decide +kernel
theorem dX8_region_121 : decode cX8_region 121 = .ok (.iadd, 1) := by decide +kernel
theorem dX8_region_122 : decode cX8_region 122 = .ok (.putfield 77, 3) := by decide +kernel
theorem dX8_region_125 : decode cX8_region 125 = .ok (.aload_n 0, 1) := by decide +kernel
theorem dX8_region_126 : decode cX8_region 126 = .ok (.getfield 7, 3) := by decide +kernel
theorem dX8_region_129 : decode cX8_region 129 = .ok (.aload_n 0, 1) := by decide +kernel
theorem dX8_region_130 : decode cX8_region 130 = .ok (.getfield 77, 3) := by decide +kernel
theorem dX8_region_133 : decode cX8_region 133 = .ok (.lload_n 1, 1) := by decide +kernel
theorem dX8_region_134 : decode cX8_region 134 = .ok (.l2i, 1) := by decide +kernel
theorem dX8_region_135 : decode cX8_region 135 = .ok (.iastore, 1) := by decide +kernel
theorem dX8_region_136 : decode cX8_region 136 = .ok (.aload_n 0, 1) := by decide +kernel
theorem dX8_region_137 : decode cX8_region 137 = .ok (.getfield 13, 3) := by decide +kernel
theorem dX8_region_140 : decode cX8_region 140 = .ok (.aload_n 0, 1) := by decide +kernel
theorem dX8_region_141 : decode cX8_region 141 = .ok (.getfield 77, 3) := by decide +kernel
theorem dX8_region_144 : decode cX8_region 144 = .ok (.lload_n 1, 1) := by decide +kernel
theorem dX8_region_145 : decode cX8_region 145 = .ok (.lload_n 3, 1) := by decide +kernel
theorem dX8_region_146 : decode cX8_region 146 = .ok (.ladd, 1) := by decide +kernel
theorem dX8_region_147 : decode cX8_region 147 = .ok (.l2i, 1) := by decide +kernel
theorem dX8_region_148 : decode cX8_region 148 = .ok (.iastore, 1) := by decide +kernel
theorem dX8_region_149 : decode cX8_region 149 = .ok (.aload_n 0, 1) := by decide +kernel
theorem dX8_region_150 : decode cX8_region 150 = .ok (.getfield 16, 3) := by decide +kernel
theorem dX8_region_153 : decode cX8_region 153 = .ok (.aload_n 0, 1) := by decide +kernel
theorem dX8_region_154 : decode cX8_region 154 = .ok (.getfield 77, 3) := by decide +kernel
theorem dX8_region_157 : decode cX8_region 157 = .ok (.iload 5, 2) := by decide +kernel
theorem dX8_region_159 : decode cX8_region 159 = .ok (.iastore, 1) := by decide +kernel
theorem dX8_region_160 : decode cX8_region 160 = .ok (.aload_n 0, 1) := by decide +kernel
theorem dX8_region_161 : decode cX8_region 161 = .ok (.getfield 77, 3) := by decide +kernel
theorem dX8_region_164 : decode cX8_region 164 = .ok (.ireturn, 1) := by decide +kernel
theorem dX8_section_0 : decode cX8_section 0 = .ok (.aload_n 0, 1) := by decide +kernel
theorem dX8_section_1 : decode cX8_section 1 = .ok (.iconst 0, 1) := by decide +kernel
theorem dX8_section_2 : decode cX8_section 2 = .ok (.putfield 74, 3) := by decide +kernel
theorem dX8_section_5 : decode cX8_section 5 = .ok (.lload_n 1, 1) := by decide +kernel
theorem dX8_section_6 : decode cX8_section 6 = .ok (.lconst 0, 1) := by decide +kernel
theorem dX8_section_7 : decode cX8_section 7 = .ok (.lcmp, 1) := by decide +kernel
theorem dX8_section_8 : decode cX8_section 8 = .ok (.ifCond .lt 37, 3) := by decide +kernel
theorem dX8_section_11 : decode cX8_section 11 = .ok (.lload_n 1, 1) := by decide +kernel
theorem dX8_section_12 : decode cX8_section 12 = .ok (.ldc2_w 68, 3) := by decide +kernel
theorem dX8_section_15 : decode cX8_section 15 = .ok (.lcmp, 1) := by decide +kernel
theorem dX8_section_16 : decode cX8_section 16 = .ok (.ifCond .gt 29, 3) := by decide +kernel
theorem dX8_section_19 : decode cX8_section 19 = .ok (.lload_n 3, 1) := by decide +kernel
theorem dX8_section_20 : decode cX8_section 20 = .ok (.lconst 0, 1) := by decide +kernel
theorem dX8_section_21 : decode cX8_section 21 = .ok (.lcmp, 1) := by decide +kernel
theorem dX8_section_22 : decode cX8_section 22 = .ok (.ifCond .lt 23, 3) := by decide +kernel
theorem dX8_section_25 : decode cX8_section 25 = .ok (.lload_n 3, 1) := by decide +kernel
theorem dX8_section_26 : decode cX8_section 26 = .ok (.ldc2_w 68, 3) := by decide +kernel
theorem dX8_section_29 : decode cX8_section 29 = .ok (.lcmp, 1) := by decide +kernel
theorem dX8_section_30 : decode cX8_section 30 = .ok (.ifCond .gt 15, 3) := by decide +kernel
theorem dX8_section_33 : decode cX8_section 33 = .ok (.iload 5, 2) := by decide +kernel
theorem dX8_section_35 : decode cX8_section 35 = .ok (.ifCond .lt 10, 3) := by decide +kernel
theorem dX8_section_38 : decode cX8_section 38 = .ok (.iload 5, 2) := by decide +kernel
theorem dX8_section_40 : decode cX8_section 40 = .ok (.bipush 7, 2) := by decide +kernel
theorem dX8_section_42 : decode cX8_section 42 = .ok (.if_icmp .le 6, 3) := by decide +kernel
theorem dX8_section_45 : decode cX8_section 45 = .ok (.bipush (-2), 2) := by decide +kernel
theorem dX8_section_47 : decode cX8_section 47 = .ok (.ireturn, 1) := by decide +kernel
theorem dX8_section_48 : decode cX8_section 48 = .ok (.aload_n 0, 1) := by decide +kernel
theorem dX8_section_49 : decode cX8_section 49 = .ok (.getfield 80, 3) := by decide +kernel
theorem dX8_section_52 : decode cX8_section 52 = .ok (.bipush 40, 2) := by decide +kernel
theorem dX8_section_54 : decode cX8_section 54 = .ok (.if_icmp .ne 6, 3) := by decide +kernel
theorem dX8_section_57 : decode cX8_section 57 = .ok (.bipush (-4), 2) := by decide +kernel
theorem dX8_section_59 : decode cX8_section 59 = .ok (.ireturn, 1) := by decide +kernel
theorem dX8_section_60 : decode cX8_section 60 = .ok (.lload_n 3, 1) := by decide +kernel
theorem dX8_section_61 : decode cX8_section 61 = .ok (.lconst 0, 1) := by decide +kernel
theorem dX8_section_62 : decode cX8_section 62 = .ok (.lcmp, 1) := by decide +kernel
theorem dX8_section_63 : decode cX8_section 63 = .ok (.ifCond .ne 10, 3) := by decide +kernel
theorem dX8_section_66 : decode cX8_section 66 = .ok (.aload_n 0, 1) := by decide +kernel
theorem dX8_section_67 : decode cX8_section 67 = .ok (.iconst 1, 1) := by decide +kernel
theorem dX8_section_68 : decode cX8_section 68 = .ok (.putfield 74, 3) := by decide +kernel
theorem dX8_section_71 : decode cX8_section 71 = .ok (.iconst 0, 1) := by decide +kernel
theorem dX8_section_72 : decode cX8_section 72 = .ok (.ireturn, 1) := by decide +kernel
theorem dX8_section_73 : decode cX8_section 73 = .ok (.aload_n 0, 1) := by decide +kernel
theorem dX8_section_74 : decode cX8_section 74 = .ok (.dup, 1) := by decide +kernel
theorem dX8_section_75 : decode cX8_section 75 = .ok (.getfield 80, 3) := by decide +kernel
theorem dX8_section_78 : decode cX8_section 78 = .ok (.iconst 1, 1) := by decide +kernel
theorem dX8_section_79 : decode cX8_section 79 = .ok (.iadd, 1) := by decide +kernel
theorem dX8_section_80 : decode cX8_section 80 = .ok (.putfield 80, 3) := by decide +kernel
theorem dX8_section_83 : decode cX8_section 83 = .ok (.aload_n 0, 1) := by decide +kernel
theorem dX8_section_84 : decode cX8_section 84 = .ok (.getfield 19, 3) := by decide +kernel
theorem dX8_section_87 : decode cX8_section 87 = .ok (.aload_n 0, 1) := by decide +kernel
theorem dX8_section_88 : decode cX8_section 88 = .ok (.getfield 80, 3) := by decide +kernel
theorem dX8_section_91 : decode cX8_section 91 = .ok (.lload_n 1, 1) := by decide +kernel
theorem dX8_section_92 : decode cX8_section 92 = .ok (.l2i, 1) := by decide +kernel
theorem dX8_section_93 : decode cX8_section 93 = .ok (.iastore, 1) := by decide +kernel
theorem dX8_section_94 : decode cX8_section 94 = .ok (.aload_n 0, 1) := by decide +kernel
theorem dX8_section_95 : decode cX8_section 95 = .ok (.getfield 22, 3) := by decide +kernel
theorem dX8_section_98 : decode cX8_section 98 = .ok (.aload_n 0, 1) := by decide +kernel
theorem dX8_section_99 : decode cX8_section 99 = .ok (.getfield 80, 3) := by decide +kernel
theorem dX8_section_102 : decode cX8_section 102 = .ok (.lload_n 3, 1) := by decide +kernel
theorem dX8_section_103 : decode cX8_section 103 = .ok (.l2i, 1) := by decide +kernel
theorem dX8_section_104 : decode cX8_section 104 = .ok (.iastore, 1) := by decide +kernel
theorem dX8_section_105 : decode cX8_section 105 = .ok (.aload_n 0, 1) := by decide +kernel
theorem dX8_section_106 : decode cX8_section 106 = .ok (.getfield 25, 3) := by decide +kernel
theorem dX8_section_109 : decode cX8_section 109 = .ok (.aload_n 0, 1) := by decide +kernel
theorem dX8_section_110 : decode cX8_section 110 = .ok (.getfield 80, 3) := by decide +kernel
theorem dX8_section_113 : decode cX8_section 113 = .ok (.iload 5, 2) := by decide +kernel
theorem dX8_section_115 : decode cX8_section 115 = .ok (.iastore, 1) := by decide +kernel
theorem dX8_section_116 : decode cX8_section 116 = .ok (.aload_n 0, 1) := by decide +kernel
theorem dX8_section_117 : decode cX8_section 117 = .ok (.getfield 80, 3) := by decide +kernel
theorem dX8_section_120 : decode cX8_section 120 = .ok (.ireturn, 1) := by decide +kernel
theorem dX8_isBefore_0 : decode cX8_isBefore 0 = .ok (.aload_n 0, 1) := by decide +kernel
theorem dX8_isBefore_1 : decode cX8_isBefore 1 = .ok (.getfield 19, 3) := by decide +kernel
theorem dX8_isBefore_4 : decode cX8_isBefore 4 = .ok (.iload_n 1, 1) := by decide +kernel
theorem dX8_isBefore_5 : decode cX8_isBefore 5 = .ok (.iaload, 1) := by decide +kernel
theorem dX8_isBefore_6 : decode cX8_isBefore 6 = .ok (.aload_n 0, 1) := by decide +kernel
theorem dX8_isBefore_7 : decode cX8_isBefore 7 = .ok (.getfield 19, 3) := by decide +kernel
theorem dX8_isBefore_10 : decode cX8_isBefore 10 = .ok (.iload_n 2, 1) := by decide +kernel
theorem dX8_isBefore_11 : decode cX8_isBefore 11 = .ok (.iaload, 1) := by decide +kernel
theorem dX8_isBefore_12 : decode cX8_isBefore 12 = .ok (.if_icmp .gt 23, 3) := by decide +kernel
theorem dX8_isBefore_15 : decode cX8_isBefore 15 = .ok (.aload_n 0, 1) := by decide +kernel
theorem dX8_isBefore_16 : decode cX8_isBefore 16 = .ok (.getfield 19, 3) := by decide +kernel
theorem dX8_isBefore_19 : decode cX8_isBefore 19 = .ok (.iload_n 1, 1) := by decide +kernel
theorem dX8_isBefore_20 : decode cX8_isBefore 20 = .ok (.iaload, 1) := by decide +kernel
theorem dX8_isBefore_21 : decode cX8_isBefore 21 = .ok (.aload_n 0, 1) := by decide +kernel
theorem dX8_isBefore_22 : decode cX8_isBefore 22 = .ok (.getfield 19, 3) := by decide +kernel
theorem dX8_isBefore_25 : decode cX8_isBefore 25 = .ok (.iload_n 2, 1) := by decide +kernel
theorem dX8_isBefore_26 : decode cX8_isBefore 26 = .ok (.iaload, 1) := by decide +kernel
theorem dX8_isBefore_27 : decode cX8_isBefore 27 = .ok (.if_icmp .ne 12, 3) := by decide +kernel
theorem dX8_isBefore_30 : decode cX8_isBefore 30 = .ok (.iload_n 1, 1) := by decide +kernel
theorem dX8_isBefore_31 : decode cX8_isBefore 31 = .ok (.iload_n 2, 1) := by decide +kernel
theorem dX8_isBefore_32 : decode cX8_isBefore 32 = .ok (.if_icmp .ge 7, 3) := by decide +kernel
theorem dX8_isBefore_35 : decode cX8_isBefore 35 = .ok (.iconst 1, 1) := by decide +kernel
theorem dX8_isBefore_36 : decode cX8_isBefore 36 = .ok (.goto 4, 3) := by decide +kernel
theorem dX8_isBefore_39 : decode cX8_isBefore 39 = .ok (.iconst 0, 1) := by decide +kernel
theorem dX8_isBefore_40 : decode cX8_isBefore 40 = .ok (.ireturn, 1) := by decide +kernel
set_option maxRecDepth 20000 in
theorem ggX8_next_X8_isBefore : GoodIn wsX8_next wsX8_isBefore := goodIn_r _ [6, 7, 8, 9, 10, 11, 12, 13, 14, 15, 16, 17, 18, 19, 20, 21, 22, 23, 24, 25, 26, 27, 28, 29, 30, 31, 32] (by decide +kernel) (by decide +kernel)
set_option maxRecDepth 20000 in
theorem gX8_next_X8_isBefore : GoodIn wsX8_next (wsV RX8 83 RX8 yX8_isBefore wsX8_isBefore) := goodIn_app (goodIn_of _ (by decide +kernel)) ggX8_next_X8_isBefore
theorem dX8_next_0 : decode cX8_next 0 = .ok (.iconst 0, 1) := by decide +kernel
theorem dX8_next_1 : decode cX8_next 1 = .ok (.istore_n 2, 1) := by decide +kernel
theorem dX8_next_2 : decode cX8_next 2 = .ok (.iconst 1, 1) := by decide +kernel
theorem dX8_next_3 : decode cX8_next 3 = .ok (.istore_n 3, 1) := by decide +kernel
theorem dX8_next_4 : decode cX8_next 4 = .ok (.iload_n 3, 1) := by decide +kernel
theorem dX8_next_5 : decode cX8_next 5 = .ok (.aload_n 0, 1) := by decide +kernel
theorem dX8_next_6 : decode cX8_next 6 = .ok (.getfield 80, 3) := by decide +kernel
theorem dX8_next_9 : decode cX8_next 9 = .ok (.if_icmp .gt 37, 3) := by decide +kernel
theorem dX8_next_12 : decode cX8_next 12 = .ok (.iload_n 1, 1) := by decide +kernel
theorem dX8_next_13 : decode cX8_next 13 = .ok (.ifCond .eq 12, 3) := by decide +kernel
theorem dX8_next_16 : decode cX8_next 16 = .ok (.aload_n 0, 1) := by decide +kernel
theorem dX8_next_17 : decode cX8_next 17 = .ok (.iload_n 1, 1) := by decide +kernel
theorem dX8_next_18 : decode cX8_next 18 = .ok (.iload_n 3, 1) := by decide +kernel
theorem dX8_next_19 : decode cX8_next 19 = .ok (.invokevirtual 83, 3) := by decide +kernel
theorem dX8_next_22 : decode cX8_next 22 = .ok (.ifCond .eq 18, 3) := by decide +kernel
theorem dX8_next_25 : decode cX8_next 25 = .ok (.iload_n 2, 1) := by decide +kernel
theorem dX8_next_26 : decode cX8_next 26 = .ok (.ifCond .eq 12, 3) := by decide +kernel
theorem dX8_next_29 : decode cX8_next 29 = .ok (.aload_n 0, 1) := by decide +kernel
theorem dX8_next_30 : decode cX8_next 30 = .ok (.iload_n 3, 1) := by decide +kernel
theorem dX8_next_31 : decode cX8_next 31 = .ok (.iload_n 2, 1) := by decide +kernel
theorem dX8_next_32 : decode cX8_next 32 = .ok (.invokevirtual 83, 3) := by decide +kernel
theorem dX8_next_35 : decode cX8_next 35 = .ok (.ifCond .eq 5, 3) := by decide +kernel
theorem dX8_next_38 : decode cX8_next 38 = .ok (.iload_n 3, 1) := by decide +kernel
theorem dX8_next_39 : decode cX8_next 39 = .ok (.istore_n 2, 1) := by decide +kernel
theorem dX8_next_40 : decode cX8_next 40 = .ok (.iinc 3 1, 3) := by decide +kernel
theorem dX8_next_43 : decode cX8_next 43 = .ok (.goto (-39), 3) := by decide +kernel
theorem dX8_next_46 : decode cX8_next 46 = .ok (.iload_n 2, 1) := by decide +kernel
theorem dX8_next_47 : decode cX8_next 47 = .ok (.ireturn, 1) := by decide +kernel
theorem dX8_up_0 : decode cX8_up 0 = .ok (.iload_n 0, 1) := by decide +kernel
theorem dX8_up_1 : decode cX8_up 1 = .ok (.iload_n 1, 1) := by decide +kernel
theorem dX8_up_2 : decode cX8_up 2 = .ok (.iadd, 1) := by decide +kernel
theorem dX8_up_3 : decode cX8_up 3 = .ok (.iconst 1, 1) := by decide +kernel
theorem dX8_up_4 : decode cX8_up 4 = .ok (.isub, 1) := by decide +kernel
theorem dX8_up_5 : decode cX8_up 5 = .ok (.iload_n 1, 1) := by decide +kernel
theorem dX8_up_6 : decode cX8_up 6 = .ok (.idiv, 1) := by decide +kernel
theorem dX8_up_7 : decode cX8_up 7 = .ok (.iload_n 1, 1) := by decide +kernel
theorem dX8_up_8 : decode cX8_up 8 = .ok (.imul, 1) := by decide +kernel
theorem dX8_up_9 : decode cX8_up 9 = .ok (.ireturn, 1) := by decide +kernel
set_option maxRecDepth 20000 in
theorem ggX8_find_X8_up : GoodIn wsX8_find wsX8_up := goodIn_r _ [9] (by decide +kernel) (by decide +kernel)
set_option maxRecDepth 20000 in
theorem gX8_find_X8_up : GoodIn wsX8_find (va_wsS RX8 87 yX8_up wsX8_up) := goodIn_app (goodIn_of _ (by decide +kernel)) ggX8_find_X8_up
theorem dX8_find_0 : decode cX8_find 0 = .ok (.aload_n 0, 1) := by decide +kernel
theorem dX8_find_1 : decode cX8_find 1 = .ok (.getfield 7, 3) := by decide +kernel
theorem dX8_find_4 : decode cX8_find 4 = .ok (.iload_n 2, 1) := by decide +kernel
theorem dX8_find_5 : decode cX8_find 5 = .ok (.iaload, 1) := by decide +kernel
theorem dX8_find_6 : decode cX8_find 6 = .ok (.aload_n 0, 1) := by decide +kernel
theorem dX8_find_7 : decode cX8_find 7 = .ok (.getfield 22, 3) := by decide +kernel
theorem dX8_find_10 : decode cX8_find 10 = .ok (.iload_n 1, 1) := by decide +kernel
theorem dX8_find_11 : decode cX8_find 11 = .ok (.iaload, 1) := by decide +kernel
theorem dX8_find_12 : decode cX8_find 12 = .ok (.invokestatic 87, 3) := by decide +kernel
theorem dX8_find_15 : decode cX8_find 15 = .ok (.istore_n 3, 1) := by decide +kernel
theorem dX8_find_16 : decode cX8_find 16 = .ok (.iload_n 3, 1) := by decide +kernel
theorem dX8_find_17 : decode cX8_find 17 = .ok (.aload_n 0, 1) := by decide +kernel
theorem dX8_find_18 : decode cX8_find 18 = .ok (.getfield 19, 3) := by decide +kernel
theorem dX8_find_21 : decode cX8_find 21 = .ok (.iload_n 1, 1) := by decide +kernel
theorem dX8_find_22 : decode cX8_find 22 = .ok (.iaload, 1) := by decide +kernel
theorem dX8_find_23 : decode cX8_find 23 = .ok (.iadd, 1) := by decide +kernel
theorem dX8_find_24 : decode cX8_find 24 = .ok (.aload_n 0, 1) := by decide +kernel
theorem dX8_find_25 : decode cX8_find 25 = .ok (.getfield 13, 3) := by decide +kernel
theorem dX8_find_28 : decode cX8_find 28 = .ok (.iload_n 2, 1) := by decide +kernel
theorem dX8_find_29 : decode cX8_find 29 = .ok (.iaload, 1) := by decide +kernel
theorem dX8_find_30 : decode cX8_find 30 = .ok (.if_icmp .gt 67, 3) := by decide +kernel
theorem dX8_find_33 : decode cX8_find 33 = .ok (.iload_n 3, 1) := by decide +kernel
theorem dX8_find_34 : decode cX8_find 34 = .ok (.istore 4, 2) := by decide +kernel
theorem dX8_find_36 : decode cX8_find 36 = .ok (.iload 4, 2) := by decide +kernel
theorem dX8_find_38 : decode cX8_find 38 = .ok (.iload_n 3, 1) := by decide +kernel
theorem dX8_find_39 : decode cX8_find 39 = .ok (.aload_n 0, 1) := by decide +kernel
theorem dX8_find_40 : decode cX8_find 40 = .ok (.getfield 19, 3) := by decide +kernel
theorem dX8_find_43 : decode cX8_find 43 = .ok (.iload_n 1, 1) := by decide +kernel
theorem dX8_find_44 : decode cX8_find 44 = .ok (.iaload, 1) := by decide +kernel
theorem dX8_find_45 : decode cX8_find 45 = .ok (.iadd, 1) := by decide +kernel
theorem dX8_find_46 : decode cX8_find 46 = .ok (.if_icmp .ge 19, 3) := by decide +kernel
theorem dX8_find_49 : decode cX8_find 49 = .ok (.aload_n 0, 1) := by decide +kernel
theorem dX8_find_50 : decode cX8_find 50 = .ok (.getfield 29, 3) := by decide +kernel
theorem dX8_find_53 : decode cX8_find 53 = .ok (.iload 4, 2) := by decide +kernel
theorem dX8_find_55 : decode cX8_find 55 = .ok (.baload, 1) := by decide +kernel
theorem dX8_find_56 : decode cX8_find 56 = .ok (.ifCond .ne 9, 3) := by decide +kernel
theorem dX8_find_59 : decode cX8_find 59 = .ok (.iinc 4 1, 3) := by decide +kernel
theorem dX8_find_62 : decode cX8_find 62 = .ok (.goto (-26), 3) := by decide +kernel
theorem dX8_find_65 : decode cX8_find 65 = .ok (.iload 4, 2) := by decide +kernel
theorem dX8_find_67 : decode cX8_find 67 = .ok (.iload_n 3, 1) := by decide +kernel
theorem dX8_find_68 : decode cX8_find 68 = .ok (.aload_n 0, 1) := by decide +kernel
theorem dX8_find_69 : decode cX8_find 69 = .ok (.getfield 19, 3) := by decide +kernel
theorem dX8_find_72 : decode cX8_find 72 = .ok (.iload_n 1, 1) := by decide +kernel
theorem dX8_find_73 : decode cX8_find 73 = .ok (.iaload, 1) := by decide +kernel
theorem dX8_find_74 : decode cX8_find 74 = .ok (.iadd, 1) := by decide +kernel
theorem dX8_find_75 : decode cX8_find 75 = .ok (.if_icmp .ne 5, 3) := by decide +kernel
theorem dX8_find_78 : decode cX8_find 78 = .ok (.iload_n 3, 1) := by decide +kernel
theorem dX8_find_79 : decode cX8_find 79 = .ok (.ireturn, 1) := by decide +kernel
theorem dX8_find_80 : decode cX8_find 80 = .ok (.iload 4, 2) := by decide +kernel
theorem dX8_find_82 : decode cX8_find 82 = .ok (.iconst 1, 1) := by decide +kernel
theorem dX8_find_83 : decode cX8_find 83 = .ok (.iadd, 1) := by decide +kernel
theorem dX8_find_84 : decode cX8_find 84 = .ok (.aload_n 0, 1) := by decide +kernel
theorem dX8_find_85 : decode cX8_find 85 = .ok (.getfield 22, 3) := by decide +kernel
theorem dX8_find_88 : decode cX8_find 88 = .ok (.iload_n 1, 1) := by decide +kernel
theorem dX8_find_89 : decode cX8_find 89 = .ok (.iaload, 1) := by decide +kernel
theorem dX8_find_90 : decode cX8_find 90 = .ok (.invokestatic 87, 3) := by decide +kernel
theorem dX8_find_93 : decode cX8_find 93 = .ok (.istore_n 3, 1) := by decide +kernel
theorem dX8_find_94 : decode cX8_find 94 = .ok (.goto (-78), 3) := by decide +kernel
theorem dX8_find_97 : decode cX8_find 97 = .ok (.iconst (-1), 1) := by decide +kernel
theorem dX8_find_98 : decode cX8_find 98 = .ok (.ireturn, 1) := by decide +kernel
set_option maxRecDepth 20000 in
theorem ggX8_findAny_X8_find : GoodIn wsX8_findAny wsX8_find := goodIn_r _ [8, 9, 10, 11, 12, 13, 14, 15, 7, 16, 17, 18, 19, 20, 21, 22, 23, 24, 25, 26, 27, 28, 29, 30, 31, 32, 33, 34, 35, 36, 37, 38, 39, 40, 41] (by decide +kernel) (by decide +kernel)
set_option maxRecDepth 20000 in
theorem gX8_findAny_X8_find : GoodIn wsX8_findAny (wsV RX8 91 RX8 yX8_find wsX8_find) := goodIn_app (goodIn_of _ (by decide +kernel)) ggX8_findAny_X8_find
theorem dX8_findAny_0 : decode cX8_findAny 0 = .ok (.iconst (-1), 1) := by decide +kernel
theorem dX8_findAny_1 : decode cX8_findAny 1 = .ok (.istore_n 2, 1) := by decide +kernel
theorem dX8_findAny_2 : decode cX8_findAny 2 = .ok (.iconst 1, 1) := by decide +kernel
theorem dX8_findAny_3 : decode cX8_findAny 3 = .ok (.istore_n 3, 1) := by decide +kernel
theorem dX8_findAny_4 : decode cX8_findAny 4 = .ok (.iload_n 3, 1) := by decide +kernel
theorem dX8_findAny_5 : decode cX8_findAny 5 = .ok (.aload_n 0, 1) := by decide +kernel
theorem dX8_findAny_6 : decode cX8_findAny 6 = .ok (.getfield 77, 3) := by decide +kernel
theorem dX8_findAny_9 : decode cX8_findAny 9 = .ok (.if_icmp .gt 46, 3) := by decide +kernel
theorem dX8_findAny_12 : decode cX8_findAny 12 = .ok (.iload_n 2, 1) := by decide +kernel
theorem dX8_findAny_13 : decode cX8_findAny 13 = .ok (.ifCond .ge 42, 3) := by decide +kernel
theorem dX8_findAny_16 : decode cX8_findAny 16 = .ok (.aload_n 0, 1) := by decide +kernel
theorem dX8_findAny_17 : decode cX8_findAny 17 = .ok (.getfield 16, 3) := by decide +kernel
theorem dX8_findAny_20 : decode cX8_findAny 20 = .ok (.iload_n 3, 1) := by decide +kernel
theorem dX8_findAny_21 : decode cX8_findAny 21 = .ok (.iaload, 1) := by decide +kernel
theorem dX8_findAny_22 : decode cX8_findAny 22 = .ok (.aload_n 0, 1) := by decide +kernel
theorem dX8_findAny_23 : decode cX8_findAny 23 = .ok (.getfield 25, 3) := by decide +kernel
theorem dX8_findAny_26 : decode cX8_findAny 26 = .ok (.iload_n 1, 1) := by decide +kernel
theorem dX8_findAny_27 : decode cX8_findAny 27 = .ok (.iaload, 1) := by decide +kernel
theorem dX8_findAny_28 : decode cX8_findAny 28 = .ok (.iand, 1) := by decide +kernel
theorem dX8_findAny_29 : decode cX8_findAny 29 = .ok (.aload_n 0, 1) := by decide +kernel
theorem dX8_findAny_30 : decode cX8_findAny 30 = .ok (.getfield 25, 3) := by decide +kernel
theorem dX8_findAny_33 : decode cX8_findAny 33 = .ok (.iload_n 1, 1) := by decide +kernel
theorem dX8_findAny_34 : decode cX8_findAny 34 = .ok (.iaload, 1) := by decide +kernel
theorem dX8_findAny_35 : decode cX8_findAny 35 = .ok (.if_icmp .ne 12, 3) := by decide +kernel
theorem dX8_findAny_38 : decode cX8_findAny 38 = .ok (.aload_n 0, 1) := by decide +kernel
theorem dX8_findAny_39 : decode cX8_findAny 39 = .ok (.iload_n 1, 1) := by decide +kernel
theorem dX8_findAny_40 : decode cX8_findAny 40 = .ok (.iload_n 3, 1) := by decide +kernel
theorem dX8_findAny_41 : decode cX8_findAny 41 = .ok (.invokevirtual 91, 3) := by decide +kernel
theorem dX8_findAny_44 : decode cX8_findAny 44 = .ok (.goto 4, 3) := by decide +kernel
theorem dX8_findAny_47 : decode cX8_findAny 47 = .ok (.iconst (-1), 1) := by decide +kernel
theorem dX8_findAny_48 : decode cX8_findAny 48 = .ok (.istore_n 2, 1) := by decide +kernel
theorem dX8_findAny_49 : decode cX8_findAny 49 = .ok (.iinc 3 1, 3) := by decide +kernel
theorem dX8_findAny_52 : decode cX8_findAny 52 = .ok (.goto (-48), 3) := by decide +kernel
theorem dX8_findAny_55 : decode cX8_findAny 55 = .ok (.iload_n 2, 1) := by decide +kernel
theorem dX8_findAny_56 : decode cX8_findAny 56 = .ok (.ireturn, 1) := by decide +kernel
set_option maxRecDepth 20000 in
theorem ggX8_place_X8_next : GoodIn wsX8_place wsX8_next := goodIn_r _ [17, 6, 18, 19, 20, 16, 21, 5, 39, 40, 41, 42, 43, 44, 45, 46, 47, 48, 49, 50, 51, 52, 53, 54, 55, 56, 57, 58, 59, 60, 61, 62, 63] (by decide +kernel) (by decide +kernel)
set_option maxRecDepth 20000 in
theorem gX8_place_X8_next : GoodIn wsX8_place (wsV RX8 94 RX8 yX8_next wsX8_next) := goodIn_app (goodIn_of _ (by decide +kernel)) ggX8_place_X8_next
set_option maxRecDepth 20000 in
theorem ggX8_place_X8_findAny : GoodIn wsX8_place wsX8_findAny := goodIn_r _ [25, 26, 27, 28, 29, 30, 31, 16, 32, 33, 34, 5, 35, 3, 36, 37, 38, 39, 40, 41, 42, 43, 44, 45, 46, 47, 48, 49, 50, 51, 52, 53, 54, 55, 56, 57, 58, 59, 60, 61, 62, 63] (by decide +kernel) (by decide +kernel)
set_option maxRecDepth 20000 in
theorem gX8_place_X8_findAny : GoodIn wsX8_place (wsV RX8 98 RX8 yX8_findAny wsX8_findAny) := goodIn_app (goodIn_of _ (by decide +kernel)) ggX8_place_X8_findAny
theorem dX8_place_0 : decode cX8_place 0 = .ok (.aload_n 0, 1) := by decide +kernel
theorem dX8_place_1 : decode cX8_place 1 = .ok (.iconst 0, 1) := by decide +kernel
theorem dX8_place_2 : decode cX8_place 2 = .ok (.putfield 74, 3) := by decide +kernel
theorem dX8_place_5 : decode cX8_place 5 = .ok (.iconst 0, 1) := by decide +kernel
theorem dX8_place_6 : decode cX8_place 6 = .ok (.istore_n 1, 1) := by decide +kernel
theorem dX8_place_7 : decode cX8_place 7 = .ok (.iload_n 1, 1) := by decide +kernel
theorem dX8_place_8 : decode cX8_place 8 = .ok (.aload_n 0, 1) := by decide +kernel
theorem dX8_place_9 : decode cX8_place 9 = .ok (.getfield 70, 3) := by decide +kernel
theorem dX8_place_12 : decode cX8_place 12 = .ok (.if_icmp .ge 16, 3) := by decide +kernel
theorem dX8_place_15 : decode cX8_place 15 = .ok (.aload_n 0, 1) := by decide +kernel
theorem dX8_place_16 : decode cX8_place 16 = .ok (.getfield 29, 3) := by decide +kernel
theorem dX8_place_19 : decode cX8_place 19 = .ok (.iload_n 1, 1) := by decide +kernel
theorem dX8_place_20 : decode cX8_place 20 = .ok (.iconst 0, 1) := by decide +kernel
theorem dX8_place_21 : decode cX8_place 21 = .ok (.bastore, 1) := by decide +kernel
theorem dX8_place_22 : decode cX8_place 22 = .ok (.iinc 1 1, 3) := by decide +kernel
theorem dX8_place_25 : decode cX8_place 25 = .ok (.goto (-18), 3) := by decide +kernel
theorem dX8_place_28 : decode cX8_place 28 = .ok (.aload_n 0, 1) := by decide +kernel
theorem dX8_place_29 : decode cX8_place 29 = .ok (.iconst 0, 1) := by decide +kernel
theorem dX8_place_30 : decode cX8_place 30 = .ok (.invokevirtual 94, 3) := by decide +kernel
theorem dX8_place_33 : decode cX8_place 33 = .ok (.istore_n 1, 1) := by decide +kernel
theorem dX8_place_34 : decode cX8_place 34 = .ok (.iload_n 1, 1) := by decide +kernel
theorem dX8_place_35 : decode cX8_place 35 = .ok (.ifCond .le 86, 3) := by decide +kernel
theorem dX8_place_38 : decode cX8_place 38 = .ok (.aload_n 0, 1) := by decide +kernel
theorem dX8_place_39 : decode cX8_place 39 = .ok (.getfield 39, 3) := by decide +kernel
theorem dX8_place_42 : decode cX8_place 42 = .ok (.iload_n 1, 1) := by decide +kernel
theorem dX8_place_43 : decode cX8_place 43 = .ok (.aload_n 0, 1) := by decide +kernel
theorem dX8_place_44 : decode cX8_place 44 = .ok (.getfield 19, 3) := by decide +kernel
theorem dX8_place_47 : decode cX8_place 47 = .ok (.iload_n 1, 1) := by decide +kernel
theorem dX8_place_48 : decode cX8_place 48 = .ok (.iaload, 1) := by decide +kernel
theorem dX8_place_49 : decode cX8_place 49 = .ok (.ifCond .ne 7, 3) := by decide +kernel
theorem dX8_place_52 : decode cX8_place 52 = .ok (.iconst 0, 1) := by decide +kernel
theorem dX8_place_53 : decode cX8_place 53 = .ok (.goto 8, 3) := by decide +kernel
theorem dX8_place_56 : decode cX8_place 56 = .ok (.aload_n 0, 1) := by decide +kernel
theorem dX8_place_57 : decode cX8_place 57 = .ok (.iload_n 1, 1) := by decide +kernel
theorem dX8_place_58 : decode cX8_place 58 = .ok (.invokevirtual 98, 3) := by decide +kernel
theorem dX8_place_61 : decode cX8_place 61 = .ok (.iastore, 1) := by decide +kernel
theorem dX8_place_62 : decode cX8_place 62 = .ok (.aload_n 0, 1) := by decide +kernel
theorem dX8_place_63 : decode cX8_place 63 = .ok (.getfield 39, 3) := by decide +kernel
theorem dX8_place_66 : decode cX8_place 66 = .ok (.iload_n 1, 1) := by decide +kernel
theorem dX8_place_67 : decode cX8_place 67 = .ok (.iaload, 1) := by decide +kernel
theorem dX8_place_68 : decode cX8_place 68 = .ok (.ifCond .ge 6, 3) := by decide +kernel
theorem dX8_place_71 : decode cX8_place 71 = .ok (.iload_n 1, 1) := by decide +kernel
theorem dX8_place_72 : decode cX8_place 72 = .ok (.ineg, 1) := by decide +kernel
theorem dX8_place_73 : decode cX8_place 73 = .ok (.ireturn, 1) := by decide +kernel
theorem dX8_place_74 : decode cX8_place 74 = .ok (.aload_n 0, 1) := by decide +kernel
theorem dX8_place_75 : decode cX8_place 75 = .ok (.getfield 39, 3) := by decide +kernel
theorem dX8_place_78 : decode cX8_place 78 = .ok (.iload_n 1, 1) := by decide +kernel
theorem dX8_place_79 : decode cX8_place 79 = .ok (.iaload, 1) := by decide +kernel
theorem dX8_place_80 : decode cX8_place 80 = .ok (.istore_n 2, 1) := by decide +kernel
theorem dX8_place_81 : decode cX8_place 81 = .ok (.iload_n 2, 1) := by decide +kernel
theorem dX8_place_82 : decode cX8_place 82 = .ok (.aload_n 0, 1) := by decide +kernel
theorem dX8_place_83 : decode cX8_place 83 = .ok (.getfield 39, 3) := by decide +kernel
theorem dX8_place_86 : decode cX8_place 86 = .ok (.iload_n 1, 1) := by decide +kernel
theorem dX8_place_87 : decode cX8_place 87 = .ok (.iaload, 1) := by decide +kernel
theorem dX8_place_88 : decode cX8_place 88 = .ok (.aload_n 0, 1) := by decide +kernel
theorem dX8_place_89 : decode cX8_place 89 = .ok (.getfield 19, 3) := by decide +kernel
theorem dX8_place_92 : decode cX8_place 92 = .ok (.iload_n 1, 1) := by decide +kernel
theorem dX8_place_93 : decode cX8_place 93 = .ok (.iaload, 1) := by decide +kernel
theorem dX8_place_94 : decode cX8_place 94 = .ok (.iadd, 1) := by decide +kernel
theorem dX8_place_95 : decode cX8_place 95 = .ok (.if_icmp .ge 17, 3) := by decide +kernel
theorem dX8_place_98 : decode cX8_place 98 = .ok (.aload_n 0, 1) := by decide +kernel
theorem dX8_place_99 : decode cX8_place 99 = .ok (.getfield 29, 3) := by decide +kernel
theorem dX8_place_102 : decode cX8_place 102 = .ok (.iload_n 2, 1) := by decide +kernel
theorem dX8_place_103 : decode cX8_place 103 = .ok (.iload_n 1, 1) := by decide +kernel
theorem dX8_place_104 : decode cX8_place 104 = .ok (.i2b, 1) := by decide +kernel
theorem dX8_place_105 : decode cX8_place 105 = .ok (.bastore, 1) := by decide +kernel
theorem dX8_place_106 : decode cX8_place 106 = .ok (.iinc 2 1, 3) := by decide +kernel
theorem dX8_place_109 : decode cX8_place 109 = .ok (.goto (-28), 3) := by decide +kernel
theorem dX8_place_112 : decode cX8_place 112 = .ok (.aload_n 0, 1) := by decide +kernel
theorem dX8_place_113 : decode cX8_place 113 = .ok (.iload_n 1, 1) := by decide +kernel
theorem dX8_place_114 : decode cX8_place 114 = .ok (.invokevirtual 94, 3) := by decide +kernel
theorem dX8_place_117 : decode cX8_place 117 = .ok (.istore_n 1, 1) := by decide +kernel
theorem dX8_place_118 : decode cX8_place 118 = .ok (.goto (-84), 3) := by decide +kernel
theorem dX8_place_121 : decode cX8_place 121 = .ok (.aload_n 0, 1) := by decide +kernel
theorem dX8_place_122 : decode cX8_place 122 = .ok (.aload_n 0, 1) := by decide +kernel
theorem dX8_place_123 : decode cX8_place 123 = .ok (.getfield 80, 3) := by decide +kernel
theorem dX8_place_126 : decode cX8_place 126 = .ok (.putfield 101, 3) := by decide +kernel
theorem dX8_place_129 : decode cX8_place 129 = .ok (.aload_n 0, 1) := by decide +kernel
theorem dX8_place_130 : decode cX8_place 130 = .ok (.dup, 1) := by decide +kernel
theorem dX8_place_131 : decode cX8_place 131 = .ok (.getfield 104, 3) := by decide +kernel
theorem dX8_place_134 : decode cX8_place 134 = .ok (.iconst 1, 1) := by decide +kernel
theorem dX8_place_135 : decode cX8_place 135 = .ok (.iadd, 1) := by decide +kernel
theorem dX8_place_136 : decode cX8_place 136 = .ok (.putfield 104, 3) := by decide +kernel
theorem dX8_place_139 : decode cX8_place 139 = .ok (.iconst 0, 1) := by decide +kernel
theorem dX8_place_140 : decode cX8_place 140 = .ok (.istore_n 1, 1) := by decide +kernel
theorem dX8_place_141 : decode cX8_place 141 = .ok (.iload_n 1, 1) := by decide +kernel
theorem dX8_place_142 : decode cX8_place 142 = .ok (.aload_n 0, 1) := by decide +kernel
theorem dX8_place_143 : decode cX8_place 143 = .ok (.getfield 70, 3) := by decide +kernel
theorem dX8_place_146 : decode cX8_place 146 = .ok (.if_icmp .ge 34, 3) := by decide +kernel
theorem dX8_place_149 : decode cX8_place 149 = .ok (.aload_n 0, 1) := by decide +kernel
theorem dX8_place_150 : decode cX8_place 150 = .ok (.getfield 33, 3) := by decide +kernel
theorem dX8_place_153 : decode cX8_place 153 = .ok (.iload_n 1, 1) := by decide +kernel
theorem dX8_place_154 : decode cX8_place 154 = .ok (.aload_n 0, 1) := by decide +kernel
theorem dX8_place_155 : decode cX8_place 155 = .ok (.getfield 29, 3) := by decide +kernel
theorem dX8_place_158 : decode cX8_place 158 = .ok (.iload_n 1, 1) := by decide +kernel
theorem dX8_place_159 : decode cX8_place 159 = .ok (.baload, 1) := by decide +kernel
theorem dX8_place_160 : decode cX8_place 160 = .ok (.ifCond .ne 7, 3) := by decide +kernel
theorem dX8_place_163 : decode cX8_place 163 = .ok (.iconst (-1), 1) := by decide +kernel
theorem dX8_place_164 : decode cX8_place 164 = .ok (.goto 9, 3) := by decide +kernel
theorem dX8_place_167 : decode cX8_place 167 = .ok (.aload_n 0, 1) := by decide +kernel
theorem dX8_place_168 : decode cX8_place 168 = .ok (.getfield 29, 3) := by decide +kernel
theorem dX8_place_171 : decode cX8_place 171 = .ok (.iload_n 1, 1) := by decide +kernel
theorem dX8_place_172 : decode cX8_place 172 = .ok (.baload, 1) := by decide +kernel
theorem dX8_place_173 : decode cX8_place 173 = .ok (.bastore, 1) := by decide +kernel
theorem dX8_place_174 : decode cX8_place 174 = .ok (.iinc 1 1, 3) := by decide +kernel
theorem dX8_place_177 : decode cX8_place 177 = .ok (.goto (-36), 3) := by decide +kernel
theorem dX8_place_180 : decode cX8_place 180 = .ok (.iconst 1, 1) := by decide +kernel
theorem dX8_place_181 : decode cX8_place 181 = .ok (.istore_n 1, 1) := by decide +kernel
theorem dX8_place_182 : decode cX8_place 182 = .ok (.iload_n 1, 1) := by decide +kernel
theorem dX8_place_183 : decode cX8_place 183 = .ok (.aload_n 0, 1) := by decide +kernel
theorem dX8_place_184 : decode cX8_place 184 = .ok (.getfield 80, 3) := by decide +kernel
theorem dX8_place_187 : decode cX8_place 187 = .ok (.if_icmp .gt 50, 3) := by decide +kernel
theorem dX8_place_190 : decode cX8_place 190 = .ok (.aload_n 0, 1) := by decide +kernel
theorem dX8_place_191 : decode cX8_place 191 = .ok (.getfield 36, 3) := by decide +kernel
theorem dX8_place_194 : decode cX8_place 194 = .ok (.iload_n 1, 1) := by decide +kernel
theorem dX8_place_195 : decode cX8_place 195 = .ok (.aload_n 0, 1) := by decide +kernel
theorem dX8_place_196 : decode cX8_place 196 = .ok (.getfield 39, 3) := by decide +kernel
theorem dX8_place_199 : decode cX8_place 199 = .ok (.iload_n 1, 1) := by decide +kernel
theorem dX8_place_200 : decode cX8_place 200 = .ok (.iaload, 1) := by decide +kernel
theorem dX8_place_201 : decode cX8_place 201 = .ok (.iastore, 1) := by decide +kernel
theorem dX8_place_202 : decode cX8_place 202 = .ok (.aload_n 0, 1) := by decide +kernel
theorem dX8_place_203 : decode cX8_place 203 = .ok (.getfield 104, 3) := by decide +kernel
theorem dX8_place_206 : decode cX8_place 206 = .ok (.bipush 50, 2) := by decide +kernel
theorem dX8_place_208 : decode cX8_place 208 = .ok (.if_icmp .gt 23, 3) := by decide +kernel
theorem dX8_place_211 : decode cX8_place 211 = .ok (.aload_n 0, 1) := by decide +kernel
theorem dX8_place_212 : decode cX8_place 212 = .ok (.getfield 42, 3) := by decide +kernel
theorem dX8_place_215 : decode cX8_place 215 = .ok (.bipush 41, 2) := by decide +kernel
theorem dX8_place_217 : decode cX8_place 217 = .ok (.aload_n 0, 1) := by decide +kernel
theorem dX8_place_218 : decode cX8_place 218 = .ok (.getfield 104, 3) := by decide +kernel
theorem dX8_place_221 : decode cX8_place 221 = .ok (.imul, 1) := by decide +kernel
theorem dX8_place_222 : decode cX8_place 222 = .ok (.iload_n 1, 1) := by decide +kernel
theorem dX8_place_223 : decode cX8_place 223 = .ok (.iadd, 1) := by decide +kernel
theorem dX8_place_224 : decode cX8_place 224 = .ok (.aload_n 0, 1) := by decide +kernel
theorem dX8_place_225 : decode cX8_place 225 = .ok (.getfield 39, 3) := by decide +kernel
theorem dX8_place_228 : decode cX8_place 228 = .ok (.iload_n 1, 1) := by decide +kernel
theorem dX8_place_229 : decode cX8_place 229 = .ok (.iaload, 1) := by decide +kernel
theorem dX8_place_230 : decode cX8_place 230 = .ok (.iastore, 1) := by decide +kernel
theorem dX8_place_231 : decode cX8_place 231 = .ok (.iinc 1 1, 3) := by decide +kernel
theorem dX8_place_234 : decode cX8_place 234 = .ok (.goto (-52), 3) := by decide +kernel
theorem dX8_place_237 : decode cX8_place 237 = .ok (.aload_n 0, 1) := by decide +kernel
theorem dX8_place_238 : decode cX8_place 238 = .ok (.getfield 104, 3) := by decide +kernel
theorem dX8_place_241 : decode cX8_place 241 = .ok (.bipush 50, 2) := by decide +kernel
theorem dX8_place_243 : decode cX8_place 243 = .ok (.if_icmp .gt 16, 3) := by decide +kernel
theorem dX8_place_246 : decode cX8_place 246 = .ok (.aload_n 0, 1) := by decide +kernel
theorem dX8_place_247 : decode cX8_place 247 = .ok (.getfield 45, 3) := by decide +kernel
theorem dX8_place_250 : decode cX8_place 250 = .ok (.aload_n 0, 1) := by decide +kernel
theorem dX8_place_251 : decode cX8_place 251 = .ok (.getfield 104, 3) := by decide +kernel
theorem dX8_place_254 : decode cX8_place 254 = .ok (.aload_n 0, 1) := by decide +kernel
theorem dX8_place_255 : decode cX8_place 255 = .ok (.getfield 80, 3) := by decide +kernel
theorem dX8_place_258 : decode cX8_place 258 = .ok (.iastore, 1) := by decide +kernel
theorem dX8_place_259 : decode cX8_place 259 = .ok (.iconst 1, 1) := by decide +kernel
theorem dX8_place_260 : decode cX8_place 260 = .ok (.ireturn, 1) := by decide +kernel
theorem dX8_at_0 : decode cX8_at 0 = .ok (.aload_n 0, 1) := by decide +kernel
theorem dX8_at_1 : decode cX8_at 1 = .ok (.iconst 0, 1) := by decide +kernel
theorem dX8_at_2 : decode cX8_at 2 = .ok (.putfield 74, 3) := by decide +kernel
theorem dX8_at_5 : decode cX8_at 5 = .ok (.iload_n 1, 1) := by decide +kernel
theorem dX8_at_6 : decode cX8_at 6 = .ok (.iconst 1, 1) := by decide +kernel
theorem dX8_at_7 : decode cX8_at 7 = .ok (.if_icmp .lt 11, 3) := by decide +kernel
theorem dX8_at_10 : decode cX8_at 10 = .ok (.iload_n 1, 1) := by decide +kernel
theorem dX8_at_11 : decode cX8_at 11 = .ok (.aload_n 0, 1) := by decide +kernel
theorem dX8_at_12 : decode cX8_at 12 = .ok (.getfield 80, 3) := by decide +kernel
theorem dX8_at_15 : decode cX8_at 15 = .ok (.if_icmp .le 9, 3) := by decide +kernel
theorem dX8_at_18 : decode cX8_at 18 = .ok (.ldc2_w 107, 3) := by decide +kernel
theorem dX8_at_21 : decode cX8_at 21 = .ok (.goto 31, 3) := by decide +kernel
theorem dX8_at_24 : decode cX8_at 24 = .ok (.aload_n 0, 1) := by decide +kernel
theorem dX8_at_25 : decode cX8_at 25 = .ok (.getfield 104, 3) := by decide +kernel
theorem dX8_at_28 : decode cX8_at 28 = .ok (.ifCond .eq 11, 3) := by decide +kernel
theorem dX8_at_31 : decode cX8_at 31 = .ok (.iload_n 1, 1) := by decide +kernel
theorem dX8_at_32 : decode cX8_at 32 = .ok (.aload_n 0, 1) := by decide +kernel
theorem dX8_at_33 : decode cX8_at 33 = .ok (.getfield 101, 3) := by decide +kernel
theorem dX8_at_36 : decode cX8_at 36 = .ok (.if_icmp .le 9, 3) := by decide +kernel
theorem dX8_at_39 : decode cX8_at 39 = .ok (.ldc2_w 109, 3) := by decide +kernel
theorem dX8_at_42 : decode cX8_at 42 = .ok (.goto 10, 3) := by decide +kernel
theorem dX8_at_45 : decode cX8_at 45 = .ok (.aload_n 0, 1) := by decide +kernel
theorem dX8_at_46 : decode cX8_at 46 = .ok (.getfield 36, 3) := by decide +kernel
theorem dX8_at_49 : decode cX8_at 49 = .ok (.iload_n 1, 1) := by decide +kernel
theorem dX8_at_50 : decode cX8_at 50 = .ok (.iaload, 1) := by decide +kernel
theorem dX8_at_51 : decode cX8_at 51 = .ok (.i2l, 1) := by decide +kernel
theorem dX8_at_52 : decode cX8_at 52 = .ok (.lreturn, 1) := by decide +kernel
theorem dX8_cell_0 : decode cX8_cell 0 = .ok (.aload_n 0, 1) := by decide +kernel
theorem dX8_cell_1 : decode cX8_cell 1 = .ok (.lload_n 1, 1) := by decide +kernel
theorem dX8_cell_2 : decode cX8_cell 2 = .ok (.lconst 0, 1) := by decide +kernel
theorem dX8_cell_3 : decode cX8_cell 3 = .ok (.lcmp, 1) := by decide +kernel
theorem dX8_cell_4 : decode cX8_cell 4 = .ok (.ifCond .lt 13, 3) := by decide +kernel
theorem dX8_cell_7 : decode cX8_cell 7 = .ok (.lload_n 1, 1) := by decide +kernel
theorem dX8_cell_8 : decode cX8_cell 8 = .ok (.aload_n 0, 1) := by decide +kernel
theorem dX8_cell_9 : decode cX8_cell 9 = .ok (.getfield 70, 3) := by decide +kernel
theorem dX8_cell_12 : decode cX8_cell 12 = .ok (.i2l, 1) := by decide +kernel
theorem dX8_cell_13 : decode cX8_cell 13 = .ok (.lcmp, 1) := by decide +kernel
theorem dX8_cell_14 : decode cX8_cell 14 = .ok (.ifCond .lt 7, 3) := by decide +kernel
theorem dX8_cell_17 : decode cX8_cell 17 = .ok (.iconst 1, 1) := by decide +kernel
theorem dX8_cell_18 : decode cX8_cell 18 = .ok (.goto 4, 3) := by decide +kernel
theorem dX8_cell_21 : decode cX8_cell 21 = .ok (.iconst 0, 1) := by decide +kernel
theorem dX8_cell_22 : decode cX8_cell 22 = .ok (.putfield 74, 3) := by decide +kernel
theorem dX8_cell_25 : decode cX8_cell 25 = .ok (.aload_n 0, 1) := by decide +kernel
theorem dX8_cell_26 : decode cX8_cell 26 = .ok (.getfield 74, 3) := by decide +kernel
theorem dX8_cell_29 : decode cX8_cell 29 = .ok (.ifCond .le 7, 3) := by decide +kernel
theorem dX8_cell_32 : decode cX8_cell 32 = .ok (.iconst 0, 1) := by decide +kernel
theorem dX8_cell_33 : decode cX8_cell 33 = .ok (.goto 10, 3) := by decide +kernel
theorem dX8_cell_36 : decode cX8_cell 36 = .ok (.aload_n 0, 1) := by decide +kernel
theorem dX8_cell_37 : decode cX8_cell 37 = .ok (.getfield 33, 3) := by decide +kernel
theorem dX8_cell_40 : decode cX8_cell 40 = .ok (.lload_n 1, 1) := by decide +kernel
theorem dX8_cell_41 : decode cX8_cell 41 = .ok (.l2i, 1) := by decide +kernel
theorem dX8_cell_42 : decode cX8_cell 42 = .ok (.baload, 1) := by decide +kernel
theorem dX8_cell_43 : decode cX8_cell 43 = .ok (.ireturn, 1) := by decide +kernel
theorem dX8_moved_0 : decode cX8_moved 0 = .ok (.aload_n 0, 1) := by decide +kernel
theorem dX8_moved_1 : decode cX8_moved 1 = .ok (.iconst 0, 1) := by decide +kernel
theorem dX8_moved_2 : decode cX8_moved 2 = .ok (.putfield 74, 3) := by decide +kernel
theorem dX8_moved_5 : decode cX8_moved 5 = .ok (.iload_n 1, 1) := by decide +kernel
theorem dX8_moved_6 : decode cX8_moved 6 = .ok (.iconst 1, 1) := by decide +kernel
theorem dX8_moved_7 : decode cX8_moved 7 = .ok (.if_icmp .lt 17, 3) := by decide +kernel
theorem dX8_moved_10 : decode cX8_moved 10 = .ok (.iload_n 1, 1) := by decide +kernel
theorem dX8_moved_11 : decode cX8_moved 11 = .ok (.aload_n 0, 1) := by decide +kernel
theorem dX8_moved_12 : decode cX8_moved 12 = .ok (.getfield 104, 3) := by decide +kernel
theorem dX8_moved_15 : decode cX8_moved 15 = .ok (.if_icmp .gt 9, 3) := by decide +kernel
theorem dX8_moved_18 : decode cX8_moved 18 = .ok (.iload_n 1, 1) := by decide +kernel
theorem dX8_moved_19 : decode cX8_moved 19 = .ok (.bipush 50, 2) := by decide +kernel
theorem dX8_moved_21 : decode cX8_moved 21 = .ok (.if_icmp .le 5, 3) := by decide +kernel
theorem dX8_moved_24 : decode cX8_moved 24 = .ok (.iconst (-1), 1) := by decide +kernel
theorem dX8_moved_25 : decode cX8_moved 25 = .ok (.ireturn, 1) := by decide +kernel
theorem dX8_moved_26 : decode cX8_moved 26 = .ok (.iconst 0, 1) := by decide +kernel
theorem dX8_moved_27 : decode cX8_moved 27 = .ok (.istore_n 2, 1) := by decide +kernel
theorem dX8_moved_28 : decode cX8_moved 28 = .ok (.iconst 1, 1) := by decide +kernel
theorem dX8_moved_29 : decode cX8_moved 29 = .ok (.istore_n 3, 1) := by decide +kernel
theorem dX8_moved_30 : decode cX8_moved 30 = .ok (.iload_n 3, 1) := by decide +kernel
theorem dX8_moved_31 : decode cX8_moved 31 = .ok (.aload_n 0, 1) := by decide +kernel
theorem dX8_moved_32 : decode cX8_moved 32 = .ok (.getfield 45, 3) := by decide +kernel
theorem dX8_moved_35 : decode cX8_moved 35 = .ok (.iload_n 1, 1) := by decide +kernel
theorem dX8_moved_36 : decode cX8_moved 36 = .ok (.iaload, 1) := by decide +kernel
theorem dX8_moved_37 : decode cX8_moved 37 = .ok (.if_icmp .gt 37, 3) := by decide +kernel
theorem dX8_moved_40 : decode cX8_moved 40 = .ok (.aload_n 0, 1) := by decide +kernel
theorem dX8_moved_41 : decode cX8_moved 41 = .ok (.getfield 42, 3) := by decide +kernel
theorem dX8_moved_44 : decode cX8_moved 44 = .ok (.bipush 41, 2) := by decide +kernel
theorem dX8_moved_46 : decode cX8_moved 46 = .ok (.iload_n 1, 1) := by decide +kernel
theorem dX8_moved_47 : decode cX8_moved 47 = .ok (.imul, 1) := by decide +kernel
theorem dX8_moved_48 : decode cX8_moved 48 = .ok (.iload_n 3, 1) := by decide +kernel
theorem dX8_moved_49 : decode cX8_moved 49 = .ok (.iadd, 1) := by decide +kernel
theorem dX8_moved_50 : decode cX8_moved 50 = .ok (.iaload, 1) := by decide +kernel
theorem dX8_moved_51 : decode cX8_moved 51 = .ok (.aload_n 0, 1) := by decide +kernel
theorem dX8_moved_52 : decode cX8_moved 52 = .ok (.getfield 36, 3) := by decide +kernel
theorem dX8_moved_55 : decode cX8_moved 55 = .ok (.iload_n 3, 1) := by decide +kernel
theorem dX8_moved_56 : decode cX8_moved 56 = .ok (.iaload, 1) := by decide +kernel
theorem dX8_moved_57 : decode cX8_moved 57 = .ok (.if_icmp .eq 9, 3) := by decide +kernel
theorem dX8_moved_60 : decode cX8_moved 60 = .ok (.iload_n 2, 1) := by decide +kernel
theorem dX8_moved_61 : decode cX8_moved 61 = .ok (.iconst 1, 1) := by decide +kernel
theorem dX8_moved_62 : decode cX8_moved 62 = .ok (.iadd, 1) := by decide +kernel
theorem dX8_moved_63 : decode cX8_moved 63 = .ok (.goto 4, 3) := by decide +kernel
theorem dX8_moved_66 : decode cX8_moved 66 = .ok (.iload_n 2, 1) := by decide +kernel
theorem dX8_moved_67 : decode cX8_moved 67 = .ok (.istore_n 2, 1) := by decide +kernel
theorem dX8_moved_68 : decode cX8_moved 68 = .ok (.iinc 3 1, 3) := by decide +kernel
theorem dX8_moved_71 : decode cX8_moved 71 = .ok (.goto (-41), 3) := by decide +kernel
theorem dX8_moved_74 : decode cX8_moved 74 = .ok (.iload_n 2, 1) := by decide +kernel
theorem dX8_moved_75 : decode cX8_moved 75 = .ok (.ireturn, 1) := by decide +kernel
theorem dX8_call_0 : decode cX8_call 0 = .ok (.aload_n 0, 1) := by decide +kernel
theorem dX8_call_1 : decode cX8_call 1 = .ok (.iconst 0, 1) := by decide +kernel
theorem dX8_call_2 : decode cX8_call 2 = .ok (.putfield 74, 3) := by decide +kernel
theorem dX8_call_5 : decode cX8_call 5 = .ok (.iload_n 1, 1) := by decide +kernel
theorem dX8_call_6 : decode cX8_call 6 = .ok (.iconst 1, 1) := by decide +kernel
theorem dX8_call_7 : decode cX8_call 7 = .ok (.if_icmp .lt 19, 3) := by decide +kernel
theorem dX8_call_10 : decode cX8_call 10 = .ok (.iload_n 1, 1) := by decide +kernel
theorem dX8_call_11 : decode cX8_call 11 = .ok (.bipush 30, 2) := by decide +kernel
theorem dX8_call_13 : decode cX8_call 13 = .ok (.if_icmp .gt 13, 3) := by decide +kernel
theorem dX8_call_16 : decode cX8_call 16 = .ok (.iload_n 2, 1) := by decide +kernel
theorem dX8_call_17 : decode cX8_call 17 = .ok (.ifCond .lt 9, 3) := by decide +kernel
theorem dX8_call_20 : decode cX8_call 20 = .ok (.iload_n 2, 1) := by decide +kernel
theorem dX8_call_21 : decode cX8_call 21 = .ok (.bipush 30, 2) := by decide +kernel
theorem dX8_call_23 : decode cX8_call 23 = .ok (.if_icmp .le 5, 3) := by decide +kernel
theorem dX8_call_26 : decode cX8_call 26 = .ok (.iconst (-1), 1) := by decide +kernel
theorem dX8_call_27 : decode cX8_call 27 = .ok (.ireturn, 1) := by decide +kernel
theorem dX8_call_28 : decode cX8_call 28 = .ok (.lload_n 3, 1) := by decide +kernel
theorem dX8_call_29 : decode cX8_call 29 = .ok (.lconst 0, 1) := by decide +kernel
theorem dX8_call_30 : decode cX8_call 30 = .ok (.lcmp, 1) := by decide +kernel
theorem dX8_call_31 : decode cX8_call 31 = .ok (.ifCond .lt 11, 3) := by decide +kernel
theorem dX8_call_34 : decode cX8_call 34 = .ok (.lload_n 3, 1) := by decide +kernel
theorem dX8_call_35 : decode cX8_call 35 = .ok (.ldc2_w 111, 3) := by decide +kernel
theorem dX8_call_38 : decode cX8_call 38 = .ok (.lcmp, 1) := by decide +kernel
theorem dX8_call_39 : decode cX8_call 39 = .ok (.ifCond .le 6, 3) := by decide +kernel
theorem dX8_call_42 : decode cX8_call 42 = .ok (.bipush (-2), 2) := by decide +kernel
theorem dX8_call_44 : decode cX8_call 44 = .ok (.ireturn, 1) := by decide +kernel
theorem dX8_call_45 : decode cX8_call 45 = .ok (.aload_n 0, 1) := by decide +kernel
theorem dX8_call_46 : decode cX8_call 46 = .ok (.getfield 48, 3) := by decide +kernel
theorem dX8_call_49 : decode cX8_call 49 = .ok (.iload_n 1, 1) := by decide +kernel
theorem dX8_call_50 : decode cX8_call 50 = .ok (.lload_n 3, 1) := by decide +kernel
theorem dX8_call_51 : decode cX8_call 51 = .ok (.lastore, 1) := by decide +kernel
theorem dX8_call_52 : decode cX8_call 52 = .ok (.iload_n 2, 1) := by decide +kernel
theorem dX8_call_53 : decode cX8_call 53 = .ok (.ifCond .le 15, 3) := by decide +kernel
theorem dX8_call_56 : decode cX8_call 56 = .ok (.aload_n 0, 1) := by decide +kernel
theorem dX8_call_57 : decode cX8_call 57 = .ok (.getfield 52, 3) := by decide +kernel
theorem dX8_call_60 : decode cX8_call 60 = .ok (.bipush 31, 2) := by decide +kernel
theorem dX8_call_62 : decode cX8_call 62 = .ok (.iload_n 1, 1) := by decide +kernel
theorem dX8_call_63 : decode cX8_call 63 = .ok (.imul, 1) := by decide +kernel
theorem dX8_call_64 : decode cX8_call 64 = .ok (.iload_n 2, 1) := by decide +kernel
theorem dX8_call_65 : decode cX8_call 65 = .ok (.iadd, 1) := by decide +kernel
theorem dX8_call_66 : decode cX8_call 66 = .ok (.iconst 1, 1) := by decide +kernel
theorem dX8_call_67 : decode cX8_call 67 = .ok (.bastore, 1) := by decide +kernel
theorem dX8_call_68 : decode cX8_call 68 = .ok (.iconst 0, 1) := by decide +kernel
theorem dX8_call_69 : decode cX8_call 69 = .ok (.istore 5, 2) := by decide +kernel
theorem dX8_call_71 : decode cX8_call 71 = .ok (.iconst 1, 1) := by decide +kernel
theorem dX8_call_72 : decode cX8_call 72 = .ok (.istore 6, 2) := by decide +kernel
theorem dX8_call_74 : decode cX8_call 74 = .ok (.iload 6, 2) := by decide +kernel
theorem dX8_call_76 : decode cX8_call 76 = .ok (.bipush 30, 2) := by decide +kernel
theorem dX8_call_78 : decode cX8_call 78 = .ok (.if_icmp .gt 35, 3) := by decide +kernel
theorem dX8_call_81 : decode cX8_call 81 = .ok (.aload_n 0, 1) := by decide +kernel
theorem dX8_call_82 : decode cX8_call 82 = .ok (.getfield 52, 3) := by decide +kernel
theorem dX8_call_85 : decode cX8_call 85 = .ok (.bipush 31, 2) := by decide +kernel
theorem dX8_call_87 : decode cX8_call 87 = .ok (.iload_n 1, 1) := by decide +kernel
theorem dX8_call_88 : decode cX8_call 88 = .ok (.imul, 1) := by decide +kernel
theorem dX8_call_89 : decode cX8_call 89 = .ok (.iload 6, 2) := by decide +kernel
theorem dX8_call_91 : decode cX8_call 91 = .ok (.iadd, 1) := by decide +kernel
theorem dX8_call_92 : decode cX8_call 92 = .ok (.baload, 1) := by decide +kernel
theorem dX8_call_93 : decode cX8_call 93 = .ok (.ifCond .eq 10, 3) := by decide +kernel
theorem dX8_call_96 : decode cX8_call 96 = .ok (.iload 5, 2) := by decide +kernel
theorem dX8_call_98 : decode cX8_call 98 = .ok (.iconst 1, 1) := by decide +kernel
theorem dX8_call_99 : decode cX8_call 99 = .ok (.iadd, 1) := by decide +kernel
theorem dX8_call_100 : decode cX8_call 100 = .ok (.goto 5, 3) := by decide +kernel
theorem dX8_call_103 : decode cX8_call 103 = .ok (.iload 5, 2) := by decide +kernel
theorem dX8_call_105 : decode cX8_call 105 = .ok (.istore 5, 2) := by decide +kernel
theorem dX8_call_107 : decode cX8_call 107 = .ok (.iinc 6 1, 3) := by decide +kernel
theorem dX8_call_110 : decode cX8_call 110 = .ok (.goto (-36), 3) := by decide +kernel
theorem dX8_call_113 : decode cX8_call 113 = .ok (.iload 5, 2) := by decide +kernel
theorem dX8_call_115 : decode cX8_call 115 = .ok (.ireturn, 1) := by decide +kernel
theorem dX8_reckon_0 : decode cX8_reckon 0 = .ok (.lconst 0, 1) := by decide +kernel
theorem dX8_reckon_1 : decode cX8_reckon 1 = .ok (.lstore_n 2, 1) := by decide +kernel
theorem dX8_reckon_2 : decode cX8_reckon 2 = .ok (.iconst 1, 1) := by decide +kernel
theorem dX8_reckon_3 : decode cX8_reckon 3 = .ok (.istore 4, 2) := by decide +kernel
theorem dX8_reckon_5 : decode cX8_reckon 5 = .ok (.iload 4, 2) := by decide +kernel
theorem dX8_reckon_7 : decode cX8_reckon 7 = .ok (.bipush 30, 2) := by decide +kernel
theorem dX8_reckon_9 : decode cX8_reckon 9 = .ok (.if_icmp .gt 64, 3) := by decide +kernel
theorem dX8_reckon_12 : decode cX8_reckon 12 = .ok (.aload_n 0, 1) := by decide +kernel
theorem dX8_reckon_13 : decode cX8_reckon 13 = .ok (.getfield 52, 3) := by decide +kernel
theorem dX8_reckon_16 : decode cX8_reckon 16 = .ok (.bipush 31, 2) := by decide +kernel
theorem dX8_reckon_18 : decode cX8_reckon 18 = .ok (.iload_n 1, 1) := by decide +kernel
theorem dX8_reckon_19 : decode cX8_reckon 19 = .ok (.imul, 1) := by decide +kernel
theorem dX8_reckon_20 : decode cX8_reckon 20 = .ok (.iload 4, 2) := by decide +kernel
theorem dX8_reckon_22 : decode cX8_reckon 22 = .ok (.iadd, 1) := by decide +kernel
theorem dX8_reckon_23 : decode cX8_reckon 23 = .ok (.baload, 1) := by decide +kernel
theorem dX8_reckon_24 : decode cX8_reckon 24 = .ok (.ifCond .eq 43, 3) := by decide +kernel
theorem dX8_reckon_27 : decode cX8_reckon 27 = .ok (.aload_n 0, 1) := by decide +kernel
theorem dX8_reckon_28 : decode cX8_reckon 28 = .ok (.getfield 56, 3) := by decide +kernel
theorem dX8_reckon_31 : decode cX8_reckon 31 = .ok (.iload 4, 2) := by decide +kernel
theorem dX8_reckon_33 : decode cX8_reckon 33 = .ok (.laload, 1) := by decide +kernel
theorem dX8_reckon_34 : decode cX8_reckon 34 = .ok (.lconst 0, 1) := by decide +kernel
theorem dX8_reckon_35 : decode cX8_reckon 35 = .ok (.lcmp, 1) := by decide +kernel
theorem dX8_reckon_36 : decode cX8_reckon 36 = .ok (.ifCond .ge 7, 3) := by decide +kernel
theorem dX8_reckon_39 : decode cX8_reckon 39 = .ok (.ldc2_w 107, 3) := by decide +kernel
theorem dX8_reckon_42 : decode cX8_reckon 42 = .ok (.lreturn, 1) := by decide +kernel
theorem dX8_reckon_43 : decode cX8_reckon 43 = .ok (.aload_n 0, 1) := by decide +kernel
theorem dX8_reckon_44 : decode cX8_reckon 44 = .ok (.getfield 56, 3) := by decide +kernel
theorem dX8_reckon_47 : decode cX8_reckon 47 = .ok (.iload 4, 2) := by decide +kernel
theorem dX8_reckon_49 : decode cX8_reckon 49 = .ok (.laload, 1) := by decide +kernel
theorem dX8_reckon_50 : decode cX8_reckon 50 = .ok (.lload_n 2, 1) := by decide +kernel
theorem dX8_reckon_51 : decode cX8_reckon 51 = .ok (.lcmp, 1) := by decide +kernel
theorem dX8_reckon_52 : decode cX8_reckon 52 = .ok (.ifCond .le 13, 3) := by decide +kernel
theorem dX8_reckon_55 : decode cX8_reckon 55 = .ok (.aload_n 0, 1) := by decide +kernel
theorem dX8_reckon_56 : decode cX8_reckon 56 = .ok (.getfield 56, 3) := by decide +kernel
theorem dX8_reckon_59 : decode cX8_reckon 59 = .ok (.iload 4, 2) := by decide +kernel
theorem dX8_reckon_61 : decode cX8_reckon 61 = .ok (.laload, 1) := by decide +kernel
theorem dX8_reckon_62 : decode cX8_reckon 62 = .ok (.goto 4, 3) := by decide +kernel
theorem dX8_reckon_65 : decode cX8_reckon 65 = .ok (.lload_n 2, 1) := by decide +kernel
theorem dX8_reckon_66 : decode cX8_reckon 66 = .ok (.lstore_n 2, 1) := by decide +kernel
theorem dX8_reckon_67 : decode cX8_reckon 67 = .ok (.iinc 4 1, 3) := by decide +kernel
theorem dX8_reckon_70 : decode cX8_reckon 70 = .ok (.goto (-65), 3) := by decide +kernel
theorem dX8_reckon_73 : decode cX8_reckon 73 = .ok (.lload_n 2, 1) := by decide +kernel
theorem dX8_reckon_74 : decode cX8_reckon 74 = .ok (.aload_n 0, 1) := by decide +kernel
theorem dX8_reckon_75 : decode cX8_reckon 75 = .ok (.getfield 48, 3) := by decide +kernel
theorem dX8_reckon_78 : decode cX8_reckon 78 = .ok (.iload_n 1, 1) := by decide +kernel
theorem dX8_reckon_79 : decode cX8_reckon 79 = .ok (.laload, 1) := by decide +kernel
theorem dX8_reckon_80 : decode cX8_reckon 80 = .ok (.ladd, 1) := by decide +kernel
theorem dX8_reckon_81 : decode cX8_reckon 81 = .ok (.lreturn, 1) := by decide +kernel
set_option maxRecDepth 20000 in
theorem ggX8_depth_X8_reckon : GoodIn wsX8_depth wsX8_reckon := goodIn_r _ [9, 10, 3, 4, 11, 12, 13, 14, 15, 16, 17, 18, 19, 20, 21, 22, 23, 24, 25, 26, 27, 28, 29, 30, 31, 32, 33, 34, 35, 36] (by decide +kernel) (by decide +kernel)
set_option maxRecDepth 20000 in
theorem gX8_depth_X8_reckon : GoodIn wsX8_depth (wsV RX8 115 RX8 yX8_reckon wsX8_reckon) := goodIn_app (goodIn_of _ (by decide +kernel)) ggX8_depth_X8_reckon
theorem dX8_depth_0 : decode cX8_depth 0 = .ok (.aload_n 0, 1) := by decide +kernel
theorem dX8_depth_1 : decode cX8_depth 1 = .ok (.iconst 0, 1) := by decide +kernel
theorem dX8_depth_2 : decode cX8_depth 2 = .ok (.putfield 74, 3) := by decide +kernel
theorem dX8_depth_5 : decode cX8_depth 5 = .ok (.iload_n 1, 1) := by decide +kernel
theorem dX8_depth_6 : decode cX8_depth 6 = .ok (.iconst 1, 1) := by decide +kernel
theorem dX8_depth_7 : decode cX8_depth 7 = .ok (.if_icmp .lt 9, 3) := by decide +kernel
theorem dX8_depth_10 : decode cX8_depth 10 = .ok (.iload_n 1, 1) := by decide +kernel
theorem dX8_depth_11 : decode cX8_depth 11 = .ok (.bipush 30, 2) := by decide +kernel
theorem dX8_depth_13 : decode cX8_depth 13 = .ok (.if_icmp .le 7, 3) := by decide +kernel
theorem dX8_depth_16 : decode cX8_depth 16 = .ok (.ldc2_w 113, 3) := by decide +kernel
theorem dX8_depth_19 : decode cX8_depth 19 = .ok (.lreturn, 1) := by decide +kernel
theorem dX8_depth_20 : decode cX8_depth 20 = .ok (.iconst 1, 1) := by decide +kernel
theorem dX8_depth_21 : decode cX8_depth 21 = .ok (.istore_n 2, 1) := by decide +kernel
theorem dX8_depth_22 : decode cX8_depth 22 = .ok (.iload_n 2, 1) := by decide +kernel
theorem dX8_depth_23 : decode cX8_depth 23 = .ok (.bipush 30, 2) := by decide +kernel
theorem dX8_depth_25 : decode cX8_depth 25 = .ok (.if_icmp .gt 18, 3) := by decide +kernel
theorem dX8_depth_28 : decode cX8_depth 28 = .ok (.aload_n 0, 1) := by decide +kernel
theorem dX8_depth_29 : decode cX8_depth 29 = .ok (.getfield 56, 3) := by decide +kernel
theorem dX8_depth_32 : decode cX8_depth 32 = .ok (.iload_n 2, 1) := by decide +kernel
theorem dX8_depth_33 : decode cX8_depth 33 = .ok (.ldc2_w 107, 3) := by decide +kernel
theorem dX8_depth_36 : decode cX8_depth 36 = .ok (.lastore, 1) := by decide +kernel
theorem dX8_depth_37 : decode cX8_depth 37 = .ok (.iinc 2 1, 3) := by decide +kernel
theorem dX8_depth_40 : decode cX8_depth 40 = .ok (.goto (-18), 3) := by decide +kernel
theorem dX8_depth_43 : decode cX8_depth 43 = .ok (.iconst 0, 1) := by decide +kernel
theorem dX8_depth_44 : decode cX8_depth 44 = .ok (.istore_n 2, 1) := by decide +kernel
theorem dX8_depth_45 : decode cX8_depth 45 = .ok (.iload_n 2, 1) := by decide +kernel
theorem dX8_depth_46 : decode cX8_depth 46 = .ok (.bipush 30, 2) := by decide +kernel
theorem dX8_depth_48 : decode cX8_depth 48 = .ok (.if_icmp .ge 54, 3) := by decide +kernel
theorem dX8_depth_51 : decode cX8_depth 51 = .ok (.iconst 1, 1) := by decide +kernel
theorem dX8_depth_52 : decode cX8_depth 52 = .ok (.istore_n 3, 1) := by decide +kernel
theorem dX8_depth_53 : decode cX8_depth 53 = .ok (.iload_n 3, 1) := by decide +kernel
theorem dX8_depth_54 : decode cX8_depth 54 = .ok (.bipush 30, 2) := by decide +kernel
theorem dX8_depth_56 : decode cX8_depth 56 = .ok (.if_icmp .gt 40, 3) := by decide +kernel
theorem dX8_depth_59 : decode cX8_depth 59 = .ok (.aload_n 0, 1) := by decide +kernel
theorem dX8_depth_60 : decode cX8_depth 60 = .ok (.getfield 56, 3) := by decide +kernel
theorem dX8_depth_63 : decode cX8_depth 63 = .ok (.iload_n 3, 1) := by decide +kernel
theorem dX8_depth_64 : decode cX8_depth 64 = .ok (.aload_n 0, 1) := by decide +kernel
theorem dX8_depth_65 : decode cX8_depth 65 = .ok (.getfield 56, 3) := by decide +kernel
theorem dX8_depth_68 : decode cX8_depth 68 = .ok (.iload_n 3, 1) := by decide +kernel
theorem dX8_depth_69 : decode cX8_depth 69 = .ok (.laload, 1) := by decide +kernel
theorem dX8_depth_70 : decode cX8_depth 70 = .ok (.lconst 0, 1) := by decide +kernel
theorem dX8_depth_71 : decode cX8_depth 71 = .ok (.lcmp, 1) := by decide +kernel
theorem dX8_depth_72 : decode cX8_depth 72 = .ok (.ifCond .ge 11, 3) := by decide +kernel
theorem dX8_depth_75 : decode cX8_depth 75 = .ok (.aload_n 0, 1) := by decide +kernel
theorem dX8_depth_76 : decode cX8_depth 76 = .ok (.iload_n 3, 1) := by decide +kernel
theorem dX8_depth_77 : decode cX8_depth 77 = .ok (.invokevirtual 115, 3) := by decide +kernel
theorem dX8_depth_80 : decode cX8_depth 80 = .ok (.goto 9, 3) := by decide +kernel
theorem dX8_depth_83 : decode cX8_depth 83 = .ok (.aload_n 0, 1) := by decide +kernel
theorem dX8_depth_84 : decode cX8_depth 84 = .ok (.getfield 56, 3) := by decide +kernel
theorem dX8_depth_87 : decode cX8_depth 87 = .ok (.iload_n 3, 1) := by decide +kernel
theorem dX8_depth_88 : decode cX8_depth 88 = .ok (.laload, 1) := by decide +kernel
theorem dX8_depth_89 : decode cX8_depth 89 = .ok (.lastore, 1) := by decide +kernel
theorem dX8_depth_90 : decode cX8_depth 90 = .ok (.iinc 3 1, 3) := by decide +kernel
theorem dX8_depth_93 : decode cX8_depth 93 = .ok (.goto (-40), 3) := by decide +kernel
theorem dX8_depth_96 : decode cX8_depth 96 = .ok (.iinc 2 1, 3) := by decide +kernel
theorem dX8_depth_99 : decode cX8_depth 99 = .ok (.goto (-54), 3) := by decide +kernel
theorem dX8_depth_102 : decode cX8_depth 102 = .ok (.aload_n 0, 1) := by decide +kernel
theorem dX8_depth_103 : decode cX8_depth 103 = .ok (.getfield 56, 3) := by decide +kernel
theorem dX8_depth_106 : decode cX8_depth 106 = .ok (.iload_n 1, 1) := by decide +kernel
theorem dX8_depth_107 : decode cX8_depth 107 = .ok (.laload, 1) := by decide +kernel
theorem dX8_depth_108 : decode cX8_depth 108 = .ok (.lreturn, 1) := by decide +kernel
set_option maxRecDepth 20000 in
theorem ggX8_block_X8_sum : GoodIn wsX8_block wsX8_sum := goodIn_r _ [10, 4, 11, 12, 13, 14, 9, 15, 16, 17, 18, 19, 20, 21, 22, 23, 24, 25, 26, 27, 28, 29, 30, 31, 32, 33, 34, 35, 36, 37, 38, 39, 40] (by decide +kernel) (by decide +kernel)
set_option maxRecDepth 20000 in
theorem gX8_block_X8_sum : GoodIn wsX8_block (wsV RX8 124 RX8 yX8_sum wsX8_sum) := goodIn_app (goodIn_of _ (by decide +kernel)) ggX8_block_X8_sum
theorem dX8_block_0 : decode cX8_block 0 = .ok (.aload_n 0, 1) := by decide +kernel
theorem dX8_block_1 : decode cX8_block 1 = .ok (.iconst 0, 1) := by decide +kernel
theorem dX8_block_2 : decode cX8_block 2 = .ok (.putfield 74, 3) := by decide +kernel
theorem dX8_block_5 : decode cX8_block 5 = .ok (.lload_n 1, 1) := by decide +kernel
theorem dX8_block_6 : decode cX8_block 6 = .ok (.lconst 1, 1) := by decide +kernel
theorem dX8_block_7 : decode cX8_block 7 = .ok (.lcmp, 1) := by decide +kernel
theorem dX8_block_8 : decode cX8_block 8 = .ok (.ifCond .lt 11, 3) := by decide +kernel
theorem dX8_block_11 : decode cX8_block 11 = .ok (.lload_n 1, 1) := by decide +kernel
theorem dX8_block_12 : decode cX8_block 12 = .ok (.ldc2_w 119, 3) := by decide +kernel
theorem dX8_block_15 : decode cX8_block 15 = .ok (.lcmp, 1) := by decide +kernel
theorem dX8_block_16 : decode cX8_block 16 = .ok (.ifCond .le 6, 3) := by decide +kernel
theorem dX8_block_19 : decode cX8_block 19 = .ok (.bipush (-2), 2) := by decide +kernel
theorem dX8_block_21 : decode cX8_block 21 = .ok (.ireturn, 1) := by decide +kernel
theorem dX8_block_22 : decode cX8_block 22 = .ok (.aload_n 0, 1) := by decide +kernel
theorem dX8_block_23 : decode cX8_block 23 = .ok (.getfield 121, 3) := by decide +kernel
theorem dX8_block_26 : decode cX8_block 26 = .ok (.bipush 20, 2) := by decide +kernel
theorem dX8_block_28 : decode cX8_block 28 = .ok (.if_icmp .ne 6, 3) := by decide +kernel
theorem dX8_block_31 : decode cX8_block 31 = .ok (.bipush (-4), 2) := by decide +kernel
theorem dX8_block_33 : decode cX8_block 33 = .ok (.ireturn, 1) := by decide +kernel
theorem dX8_block_34 : decode cX8_block 34 = .ok (.aload_n 0, 1) := by decide +kernel
theorem dX8_block_35 : decode cX8_block 35 = .ok (.dup, 1) := by decide +kernel
theorem dX8_block_36 : decode cX8_block 36 = .ok (.getfield 121, 3) := by decide +kernel
theorem dX8_block_39 : decode cX8_block 39 = .ok (.iconst 1, 1) := by decide +kernel
theorem dX8_block_40 : decode cX8_block 40 = .ok (.iadd, 1) := by decide +kernel
theorem dX8_block_41 : decode cX8_block 41 = .ok (.putfield 121, 3) := by decide +kernel
theorem dX8_block_44 : decode cX8_block 44 = .ok (.aload_n 0, 1) := by decide +kernel
theorem dX8_block_45 : decode cX8_block 45 = .ok (.getfield 59, 3) := by decide +kernel
theorem dX8_block_48 : decode cX8_block 48 = .ok (.aload_n 0, 1) := by decide +kernel
theorem dX8_block_49 : decode cX8_block 49 = .ok (.getfield 121, 3) := by decide +kernel
theorem dX8_block_52 : decode cX8_block 52 = .ok (.lload_n 1, 1) := by decide +kernel
theorem dX8_block_53 : decode cX8_block 53 = .ok (.l2i, 1) := by decide +kernel
theorem dX8_block_54 : decode cX8_block 54 = .ok (.iastore, 1) := by decide +kernel
theorem dX8_block_55 : decode cX8_block 55 = .ok (.aload_n 0, 1) := by decide +kernel
theorem dX8_block_56 : decode cX8_block 56 = .ok (.getfield 65, 3) := by decide +kernel
theorem dX8_block_59 : decode cX8_block 59 = .ok (.iconst 2, 1) := by decide +kernel
theorem dX8_block_60 : decode cX8_block 60 = .ok (.aload_n 0, 1) := by decide +kernel
theorem dX8_block_61 : decode cX8_block 61 = .ok (.getfield 121, 3) := by decide +kernel
theorem dX8_block_64 : decode cX8_block 64 = .ok (.imul, 1) := by decide +kernel
theorem dX8_block_65 : decode cX8_block 65 = .ok (.aload_n 0, 1) := by decide +kernel
theorem dX8_block_66 : decode cX8_block 66 = .ok (.aload_n 0, 1) := by decide +kernel
theorem dX8_block_67 : decode cX8_block 67 = .ok (.getfield 121, 3) := by decide +kernel
theorem dX8_block_70 : decode cX8_block 70 = .ok (.iconst 0, 1) := by decide +kernel
theorem dX8_block_71 : decode cX8_block 71 = .ok (.invokevirtual 124, 3) := by decide +kernel
theorem dX8_block_74 : decode cX8_block 74 = .ok (.iastore, 1) := by decide +kernel
theorem dX8_block_75 : decode cX8_block 75 = .ok (.aload_n 0, 1) := by decide +kernel
theorem dX8_block_76 : decode cX8_block 76 = .ok (.getfield 65, 3) := by decide +kernel
theorem dX8_block_79 : decode cX8_block 79 = .ok (.iconst 2, 1) := by decide +kernel
theorem dX8_block_80 : decode cX8_block 80 = .ok (.aload_n 0, 1) := by decide +kernel
theorem dX8_block_81 : decode cX8_block 81 = .ok (.getfield 121, 3) := by decide +kernel
theorem dX8_block_84 : decode cX8_block 84 = .ok (.imul, 1) := by decide +kernel
theorem dX8_block_85 : decode cX8_block 85 = .ok (.iconst 1, 1) := by decide +kernel
theorem dX8_block_86 : decode cX8_block 86 = .ok (.iadd, 1) := by decide +kernel
theorem dX8_block_87 : decode cX8_block 87 = .ok (.aload_n 0, 1) := by decide +kernel
theorem dX8_block_88 : decode cX8_block 88 = .ok (.aload_n 0, 1) := by decide +kernel
theorem dX8_block_89 : decode cX8_block 89 = .ok (.getfield 121, 3) := by decide +kernel
theorem dX8_block_92 : decode cX8_block 92 = .ok (.iconst 1, 1) := by decide +kernel
theorem dX8_block_93 : decode cX8_block 93 = .ok (.invokevirtual 124, 3) := by decide +kernel
theorem dX8_block_96 : decode cX8_block 96 = .ok (.iastore, 1) := by decide +kernel
theorem dX8_block_97 : decode cX8_block 97 = .ok (.aload_n 0, 1) := by decide +kernel
theorem dX8_block_98 : decode cX8_block 98 = .ok (.getfield 121, 3) := by decide +kernel
theorem dX8_block_101 : decode cX8_block 101 = .ok (.ireturn, 1) := by decide +kernel
theorem dX8_cell__0 : decode cX8_cell_ 0 = .ok (.bipush 32, 2) := by decide +kernel
theorem dX8_cell__2 : decode cX8_cell_ 2 = .ok (.iconst 2, 1) := by decide +kernel
theorem dX8_cell__3 : decode cX8_cell_ 3 = .ok (.iload_n 0, 1) := by decide +kernel
theorem dX8_cell__4 : decode cX8_cell_ 4 = .ok (.imul, 1) := by decide +kernel
theorem dX8_cell__5 : decode cX8_cell_ 5 = .ok (.iload_n 1, 1) := by decide +kernel
theorem dX8_cell__6 : decode cX8_cell_ 6 = .ok (.iadd, 1) := by decide +kernel
theorem dX8_cell__7 : decode cX8_cell_ 7 = .ok (.imul, 1) := by decide +kernel
theorem dX8_cell__8 : decode cX8_cell_ 8 = .ok (.iload_n 2, 1) := by decide +kernel
theorem dX8_cell__9 : decode cX8_cell_ 9 = .ok (.iadd, 1) := by decide +kernel
theorem dX8_cell__10 : decode cX8_cell_ 10 = .ok (.ireturn, 1) := by decide +kernel
set_option maxRecDepth 20000 in
theorem ggX8_sum_X8_cell_ : GoodIn wsX8_sum wsX8_cell_ := goodIn_r _ [7] (by decide +kernel) (by decide +kernel)
set_option maxRecDepth 20000 in
theorem gX8_sum_X8_cell_ : GoodIn wsX8_sum (va_wsS RX8 127 yX8_cell_ wsX8_cell_) := goodIn_app (goodIn_of _ (by decide +kernel)) ggX8_sum_X8_cell_
theorem dX8_sum_0 : decode cX8_sum 0 = .ok (.iconst 1, 1) := by decide +kernel
theorem dX8_sum_1 : decode cX8_sum 1 = .ok (.istore_n 3, 1) := by decide +kernel
theorem dX8_sum_2 : decode cX8_sum 2 = .ok (.iconst 0, 1) := by decide +kernel
theorem dX8_sum_3 : decode cX8_sum 3 = .ok (.istore 4, 2) := by decide +kernel
theorem dX8_sum_5 : decode cX8_sum 5 = .ok (.iload 4, 2) := by decide +kernel
theorem dX8_sum_7 : decode cX8_sum 7 = .ok (.aload_n 0, 1) := by decide +kernel
theorem dX8_sum_8 : decode cX8_sum 8 = .ok (.getfield 59, 3) := by decide +kernel
theorem dX8_sum_11 : decode cX8_sum 11 = .ok (.iload_n 1, 1) := by decide +kernel
theorem dX8_sum_12 : decode cX8_sum 12 = .ok (.iaload, 1) := by decide +kernel
theorem dX8_sum_13 : decode cX8_sum 13 = .ok (.if_icmp .ge 43, 3) := by decide +kernel
theorem dX8_sum_16 : decode cX8_sum 16 = .ok (.iload_n 3, 1) := by decide +kernel
theorem dX8_sum_17 : decode cX8_sum 17 = .ok (.aload_n 0, 1) := by decide +kernel
theorem dX8_sum_18 : decode cX8_sum 18 = .ok (.getfield 62, 3) := by decide +kernel
theorem dX8_sum_21 : decode cX8_sum 21 = .ok (.iload_n 1, 1) := by decide +kernel
theorem dX8_sum_22 : decode cX8_sum 22 = .ok (.iload_n 2, 1) := by decide +kernel
theorem dX8_sum_23 : decode cX8_sum 23 = .ok (.iload 4, 2) := by decide +kernel
theorem dX8_sum_25 : decode cX8_sum 25 = .ok (.invokestatic 127, 3) := by decide +kernel
theorem dX8_sum_28 : decode cX8_sum 28 = .ok (.baload, 1) := by decide +kernel
theorem dX8_sum_29 : decode cX8_sum 29 = .ok (.sipush 255, 3) := by decide +kernel
theorem dX8_sum_32 : decode cX8_sum 32 = .ok (.iand, 1) := by decide +kernel
theorem dX8_sum_33 : decode cX8_sum 33 = .ok (.ixor, 1) := by decide +kernel
theorem dX8_sum_34 : decode cX8_sum 34 = .ok (.istore 5, 2) := by decide +kernel
theorem dX8_sum_36 : decode cX8_sum 36 = .ok (.iload 5, 2) := by decide +kernel
theorem dX8_sum_38 : decode cX8_sum 38 = .ok (.iconst 5, 1) := by decide +kernel
theorem dX8_sum_39 : decode cX8_sum 39 = .ok (.ishl, 1) := by decide +kernel
theorem dX8_sum_40 : decode cX8_sum 40 = .ok (.iload 5, 2) := by decide +kernel
theorem dX8_sum_42 : decode cX8_sum 42 = .ok (.bipush 27, 2) := by decide +kernel
theorem dX8_sum_44 : decode cX8_sum 44 = .ok (.iushr, 1) := by decide +kernel
theorem dX8_sum_45 : decode cX8_sum 45 = .ok (.ior, 1) := by decide +kernel
theorem dX8_sum_46 : decode cX8_sum 46 = .ok (.ldc 131, 2) := by decide +kernel
theorem dX8_sum_48 : decode cX8_sum 48 = .ok (.imul, 1) := by decide +kernel
theorem dX8_sum_49 : decode cX8_sum 49 = .ok (.istore_n 3, 1) := by decide +kernel
theorem dX8_sum_50 : decode cX8_sum 50 = .ok (.iinc 4 1, 3) := by decide +kernel
theorem dX8_sum_53 : decode cX8_sum 53 = .ok (.goto (-48), 3) := by decide +kernel
theorem dX8_sum_56 : decode cX8_sum 56 = .ok (.iload_n 3, 1) := by decide +kernel
theorem dX8_sum_57 : decode cX8_sum 57 = .ok (.ireturn, 1) := by decide +kernel
theorem dX8_noBlock_0 : decode cX8_noBlock 0 = .ok (.iload_n 1, 1) := by decide +kernel
theorem dX8_noBlock_1 : decode cX8_noBlock 1 = .ok (.iconst 1, 1) := by decide +kernel
theorem dX8_noBlock_2 : decode cX8_noBlock 2 = .ok (.if_icmp .lt 11, 3) := by decide +kernel
theorem dX8_noBlock_5 : decode cX8_noBlock 5 = .ok (.iload_n 1, 1) := by decide +kernel
theorem dX8_noBlock_6 : decode cX8_noBlock 6 = .ok (.aload_n 0, 1) := by decide +kernel
theorem dX8_noBlock_7 : decode cX8_noBlock 7 = .ok (.getfield 121, 3) := by decide +kernel
theorem dX8_noBlock_10 : decode cX8_noBlock 10 = .ok (.if_icmp .le 7, 3) := by decide +kernel
theorem dX8_noBlock_13 : decode cX8_noBlock 13 = .ok (.iconst 1, 1) := by decide +kernel
theorem dX8_noBlock_14 : decode cX8_noBlock 14 = .ok (.goto 4, 3) := by decide +kernel
theorem dX8_noBlock_17 : decode cX8_noBlock 17 = .ok (.iconst 0, 1) := by decide +kernel
theorem dX8_noBlock_18 : decode cX8_noBlock 18 = .ok (.ireturn, 1) := by decide +kernel
set_option maxRecDepth 20000 in
theorem ggX8_write_X8_noBlock : GoodIn wsX8_write wsX8_noBlock := goodIn_r _ [9, 10, 19, 20, 21, 22, 23, 24, 25, 26, 27, 28, 29, 30, 31, 32, 33, 34, 35, 36, 37, 38, 39, 40, 41, 42, 43] (by decide +kernel) (by decide +kernel)
set_option maxRecDepth 20000 in
theorem gX8_write_X8_noBlock : GoodIn wsX8_write (wsV RX8 132 RX8 yX8_noBlock wsX8_noBlock) := goodIn_app (goodIn_of _ (by decide +kernel)) ggX8_write_X8_noBlock
set_option maxRecDepth 20000 in
theorem ggX8_write_X8_cell_ : GoodIn wsX8_write wsX8_cell_ := goodIn_r _ [13] (by decide +kernel) (by decide +kernel)
set_option maxRecDepth 20000 in
theorem gX8_write_X8_cell_ : GoodIn wsX8_write (va_wsS RX8 127 yX8_cell_ wsX8_cell_) := goodIn_app (goodIn_of _ (by decide +kernel)) ggX8_write_X8_cell_
set_option maxRecDepth 20000 in
theorem ggX8_write_X8_sum : GoodIn wsX8_write wsX8_sum := goodIn_r _ [17, 2, 3, 18, 11, 12, 8, 13, 19, 20, 21, 22, 23, 24, 25, 26, 27, 28, 29, 30, 31, 32, 33, 34, 35, 36, 37, 38, 39, 40, 41, 42, 43] (by decide +kernel) (by decide +kernel)
set_option maxRecDepth 20000 in
theorem gX8_write_X8_sum : GoodIn wsX8_write (wsV RX8 124 RX8 yX8_sum wsX8_sum) := goodIn_app (goodIn_of _ (by decide +kernel)) ggX8_write_X8_sum
theorem dX8_write_0 : decode cX8_write 0 = .ok (.aload_n 0, 1) := by decide +kernel
theorem dX8_write_1 : decode cX8_write 1 = .ok (.iconst 0, 1) := by decide +kernel
theorem dX8_write_2 : decode cX8_write 2 = .ok (.putfield 74, 3) := by decide +kernel
theorem dX8_write_5 : decode cX8_write 5 = .ok (.aload_n 0, 1) := by decide +kernel
theorem dX8_write_6 : decode cX8_write 6 = .ok (.iload_n 1, 1) := by decide +kernel
theorem dX8_write_7 : decode cX8_write 7 = .ok (.invokevirtual 132, 3) := by decide +kernel
theorem dX8_write_10 : decode cX8_write 10 = .ok (.ifCond .eq 5, 3) := by decide +kernel
theorem dX8_write_13 : decode cX8_write 13 = .ok (.iconst (-1), 1) := by decide +kernel
theorem dX8_write_14 : decode cX8_write 14 = .ok (.ireturn, 1) := by decide +kernel
theorem dX8_write_15 : decode cX8_write 15 = .ok (.iload_n 2, 1) := by decide +kernel
theorem dX8_write_16 : decode cX8_write 16 = .ok (.ifCond .lt 13, 3) := by decide +kernel
theorem dX8_write_19 : decode cX8_write 19 = .ok (.iload_n 2, 1) := by decide +kernel
theorem dX8_write_20 : decode cX8_write 20 = .ok (.aload_n 0, 1) := by decide +kernel
theorem dX8_write_21 : decode cX8_write 21 = .ok (.getfield 59, 3) := by decide +kernel
theorem dX8_write_24 : decode cX8_write 24 = .ok (.iload_n 1, 1) := by decide +kernel
theorem dX8_write_25 : decode cX8_write 25 = .ok (.iaload, 1) := by decide +kernel
theorem dX8_write_26 : decode cX8_write 26 = .ok (.if_icmp .lt 6, 3) := by decide +kernel
theorem dX8_write_29 : decode cX8_write 29 = .ok (.bipush (-2), 2) := by decide +kernel
theorem dX8_write_31 : decode cX8_write 31 = .ok (.ireturn, 1) := by decide +kernel
theorem dX8_write_32 : decode cX8_write 32 = .ok (.iconst 0, 1) := by decide +kernel
theorem dX8_write_33 : decode cX8_write 33 = .ok (.istore 4, 2) := by decide +kernel
theorem dX8_write_35 : decode cX8_write 35 = .ok (.iload 4, 2) := by decide +kernel
theorem dX8_write_37 : decode cX8_write 37 = .ok (.iconst 2, 1) := by decide +kernel
theorem dX8_write_38 : decode cX8_write 38 = .ok (.if_icmp .ge 40, 3) := by decide +kernel
theorem dX8_write_41 : decode cX8_write 41 = .ok (.aload_n 0, 1) := by decide +kernel
theorem dX8_write_42 : decode cX8_write 42 = .ok (.getfield 62, 3) := by decide +kernel
theorem dX8_write_45 : decode cX8_write 45 = .ok (.iload_n 1, 1) := by decide +kernel
theorem dX8_write_46 : decode cX8_write 46 = .ok (.iload 4, 2) := by decide +kernel
theorem dX8_write_48 : decode cX8_write 48 = .ok (.iload_n 2, 1) := by decide +kernel
theorem dX8_write_49 : decode cX8_write 49 = .ok (.invokestatic 127, 3) := by decide +kernel
theorem dX8_write_52 : decode cX8_write 52 = .ok (.iload_n 3, 1) := by decide +kernel
theorem dX8_write_53 : decode cX8_write 53 = .ok (.bastore, 1) := by decide +kernel
theorem dX8_write_54 : decode cX8_write 54 = .ok (.aload_n 0, 1) := by decide +kernel
theorem dX8_write_55 : decode cX8_write 55 = .ok (.getfield 65, 3) := by decide +kernel
theorem dX8_write_58 : decode cX8_write 58 = .ok (.iconst 2, 1) := by decide +kernel
theorem dX8_write_59 : decode cX8_write 59 = .ok (.iload_n 1, 1) := by decide +kernel
theorem dX8_write_60 : decode cX8_write 60 = .ok (.imul, 1) := by decide +kernel
theorem dX8_write_61 : decode cX8_write 61 = .ok (.iload 4, 2) := by decide +kernel
theorem dX8_write_63 : decode cX8_write 63 = .ok (.iadd, 1) := by decide +kernel
theorem dX8_write_64 : decode cX8_write 64 = .ok (.aload_n 0, 1) := by decide +kernel
theorem dX8_write_65 : decode cX8_write 65 = .ok (.iload_n 1, 1) := by decide +kernel
theorem dX8_write_66 : decode cX8_write 66 = .ok (.iload 4, 2) := by decide +kernel
theorem dX8_write_68 : decode cX8_write 68 = .ok (.invokevirtual 124, 3) := by decide +kernel
theorem dX8_write_71 : decode cX8_write 71 = .ok (.iastore, 1) := by decide +kernel
theorem dX8_write_72 : decode cX8_write 72 = .ok (.iinc 4 1, 3) := by decide +kernel
theorem dX8_write_75 : decode cX8_write 75 = .ok (.goto (-40), 3) := by decide +kernel
theorem dX8_write_78 : decode cX8_write 78 = .ok (.iconst 1, 1) := by decide +kernel
theorem dX8_write_79 : decode cX8_write 79 = .ok (.ireturn, 1) := by decide +kernel
set_option maxRecDepth 20000 in
theorem ggX8_poke_X8_noBlock : GoodIn wsX8_poke wsX8_noBlock := goodIn_r _ [8, 9, 13, 14, 15, 16, 17, 18, 19, 20, 21, 22, 23, 24, 25, 26, 27, 28, 29, 30, 31, 32, 33, 34, 35, 36, 37] (by decide +kernel) (by decide +kernel)
set_option maxRecDepth 20000 in
theorem gX8_poke_X8_noBlock : GoodIn wsX8_poke (wsV RX8 132 RX8 yX8_noBlock wsX8_noBlock) := goodIn_app (goodIn_of _ (by decide +kernel)) ggX8_poke_X8_noBlock
set_option maxRecDepth 20000 in
theorem ggX8_poke_X8_cell_ : GoodIn wsX8_poke wsX8_cell_ := goodIn_r _ [12] (by decide +kernel) (by decide +kernel)
set_option maxRecDepth 20000 in
theorem gX8_poke_X8_cell_ : GoodIn wsX8_poke (va_wsS RX8 127 yX8_cell_ wsX8_cell_) := goodIn_app (goodIn_of _ (by decide +kernel)) ggX8_poke_X8_cell_
theorem dX8_poke_0 : decode cX8_poke 0 = .ok (.aload_n 0, 1) := by decide +kernel
theorem dX8_poke_1 : decode cX8_poke 1 = .ok (.iconst 0, 1) := by decide +kernel
theorem dX8_poke_2 : decode cX8_poke 2 = .ok (.putfield 74, 3) := by decide +kernel
theorem dX8_poke_5 : decode cX8_poke 5 = .ok (.aload_n 0, 1) := by decide +kernel
theorem dX8_poke_6 : decode cX8_poke 6 = .ok (.iload_n 1, 1) := by decide +kernel
theorem dX8_poke_7 : decode cX8_poke 7 = .ok (.invokevirtual 132, 3) := by decide +kernel
theorem dX8_poke_10 : decode cX8_poke 10 = .ok (.ifCond .ne 13, 3) := by decide +kernel
theorem dX8_poke_13 : decode cX8_poke 13 = .ok (.iload_n 2, 1) := by decide +kernel
theorem dX8_poke_14 : decode cX8_poke 14 = .ok (.iconst 1, 1) := by decide +kernel
theorem dX8_poke_15 : decode cX8_poke 15 = .ok (.if_icmp .lt 8, 3) := by decide +kernel
theorem dX8_poke_18 : decode cX8_poke 18 = .ok (.iload_n 2, 1) := by decide +kernel
theorem dX8_poke_19 : decode cX8_poke 19 = .ok (.iconst 2, 1) := by decide +kernel
theorem dX8_poke_20 : decode cX8_poke 20 = .ok (.if_icmp .le 5, 3) := by decide +kernel
theorem dX8_poke_23 : decode cX8_poke 23 = .ok (.iconst (-1), 1) := by decide +kernel
theorem dX8_poke_24 : decode cX8_poke 24 = .ok (.ireturn, 1) := by decide +kernel
theorem dX8_poke_25 : decode cX8_poke 25 = .ok (.iload_n 3, 1) := by decide +kernel
theorem dX8_poke_26 : decode cX8_poke 26 = .ok (.ifCond .lt 13, 3) := by decide +kernel
theorem dX8_poke_29 : decode cX8_poke 29 = .ok (.iload_n 3, 1) := by decide +kernel
theorem dX8_poke_30 : decode cX8_poke 30 = .ok (.aload_n 0, 1) := by decide +kernel
theorem dX8_poke_31 : decode cX8_poke 31 = .ok (.getfield 59, 3) := by decide +kernel
theorem dX8_poke_34 : decode cX8_poke 34 = .ok (.iload_n 1, 1) := by decide +kernel
theorem dX8_poke_35 : decode cX8_poke 35 = .ok (.iaload, 1) := by decide +kernel
theorem dX8_poke_36 : decode cX8_poke 36 = .ok (.if_icmp .lt 6, 3) := by decide +kernel
theorem dX8_poke_39 : decode cX8_poke 39 = .ok (.bipush (-2), 2) := by decide +kernel
theorem dX8_poke_41 : decode cX8_poke 41 = .ok (.ireturn, 1) := by decide +kernel
theorem dX8_poke_42 : decode cX8_poke 42 = .ok (.iload_n 1, 1) := by decide +kernel
theorem dX8_poke_43 : decode cX8_poke 43 = .ok (.iload_n 2, 1) := by decide +kernel
theorem dX8_poke_44 : decode cX8_poke 44 = .ok (.iconst 1, 1) := by decide +kernel
theorem dX8_poke_45 : decode cX8_poke 45 = .ok (.isub, 1) := by decide +kernel
theorem dX8_poke_46 : decode cX8_poke 46 = .ok (.iload_n 3, 1) := by decide +kernel
theorem dX8_poke_47 : decode cX8_poke 47 = .ok (.invokestatic 127, 3) := by decide +kernel
theorem dX8_poke_50 : decode cX8_poke 50 = .ok (.istore 5, 2) := by decide +kernel
theorem dX8_poke_52 : decode cX8_poke 52 = .ok (.aload_n 0, 1) := by decide +kernel
theorem dX8_poke_53 : decode cX8_poke 53 = .ok (.getfield 62, 3) := by decide +kernel
theorem dX8_poke_56 : decode cX8_poke 56 = .ok (.iload 5, 2) := by decide +kernel
theorem dX8_poke_58 : decode cX8_poke 58 = .ok (.aload_n 0, 1) := by decide +kernel
theorem dX8_poke_59 : decode cX8_poke 59 = .ok (.getfield 62, 3) := by decide +kernel
theorem dX8_poke_62 : decode cX8_poke 62 = .ok (.iload 5, 2) := by decide +kernel
theorem dX8_poke_64 : decode cX8_poke 64 = .ok (.baload, 1) := by decide +kernel
theorem dX8_poke_65 : decode cX8_poke 65 = .ok (.iload 4, 2) := by decide +kernel
theorem dX8_poke_67 : decode cX8_poke 67 = .ok (.ixor, 1) := by decide +kernel
theorem dX8_poke_68 : decode cX8_poke 68 = .ok (.i2b, 1) := by decide +kernel
theorem dX8_poke_69 : decode cX8_poke 69 = .ok (.bastore, 1) := by decide +kernel
theorem dX8_poke_70 : decode cX8_poke 70 = .ok (.aload_n 0, 1) := by decide +kernel
theorem dX8_poke_71 : decode cX8_poke 71 = .ok (.getfield 62, 3) := by decide +kernel
theorem dX8_poke_74 : decode cX8_poke 74 = .ok (.iload 5, 2) := by decide +kernel
theorem dX8_poke_76 : decode cX8_poke 76 = .ok (.baload, 1) := by decide +kernel
theorem dX8_poke_77 : decode cX8_poke 77 = .ok (.sipush 255, 3) := by decide +kernel
theorem dX8_poke_80 : decode cX8_poke 80 = .ok (.iand, 1) := by decide +kernel
theorem dX8_poke_81 : decode cX8_poke 81 = .ok (.ireturn, 1) := by decide +kernel
set_option maxRecDepth 20000 in
theorem ggX8_read_X8_noBlock : GoodIn wsX8_read wsX8_noBlock := goodIn_r _ [9, 10, 19, 20, 21, 22, 23, 24, 25, 26, 27, 28, 29, 30, 31, 32, 33, 34, 35, 36, 37, 38, 39, 40, 41, 42, 43] (by decide +kernel) (by decide +kernel)
set_option maxRecDepth 20000 in
theorem gX8_read_X8_noBlock : GoodIn wsX8_read (wsV RX8 132 RX8 yX8_noBlock wsX8_noBlock) := goodIn_app (goodIn_of _ (by decide +kernel)) ggX8_read_X8_noBlock
set_option maxRecDepth 20000 in
theorem ggX8_read_X8_sum : GoodIn wsX8_read wsX8_sum := goodIn_r _ [14, 3, 4, 15, 16, 17, 8, 18, 19, 20, 21, 22, 23, 24, 25, 26, 27, 28, 29, 30, 31, 32, 33, 34, 35, 36, 37, 38, 39, 40, 41, 42, 43] (by decide +kernel) (by decide +kernel)
set_option maxRecDepth 20000 in
theorem gX8_read_X8_sum : GoodIn wsX8_read (wsV RX8 124 RX8 yX8_sum wsX8_sum) := goodIn_app (goodIn_of _ (by decide +kernel)) ggX8_read_X8_sum
set_option maxRecDepth 20000 in
theorem ggX8_read_X8_cell_ : GoodIn wsX8_read wsX8_cell_ := goodIn_r _ [18] (by decide +kernel) (by decide +kernel)
set_option maxRecDepth 20000 in
theorem gX8_read_X8_cell_ : GoodIn wsX8_read (va_wsS RX8 127 yX8_cell_ wsX8_cell_) := goodIn_app (goodIn_of _ (by decide +kernel)) ggX8_read_X8_cell_
theorem dX8_read_0 : decode cX8_read 0 = .ok (.aload_n 0, 1) := by decide +kernel
theorem dX8_read_1 : decode cX8_read 1 = .ok (.iconst 0, 1) := by decide +kernel
theorem dX8_read_2 : decode cX8_read 2 = .ok (.putfield 74, 3) := by decide +kernel
theorem dX8_read_5 : decode cX8_read 5 = .ok (.aload_n 0, 1) := by decide +kernel
theorem dX8_read_6 : decode cX8_read 6 = .ok (.iload_n 1, 1) := by decide +kernel
theorem dX8_read_7 : decode cX8_read 7 = .ok (.invokevirtual 132, 3) := by decide +kernel
theorem dX8_read_10 : decode cX8_read 10 = .ok (.ifCond .eq 5, 3) := by decide +kernel
theorem dX8_read_13 : decode cX8_read 13 = .ok (.iconst (-1), 1) := by decide +kernel
theorem dX8_read_14 : decode cX8_read 14 = .ok (.ireturn, 1) := by decide +kernel
theorem dX8_read_15 : decode cX8_read 15 = .ok (.aload_n 0, 1) := by decide +kernel
theorem dX8_read_16 : decode cX8_read 16 = .ok (.getfield 65, 3) := by decide +kernel
theorem dX8_read_19 : decode cX8_read 19 = .ok (.iconst 2, 1) := by decide +kernel
theorem dX8_read_20 : decode cX8_read 20 = .ok (.iload_n 1, 1) := by decide +kernel
theorem dX8_read_21 : decode cX8_read 21 = .ok (.imul, 1) := by decide +kernel
theorem dX8_read_22 : decode cX8_read 22 = .ok (.iaload, 1) := by decide +kernel
theorem dX8_read_23 : decode cX8_read 23 = .ok (.aload_n 0, 1) := by decide +kernel
theorem dX8_read_24 : decode cX8_read 24 = .ok (.iload_n 1, 1) := by decide +kernel
theorem dX8_read_25 : decode cX8_read 25 = .ok (.iconst 0, 1) := by decide +kernel
theorem dX8_read_26 : decode cX8_read 26 = .ok (.invokevirtual 124, 3) := by decide +kernel
theorem dX8_read_29 : decode cX8_read 29 = .ok (.if_icmp .ne 7, 3) := by decide +kernel
theorem dX8_read_32 : decode cX8_read 32 = .ok (.iconst 1, 1) := by decide +kernel
theorem dX8_read_33 : decode cX8_read 33 = .ok (.goto 27, 3) := by decide +kernel
theorem dX8_read_36 : decode cX8_read 36 = .ok (.aload_n 0, 1) := by decide +kernel
theorem dX8_read_37 : decode cX8_read 37 = .ok (.getfield 65, 3) := by decide +kernel
theorem dX8_read_40 : decode cX8_read 40 = .ok (.iconst 2, 1) := by decide +kernel
theorem dX8_read_41 : decode cX8_read 41 = .ok (.iload_n 1, 1) := by decide +kernel
theorem dX8_read_42 : decode cX8_read 42 = .ok (.imul, 1) := by decide +kernel
theorem dX8_read_43 : decode cX8_read 43 = .ok (.iconst 1, 1) := by decide +kernel
theorem dX8_read_44 : decode cX8_read 44 = .ok (.iadd, 1) := by decide +kernel
theorem dX8_read_45 : decode cX8_read 45 = .ok (.iaload, 1) := by decide +kernel
theorem dX8_read_46 : decode cX8_read 46 = .ok (.aload_n 0, 1) := by decide +kernel
theorem dX8_read_47 : decode cX8_read 47 = .ok (.iload_n 1, 1) := by decide +kernel
theorem dX8_read_48 : decode cX8_read 48 = .ok (.iconst 1, 1) := by decide +kernel
theorem dX8_read_49 : decode cX8_read 49 = .ok (.invokevirtual 124, 3) := by decide +kernel
theorem dX8_read_52 : decode cX8_read 52 = .ok (.if_icmp .ne 7, 3) := by decide +kernel
theorem dX8_read_55 : decode cX8_read 55 = .ok (.iconst 2, 1) := by decide +kernel
theorem dX8_read_56 : decode cX8_read 56 = .ok (.goto 4, 3) := by decide +kernel
theorem dX8_read_59 : decode cX8_read 59 = .ok (.iconst 0, 1) := by decide +kernel
theorem dX8_read_60 : decode cX8_read 60 = .ok (.istore_n 2, 1) := by decide +kernel
theorem dX8_read_61 : decode cX8_read 61 = .ok (.iconst 0, 1) := by decide +kernel
theorem dX8_read_62 : decode cX8_read 62 = .ok (.istore_n 3, 1) := by decide +kernel
theorem dX8_read_63 : decode cX8_read 63 = .ok (.iload_n 3, 1) := by decide +kernel
theorem dX8_read_64 : decode cX8_read 64 = .ok (.aload_n 0, 1) := by decide +kernel
theorem dX8_read_65 : decode cX8_read 65 = .ok (.getfield 59, 3) := by decide +kernel
theorem dX8_read_68 : decode cX8_read 68 = .ok (.iload_n 1, 1) := by decide +kernel
theorem dX8_read_69 : decode cX8_read 69 = .ok (.iaload, 1) := by decide +kernel
theorem dX8_read_70 : decode cX8_read 70 = .ok (.if_icmp .ge 58, 3) := by decide +kernel
theorem dX8_read_73 : decode cX8_read 73 = .ok (.iload_n 2, 1) := by decide +kernel
theorem dX8_read_74 : decode cX8_read 74 = .ok (.ifCond .ne 7, 3) := by decide +kernel
theorem dX8_read_77 : decode cX8_read 77 = .ok (.iconst 0, 1) := by decide +kernel
theorem dX8_read_78 : decode cX8_read 78 = .ok (.goto 16, 3) := by decide +kernel
theorem dX8_read_81 : decode cX8_read 81 = .ok (.aload_n 0, 1) := by decide +kernel
theorem dX8_read_82 : decode cX8_read 82 = .ok (.getfield 62, 3) := by decide +kernel
theorem dX8_read_85 : decode cX8_read 85 = .ok (.iload_n 1, 1) := by decide +kernel
theorem dX8_read_86 : decode cX8_read 86 = .ok (.iload_n 2, 1) := by decide +kernel
theorem dX8_read_87 : decode cX8_read 87 = .ok (.iconst 1, 1) := by decide +kernel
theorem dX8_read_88 : decode cX8_read 88 = .ok (.isub, 1) := by decide +kernel
theorem dX8_read_89 : decode cX8_read 89 = .ok (.iload_n 3, 1) := by decide +kernel
theorem dX8_read_90 : decode cX8_read 90 = .ok (.invokestatic 127, 3) := by decide +kernel
theorem dX8_read_93 : decode cX8_read 93 = .ok (.baload, 1) := by decide +kernel
theorem dX8_read_94 : decode cX8_read 94 = .ok (.istore 4, 2) := by decide +kernel
theorem dX8_read_96 : decode cX8_read 96 = .ok (.aload_n 0, 1) := by decide +kernel
theorem dX8_read_97 : decode cX8_read 97 = .ok (.getfield 62, 3) := by decide +kernel
theorem dX8_read_100 : decode cX8_read 100 = .ok (.iload_n 1, 1) := by decide +kernel
theorem dX8_read_101 : decode cX8_read 101 = .ok (.iconst 0, 1) := by decide +kernel
theorem dX8_read_102 : decode cX8_read 102 = .ok (.iload_n 3, 1) := by decide +kernel
theorem dX8_read_103 : decode cX8_read 103 = .ok (.invokestatic 127, 3) := by decide +kernel
theorem dX8_read_106 : decode cX8_read 106 = .ok (.iload 4, 2) := by decide +kernel
theorem dX8_read_108 : decode cX8_read 108 = .ok (.bastore, 1) := by decide +kernel
theorem dX8_read_109 : decode cX8_read 109 = .ok (.aload_n 0, 1) := by decide +kernel
theorem dX8_read_110 : decode cX8_read 110 = .ok (.getfield 62, 3) := by decide +kernel
theorem dX8_read_113 : decode cX8_read 113 = .ok (.iload_n 1, 1) := by decide +kernel
theorem dX8_read_114 : decode cX8_read 114 = .ok (.iconst 1, 1) := by decide +kernel
theorem dX8_read_115 : decode cX8_read 115 = .ok (.iload_n 3, 1) := by decide +kernel
theorem dX8_read_116 : decode cX8_read 116 = .ok (.invokestatic 127, 3) := by decide +kernel
theorem dX8_read_119 : decode cX8_read 119 = .ok (.iload 4, 2) := by decide +kernel
theorem dX8_read_121 : decode cX8_read 121 = .ok (.bastore, 1) := by decide +kernel
theorem dX8_read_122 : decode cX8_read 122 = .ok (.iinc 3 1, 3) := by decide +kernel
theorem dX8_read_125 : decode cX8_read 125 = .ok (.goto (-62), 3) := by decide +kernel
theorem dX8_read_128 : decode cX8_read 128 = .ok (.aload_n 0, 1) := by decide +kernel
theorem dX8_read_129 : decode cX8_read 129 = .ok (.getfield 65, 3) := by decide +kernel
theorem dX8_read_132 : decode cX8_read 132 = .ok (.iconst 2, 1) := by decide +kernel
theorem dX8_read_133 : decode cX8_read 133 = .ok (.iload_n 1, 1) := by decide +kernel
theorem dX8_read_134 : decode cX8_read 134 = .ok (.imul, 1) := by decide +kernel
theorem dX8_read_135 : decode cX8_read 135 = .ok (.aload_n 0, 1) := by decide +kernel
theorem dX8_read_136 : decode cX8_read 136 = .ok (.iload_n 1, 1) := by decide +kernel
theorem dX8_read_137 : decode cX8_read 137 = .ok (.iconst 0, 1) := by decide +kernel
theorem dX8_read_138 : decode cX8_read 138 = .ok (.invokevirtual 124, 3) := by decide +kernel
theorem dX8_read_141 : decode cX8_read 141 = .ok (.iastore, 1) := by decide +kernel
theorem dX8_read_142 : decode cX8_read 142 = .ok (.aload_n 0, 1) := by decide +kernel
theorem dX8_read_143 : decode cX8_read 143 = .ok (.getfield 65, 3) := by decide +kernel
theorem dX8_read_146 : decode cX8_read 146 = .ok (.iconst 2, 1) := by decide +kernel
theorem dX8_read_147 : decode cX8_read 147 = .ok (.iload_n 1, 1) := by decide +kernel
theorem dX8_read_148 : decode cX8_read 148 = .ok (.imul, 1) := by decide +kernel
theorem dX8_read_149 : decode cX8_read 149 = .ok (.iconst 1, 1) := by decide +kernel
theorem dX8_read_150 : decode cX8_read 150 = .ok (.iadd, 1) := by decide +kernel
theorem dX8_read_151 : decode cX8_read 151 = .ok (.aload_n 0, 1) := by decide +kernel
theorem dX8_read_152 : decode cX8_read 152 = .ok (.iload_n 1, 1) := by decide +kernel
theorem dX8_read_153 : decode cX8_read 153 = .ok (.iconst 1, 1) := by decide +kernel
theorem dX8_read_154 : decode cX8_read 154 = .ok (.invokevirtual 124, 3) := by decide +kernel
theorem dX8_read_157 : decode cX8_read 157 = .ok (.iastore, 1) := by decide +kernel
theorem dX8_read_158 : decode cX8_read 158 = .ok (.iload_n 2, 1) := by decide +kernel
theorem dX8_read_159 : decode cX8_read 159 = .ok (.ireturn, 1) := by decide +kernel
