def wsL_cell : List Cond := .code yL_cell cL_cell 2 (some .int) :: ([])
def wsL_section_r1 : List Cond := [Cond.classLink RL 13 "java/lang/ArithmeticException", Cond.methodLink RL 7 yX7_section, Cond.instanceMethod yX7_section, Cond.selects RX7 yX7_section yX7_section, Cond.initialized RX7, Cond.code yX7_section cX7_section 6 (some .int), Cond.classLink RX7 77 "java/lang/ArithmeticException", Cond.initialized "java/lang/ArithmeticException", Cond.constantLong RX7 54 (65536), Cond.constantLong RX7 64 (7), Cond.fieldLink RX7 19 "MemoryMap" "sections" "LMemoryMap$Sections;", Cond.methodLink RX7 56 yX7_isWithin, Cond.static yX7_isWithin, Cond.code yX7_isWithin cX7_isWithin 6 (some .boolean), Cond.instanceMethod yX5_add, Cond.initialized RX5, Cond.selects RX5 yX5_add yX5_add, Cond.code yX5_add cX5_add 4 (some .int), Cond.fieldLink RX5 24 "MemoryMap$Sections" "count" "I", Cond.fieldLink RX5 9 "MemoryMap$Sections" "lengths" "[I", Cond.fieldLink RX5 15 "MemoryMap$Sections" "aligns" "[I", Cond.fieldLink RX5 18 "MemoryMap$Sections" "kinds" "[I", Cond.methodLink RX5 28 yX5_enterInOrder, Cond.instanceMethod yX5_enterInOrder]
def wsL_section_r2 : List Cond := [Cond.selects RX5 yX5_enterInOrder yX5_enterInOrder, Cond.code yX5_enterInOrder cX5_enterInOrder 3 none, Cond.fieldLink RX5 21 "MemoryMap$Sections" "greatestFirst" "[I"]
def wsL_section : List Cond := .codeWith yL_section cL_section 8 (some .int) [(0, 13, 16, 13)] :: ((wsL_section_r1 ++ wsL_section_r2) ++ wsX70 ++ wsX50 ++ (vx_atS RX7 81 "java/lang/ArithmeticException" ["java/lang/RuntimeException", "java/lang/Exception"]).filter goodWord)
def wsL_cellX : List Cond := .codeWith yL_cell_ cL_cell_ 5 (some .int) [(0, 9, 12, 19)] :: ([.classLink RL 19 RJx00060] ++ wsV RL 15 RX7 yX7_cell wsX7_cellX)
set_option maxRecDepth 20000 in
theorem gL_section_X7_section : GoodIn wsL_section (wsV RL 7 RX7 yX7_section wsX7_section) := goodIn_of _ (by decide +kernel)
set_option maxRecDepth 20000 in
theorem gL_cell__X7_cell : GoodIn wsL_cellX (wsV RL 15 RX7 yX7_cell wsX7_cellX) := goodIn_of _ (by decide +kernel)
theorem dL_cell_0 : decode cL_cell 0 = .ok (.iload_n 1, 1) := by decide +kernel
theorem dL_cell_1 : decode cL_cell 1 = .ok (.aload_n 0, 1) := by decide +kernel
theorem dL_cell_2 : decode cL_cell 2 = .ok (.arraylength, 1) := by decide +kernel
theorem dL_cell_3 : decode cL_cell 3 = .ok (.if_icmp .ge 9, 3) := by decide +kernel
theorem dL_cell_6 : decode cL_cell 6 = .ok (.aload_n 0, 1) := by decide +kernel
theorem dL_cell_7 : decode cL_cell 7 = .ok (.iload_n 1, 1) := by decide +kernel
theorem dL_cell_8 : decode cL_cell 8 = .ok (.iaload, 1) := by decide +kernel
theorem dL_cell_9 : decode cL_cell 9 = .ok (.goto 4, 3) := by decide +kernel
theorem dL_cell_12 : decode cL_cell 12 = .ok (.iconst 0, 1) := by decide +kernel
theorem dL_cell_13 : decode cL_cell 13 = .ok (.ireturn, 1) := by decide +kernel
theorem dL_section_0 : decode cL_section 0 = .ok (.aload 6, 2) := by decide +kernel
theorem dL_section_2 : decode cL_section 2 = .ok (.iconst 0, 1) := by decide +kernel
theorem dL_section_3 : decode cL_section 3 = .ok (.aload_n 0, 1) := by decide +kernel
theorem dL_section_4 : decode cL_section 4 = .ok (.lload_n 1, 1) := by decide +kernel
theorem dL_section_5 : decode cL_section 5 = .ok (.lload_n 3, 1) := by decide +kernel
theorem dL_section_6 : decode cL_section 6 = .ok (.iload 5, 2) := by decide +kernel
theorem dL_section_8 : decode cL_section 8 = .ok (.invokevirtual 7, 3) := by decide +kernel
theorem dL_section_11 : decode cL_section 11 = .ok (.i2l, 1) := by decide +kernel
theorem dL_section_12 : decode cL_section 12 = .ok (.lastore, 1) := by decide +kernel
theorem dL_section_13 : decode cL_section 13 = .ok (.goto 7, 3) := by decide +kernel
theorem dL_section_16 : decode cL_section 16 = .ok (.astore 7, 2) := by decide +kernel
theorem dL_section_18 : decode cL_section 18 = .ok (.iconst 1, 1) := by decide +kernel
theorem dL_section_19 : decode cL_section 19 = .ok (.ireturn, 1) := by decide +kernel
theorem dL_section_20 : decode cL_section 20 = .ok (.iconst 0, 1) := by decide +kernel
theorem dL_section_21 : decode cL_section 21 = .ok (.ireturn, 1) := by decide +kernel
theorem dL_cell__0 : decode cL_cell_ 0 = .ok (.aload_n 3, 1) := by decide +kernel
theorem dL_cell__1 : decode cL_cell_ 1 = .ok (.iconst 0, 1) := by decide +kernel
theorem dL_cell__2 : decode cL_cell_ 2 = .ok (.aload_n 0, 1) := by decide +kernel
theorem dL_cell__3 : decode cL_cell_ 3 = .ok (.lload_n 1, 1) := by decide +kernel
theorem dL_cell__4 : decode cL_cell_ 4 = .ok (.invokevirtual 15, 3) := by decide +kernel
theorem dL_cell__7 : decode cL_cell_ 7 = .ok (.i2l, 1) := by decide +kernel
theorem dL_cell__8 : decode cL_cell_ 8 = .ok (.lastore, 1) := by decide +kernel
theorem dL_cell__9 : decode cL_cell_ 9 = .ok (.goto 7, 3) := by decide +kernel
theorem dL_cell__12 : decode cL_cell_ 12 = .ok (.astore 4, 2) := by decide +kernel
theorem dL_cell__14 : decode cL_cell_ 14 = .ok (.iconst 1, 1) := by decide +kernel
theorem dL_cell__15 : decode cL_cell_ 15 = .ok (.ireturn, 1) := by decide +kernel
theorem dL_cell__16 : decode cL_cell_ 16 = .ok (.iconst 0, 1) := by decide +kernel
theorem dL_cell__17 : decode cL_cell_ 17 = .ok (.ireturn, 1) := by decide +kernel
