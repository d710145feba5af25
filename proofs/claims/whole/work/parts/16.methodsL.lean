def mJ9_max_7cf53 : zM := (yJ9_max_7cf53, prog_18_method_65_code, 2, (Option.some Jvm.ClassFile.FieldType.int), [])
def tJ9_max_7cf53 : List (Nat × Instr × Nat × Nat) := [(0, .iload_n 0, 1, 1), (1, .iload_n 1, 1, 2), (2, .if_icmp .lt 7, 3, 5), (5, .iload_n 0, 1, 6), (6, .goto 4, 3, 9), (9, .iload_n 1, 1, 10), (10, .ireturn, 1, 11)]
set_option maxRecDepth 100000 in
theorem TJ9_max_7cf53 : zchk (zMc mJ9_max_7cf53) tJ9_max_7cf53 = true := by decide +kernel
theorem kJ9_max_7cf53 : zOK mJ9_max_7cf53 := ⟨zw1352, zw79, by decide, by decide +kernel, by decide +kernel⟩
def mJ9_max_f86c9 : zM := (yJ9_max_f86c9, prog_18_method_66_code, 4, (Option.some Jvm.ClassFile.FieldType.long), [])
def tJ9_max_f86c9 : List (Nat × Instr × Nat × Nat) := [(0, .lload_n 0, 1, 1), (1, .lload_n 2, 1, 2), (2, .lcmp, 1, 3), (3, .ifCond .lt 7, 3, 6), (6, .lload_n 0, 1, 7), (7, .goto 4, 3, 10), (10, .lload_n 2, 1, 11), (11, .lreturn, 1, 12)]
set_option maxRecDepth 100000 in
theorem TJ9_max_f86c9 : zchk (zMc mJ9_max_f86c9) tJ9_max_f86c9 = true := by decide +kernel
theorem kJ9_max_f86c9 : zOK mJ9_max_f86c9 := ⟨zw698, zw79, by decide, by decide +kernel, by decide +kernel⟩
def mJ9_min_7cf53 : zM := (yJ9_min_7cf53, prog_18_method_69_code, 2, (Option.some Jvm.ClassFile.FieldType.int), [])
def tJ9_min_7cf53 : List (Nat × Instr × Nat × Nat) := [(0, .iload_n 0, 1, 1), (1, .iload_n 1, 1, 2), (2, .if_icmp .gt 7, 3, 5), (5, .iload_n 0, 1, 6), (6, .goto 4, 3, 9), (9, .iload_n 1, 1, 10), (10, .ireturn, 1, 11)]
set_option maxRecDepth 100000 in
theorem TJ9_min_7cf53 : zchk (zMc mJ9_min_7cf53) tJ9_min_7cf53 = true := by decide +kernel
theorem kJ9_min_7cf53 : zOK mJ9_min_7cf53 := ⟨zw404, zw79, by decide, by decide +kernel, by decide +kernel⟩
def mJ9_min_f86c9 : zM := (yJ9_min_f86c9, prog_18_method_70_code, 4, (Option.some Jvm.ClassFile.FieldType.long), [])
def tJ9_min_f86c9 : List (Nat × Instr × Nat × Nat) := [(0, .lload_n 0, 1, 1), (1, .lload_n 2, 1, 2), (2, .lcmp, 1, 3), (3, .ifCond .gt 7, 3, 6), (6, .lload_n 0, 1, 7), (7, .goto 4, 3, 10), (10, .lload_n 2, 1, 11), (11, .lreturn, 1, 12)]
set_option maxRecDepth 100000 in
theorem TJ9_min_f86c9 : zchk (zMc mJ9_min_f86c9) tJ9_min_f86c9 = true := by decide +kernel
theorem kJ9_min_f86c9 : zOK mJ9_min_f86c9 := ⟨zw695, zw79, by decide, by decide +kernel, by decide +kernel⟩
def mJ0_length_8abf5 : zM := (yJ0_length_8abf5, prog_20_method_54_code, 1, (Option.some Jvm.ClassFile.FieldType.int), [])
def tJ0_length_8abf5 : List (Nat × Instr × Nat × Nat) := [(0, .aload_n 0, 1, 1), (1, .getfield 9, 3, 4), (4, .arraylength, 1, 5), (5, .aload_n 0, 1, 6), (6, .invokevirtual 335, 3, 9), (9, .ishr, 1, 10), (10, .ireturn, 1, 11)]
set_option maxRecDepth 100000 in
theorem TJ0_length_8abf5 : zchk (zMc mJ0_length_8abf5) tJ0_length_8abf5 = true := by decide +kernel
theorem kJ0_length_8abf5 : zOK mJ0_length_8abf5 := ⟨zw493, zw81, by decide, by decide +kernel, by decide +kernel⟩
def mJ0_charAt_5068e : zM := (yJ0_charAt_5068e, prog_20_method_56_code, 2, (Option.some Jvm.ClassFile.FieldType.char), [])
def tJ0_charAt_5068e : List (Nat × Instr × Nat × Nat) := [(0, .aload_n 0, 1, 1), (1, .invokevirtual 492, 3, 4), (4, .ifCond .eq 12, 3, 7), (7, .aload_n 0, 1, 8), (8, .getfield 9, 3, 11), (11, .iload_n 1, 1, 12), (12, .invokestatic 495, 3, 15), (15, .ireturn, 1, 16), (16, .aload_n 0, 1, 17), (17, .getfield 9, 3, 20), (20, .iload_n 1, 1, 21), (21, .invokestatic 498, 3, 24), (24, .ireturn, 1, 25)]
set_option maxRecDepth 100000 in
theorem TJ0_charAt_5068e : zchk (zMc mJ0_charAt_5068e) tJ0_charAt_5068e = true := by decide +kernel
theorem kJ0_charAt_5068e : zOK mJ0_charAt_5068e := ⟨zw503, zw81, by decide, by decide +kernel, by decide +kernel⟩
def mJ0_coder_7d493 : zM := (yJ0_coder_7d493, prog_20_method_152_code, 1, (Option.some Jvm.ClassFile.FieldType.byte), [])
def tJ0_coder_7d493 : List (Nat × Instr × Nat × Nat) := [(0, .getstatic 38, 3, 3), (3, .ifCond .eq 10, 3, 6), (6, .aload_n 0, 1, 7), (7, .getfield 15, 3, 10), (10, .goto 4, 3, 13), (13, .iconst 1, 1, 14), (14, .ireturn, 1, 15)]
set_option maxRecDepth 100000 in
theorem TJ0_coder_7d493 : zchk (zMc mJ0_coder_7d493) tJ0_coder_7d493 = true := by decide +kernel
theorem kJ0_coder_7d493 : zOK mJ0_coder_7d493 := ⟨zw497, zw81, by decide, by decide +kernel, by decide +kernel⟩
def mJ0_isLatin1_aae02 : zM := (yJ0_isLatin1_aae02, prog_20_method_154_code, 1, (Option.some Jvm.ClassFile.FieldType.boolean), [])
def tJ0_isLatin1_aae02 : List (Nat × Instr × Nat × Nat) := [(0, .getstatic 38, 3, 3), (3, .ifCond .eq 14, 3, 6), (6, .aload_n 0, 1, 7), (7, .getfield 15, 3, 10), (10, .ifCond .ne 7, 3, 13), (13, .iconst 1, 1, 14), (14, .goto 4, 3, 17), (17, .iconst 0, 1, 18), (18, .ireturn, 1, 19)]
set_option maxRecDepth 100000 in
theorem TJ0_isLatin1_aae02 : zchk (zMc mJ0_isLatin1_aae02) tJ0_isLatin1_aae02 = true := by decide +kernel
theorem kJ0_isLatin1_aae02 : zOK mJ0_isLatin1_aae02 := ⟨zw507, zw81, by decide, by decide +kernel, by decide +kernel⟩
def mJ0_checkIndex_df160 : zM := (yJ0_checkIndex_df160, prog_20_method_155_code, 2, none, [])
def tJ0_checkIndex_df160 : List (Nat × Instr × Nat × Nat) := [(0, .iload_n 0, 1, 1), (1, .iload_n 1, 1, 2), (2, .getstatic 1053, 3, 5), (5, .invokestatic 1059, 3, 8), (8, .pop, 1, 9), (9, .return_, 1, 10)]
set_option maxRecDepth 100000 in
theorem TJ0_checkIndex_df160 : zchk (zMc mJ0_checkIndex_df160) tJ0_checkIndex_df160 = true := by decide +kernel
theorem kJ0_checkIndex_df160 : zOK mJ0_checkIndex_df160 := ⟨zw513, zw81, by decide, by decide +kernel, by decide +kernel⟩
def mJ1_charAt_3b067 : zM := (yJ1_charAt_3b067, prog_21_method_2_code, 2, (Option.some Jvm.ClassFile.FieldType.char), [])
def tJ1_charAt_3b067 : List (Nat × Instr × Nat × Nat) := [(0, .iload_n 1, 1, 1), (1, .aload_n 0, 1, 2), (2, .arraylength, 1, 3), (3, .invokestatic 9, 3, 6), (6, .aload_n 0, 1, 7), (7, .iload_n 1, 1, 8), (8, .baload, 1, 9), (9, .sipush 255, 3, 12), (12, .iand, 1, 13), (13, .i2c, 1, 14), (14, .ireturn, 1, 15)]
set_option maxRecDepth 100000 in
theorem TJ1_charAt_3b067 : zchk (zMc mJ1_charAt_3b067) tJ1_charAt_3b067 = true := by decide +kernel
theorem kJ1_charAt_3b067 : zOK mJ1_charAt_3b067 := ⟨zw510, zw82, by decide, by decide +kernel, by decide +kernel⟩
def mJ2_getChar_3b067 : zM := (yJ2_getChar_3b067, prog_22_method_5_code, 2, (Option.some Jvm.ClassFile.FieldType.char), [])
def tJ2_getChar_3b067 : List (Nat × Instr × Nat × Nat) := [(0, .getstatic 44, 3, 3), (3, .ifCond .ne 25, 3, 6), (6, .iload_n 1, 1, 7), (7, .ifCond .lt 11, 3, 10), (10, .iload_n 1, 1, 11), (11, .aload_n 0, 1, 12), (12, .invokestatic 48, 3, 15), (15, .if_icmp .lt 13, 3, 18), (18, .new 52, 3, 21), (21, .dup, 1, 22), (22, .ldc 54, 2, 24), (24, .invokespecial 56, 3, 27), (27, .athrow, 1, 28), (28, .iload_n 1, 1, 29), (29, .iconst 1, 1, 30), (30, .ishl, 1, 31), (31, .istore_n 1, 1, 32), (32, .aload_n 0, 1, 33), (33, .iload_n 1, 1, 34), (34, .iinc 1 1, 3, 37), (37, .baload, 1, 38), (38, .sipush 255, 3, 41), (41, .iand, 1, 42), (42, .getstatic 59, 3, 45), (45, .ishl, 1, 46), (46, .aload_n 0, 1, 47), (47, .iload_n 1, 1, 48), (48, .baload, 1, 49), (49, .sipush 255, 3, 52), (52, .iand, 1, 53), (53, .getstatic 63, 3, 56), (56, .ishl, 1, 57), (57, .ior, 1, 58), (58, .i2c, 1, 59), (59, .ireturn, 1, 60)]
set_option maxRecDepth 100000 in
theorem TJ2_getChar_3b067 : zchk (zMc mJ2_getChar_3b067) tJ2_getChar_3b067 = true := by decide +kernel
theorem kJ2_getChar_3b067 : zOK mJ2_getChar_3b067 := ⟨zw531, zw84, by decide, by decide +kernel, by decide +kernel⟩
def mJ2_length_9d52b : zM := (yJ2_length_9d52b, prog_22_method_6_code, 1, (Option.some Jvm.ClassFile.FieldType.int), [])
def tJ2_length_9d52b : List (Nat × Instr × Nat × Nat) := [(0, .aload_n 0, 1, 1), (1, .arraylength, 1, 2), (2, .iconst 1, 1, 3), (3, .ishr, 1, 4), (4, .ireturn, 1, 5)]
set_option maxRecDepth 100000 in
theorem TJ2_length_9d52b : zchk (zMc mJ2_length_9d52b) tJ2_length_9d52b = true := by decide +kernel
theorem kJ2_length_9d52b : zOK mJ2_length_9d52b := ⟨zw527, zw84, by decide, by decide +kernel, by decide +kernel⟩
def mJ2_charAt_3b067 : zM := (yJ2_charAt_3b067, prog_22_method_83_code, 2, (Option.some Jvm.ClassFile.FieldType.char), [])
def tJ2_charAt_3b067 : List (Nat × Instr × Nat × Nat) := [(0, .iload_n 1, 1, 1), (1, .aload_n 0, 1, 2), (2, .invokestatic 67, 3, 5), (5, .aload_n 0, 1, 6), (6, .iload_n 1, 1, 7), (7, .invokestatic 71, 3, 10), (10, .ireturn, 1, 11)]
set_option maxRecDepth 100000 in
theorem TJ2_charAt_3b067 : zchk (zMc mJ2_charAt_3b067) tJ2_charAt_3b067 = true := by decide +kernel
theorem kJ2_charAt_3b067 : zOK mJ2_charAt_3b067 := ⟨zw521, zw84, by decide, by decide +kernel, by decide +kernel⟩
def mJ2_checkIndex_2214a : zM := (yJ2_checkIndex_2214a, prog_22_method_91_code, 2, none, [])
def tJ2_checkIndex_2214a : List (Nat × Instr × Nat × Nat) := [(0, .iload_n 0, 1, 1), (1, .aload_n 1, 1, 2), (2, .invokestatic 48, 3, 5), (5, .invokestatic 414, 3, 8), (8, .return_, 1, 9)]
set_option maxRecDepth 100000 in
theorem TJ2_checkIndex_2214a : zchk (zMc mJ2_checkIndex_2214a) tJ2_checkIndex_2214a = true := by decide +kernel
theorem kJ2_checkIndex_2214a : zOK mJ2_checkIndex_2214a := ⟨zw524, zw84, by decide, by decide +kernel, by decide +kernel⟩
def mJ3_checkIndex_8e157 : zM := (yJ3_checkIndex_8e157, prog_25_method_11_code, 3, (Option.some Jvm.ClassFile.FieldType.int), [])
def tJ3_checkIndex_8e157 : List (Nat × Instr × Nat × Nat) := [(0, .iload_n 0, 1, 1), (1, .ifCond .lt 8, 3, 4), (4, .iload_n 0, 1, 5), (5, .iload_n 1, 1, 6), (6, .if_icmp .lt 10, 3, 9), (9, .aload_n 2, 1, 10), (10, .iload_n 0, 1, 11), (11, .iload_n 1, 1, 12), (12, .invokestatic 95, 3, 15), (15, .athrow, 1, 16), (16, .iload_n 0, 1, 17), (17, .ireturn, 1, 18)]
set_option maxRecDepth 100000 in
theorem TJ3_checkIndex_8e157 : zchk (zMc mJ3_checkIndex_8e157) tJ3_checkIndex_8e157 = true := by decide +kernel
theorem kJ3_checkIndex_8e157 : zOK mJ3_checkIndex_8e157 := ⟨zw518, zw83, by decide, by decide +kernel, by decide +kernel⟩
def mL_law : zM := (x, code, 4, (Option.some Jvm.ClassFile.FieldType.boolean), [])
def tL_law_0 : List (Nat × Instr × Nat × Nat) := [(0, .new 7, 3, 3), (3, .dup, 1, 4), (4, .invokespecial 9, 3, 7), (7, .astore_n 1, 1, 8), (8, .new 10, 3, 11), (11, .dup, 1, 12), (12, .invokespecial 12, 3, 15), (15, .astore_n 2, 1, 16), (16, .iconst 0, 1, 17), (17, .istore_n 3, 1, 18), (18, .iload_n 3, 1, 19), (19, .aload_n 0, 1, 20), (20, .arraylength, 1, 21), (21, .bipush 6, 2, 23), (23, .isub, 1, 24), (24, .if_icmp .gt 1018, 3, 27), (27, .aload_n 0, 1, 28), (28, .iload_n 3, 1, 29), (29, .iaload, 1, 30), (30, .bipush 31, 2, 32), (32, .iand, 1, 33), (33, .tableswitch 1003 0 29 #[135, 168, 211, 254, 287, 310, 373, 416, 429, 442, 475, 534, 567, 590, 613, 637, 651, 665, 689, 712, 745, 769, 792, 805, 838, 897, 930, 954, 967, 990], 135, 168), (168, .aload_n 1, 1, 169), (169, .aload_n 0, 1, 170), (170, .iload_n 3, 1, 171), (171, .iconst 1, 1, 172), (172, .iadd, 1, 173), (173, .iaload, 1, 174), (174, .aload_n 0, 1, 175), (175, .iload_n 3, 1, 176), (176, .iconst 2, 1, 177), (177, .iadd, 1, 178), (178, .iaload, 1, 179), (179, .invokevirtual 13, 3, 182), (182, .aload_n 2, 1, 183), (183, .aload_n 0, 1, 184), (184, .iload_n 3, 1, 185), (185, .iconst 1, 1, 186), (186, .iadd, 1, 187), (187, .iaload, 1, 188), (188, .aload_n 0, 1, 189), (189, .iload_n 3, 1, 190), (190, .iconst 2, 1, 191), (191, .iadd, 1, 192), (192, .iaload, 1, 193), (193, .invokevirtual 17, 3, 196), (196, .if_icmp .eq 840, 3, 199), (199, .iconst 0, 1, 200), (200, .ireturn, 1, 201), (201, .aload_n 1, 1, 202), (202, .aload_n 0, 1, 203), (203, .iload_n 3, 1, 204), (204, .iconst 1, 1, 205), (205, .iadd, 1, 206), (206, .iaload, 1, 207), (207, .aload_n 0, 1, 208), (208, .iload_n 3, 1, 209), (209, .iconst 2, 1, 210), (210, .iadd, 1, 211), (211, .iaload, 1, 212)]
set_option maxRecDepth 100000 in
theorem TL_law_0 : zchk (zMc mL_law) tL_law_0 = true := by decide +kernel
def tL_law_1 : List (Nat × Instr × Nat × Nat) := [(212, .aload_n 0, 1, 213), (213, .iload_n 3, 1, 214), (214, .iconst 3, 1, 215), (215, .iadd, 1, 216), (216, .iaload, 1, 217), (217, .invokevirtual 18, 3, 220), (220, .aload_n 2, 1, 221), (221, .aload_n 0, 1, 222), (222, .iload_n 3, 1, 223), (223, .iconst 1, 1, 224), (224, .iadd, 1, 225), (225, .iaload, 1, 226), (226, .aload_n 0, 1, 227), (227, .iload_n 3, 1, 228), (228, .iconst 2, 1, 229), (229, .iadd, 1, 230), (230, .iaload, 1, 231), (231, .aload_n 0, 1, 232), (232, .iload_n 3, 1, 233), (233, .iconst 3, 1, 234), (234, .iadd, 1, 235), (235, .iaload, 1, 236), (236, .invokevirtual 22, 3, 239), (239, .if_icmp .eq 797, 3, 242), (242, .iconst 0, 1, 243), (243, .ireturn, 1, 244), (244, .aload_n 1, 1, 245), (245, .aload_n 0, 1, 246), (246, .iload_n 3, 1, 247), (247, .iconst 1, 1, 248), (248, .iadd, 1, 249), (249, .iaload, 1, 250), (250, .aload_n 0, 1, 251), (251, .iload_n 3, 1, 252), (252, .iconst 2, 1, 253), (253, .iadd, 1, 254), (254, .iaload, 1, 255), (255, .aload_n 0, 1, 256), (256, .iload_n 3, 1, 257), (257, .iconst 3, 1, 258), (258, .iadd, 1, 259), (259, .iaload, 1, 260), (260, .invokevirtual 23, 3, 263), (263, .aload_n 2, 1, 264), (264, .aload_n 0, 1, 265), (265, .iload_n 3, 1, 266), (266, .iconst 1, 1, 267), (267, .iadd, 1, 268), (268, .iaload, 1, 269), (269, .aload_n 0, 1, 270), (270, .iload_n 3, 1, 271), (271, .iconst 2, 1, 272), (272, .iadd, 1, 273), (273, .iaload, 1, 274), (274, .aload_n 0, 1, 275), (275, .iload_n 3, 1, 276), (276, .iconst 3, 1, 277), (277, .iadd, 1, 278), (278, .iaload, 1, 279), (279, .invokevirtual 27, 3, 282)]
set_option maxRecDepth 100000 in
theorem TL_law_1 : zchk (zMc mL_law) tL_law_1 = true := by decide +kernel
def tL_law_2 : List (Nat × Instr × Nat × Nat) := [(282, .if_icmp .eq 754, 3, 285), (285, .iconst 0, 1, 286), (286, .ireturn, 1, 287), (287, .aload_n 1, 1, 288), (288, .aload_n 0, 1, 289), (289, .iload_n 3, 1, 290), (290, .iconst 1, 1, 291), (291, .iadd, 1, 292), (292, .iaload, 1, 293), (293, .aload_n 0, 1, 294), (294, .iload_n 3, 1, 295), (295, .iconst 2, 1, 296), (296, .iadd, 1, 297), (297, .iaload, 1, 298), (298, .invokevirtual 28, 3, 301), (301, .aload_n 2, 1, 302), (302, .aload_n 0, 1, 303), (303, .iload_n 3, 1, 304), (304, .iconst 1, 1, 305), (305, .iadd, 1, 306), (306, .iaload, 1, 307), (307, .aload_n 0, 1, 308), (308, .iload_n 3, 1, 309), (309, .iconst 2, 1, 310), (310, .iadd, 1, 311), (311, .iaload, 1, 312), (312, .invokevirtual 32, 3, 315), (315, .if_icmp .eq 721, 3, 318), (318, .iconst 0, 1, 319), (319, .ireturn, 1, 320), (320, .aload_n 1, 1, 321), (321, .aload_n 0, 1, 322), (322, .iload_n 3, 1, 323), (323, .iconst 1, 1, 324), (324, .iadd, 1, 325), (325, .iaload, 1, 326), (326, .invokevirtual 33, 3, 329), (329, .aload_n 2, 1, 330), (330, .aload_n 0, 1, 331), (331, .iload_n 3, 1, 332), (332, .iconst 1, 1, 333), (333, .iadd, 1, 334), (334, .iaload, 1, 335), (335, .invokevirtual 37, 3, 338), (338, .if_icmp .eq 698, 3, 341), (341, .iconst 0, 1, 342), (342, .ireturn, 1, 343), (343, .aload_n 1, 1, 344), (344, .aload_n 0, 1, 345), (345, .iload_n 3, 1, 346), (346, .iconst 1, 1, 347), (347, .iadd, 1, 348), (348, .iaload, 1, 349), (349, .aload_n 0, 1, 350), (350, .iload_n 3, 1, 351), (351, .iconst 2, 1, 352), (352, .iadd, 1, 353), (353, .iaload, 1, 354), (354, .aload_n 0, 1, 355), (355, .iload_n 3, 1, 356)]
set_option maxRecDepth 100000 in
theorem TL_law_2 : zchk (zMc mL_law) tL_law_2 = true := by decide +kernel
def tL_law_3 : List (Nat × Instr × Nat × Nat) := [(356, .iconst 3, 1, 357), (357, .iadd, 1, 358), (358, .iaload, 1, 359), (359, .aload_n 0, 1, 360), (360, .iload_n 3, 1, 361), (361, .iconst 4, 1, 362), (362, .iadd, 1, 363), (363, .iaload, 1, 364), (364, .aload_n 0, 1, 365), (365, .iload_n 3, 1, 366), (366, .iconst 5, 1, 367), (367, .iadd, 1, 368), (368, .iaload, 1, 369), (369, .invokevirtual 38, 3, 372), (372, .aload_n 2, 1, 373), (373, .aload_n 0, 1, 374), (374, .iload_n 3, 1, 375), (375, .iconst 1, 1, 376), (376, .iadd, 1, 377), (377, .iaload, 1, 378), (378, .aload_n 0, 1, 379), (379, .iload_n 3, 1, 380), (380, .iconst 2, 1, 381), (381, .iadd, 1, 382), (382, .iaload, 1, 383), (383, .aload_n 0, 1, 384), (384, .iload_n 3, 1, 385), (385, .iconst 3, 1, 386), (386, .iadd, 1, 387), (387, .iaload, 1, 388), (388, .aload_n 0, 1, 389), (389, .iload_n 3, 1, 390), (390, .iconst 4, 1, 391), (391, .iadd, 1, 392), (392, .iaload, 1, 393), (393, .aload_n 0, 1, 394), (394, .iload_n 3, 1, 395), (395, .iconst 5, 1, 396), (396, .iadd, 1, 397), (397, .iaload, 1, 398), (398, .invokevirtual 42, 3, 401), (401, .if_icmp .eq 635, 3, 404), (404, .iconst 0, 1, 405), (405, .ireturn, 1, 406), (406, .aload_n 1, 1, 407), (407, .aload_n 0, 1, 408), (408, .iload_n 3, 1, 409), (409, .iconst 1, 1, 410), (410, .iadd, 1, 411), (411, .iaload, 1, 412), (412, .aload_n 0, 1, 413), (413, .iload_n 3, 1, 414), (414, .iconst 2, 1, 415), (415, .iadd, 1, 416), (416, .iaload, 1, 417), (417, .aload_n 0, 1, 418), (418, .iload_n 3, 1, 419), (419, .iconst 3, 1, 420), (420, .iadd, 1, 421), (421, .iaload, 1, 422)]
set_option maxRecDepth 100000 in
theorem TL_law_3 : zchk (zMc mL_law) tL_law_3 = true := by decide +kernel
def tL_law_4 : List (Nat × Instr × Nat × Nat) := [(422, .invokevirtual 43, 3, 425), (425, .aload_n 2, 1, 426), (426, .aload_n 0, 1, 427), (427, .iload_n 3, 1, 428), (428, .iconst 1, 1, 429), (429, .iadd, 1, 430), (430, .iaload, 1, 431), (431, .aload_n 0, 1, 432), (432, .iload_n 3, 1, 433), (433, .iconst 2, 1, 434), (434, .iadd, 1, 435), (435, .iaload, 1, 436), (436, .aload_n 0, 1, 437), (437, .iload_n 3, 1, 438), (438, .iconst 3, 1, 439), (439, .iadd, 1, 440), (440, .iaload, 1, 441), (441, .invokevirtual 46, 3, 444), (444, .if_icmp .eq 592, 3, 447), (447, .iconst 0, 1, 448), (448, .ireturn, 1, 449), (449, .aload_n 1, 1, 450), (450, .invokevirtual 47, 3, 453), (453, .aload_n 2, 1, 454), (454, .invokevirtual 51, 3, 457), (457, .if_icmp .eq 579, 3, 460), (460, .iconst 0, 1, 461), (461, .ireturn, 1, 462), (462, .aload_n 1, 1, 463), (463, .invokevirtual 52, 3, 466), (466, .aload_n 2, 1, 467), (467, .invokevirtual 55, 3, 470), (470, .if_icmp .eq 566, 3, 473), (473, .iconst 0, 1, 474), (474, .ireturn, 1, 475), (475, .aload_n 1, 1, 476), (476, .aload_n 0, 1, 477), (477, .iload_n 3, 1, 478), (478, .iconst 1, 1, 479), (479, .iadd, 1, 480), (480, .iaload, 1, 481), (481, .aload_n 0, 1, 482), (482, .iload_n 3, 1, 483), (483, .iconst 2, 1, 484), (484, .iadd, 1, 485), (485, .iaload, 1, 486), (486, .invokevirtual 56, 3, 489), (489, .aload_n 2, 1, 490), (490, .aload_n 0, 1, 491), (491, .iload_n 3, 1, 492), (492, .iconst 1, 1, 493), (493, .iadd, 1, 494), (494, .iaload, 1, 495), (495, .aload_n 0, 1, 496), (496, .iload_n 3, 1, 497), (497, .iconst 2, 1, 498), (498, .iadd, 1, 499), (499, .iaload, 1, 500), (500, .invokevirtual 59, 3, 503), (503, .if_icmp .eq 533, 3, 506)]
set_option maxRecDepth 100000 in
theorem TL_law_4 : zchk (zMc mL_law) tL_law_4 = true := by decide +kernel
def tL_law_5 : List (Nat × Instr × Nat × Nat) := [(506, .iconst 0, 1, 507), (507, .ireturn, 1, 508), (508, .aload_n 1, 1, 509), (509, .aload_n 0, 1, 510), (510, .iload_n 3, 1, 511), (511, .iconst 1, 1, 512), (512, .iadd, 1, 513), (513, .iaload, 1, 514), (514, .aload_n 0, 1, 515), (515, .iload_n 3, 1, 516), (516, .iconst 2, 1, 517), (517, .iadd, 1, 518), (518, .iaload, 1, 519), (519, .aload_n 0, 1, 520), (520, .iload_n 3, 1, 521), (521, .iconst 3, 1, 522), (522, .iadd, 1, 523), (523, .iaload, 1, 524), (524, .ifCond .eq 7, 3, 527), (527, .iconst 1, 1, 528), (528, .goto 4, 3, 531), (531, .iconst 0, 1, 532), (532, .invokevirtual 60, 3, 535), (535, .aload_n 2, 1, 536), (536, .aload_n 0, 1, 537), (537, .iload_n 3, 1, 538), (538, .iconst 1, 1, 539), (539, .iadd, 1, 540), (540, .iaload, 1, 541), (541, .aload_n 0, 1, 542), (542, .iload_n 3, 1, 543), (543, .iconst 2, 1, 544), (544, .iadd, 1, 545), (545, .iaload, 1, 546), (546, .aload_n 0, 1, 547), (547, .iload_n 3, 1, 548), (548, .iconst 3, 1, 549), (549, .iadd, 1, 550), (550, .iaload, 1, 551), (551, .ifCond .eq 7, 3, 554), (554, .iconst 1, 1, 555), (555, .goto 4, 3, 558), (558, .iconst 0, 1, 559), (559, .invokevirtual 64, 3, 562), (562, .if_icmp .eq 474, 3, 565), (565, .iconst 0, 1, 566), (566, .ireturn, 1, 567), (567, .aload_n 1, 1, 568), (568, .aload_n 0, 1, 569), (569, .iload_n 3, 1, 570), (570, .iconst 1, 1, 571), (571, .iadd, 1, 572), (572, .iaload, 1, 573), (573, .aload_n 0, 1, 574), (574, .iload_n 3, 1, 575), (575, .iconst 2, 1, 576), (576, .iadd, 1, 577), (577, .iaload, 1, 578), (578, .invokevirtual 65, 3, 581), (581, .aload_n 2, 1, 582)]
set_option maxRecDepth 100000 in
theorem TL_law_5 : zchk (zMc mL_law) tL_law_5 = true := by decide +kernel
def tL_law_6 : List (Nat × Instr × Nat × Nat) := [(582, .aload_n 0, 1, 583), (583, .iload_n 3, 1, 584), (584, .iconst 1, 1, 585), (585, .iadd, 1, 586), (586, .iaload, 1, 587), (587, .aload_n 0, 1, 588), (588, .iload_n 3, 1, 589), (589, .iconst 2, 1, 590), (590, .iadd, 1, 591), (591, .iaload, 1, 592), (592, .invokevirtual 68, 3, 595), (595, .if_icmp .eq 441, 3, 598), (598, .iconst 0, 1, 599), (599, .ireturn, 1, 600), (600, .aload_n 1, 1, 601), (601, .aload_n 0, 1, 602), (602, .iload_n 3, 1, 603), (603, .iconst 1, 1, 604), (604, .iadd, 1, 605), (605, .iaload, 1, 606), (606, .invokevirtual 69, 3, 609), (609, .aload_n 2, 1, 610), (610, .aload_n 0, 1, 611), (611, .iload_n 3, 1, 612), (612, .iconst 1, 1, 613), (613, .iadd, 1, 614), (614, .iaload, 1, 615), (615, .invokevirtual 73, 3, 618), (618, .if_icmp .eq 418, 3, 621), (621, .iconst 0, 1, 622), (622, .ireturn, 1, 623), (623, .aload_n 1, 1, 624), (624, .aload_n 0, 1, 625), (625, .iload_n 3, 1, 626), (626, .iconst 1, 1, 627), (627, .iadd, 1, 628), (628, .iaload, 1, 629), (629, .invokevirtual 74, 3, 632), (632, .aload_n 2, 1, 633), (633, .aload_n 0, 1, 634), (634, .iload_n 3, 1, 635), (635, .iconst 1, 1, 636), (636, .iadd, 1, 637), (637, .iaload, 1, 638), (638, .invokevirtual 77, 3, 641), (641, .if_icmp .eq 395, 3, 644), (644, .iconst 0, 1, 645), (645, .ireturn, 1, 646), (646, .aload_n 1, 1, 647), (647, .aload_n 0, 1, 648), (648, .iload_n 3, 1, 649), (649, .iconst 1, 1, 650), (650, .iadd, 1, 651), (651, .iaload, 1, 652), (652, .invokevirtual 78, 3, 655), (655, .aload_n 2, 1, 656), (656, .aload_n 0, 1, 657), (657, .iload_n 3, 1, 658), (658, .iconst 1, 1, 659), (659, .iadd, 1, 660)]
set_option maxRecDepth 100000 in
theorem TL_law_6 : zchk (zMc mL_law) tL_law_6 = true := by decide +kernel
def tL_law_7 : List (Nat × Instr × Nat × Nat) := [(660, .iaload, 1, 661), (661, .invokevirtual 82, 3, 664), (664, .lcmp, 1, 665), (665, .ifCond .eq 371, 3, 668), (668, .iconst 0, 1, 669), (669, .ireturn, 1, 670), (670, .aload_n 1, 1, 671), (671, .invokevirtual 83, 3, 674), (674, .aload_n 2, 1, 675), (675, .invokevirtual 87, 3, 678), (678, .lcmp, 1, 679), (679, .ifCond .eq 357, 3, 682), (682, .iconst 0, 1, 683), (683, .ireturn, 1, 684), (684, .aload_n 1, 1, 685), (685, .invokevirtual 88, 3, 688), (688, .aload_n 2, 1, 689), (689, .invokevirtual 91, 3, 692), (692, .lcmp, 1, 693), (693, .ifCond .eq 343, 3, 696), (696, .iconst 0, 1, 697), (697, .ireturn, 1, 698), (698, .aload_n 1, 1, 699), (699, .aload_n 0, 1, 700), (700, .iload_n 3, 1, 701), (701, .iconst 1, 1, 702), (702, .iadd, 1, 703), (703, .iaload, 1, 704), (704, .invokevirtual 92, 3, 707), (707, .aload_n 2, 1, 708), (708, .aload_n 0, 1, 709), (709, .iload_n 3, 1, 710), (710, .iconst 1, 1, 711), (711, .iadd, 1, 712), (712, .iaload, 1, 713), (713, .invokevirtual 95, 3, 716), (716, .lcmp, 1, 717), (717, .ifCond .eq 319, 3, 720), (720, .iconst 0, 1, 721), (721, .ireturn, 1, 722), (722, .aload_n 1, 1, 723), (723, .aload_n 0, 1, 724), (724, .iload_n 3, 1, 725), (725, .iconst 1, 1, 726), (726, .iadd, 1, 727), (727, .iaload, 1, 728), (728, .invokevirtual 96, 3, 731), (731, .aload_n 2, 1, 732), (732, .aload_n 0, 1, 733), (733, .iload_n 3, 1, 734), (734, .iconst 1, 1, 735), (735, .iadd, 1, 736), (736, .iaload, 1, 737), (737, .invokevirtual 99, 3, 740), (740, .if_icmp .eq 296, 3, 743), (743, .iconst 0, 1, 744), (744, .ireturn, 1, 745), (745, .aload_n 1, 1, 746), (746, .aload_n 0, 1, 747), (747, .iload_n 3, 1, 748)]
set_option maxRecDepth 100000 in
theorem TL_law_7 : zchk (zMc mL_law) tL_law_7 = true := by decide +kernel
def tL_law_8 : List (Nat × Instr × Nat × Nat) := [(748, .iconst 1, 1, 749), (749, .iadd, 1, 750), (750, .iaload, 1, 751), (751, .aload_n 0, 1, 752), (752, .iload_n 3, 1, 753), (753, .iconst 2, 1, 754), (754, .iadd, 1, 755), (755, .iaload, 1, 756), (756, .invokevirtual 100, 3, 759), (759, .aload_n 2, 1, 760), (760, .aload_n 0, 1, 761), (761, .iload_n 3, 1, 762), (762, .iconst 1, 1, 763), (763, .iadd, 1, 764), (764, .iaload, 1, 765), (765, .aload_n 0, 1, 766), (766, .iload_n 3, 1, 767), (767, .iconst 2, 1, 768), (768, .iadd, 1, 769), (769, .iaload, 1, 770), (770, .invokevirtual 103, 3, 773), (773, .if_icmp .eq 263, 3, 776), (776, .iconst 0, 1, 777), (777, .ireturn, 1, 778), (778, .aload_n 1, 1, 779), (779, .aload_n 0, 1, 780), (780, .iload_n 3, 1, 781), (781, .iconst 1, 1, 782), (782, .iadd, 1, 783), (783, .iaload, 1, 784), (784, .invokevirtual 104, 3, 787), (787, .aload_n 2, 1, 788), (788, .aload_n 0, 1, 789), (789, .iload_n 3, 1, 790), (790, .iconst 1, 1, 791), (791, .iadd, 1, 792), (792, .iaload, 1, 793), (793, .invokevirtual 107, 3, 796), (796, .lcmp, 1, 797), (797, .ifCond .eq 239, 3, 800), (800, .iconst 0, 1, 801), (801, .ireturn, 1, 802), (802, .aload_n 1, 1, 803), (803, .aload_n 0, 1, 804), (804, .iload_n 3, 1, 805), (805, .iconst 1, 1, 806), (806, .iadd, 1, 807), (807, .iaload, 1, 808), (808, .invokevirtual 108, 3, 811), (811, .aload_n 2, 1, 812), (812, .aload_n 0, 1, 813), (813, .iload_n 3, 1, 814), (814, .iconst 1, 1, 815), (815, .iadd, 1, 816), (816, .iaload, 1, 817), (817, .invokevirtual 111, 3, 820), (820, .if_icmp .eq 216, 3, 823), (823, .iconst 0, 1, 824), (824, .ireturn, 1, 825), (825, .aload_n 1, 1, 826)]
set_option maxRecDepth 100000 in
theorem TL_law_8 : zchk (zMc mL_law) tL_law_8 = true := by decide +kernel
def tL_law_9 : List (Nat × Instr × Nat × Nat) := [(826, .invokevirtual 112, 3, 829), (829, .aload_n 2, 1, 830), (830, .invokevirtual 115, 3, 833), (833, .if_icmp .eq 203, 3, 836), (836, .iconst 0, 1, 837), (837, .ireturn, 1, 838), (838, .aload_n 1, 1, 839), (839, .aload_n 0, 1, 840), (840, .iload_n 3, 1, 841), (841, .iconst 1, 1, 842), (842, .iadd, 1, 843), (843, .iaload, 1, 844), (844, .aload_n 0, 1, 845), (845, .iload_n 3, 1, 846), (846, .iconst 2, 1, 847), (847, .iadd, 1, 848), (848, .iaload, 1, 849), (849, .invokevirtual 116, 3, 852), (852, .aload_n 2, 1, 853), (853, .aload_n 0, 1, 854), (854, .iload_n 3, 1, 855), (855, .iconst 1, 1, 856), (856, .iadd, 1, 857), (857, .iaload, 1, 858), (858, .aload_n 0, 1, 859), (859, .iload_n 3, 1, 860), (860, .iconst 2, 1, 861), (861, .iadd, 1, 862), (862, .iaload, 1, 863), (863, .invokevirtual 119, 3, 866), (866, .if_icmp .eq 170, 3, 869), (869, .iconst 0, 1, 870), (870, .ireturn, 1, 871), (871, .aload_n 1, 1, 872), (872, .aload_n 0, 1, 873), (873, .iload_n 3, 1, 874), (874, .iconst 1, 1, 875), (875, .iadd, 1, 876), (876, .iaload, 1, 877), (877, .aload_n 0, 1, 878), (878, .iload_n 3, 1, 879), (879, .iconst 2, 1, 880), (880, .iadd, 1, 881), (881, .iaload, 1, 882), (882, .aload_n 0, 1, 883), (883, .iload_n 3, 1, 884), (884, .iconst 3, 1, 885), (885, .iadd, 1, 886), (886, .iaload, 1, 887), (887, .ifCond .eq 7, 3, 890), (890, .iconst 1, 1, 891), (891, .goto 4, 3, 894), (894, .iconst 0, 1, 895), (895, .invokevirtual 120, 3, 898), (898, .aload_n 2, 1, 899), (899, .aload_n 0, 1, 900), (900, .iload_n 3, 1, 901), (901, .iconst 1, 1, 902), (902, .iadd, 1, 903), (903, .iaload, 1, 904)]
set_option maxRecDepth 100000 in
theorem TL_law_9 : zchk (zMc mL_law) tL_law_9 = true := by decide +kernel
def tL_law_10 : List (Nat × Instr × Nat × Nat) := [(904, .aload_n 0, 1, 905), (905, .iload_n 3, 1, 906), (906, .iconst 2, 1, 907), (907, .iadd, 1, 908), (908, .iaload, 1, 909), (909, .aload_n 0, 1, 910), (910, .iload_n 3, 1, 911), (911, .iconst 3, 1, 912), (912, .iadd, 1, 913), (913, .iaload, 1, 914), (914, .ifCond .eq 7, 3, 917), (917, .iconst 1, 1, 918), (918, .goto 4, 3, 921), (921, .iconst 0, 1, 922), (922, .invokevirtual 123, 3, 925), (925, .if_icmp .eq 111, 3, 928), (928, .iconst 0, 1, 929), (929, .ireturn, 1, 930), (930, .aload_n 1, 1, 931), (931, .aload_n 0, 1, 932), (932, .iload_n 3, 1, 933), (933, .iconst 1, 1, 934), (934, .iadd, 1, 935), (935, .iaload, 1, 936), (936, .aload_n 0, 1, 937), (937, .iload_n 3, 1, 938), (938, .iconst 2, 1, 939), (939, .iadd, 1, 940), (940, .iaload, 1, 941), (941, .invokevirtual 124, 3, 944), (944, .aload_n 2, 1, 945), (945, .aload_n 0, 1, 946), (946, .iload_n 3, 1, 947), (947, .iconst 1, 1, 948), (948, .iadd, 1, 949), (949, .iaload, 1, 950), (950, .aload_n 0, 1, 951), (951, .iload_n 3, 1, 952), (952, .iconst 2, 1, 953), (953, .iadd, 1, 954), (954, .iaload, 1, 955), (955, .invokevirtual 127, 3, 958), (958, .if_icmp .eq 78, 3, 961), (961, .iconst 0, 1, 962), (962, .ireturn, 1, 963), (963, .aload_n 1, 1, 964), (964, .aload_n 0, 1, 965), (965, .iload_n 3, 1, 966), (966, .iconst 1, 1, 967), (967, .iadd, 1, 968), (968, .iaload, 1, 969), (969, .invokevirtual 128, 3, 972), (972, .aload_n 2, 1, 973), (973, .aload_n 0, 1, 974), (974, .iload_n 3, 1, 975), (975, .iconst 1, 1, 976), (976, .iadd, 1, 977), (977, .iaload, 1, 978), (978, .invokevirtual 131, 3, 981), (981, .lcmp, 1, 982)]
set_option maxRecDepth 100000 in
theorem TL_law_10 : zchk (zMc mL_law) tL_law_10 = true := by decide +kernel
def tL_law_11 : List (Nat × Instr × Nat × Nat) := [(982, .ifCond .eq 54, 3, 985), (985, .iconst 0, 1, 986), (986, .ireturn, 1, 987), (987, .aload_n 1, 1, 988), (988, .invokevirtual 132, 3, 991), (991, .aload_n 2, 1, 992), (992, .invokevirtual 135, 3, 995), (995, .if_icmp .eq 41, 3, 998), (998, .iconst 0, 1, 999), (999, .ireturn, 1, 1000), (1000, .aload_n 1, 1, 1001), (1001, .aload_n 0, 1, 1002), (1002, .iload_n 3, 1, 1003), (1003, .iconst 1, 1, 1004), (1004, .iadd, 1, 1005), (1005, .iaload, 1, 1006), (1006, .invokevirtual 136, 3, 1009), (1009, .aload_n 2, 1, 1010), (1010, .aload_n 0, 1, 1011), (1011, .iload_n 3, 1, 1012), (1012, .iconst 1, 1, 1013), (1013, .iadd, 1, 1014), (1014, .iaload, 1, 1015), (1015, .invokevirtual 139, 3, 1018), (1018, .if_icmp .eq 18, 3, 1021), (1021, .iconst 0, 1, 1022), (1022, .ireturn, 1, 1023), (1023, .aload_n 1, 1, 1024), (1024, .invokevirtual 140, 3, 1027), (1027, .aload_n 2, 1, 1028), (1028, .invokevirtual 143, 3, 1031), (1031, .if_icmp .eq 5, 3, 1034), (1034, .iconst 0, 1, 1035), (1035, .ireturn, 1, 1036), (1036, .iinc 3 6, 3, 1039), (1039, .goto (-1021), 3, 1042), (1042, .iconst 1, 1, 1043), (1043, .ireturn, 1, 1044)]
set_option maxRecDepth 100000 in
theorem TL_law_11 : zchk (zMc mL_law) tL_law_11 = true := by decide +kernel
def mJE_init : zM := ((⟨"java/lang/Exception", "<init>", "(Ljava/lang/String;Ljava/lang/Throwable;ZZ)V"⟩ : MethodName), prog_17_method_5_code, 5, none, [])
def tJE_init : List (Nat × Instr × Nat × Nat) := [(0, .aload_n 0, 1, 1), (1, .aload_n 1, 1, 2), (2, .aload_n 2, 1, 3), (3, .iload_n 3, 1, 4), (4, .iload 4, 2, 6), (6, .invokespecial 16, 3, 9), (9, .return_, 1, 10)]
set_option maxRecDepth 100000 in
theorem TJE_init : zchk (zMc mJE_init) tJE_init = true := by decide +kernel
theorem kJE_init : zOK mJE_init := ⟨zw1015, zw75, by decide, by decide +kernel, by decide +kernel⟩
def mJR_init : zM := ((⟨"java/lang/RuntimeException", "<init>", "(Ljava/lang/String;Ljava/lang/Throwable;ZZ)V"⟩ : MethodName), prog_19_method_5_code, 5, none, [])
def tJR_init : List (Nat × Instr × Nat × Nat) := [(0, .aload_n 0, 1, 1), (1, .aload_n 1, 1, 2), (2, .aload_n 2, 1, 3), (3, .iload_n 3, 1, 4), (4, .iload 4, 2, 6), (6, .invokespecial 16, 3, 9), (9, .return_, 1, 10)]
set_option maxRecDepth 100000 in
theorem TJR_init : zchk (zMc mJR_init) tJR_init = true := by decide +kernel
theorem kJR_init : zOK mJR_init := ⟨zw1012, zw76, by decide, by decide +kernel, by decide +kernel⟩
def mJT_init : zM := ((⟨"java/lang/Throwable", "<init>", "(Ljava/lang/String;Ljava/lang/Throwable;ZZ)V"⟩ : MethodName), prog_24_method_5_code, 5, none, [])
def tJT_init : List (Nat × Instr × Nat × Nat) := [(0, .aload_n 0, 1, 1), (1, .invokespecial 1, 3, 4), (4, .aload_n 0, 1, 5), (5, .aload_n 0, 1, 6), (6, .putfield 7, 3, 9), (9, .aload_n 0, 1, 10), (10, .getstatic 13, 3, 13), (13, .putfield 17, 3, 16), (16, .aload_n 0, 1, 17), (17, .getstatic 20, 3, 20), (20, .putfield 24, 3, 23), (23, .iload 4, 2, 25), (25, .ifCond .eq 11, 3, 28), (28, .aload_n 0, 1, 29), (29, .invokevirtual 27, 3, 32), (32, .pop, 1, 33), (33, .goto 8, 3, 36), (36, .aload_n 0, 1, 37), (37, .aconst_null, 1, 38), (38, .putfield 17, 3, 41), (41, .aload_n 0, 1, 42), (42, .aload_n 1, 1, 43), (43, .putfield 31, 3, 46), (46, .aload_n 0, 1, 47), (47, .aload_n 2, 1, 48), (48, .putfield 7, 3, 51), (51, .iload_n 3, 1, 52), (52, .ifCond .ne 8, 3, 55), (55, .aload_n 0, 1, 56), (56, .aconst_null, 1, 57), (57, .putfield 24, 3, 60), (60, .return_, 1, 61)]
set_option maxRecDepth 100000 in
theorem TJT_init : zchk (zMc mJT_init) tJT_init = true := by decide +kernel
theorem kJT_init : zOK mJT_init := ⟨zw1018, zw74, by decide, by decide +kernel, by decide +kernel⟩
theorem fX11_11 : zFld "SaltFarm" 11 11 0 := ⟨_, _, _, rfl, by decide, Or.inl zw284⟩
theorem fX11_17 : zFld "SaltFarm" 17 11 1 := ⟨_, _, _, rfl, by decide, Or.inl zw285⟩
theorem fX11_23 : zFld "SaltFarm" 23 11 2 := ⟨_, _, _, rfl, by decide, Or.inl zw286⟩
theorem fX11_30 : zFld "SaltFarm" 30 11 3 := ⟨_, _, _, rfl, by decide, Or.inl zw287⟩
theorem fX11_37 : zFld "SaltFarm" 37 11 4 := ⟨_, _, _, rfl, by decide, Or.inl zw288⟩
theorem fX11_44 : zFld "SaltFarm" 44 11 5 := ⟨_, _, _, rfl, by decide, Or.inl zw289⟩
theorem fX11_51 : zFld "SaltFarm" 51 11 6 := ⟨_, _, _, rfl, by decide, Or.inl zw290⟩
theorem fX11_58 : zFld "SaltFarm" 58 11 7 := ⟨_, _, _, rfl, by decide, Or.inl zw291⟩
theorem fX11_62 : zFld "SaltFarm" 62 11 8 := ⟨_, _, _, rfl, by decide, Or.inl zw292⟩
theorem fX11_66 : zFld "SaltFarm" 66 11 9 := ⟨_, _, _, rfl, by decide, Or.inl zw293⟩
theorem fX11_69 : zFld "SaltFarm" 69 11 10 := ⟨_, _, _, rfl, by decide, Or.inl zw294⟩
theorem fX11_72 : zFld "SaltFarm" 72 11 11 := ⟨_, _, _, rfl, by decide, Or.inl zw295⟩
theorem fX11_75 : zFld "SaltFarm" 75 11 12 := ⟨_, _, _, rfl, by decide, Or.inl zw296⟩
theorem fX11_78 : zFld "SaltFarm" 78 11 13 := ⟨_, _, _, rfl, by decide, Or.inl zw297⟩
theorem fX11_81 : zFld "SaltFarm" 81 11 14 := ⟨_, _, _, rfl, by decide, Or.inl zw298⟩
theorem fX11_84 : zFld "SaltFarm" 84 11 15 := ⟨_, _, _, rfl, by decide, Or.inl zw299⟩
theorem fX11_109 : zFld "SaltFarm" 109 5 0 := ⟨_, _, _, rfl, by decide, Or.inl zw355⟩
theorem fX11_112 : zFld "SaltFarm" 112 5 1 := ⟨_, _, _, rfl, by decide, Or.inl zw359⟩
theorem fX11_134 : zFld "SaltFarm" 134 0 3 := ⟨_, _, _, rfl, by decide, Or.inl zw425⟩
theorem fX11_143 : zFld "SaltFarm" 143 8 1 := ⟨_, _, _, rfl, by decide, Or.inl zw111⟩
theorem fX11_146 : zFld "SaltFarm" 146 8 0 := ⟨_, _, _, rfl, by decide, Or.inl zw109⟩
theorem fX11_154 : zFld "SaltFarm" 154 4 5 := ⟨_, _, _, rfl, by decide, Or.inl zw150⟩
theorem fX11_157 : zFld "SaltFarm" 157 4 6 := ⟨_, _, _, rfl, by decide, Or.inl zw152⟩
theorem fX11_184 : zFld "SaltFarm" 184 5 3 := ⟨_, _, _, rfl, by decide, Or.inl zw368⟩
theorem fX11_188 : zFld "SaltFarm" 188 5 2 := ⟨_, _, _, rfl, by decide, Or.inl zw364⟩
theorem fX11_222 : zFld "SaltFarm" 222 3 11 := ⟨_, _, _, rfl, by decide, Or.inl zw238⟩
theorem fX11_228 : zFld "SaltFarm" 228 0 0 := ⟨_, _, _, rfl, by decide, Or.inl zw419⟩
theorem fX11_231 : zFld "SaltFarm" 231 0 1 := ⟨_, _, _, rfl, by decide, Or.inl zw421⟩
theorem fX11_234 : zFld "SaltFarm" 234 0 2 := ⟨_, _, _, rfl, by decide, Or.inl zw423⟩
theorem fX11_248 : zFld "SaltFarm" 248 7 4 := ⟨_, _, _, rfl, by decide, Or.inl zw866⟩
theorem fX11_262 : zFld "SaltFarm" 262 7 2 := ⟨_, _, _, rfl, by decide, Or.inl zw862⟩
theorem fX11_265 : zFld "SaltFarm" 265 7 1 := ⟨_, _, _, rfl, by decide, Or.inl zw860⟩
theorem fX11_269 : zFld "SaltFarm" 269 7 3 := ⟨_, _, _, rfl, by decide, Or.inl zw864⟩
theorem fX11_276 : zFld "SaltFarm" 276 7 5 := ⟨_, _, _, rfl, by decide, Or.inl zw868⟩
theorem fX11_280 : zFld "SaltFarm" 280 2 2 := ⟨_, _, _, rfl, by decide, Or.inl zw208⟩
theorem fX11_286 : zFld "SaltFarm" 286 3 9 := ⟨_, _, _, rfl, by decide, Or.inl zw233⟩
theorem fX11_287 : zFld "SaltFarm" 287 3 10 := ⟨_, _, _, rfl, by decide, Or.inl zw236⟩
theorem fX0_7 : zFld "SaltFarm$Border" 7 0 3 := ⟨_, _, _, rfl, by decide, Or.inl zw424⟩
theorem fX0_13 : zFld "SaltFarm$Border" 13 0 0 := ⟨_, _, _, rfl, by decide, Or.inl zw418⟩
theorem fX0_16 : zFld "SaltFarm$Border" 16 0 1 := ⟨_, _, _, rfl, by decide, Or.inl zw420⟩
theorem fX0_19 : zFld "SaltFarm$Border" 19 0 2 := ⟨_, _, _, rfl, by decide, Or.inl zw422⟩
theorem fX1_7 : zFld "SaltFarm$Edict" 7 1 0 := ⟨_, _, _, rfl, by decide, Or.inl zw615⟩
theorem fX1_13 : zFld "SaltFarm$Edict" 13 1 1 := ⟨_, _, _, rfl, by decide, Or.inl zw617⟩
theorem fX1_16 : zFld "SaltFarm$Edict" 16 1 2 := ⟨_, _, _, rfl, by decide, Or.inl zw619⟩
theorem fX2_11 : zFld "SaltFarm$Law" 11 2 0 := ⟨_, _, _, rfl, by decide, Or.inl zw205⟩
theorem fX2_20 : zFld "SaltFarm$Law" 20 2 1 := ⟨_, _, _, rfl, by decide, Or.inl zw206⟩
theorem fX2_24 : zFld "SaltFarm$Law" 24 2 2 := ⟨_, _, _, rfl, by decide, Or.inl zw207⟩
theorem fX2_32 : zFld "SaltFarm$Law" 32 1 0 := ⟨_, _, _, rfl, by decide, Or.inl zw616⟩
theorem fX2_35 : zFld "SaltFarm$Law" 35 1 1 := ⟨_, _, _, rfl, by decide, Or.inl zw618⟩
theorem fX2_38 : zFld "SaltFarm$Law" 38 5 4 := ⟨_, _, _, rfl, by decide, Or.inl zw370⟩
theorem fX2_51 : zFld "SaltFarm$Law" 51 5 2 := ⟨_, _, _, rfl, by decide, Or.inl zw363⟩
theorem fX2_55 : zFld "SaltFarm$Law" 55 5 3 := ⟨_, _, _, rfl, by decide, Or.inl zw367⟩
theorem fX2_58 : zFld "SaltFarm$Law" 58 1 2 := ⟨_, _, _, rfl, by decide, Or.inl zw620⟩
theorem fX2_61 : zFld "SaltFarm$Law" 61 6 2 := ⟨_, _, _, rfl, by decide, Or.inl zw185⟩
theorem fX2_62 : zFld "SaltFarm$Law" 62 5 0 := ⟨_, _, _, rfl, by decide, Or.inl zw356⟩
theorem fX2_65 : zFld "SaltFarm$Law" 65 6 3 := ⟨_, _, _, rfl, by decide, Or.inl zw187⟩
theorem fX2_66 : zFld "SaltFarm$Law" 66 5 1 := ⟨_, _, _, rfl, by decide, Or.inl zw360⟩
theorem fX2_69 : zFld "SaltFarm$Law" 69 6 4 := ⟨_, _, _, rfl, by decide, Or.inl zw189⟩
theorem fX2_70 : zFld "SaltFarm$Law" 70 6 5 := ⟨_, _, _, rfl, by decide, Or.inl zw191⟩
theorem fX3_9 : zFld "SaltFarm$Market" 9 3 0 := ⟨_, _, _, rfl, by decide, Or.inl zw222⟩
theorem fX3_15 : zFld "SaltFarm$Market" 15 3 1 := ⟨_, _, _, rfl, by decide, Or.inl zw223⟩
theorem fX3_19 : zFld "SaltFarm$Market" 19 3 2 := ⟨_, _, _, rfl, by decide, Or.inl zw224⟩
theorem fX3_22 : zFld "SaltFarm$Market" 22 3 3 := ⟨_, _, _, rfl, by decide, Or.inl zw225⟩
theorem fX3_25 : zFld "SaltFarm$Market" 25 3 4 := ⟨_, _, _, rfl, by decide, Or.inl zw226⟩
theorem fX3_28 : zFld "SaltFarm$Market" 28 3 5 := ⟨_, _, _, rfl, by decide, Or.inl zw227⟩
theorem fX3_31 : zFld "SaltFarm$Market" 31 3 6 := ⟨_, _, _, rfl, by decide, Or.inl zw228⟩
theorem fX3_34 : zFld "SaltFarm$Market" 34 3 7 := ⟨_, _, _, rfl, by decide, Or.inl zw229⟩
theorem fX3_37 : zFld "SaltFarm$Market" 37 3 8 := ⟨_, _, _, rfl, by decide, Or.inl zw230⟩
theorem fX3_40 : zFld "SaltFarm$Market" 40 3 9 := ⟨_, _, _, rfl, by decide, Or.inl zw232⟩
theorem fX3_44 : zFld "SaltFarm$Market" 44 3 10 := ⟨_, _, _, rfl, by decide, Or.inl zw234⟩
theorem fX3_47 : zFld "SaltFarm$Market" 47 3 11 := ⟨_, _, _, rfl, by decide, Or.inl zw237⟩
theorem fX3_50 : zFld "SaltFarm$Market" 50 5 3 := ⟨_, _, _, rfl, by decide, Or.inl zw366⟩
theorem fX3_55 : zFld "SaltFarm$Market" 55 5 2 := ⟨_, _, _, rfl, by decide, Or.inl zw362⟩
theorem fX3_56 : zFld "SaltFarm$Market" 56 5 0 := ⟨_, _, _, rfl, by decide, Or.inl zw354⟩
theorem fX3_59 : zFld "SaltFarm$Market" 59 5 1 := ⟨_, _, _, rfl, by decide, Or.inl zw358⟩
theorem fX4_12 : zFld "SaltFarm$Parser" 12 4 0 := ⟨_, _, _, rfl, by decide, Or.inl zw144⟩
theorem fX4_18 : zFld "SaltFarm$Parser" 18 4 1 := ⟨_, _, _, rfl, by decide, Or.inl zw145⟩
theorem fX4_22 : zFld "SaltFarm$Parser" 22 4 2 := ⟨_, _, _, rfl, by decide, Or.inl zw146⟩
theorem fX4_26 : zFld "SaltFarm$Parser" 26 4 3 := ⟨_, _, _, rfl, by decide, Or.inl zw147⟩
theorem fX4_29 : zFld "SaltFarm$Parser" 29 4 4 := ⟨_, _, _, rfl, by decide, Or.inl zw148⟩
theorem fX4_32 : zFld "SaltFarm$Parser" 32 4 5 := ⟨_, _, _, rfl, by decide, Or.inl zw149⟩
theorem fX4_35 : zFld "SaltFarm$Parser" 35 4 6 := ⟨_, _, _, rfl, by decide, Or.inl zw151⟩
theorem fX4_83 : zFld "SaltFarm$Parser" 83 9 2 := ⟨_, _, _, rfl, by decide, Or.inl zw135⟩
theorem fX4_84 : zFld "SaltFarm$Parser" 84 9 0 := ⟨_, _, _, rfl, by decide, Or.inl zw131⟩
theorem fX4_87 : zFld "SaltFarm$Parser" 87 9 1 := ⟨_, _, _, rfl, by decide, Or.inl zw133⟩
theorem fX5_9 : zFld "SaltFarm$Province" 9 5 2 := ⟨_, _, _, rfl, by decide, Or.inl zw361⟩
theorem fX5_15 : zFld "SaltFarm$Province" 15 5 3 := ⟨_, _, _, rfl, by decide, Or.inl zw365⟩
theorem fX5_18 : zFld "SaltFarm$Province" 18 5 4 := ⟨_, _, _, rfl, by decide, Or.inl zw369⟩
theorem fX5_22 : zFld "SaltFarm$Province" 22 5 0 := ⟨_, _, _, rfl, by decide, Or.inl zw353⟩
theorem fX5_25 : zFld "SaltFarm$Province" 25 5 1 := ⟨_, _, _, rfl, by decide, Or.inl zw357⟩
theorem fX6_11 : zFld "SaltFarm$Reckoner" 11 6 0 := ⟨_, _, _, rfl, by decide, Or.inl zw182⟩
theorem fX6_15 : zFld "SaltFarm$Reckoner" 15 6 1 := ⟨_, _, _, rfl, by decide, Or.inl zw183⟩
theorem fX6_19 : zFld "SaltFarm$Reckoner" 19 6 2 := ⟨_, _, _, rfl, by decide, Or.inl zw184⟩
theorem fX6_22 : zFld "SaltFarm$Reckoner" 22 6 3 := ⟨_, _, _, rfl, by decide, Or.inl zw186⟩
theorem fX6_25 : zFld "SaltFarm$Reckoner" 25 6 4 := ⟨_, _, _, rfl, by decide, Or.inl zw188⟩
theorem fX6_28 : zFld "SaltFarm$Reckoner" 28 6 5 := ⟨_, _, _, rfl, by decide, Or.inl zw190⟩
theorem fX7_7 : zFld "SaltFarm$Store" 7 7 1 := ⟨_, _, _, rfl, by decide, Or.inl zw859⟩
theorem fX7_13 : zFld "SaltFarm$Store" 13 7 2 := ⟨_, _, _, rfl, by decide, Or.inl zw861⟩
theorem fX7_16 : zFld "SaltFarm$Store" 16 7 3 := ⟨_, _, _, rfl, by decide, Or.inl zw863⟩
theorem fX7_19 : zFld "SaltFarm$Store" 19 7 4 := ⟨_, _, _, rfl, by decide, Or.inl zw865⟩
theorem fX7_23 : zFld "SaltFarm$Store" 23 7 5 := ⟨_, _, _, rfl, by decide, Or.inl zw867⟩
theorem fX7_27 : zFld "SaltFarm$Store" 27 7 0 := ⟨_, _, _, rfl, by decide, Or.inl zw858⟩
theorem fX8_9 : zFld "SaltFarm$Tape" 9 8 0 := ⟨_, _, _, rfl, by decide, Or.inl zw108⟩
theorem fX8_15 : zFld "SaltFarm$Tape" 15 8 1 := ⟨_, _, _, rfl, by decide, Or.inl zw110⟩
theorem fX9_9 : zFld "SaltFarm$Tokens" 9 9 0 := ⟨_, _, _, rfl, by decide, Or.inl zw130⟩
theorem fX9_15 : zFld "SaltFarm$Tokens" 15 9 1 := ⟨_, _, _, rfl, by decide, Or.inl zw132⟩
theorem fX9_18 : zFld "SaltFarm$Tokens" 18 9 2 := ⟨_, _, _, rfl, by decide, Or.inl zw134⟩
theorem fX10_9 : zFld "SaltFarm$Watch" 9 10 0 := ⟨_, _, _, rfl, by decide, Or.inl zw271⟩
theorem fX10_15 : zFld "SaltFarm$Watch" 15 10 1 := ⟨_, _, _, rfl, by decide, Or.inl zw272⟩
theorem fX10_18 : zFld "SaltFarm$Watch" 18 10 2 := ⟨_, _, _, rfl, by decide, Or.inl zw273⟩
theorem fX10_22 : zFld "SaltFarm$Watch" 22 10 3 := ⟨_, _, _, rfl, by decide, Or.inl zw274⟩
theorem fX10_25 : zFld "SaltFarm$Watch" 25 3 10 := ⟨_, _, _, rfl, by decide, Or.inl zw235⟩
theorem fX10_48 : zFld "SaltFarm$Watch" 48 3 8 := ⟨_, _, _, rfl, by decide, Or.inl zw231⟩
theorem fX14_9 : zFld "SaltFarmModel" 9 14 2 := ⟨_, _, _, rfl, by decide, Or.inl zw1040⟩
theorem fX14_13 : zFld "SaltFarmModel" 13 14 7 := ⟨_, _, _, rfl, by decide, Or.inl zw1045⟩
theorem fX14_16 : zFld "SaltFarmModel" 16 14 8 := ⟨_, _, _, rfl, by decide, Or.inl zw1046⟩
theorem fX14_20 : zFld "SaltFarmModel" 20 14 9 := ⟨_, _, _, rfl, by decide, Or.inl zw1047⟩
theorem fX14_23 : zFld "SaltFarmModel" 23 14 10 := ⟨_, _, _, rfl, by decide, Or.inl zw1048⟩
theorem fX14_26 : zFld "SaltFarmModel" 26 14 11 := ⟨_, _, _, rfl, by decide, Or.inl zw1049⟩
theorem fX14_29 : zFld "SaltFarmModel" 29 14 12 := ⟨_, _, _, rfl, by decide, Or.inl zw1050⟩
theorem fX14_32 : zFld "SaltFarmModel" 32 14 13 := ⟨_, _, _, rfl, by decide, Or.inl zw1051⟩
theorem fX14_37 : zFld "SaltFarmModel" 37 14 15 := ⟨_, _, _, rfl, by decide, Or.inl zw1053⟩
theorem fX14_42 : zFld "SaltFarmModel" 42 14 16 := ⟨_, _, _, rfl, by decide, Or.inl zw1054⟩
theorem fX14_49 : zFld "SaltFarmModel" 49 14 17 := ⟨_, _, _, rfl, by decide, Or.inl zw1055⟩
theorem fX14_53 : zFld "SaltFarmModel" 53 14 18 := ⟨_, _, _, rfl, by decide, Or.inl zw1056⟩
theorem fX14_57 : zFld "SaltFarmModel" 57 14 29 := ⟨_, _, _, rfl, by decide, Or.inl zw1067⟩
theorem fX14_60 : zFld "SaltFarmModel" 60 14 30 := ⟨_, _, _, rfl, by decide, Or.inl zw1068⟩
theorem fX14_63 : zFld "SaltFarmModel" 63 14 31 := ⟨_, _, _, rfl, by decide, Or.inl zw1069⟩
theorem fX14_66 : zFld "SaltFarmModel" 66 14 32 := ⟨_, _, _, rfl, by decide, Or.inl zw1070⟩
theorem fX14_69 : zFld "SaltFarmModel" 69 14 33 := ⟨_, _, _, rfl, by decide, Or.inl zw1071⟩
theorem fX14_72 : zFld "SaltFarmModel" 72 14 34 := ⟨_, _, _, rfl, by decide, Or.inl zw1072⟩
theorem fX14_75 : zFld "SaltFarmModel" 75 14 36 := ⟨_, _, _, rfl, by decide, Or.inl zw1074⟩
theorem fX14_78 : zFld "SaltFarmModel" 78 14 37 := ⟨_, _, _, rfl, by decide, Or.inl zw1075⟩
theorem fX14_81 : zFld "SaltFarmModel" 81 14 41 := ⟨_, _, _, rfl, by decide, Or.inl zw1079⟩
theorem fX14_84 : zFld "SaltFarmModel" 84 14 42 := ⟨_, _, _, rfl, by decide, Or.inl zw1080⟩
theorem fX14_87 : zFld "SaltFarmModel" 87 14 43 := ⟨_, _, _, rfl, by decide, Or.inl zw1081⟩
theorem fX14_90 : zFld "SaltFarmModel" 90 14 44 := ⟨_, _, _, rfl, by decide, Or.inl zw1082⟩
theorem fX14_93 : zFld "SaltFarmModel" 93 14 45 := ⟨_, _, _, rfl, by decide, Or.inl zw1083⟩
theorem fX14_96 : zFld "SaltFarmModel" 96 14 46 := ⟨_, _, _, rfl, by decide, Or.inl zw1084⟩
theorem fX14_100 : zFld "SaltFarmModel" 100 14 0 := ⟨_, _, _, rfl, by decide, Or.inl zw1038⟩
theorem fX14_103 : zFld "SaltFarmModel" 103 14 1 := ⟨_, _, _, rfl, by decide, Or.inl zw1039⟩
theorem fX14_106 : zFld "SaltFarmModel" 106 14 4 := ⟨_, _, _, rfl, by decide, Or.inl zw1042⟩
theorem fX14_109 : zFld "SaltFarmModel" 109 14 5 := ⟨_, _, _, rfl, by decide, Or.inl zw1043⟩
theorem fX14_138 : zFld "SaltFarmModel" 138 13 6 := ⟨_, _, _, rfl, by decide, Or.inr ⟨_, zw1019⟩⟩
theorem fX14_141 : zFld "SaltFarmModel" 141 14 23 := ⟨_, _, _, rfl, by decide, Or.inl zw1061⟩
theorem fX14_144 : zFld "SaltFarmModel" 144 13 7 := ⟨_, _, _, rfl, by decide, Or.inr ⟨_, zw1020⟩⟩
theorem fX14_145 : zFld "SaltFarmModel" 145 14 20 := ⟨_, _, _, rfl, by decide, Or.inl zw1058⟩
theorem fX14_160 : zFld "SaltFarmModel" 160 14 21 := ⟨_, _, _, rfl, by decide, Or.inl zw1059⟩
theorem fX14_166 : zFld "SaltFarmModel" 166 14 22 := ⟨_, _, _, rfl, by decide, Or.inl zw1060⟩
theorem fX14_169 : zFld "SaltFarmModel" 169 14 24 := ⟨_, _, _, rfl, by decide, Or.inl zw1062⟩
theorem fX14_175 : zFld "SaltFarmModel" 175 14 28 := ⟨_, _, _, rfl, by decide, Or.inl zw1066⟩
theorem fX14_182 : zFld "SaltFarmModel" 182 14 25 := ⟨_, _, _, rfl, by decide, Or.inl zw1063⟩
theorem fX14_210 : zFld "SaltFarmModel" 210 12 2 := ⟨_, _, _, rfl, by decide, Or.inr ⟨_, zw931⟩⟩
theorem fX14_213 : zFld "SaltFarmModel" 213 12 3 := ⟨_, _, _, rfl, by decide, Or.inr ⟨_, zw933⟩⟩
theorem fX14_216 : zFld "SaltFarmModel" 216 14 26 := ⟨_, _, _, rfl, by decide, Or.inl zw1064⟩
theorem fX14_219 : zFld "SaltFarmModel" 219 14 27 := ⟨_, _, _, rfl, by decide, Or.inl zw1065⟩
theorem fX14_225 : zFld "SaltFarmModel" 225 12 4 := ⟨_, _, _, rfl, by decide, Or.inr ⟨_, zw935⟩⟩
theorem fX14_229 : zFld "SaltFarmModel" 229 12 5 := ⟨_, _, _, rfl, by decide, Or.inr ⟨_, zw937⟩⟩
theorem fX14_232 : zFld "SaltFarmModel" 232 12 6 := ⟨_, _, _, rfl, by decide, Or.inr ⟨_, zw939⟩⟩
theorem fX14_242 : zFld "SaltFarmModel" 242 12 7 := ⟨_, _, _, rfl, by decide, Or.inr ⟨_, zw941⟩⟩
theorem fX14_263 : zFld "SaltFarmModel" 263 14 19 := ⟨_, _, _, rfl, by decide, Or.inl zw1057⟩
theorem fX14_266 : zFld "SaltFarmModel" 266 14 3 := ⟨_, _, _, rfl, by decide, Or.inl zw1041⟩
theorem fX14_272 : zFld "SaltFarmModel" 272 14 14 := ⟨_, _, _, rfl, by decide, Or.inl zw1052⟩
theorem fX14_275 : zFld "SaltFarmModel" 275 12 0 := ⟨_, _, _, rfl, by decide, Or.inr ⟨_, zw929⟩⟩
theorem fX14_278 : zFld "SaltFarmModel" 278 12 1 := ⟨_, _, _, rfl, by decide, Or.inr ⟨_, zw930⟩⟩
theorem fX14_301 : zFld "SaltFarmModel" 301 12 8 := ⟨_, _, _, rfl, by decide, Or.inr ⟨_, zw943⟩⟩
theorem fX14_303 : zFld "SaltFarmModel" 303 12 9 := ⟨_, _, _, rfl, by decide, Or.inr ⟨_, zw945⟩⟩
theorem fX14_324 : zFld "SaltFarmModel" 324 14 6 := ⟨_, _, _, rfl, by decide, Or.inl zw1044⟩
theorem fX14_352 : zFld "SaltFarmModel" 352 14 35 := ⟨_, _, _, rfl, by decide, Or.inl zw1073⟩
theorem fX14_358 : zFld "SaltFarmModel" 358 14 38 := ⟨_, _, _, rfl, by decide, Or.inl zw1076⟩
theorem fX14_364 : zFld "SaltFarmModel" 364 14 39 := ⟨_, _, _, rfl, by decide, Or.inl zw1077⟩
theorem fX14_367 : zFld "SaltFarmModel" 367 14 40 := ⟨_, _, _, rfl, by decide, Or.inl zw1078⟩
theorem fX12_9 : zFld "SaltFarmModel$Edict" 9 12 4 := ⟨_, _, _, rfl, by decide, Or.inl zw934⟩
theorem fX12_15 : zFld "SaltFarmModel$Edict" 15 12 5 := ⟨_, _, _, rfl, by decide, Or.inl zw936⟩
theorem fX12_19 : zFld "SaltFarmModel$Edict" 19 12 6 := ⟨_, _, _, rfl, by decide, Or.inl zw938⟩
theorem fX12_22 : zFld "SaltFarmModel$Edict" 22 12 7 := ⟨_, _, _, rfl, by decide, Or.inl zw940⟩
theorem fX12_25 : zFld "SaltFarmModel$Edict" 25 12 8 := ⟨_, _, _, rfl, by decide, Or.inl zw942⟩
theorem fX12_28 : zFld "SaltFarmModel$Edict" 28 12 9 := ⟨_, _, _, rfl, by decide, Or.inl zw944⟩
theorem fX12_31 : zFld "SaltFarmModel$Edict" 31 12 3 := ⟨_, _, _, rfl, by decide, Or.inl zw932⟩
theorem fJT_7 : zFld "java/lang/Throwable" 7 13 0 := ⟨_, _, _, rfl, by decide, Or.inl zw1023⟩
theorem fJT_17 : zFld "java/lang/Throwable" 17 13 1 := ⟨_, _, _, rfl, by decide, Or.inl zw1024⟩
theorem fJT_24 : zFld "java/lang/Throwable" 24 13 2 := ⟨_, _, _, rfl, by decide, Or.inl zw1025⟩
theorem fJT_31 : zFld "java/lang/Throwable" 31 13 3 := ⟨_, _, _, rfl, by decide, Or.inl zw1022⟩
theorem fJT_198 : zFld "java/lang/Throwable" 198 13 4 := ⟨_, _, _, rfl, by decide, Or.inl zw1021⟩
theorem gX0_init_7 : zFldW mX0_init 7 0 3 := ⟨_, _, _, rfl, by decide, Or.inl ⟨zw424, Or.inl rfl⟩⟩
theorem gX0_init_13 : zFldW mX0_init 13 0 0 := ⟨_, _, _, rfl, by decide, Or.inl ⟨zw418, Or.inr ⟨rfl, rfl, rfl⟩⟩⟩
theorem gX0_init_16 : zFldW mX0_init 16 0 1 := ⟨_, _, _, rfl, by decide, Or.inl ⟨zw420, Or.inr ⟨rfl, rfl, rfl⟩⟩⟩
theorem gX0_init_19 : zFldW mX0_init 19 0 2 := ⟨_, _, _, rfl, by decide, Or.inl ⟨zw422, Or.inr ⟨rfl, rfl, rfl⟩⟩⟩
theorem gX1_init_7 : zFldW mX1_init 7 1 0 := ⟨_, _, _, rfl, by decide, Or.inl ⟨zw615, Or.inr ⟨rfl, rfl, rfl⟩⟩⟩
theorem gX1_init_13 : zFldW mX1_init 13 1 1 := ⟨_, _, _, rfl, by decide, Or.inl ⟨zw617, Or.inr ⟨rfl, rfl, rfl⟩⟩⟩
theorem gX1_init_16 : zFldW mX1_init 16 1 2 := ⟨_, _, _, rfl, by decide, Or.inl ⟨zw619, Or.inr ⟨rfl, rfl, rfl⟩⟩⟩
theorem gX2_init_11 : zFldW mX2_init 11 2 0 := ⟨_, _, _, rfl, by decide, Or.inl ⟨zw205, Or.inr ⟨rfl, rfl, rfl⟩⟩⟩
theorem gX2_init_20 : zFldW mX2_init 20 2 1 := ⟨_, _, _, rfl, by decide, Or.inl ⟨zw206, Or.inr ⟨rfl, rfl, rfl⟩⟩⟩
theorem gX2_init_24 : zFldW mX2_init 24 2 2 := ⟨_, _, _, rfl, by decide, Or.inl ⟨zw207, Or.inl rfl⟩⟩
theorem gX2_add_24 : zFldW mX2_add 24 2 2 := ⟨_, _, _, rfl, by decide, Or.inl ⟨zw207, Or.inl rfl⟩⟩
theorem gX2_learn_38 : zFldW mX2_learn 38 5 4 := ⟨_, _, _, rfl, by decide, Or.inl ⟨zw370, Or.inl rfl⟩⟩
theorem gX2_learnYear_61 : zFldW mX2_learnYear 61 6 2 := ⟨_, _, _, rfl, by decide, Or.inl ⟨zw185, Or.inl rfl⟩⟩
theorem gX2_learnYear_65 : zFldW mX2_learnYear 65 6 3 := ⟨_, _, _, rfl, by decide, Or.inl ⟨zw187, Or.inl rfl⟩⟩
theorem gX2_learnYear_69 : zFldW mX2_learnYear 69 6 4 := ⟨_, _, _, rfl, by decide, Or.inl ⟨zw189, Or.inl rfl⟩⟩
theorem gX2_learnYear_70 : zFldW mX2_learnYear 70 6 5 := ⟨_, _, _, rfl, by decide, Or.inl ⟨zw191, Or.inl rfl⟩⟩
theorem gX3_init_9 : zFldW mX3_init 9 3 0 := ⟨_, _, _, rfl, by decide, Or.inl ⟨zw222, Or.inr ⟨rfl, rfl, rfl⟩⟩⟩
theorem gX3_init_15 : zFldW mX3_init 15 3 1 := ⟨_, _, _, rfl, by decide, Or.inl ⟨zw223, Or.inr ⟨rfl, rfl, rfl⟩⟩⟩
theorem gX3_init_19 : zFldW mX3_init 19 3 2 := ⟨_, _, _, rfl, by decide, Or.inl ⟨zw224, Or.inr ⟨rfl, rfl, rfl⟩⟩⟩
theorem gX3_init_22 : zFldW mX3_init 22 3 3 := ⟨_, _, _, rfl, by decide, Or.inl ⟨zw225, Or.inr ⟨rfl, rfl, rfl⟩⟩⟩
theorem gX3_init_25 : zFldW mX3_init 25 3 4 := ⟨_, _, _, rfl, by decide, Or.inl ⟨zw226, Or.inr ⟨rfl, rfl, rfl⟩⟩⟩
theorem gX3_init_28 : zFldW mX3_init 28 3 5 := ⟨_, _, _, rfl, by decide, Or.inl ⟨zw227, Or.inr ⟨rfl, rfl, rfl⟩⟩⟩
theorem gX3_init_31 : zFldW mX3_init 31 3 6 := ⟨_, _, _, rfl, by decide, Or.inl ⟨zw228, Or.inr ⟨rfl, rfl, rfl⟩⟩⟩
theorem gX3_init_34 : zFldW mX3_init 34 3 7 := ⟨_, _, _, rfl, by decide, Or.inl ⟨zw229, Or.inr ⟨rfl, rfl, rfl⟩⟩⟩
theorem gX3_init_37 : zFldW mX3_init 37 3 8 := ⟨_, _, _, rfl, by decide, Or.inl ⟨zw230, Or.inr ⟨rfl, rfl, rfl⟩⟩⟩
theorem gX3_init_40 : zFldW mX3_init 40 3 9 := ⟨_, _, _, rfl, by decide, Or.inl ⟨zw232, Or.inl rfl⟩⟩
theorem gX3_init_44 : zFldW mX3_init 44 3 10 := ⟨_, _, _, rfl, by decide, Or.inl ⟨zw234, Or.inl rfl⟩⟩
theorem gX3_init_47 : zFldW mX3_init 47 3 11 := ⟨_, _, _, rfl, by decide, Or.inl ⟨zw237, Or.inl rfl⟩⟩
theorem gX3_trace_47 : zFldW mX3_trace 47 3 11 := ⟨_, _, _, rfl, by decide, Or.inl ⟨zw237, Or.inl rfl⟩⟩
theorem gX4_init_12 : zFldW mX4_init 12 4 0 := ⟨_, _, _, rfl, by decide, Or.inl ⟨zw144, Or.inr ⟨rfl, rfl, rfl⟩⟩⟩
theorem gX4_init_18 : zFldW mX4_init 18 4 1 := ⟨_, _, _, rfl, by decide, Or.inl ⟨zw145, Or.inr ⟨rfl, rfl, rfl⟩⟩⟩
theorem gX4_init_22 : zFldW mX4_init 22 4 2 := ⟨_, _, _, rfl, by decide, Or.inl ⟨zw146, Or.inl rfl⟩⟩
theorem gX4_init_26 : zFldW mX4_init 26 4 3 := ⟨_, _, _, rfl, by decide, Or.inl ⟨zw147, Or.inl rfl⟩⟩
theorem gX4_init_29 : zFldW mX4_init 29 4 4 := ⟨_, _, _, rfl, by decide, Or.inl ⟨zw148, Or.inl rfl⟩⟩
theorem gX4_init_32 : zFldW mX4_init 32 4 5 := ⟨_, _, _, rfl, by decide, Or.inl ⟨zw149, Or.inl rfl⟩⟩
theorem gX4_init_35 : zFldW mX4_init 35 4 6 := ⟨_, _, _, rfl, by decide, Or.inl ⟨zw151, Or.inl rfl⟩⟩
theorem gX4_reads_22 : zFldW mX4_reads 22 4 2 := ⟨_, _, _, rfl, by decide, Or.inl ⟨zw146, Or.inl rfl⟩⟩
theorem gX4_reads_26 : zFldW mX4_reads 26 4 3 := ⟨_, _, _, rfl, by decide, Or.inl ⟨zw147, Or.inl rfl⟩⟩
theorem gX4_reads_29 : zFldW mX4_reads 29 4 4 := ⟨_, _, _, rfl, by decide, Or.inl ⟨zw148, Or.inl rfl⟩⟩
theorem gX4_reads_32 : zFldW mX4_reads 32 4 5 := ⟨_, _, _, rfl, by decide, Or.inl ⟨zw149, Or.inl rfl⟩⟩
theorem gX4_reads_35 : zFldW mX4_reads 35 4 6 := ⟨_, _, _, rfl, by decide, Or.inl ⟨zw151, Or.inl rfl⟩⟩
theorem gX4_readsLine_26 : zFldW mX4_readsLine 26 4 3 := ⟨_, _, _, rfl, by decide, Or.inl ⟨zw147, Or.inl rfl⟩⟩
theorem gX4_readsTests_26 : zFldW mX4_readsTests 26 4 3 := ⟨_, _, _, rfl, by decide, Or.inl ⟨zw147, Or.inl rfl⟩⟩
theorem gX4_readsOne_26 : zFldW mX4_readsOne 26 4 3 := ⟨_, _, _, rfl, by decide, Or.inl ⟨zw147, Or.inl rfl⟩⟩
theorem gX4_passesSign_29 : zFldW mX4_passesSign 29 4 4 := ⟨_, _, _, rfl, by decide, Or.inl ⟨zw148, Or.inl rfl⟩⟩
theorem gX4_passesSign_26 : zFldW mX4_passesSign 26 4 3 := ⟨_, _, _, rfl, by decide, Or.inl ⟨zw147, Or.inl rfl⟩⟩
theorem gX4_fail_32 : zFldW mX4_fail 32 4 5 := ⟨_, _, _, rfl, by decide, Or.inl ⟨zw149, Or.inl rfl⟩⟩
theorem gX4_fail_35 : zFldW mX4_fail 35 4 6 := ⟨_, _, _, rfl, by decide, Or.inl ⟨zw151, Or.inl rfl⟩⟩
theorem gX4_write_22 : zFldW mX4_write 22 4 2 := ⟨_, _, _, rfl, by decide, Or.inl ⟨zw146, Or.inl rfl⟩⟩
theorem gX5_init_9 : zFldW mX5_init 9 5 2 := ⟨_, _, _, rfl, by decide, Or.inl ⟨zw361, Or.inr ⟨rfl, rfl, rfl⟩⟩⟩
theorem gX5_init_15 : zFldW mX5_init 15 5 3 := ⟨_, _, _, rfl, by decide, Or.inl ⟨zw365, Or.inr ⟨rfl, rfl, rfl⟩⟩⟩
theorem gX5_init_18 : zFldW mX5_init 18 5 4 := ⟨_, _, _, rfl, by decide, Or.inl ⟨zw369, Or.inl rfl⟩⟩
theorem gX5_init_22 : zFldW mX5_init 22 5 0 := ⟨_, _, _, rfl, by decide, Or.inl ⟨zw353, Or.inl rfl⟩⟩
theorem gX5_init_25 : zFldW mX5_init 25 5 1 := ⟨_, _, _, rfl, by decide, Or.inl ⟨zw357, Or.inl rfl⟩⟩
theorem gX5_forgetFrom_18 : zFldW mX5_forgetFrom 18 5 4 := ⟨_, _, _, rfl, by decide, Or.inl ⟨zw369, Or.inl rfl⟩⟩
theorem gX6_init_11 : zFldW mX6_init 11 6 0 := ⟨_, _, _, rfl, by decide, Or.inl ⟨zw182, Or.inr ⟨rfl, rfl, rfl⟩⟩⟩
theorem gX6_init_15 : zFldW mX6_init 15 6 1 := ⟨_, _, _, rfl, by decide, Or.inl ⟨zw183, Or.inl rfl⟩⟩
theorem gX6_init_19 : zFldW mX6_init 19 6 2 := ⟨_, _, _, rfl, by decide, Or.inl ⟨zw184, Or.inl rfl⟩⟩
theorem gX6_init_22 : zFldW mX6_init 22 6 3 := ⟨_, _, _, rfl, by decide, Or.inl ⟨zw186, Or.inl rfl⟩⟩
theorem gX6_init_25 : zFldW mX6_init 25 6 4 := ⟨_, _, _, rfl, by decide, Or.inl ⟨zw188, Or.inl rfl⟩⟩
theorem gX6_init_28 : zFldW mX6_init 28 6 5 := ⟨_, _, _, rfl, by decide, Or.inl ⟨zw190, Or.inl rfl⟩⟩
theorem gX6_tell_15 : zFldW mX6_tell 15 6 1 := ⟨_, _, _, rfl, by decide, Or.inl ⟨zw183, Or.inl rfl⟩⟩
theorem gX6_push_15 : zFldW mX6_push 15 6 1 := ⟨_, _, _, rfl, by decide, Or.inl ⟨zw183, Or.inl rfl⟩⟩
theorem gX6_pop_15 : zFldW mX6_pop 15 6 1 := ⟨_, _, _, rfl, by decide, Or.inl ⟨zw183, Or.inl rfl⟩⟩
theorem gX7_init_7 : zFldW mX7_init 7 7 1 := ⟨_, _, _, rfl, by decide, Or.inl ⟨zw859, Or.inl rfl⟩⟩
theorem gX7_init_13 : zFldW mX7_init 13 7 2 := ⟨_, _, _, rfl, by decide, Or.inl ⟨zw861, Or.inl rfl⟩⟩
theorem gX7_init_16 : zFldW mX7_init 16 7 3 := ⟨_, _, _, rfl, by decide, Or.inl ⟨zw863, Or.inl rfl⟩⟩
theorem gX7_init_19 : zFldW mX7_init 19 7 4 := ⟨_, _, _, rfl, by decide, Or.inl ⟨zw865, Or.inl rfl⟩⟩
theorem gX7_init_23 : zFldW mX7_init 23 7 5 := ⟨_, _, _, rfl, by decide, Or.inl ⟨zw867, Or.inl rfl⟩⟩
theorem gX7_init_27 : zFldW mX7_init 27 7 0 := ⟨_, _, _, rfl, by decide, Or.inl ⟨zw858, Or.inl rfl⟩⟩
theorem gX7_closeYear_23 : zFldW mX7_closeYear 23 7 5 := ⟨_, _, _, rfl, by decide, Or.inl ⟨zw867, Or.inl rfl⟩⟩
theorem gX7_closeYear_27 : zFldW mX7_closeYear 27 7 0 := ⟨_, _, _, rfl, by decide, Or.inl ⟨zw858, Or.inl rfl⟩⟩
theorem gX7_closeYear_7 : zFldW mX7_closeYear 7 7 1 := ⟨_, _, _, rfl, by decide, Or.inl ⟨zw859, Or.inl rfl⟩⟩
theorem gX7_closeYear_13 : zFldW mX7_closeYear 13 7 2 := ⟨_, _, _, rfl, by decide, Or.inl ⟨zw861, Or.inl rfl⟩⟩
theorem gX7_closeYear_19 : zFldW mX7_closeYear 19 7 4 := ⟨_, _, _, rfl, by decide, Or.inl ⟨zw865, Or.inl rfl⟩⟩
theorem gX8_init_9 : zFldW mX8_init 9 8 0 := ⟨_, _, _, rfl, by decide, Or.inl ⟨zw108, Or.inr ⟨rfl, rfl, rfl⟩⟩⟩
theorem gX8_init_15 : zFldW mX8_init 15 8 1 := ⟨_, _, _, rfl, by decide, Or.inl ⟨zw110, Or.inl rfl⟩⟩
theorem gX8_append_15 : zFldW mX8_append 15 8 1 := ⟨_, _, _, rfl, by decide, Or.inl ⟨zw110, Or.inl rfl⟩⟩
theorem gX9_init_9 : zFldW mX9_init 9 9 0 := ⟨_, _, _, rfl, by decide, Or.inl ⟨zw130, Or.inr ⟨rfl, rfl, rfl⟩⟩⟩
theorem gX9_init_15 : zFldW mX9_init 15 9 1 := ⟨_, _, _, rfl, by decide, Or.inl ⟨zw132, Or.inr ⟨rfl, rfl, rfl⟩⟩⟩
theorem gX9_init_18 : zFldW mX9_init 18 9 2 := ⟨_, _, _, rfl, by decide, Or.inl ⟨zw134, Or.inl rfl⟩⟩
theorem gX9_scan_18 : zFldW mX9_scan 18 9 2 := ⟨_, _, _, rfl, by decide, Or.inl ⟨zw134, Or.inl rfl⟩⟩
theorem gX9_add_18 : zFldW mX9_add 18 9 2 := ⟨_, _, _, rfl, by decide, Or.inl ⟨zw134, Or.inl rfl⟩⟩
theorem gX10_init_9 : zFldW mX10_init 9 10 0 := ⟨_, _, _, rfl, by decide, Or.inl ⟨zw271, Or.inr ⟨rfl, rfl, rfl⟩⟩⟩
theorem gX10_init_15 : zFldW mX10_init 15 10 1 := ⟨_, _, _, rfl, by decide, Or.inl ⟨zw272, Or.inr ⟨rfl, rfl, rfl⟩⟩⟩
theorem gX10_init_18 : zFldW mX10_init 18 10 2 := ⟨_, _, _, rfl, by decide, Or.inl ⟨zw273, Or.inl rfl⟩⟩
theorem gX10_init_22 : zFldW mX10_init 22 10 3 := ⟨_, _, _, rfl, by decide, Or.inl ⟨zw274, Or.inl rfl⟩⟩
theorem gX10_lay_18 : zFldW mX10_lay 18 10 2 := ⟨_, _, _, rfl, by decide, Or.inl ⟨zw273, Or.inl rfl⟩⟩
theorem gX10_lay_22 : zFldW mX10_lay 22 10 3 := ⟨_, _, _, rfl, by decide, Or.inl ⟨zw274, Or.inl rfl⟩⟩
theorem gX11_init_11 : zFldW mX11_init 11 11 0 := ⟨_, _, _, rfl, by decide, Or.inl ⟨zw284, Or.inr ⟨rfl, rfl, rfl⟩⟩⟩
theorem gX11_init_17 : zFldW mX11_init 17 11 1 := ⟨_, _, _, rfl, by decide, Or.inl ⟨zw285, Or.inr ⟨rfl, rfl, rfl⟩⟩⟩
theorem gX11_init_23 : zFldW mX11_init 23 11 2 := ⟨_, _, _, rfl, by decide, Or.inl ⟨zw286, Or.inr ⟨rfl, rfl, rfl⟩⟩⟩
theorem gX11_init_30 : zFldW mX11_init 30 11 3 := ⟨_, _, _, rfl, by decide, Or.inl ⟨zw287, Or.inr ⟨rfl, rfl, rfl⟩⟩⟩
theorem gX11_init_37 : zFldW mX11_init 37 11 4 := ⟨_, _, _, rfl, by decide, Or.inl ⟨zw288, Or.inr ⟨rfl, rfl, rfl⟩⟩⟩
theorem gX11_init_44 : zFldW mX11_init 44 11 5 := ⟨_, _, _, rfl, by decide, Or.inl ⟨zw289, Or.inr ⟨rfl, rfl, rfl⟩⟩⟩
theorem gX11_init_51 : zFldW mX11_init 51 11 6 := ⟨_, _, _, rfl, by decide, Or.inl ⟨zw290, Or.inr ⟨rfl, rfl, rfl⟩⟩⟩
theorem gX11_init_58 : zFldW mX11_init 58 11 7 := ⟨_, _, _, rfl, by decide, Or.inl ⟨zw291, Or.inr ⟨rfl, rfl, rfl⟩⟩⟩
theorem gX11_init_62 : zFldW mX11_init 62 11 8 := ⟨_, _, _, rfl, by decide, Or.inl ⟨zw292, Or.inl rfl⟩⟩
theorem gX11_init_66 : zFldW mX11_init 66 11 9 := ⟨_, _, _, rfl, by decide, Or.inl ⟨zw293, Or.inl rfl⟩⟩
theorem gX11_init_69 : zFldW mX11_init 69 11 10 := ⟨_, _, _, rfl, by decide, Or.inl ⟨zw294, Or.inl rfl⟩⟩
theorem gX11_init_72 : zFldW mX11_init 72 11 11 := ⟨_, _, _, rfl, by decide, Or.inl ⟨zw295, Or.inl rfl⟩⟩
theorem gX11_init_75 : zFldW mX11_init 75 11 12 := ⟨_, _, _, rfl, by decide, Or.inl ⟨zw296, Or.inl rfl⟩⟩
theorem gX11_init_78 : zFldW mX11_init 78 11 13 := ⟨_, _, _, rfl, by decide, Or.inl ⟨zw297, Or.inl rfl⟩⟩
theorem gX11_init_81 : zFldW mX11_init 81 11 14 := ⟨_, _, _, rfl, by decide, Or.inl ⟨zw298, Or.inl rfl⟩⟩
theorem gX11_init_84 : zFldW mX11_init 84 11 15 := ⟨_, _, _, rfl, by decide, Or.inl ⟨zw299, Or.inl rfl⟩⟩
theorem gX11_province_62 : zFldW mX11_province 62 11 8 := ⟨_, _, _, rfl, by decide, Or.inl ⟨zw292, Or.inl rfl⟩⟩
theorem gX11_people_109 : zFldW mX11_people 109 5 0 := ⟨_, _, _, rfl, by decide, Or.inl ⟨zw355, Or.inl rfl⟩⟩
theorem gX11_people_112 : zFldW mX11_people 112 5 1 := ⟨_, _, _, rfl, by decide, Or.inl ⟨zw359, Or.inl rfl⟩⟩
theorem gX11_border_66 : zFldW mX11_border 66 11 9 := ⟨_, _, _, rfl, by decide, Or.inl ⟨zw293, Or.inl rfl⟩⟩
theorem gX11_guard_134 : zFldW mX11_guard 134 0 3 := ⟨_, _, _, rfl, by decide, Or.inl ⟨zw425, Or.inl rfl⟩⟩
theorem gX11_weight_75 : zFldW mX11_weight 75 11 12 := ⟨_, _, _, rfl, by decide, Or.inl ⟨zw296, Or.inl rfl⟩⟩
theorem gX11_edict_143 : zFldW mX11_edict 143 8 1 := ⟨_, _, _, rfl, by decide, Or.inl ⟨zw111, Or.inl rfl⟩⟩
theorem gX11_edict_81 : zFldW mX11_edict 81 11 14 := ⟨_, _, _, rfl, by decide, Or.inl ⟨zw298, Or.inl rfl⟩⟩
theorem gX11_edict_84 : zFldW mX11_edict 84 11 15 := ⟨_, _, _, rfl, by decide, Or.inl ⟨zw299, Or.inl rfl⟩⟩
theorem gX11_best_78 : zFldW mX11_best 78 11 13 := ⟨_, _, _, rfl, by decide, Or.inl ⟨zw297, Or.inl rfl⟩⟩
theorem gX11_pass_72 : zFldW mX11_pass 72 11 11 := ⟨_, _, _, rfl, by decide, Or.inl ⟨zw295, Or.inl rfl⟩⟩
theorem gX11_store_69 : zFldW mX11_store 69 11 10 := ⟨_, _, _, rfl, by decide, Or.inl ⟨zw294, Or.inl rfl⟩⟩
theorem gX11_moves_262 : zFldW mX11_moves 262 7 2 := ⟨_, _, _, rfl, by decide, Or.inl ⟨zw862, Or.inl rfl⟩⟩
theorem gX11_moves_265 : zFldW mX11_moves 265 7 1 := ⟨_, _, _, rfl, by decide, Or.inl ⟨zw860, Or.inl rfl⟩⟩
theorem gX11_counted_269 : zFldW mX11_counted 269 7 3 := ⟨_, _, _, rfl, by decide, Or.inl ⟨zw864, Or.inl rfl⟩⟩
theorem gX11_counted_248 : zFldW mX11_counted 248 7 4 := ⟨_, _, _, rfl, by decide, Or.inl ⟨zw866, Or.inl rfl⟩⟩
theorem gX11_refuse_78 : zFldW mX11_refuse 78 11 13 := ⟨_, _, _, rfl, by decide, Or.inl ⟨zw297, Or.inl rfl⟩⟩
theorem gX11_grant_78 : zFldW mX11_grant 78 11 13 := ⟨_, _, _, rfl, by decide, Or.inl ⟨zw297, Or.inl rfl⟩⟩
theorem gX11_deny_78 : zFldW mX11_deny 78 11 13 := ⟨_, _, _, rfl, by decide, Or.inl ⟨zw297, Or.inl rfl⟩⟩
theorem gX11_allow_78 : zFldW mX11_allow 78 11 13 := ⟨_, _, _, rfl, by decide, Or.inl ⟨zw297, Or.inl rfl⟩⟩
theorem gX11_survey_286 : zFldW mX11_survey 286 3 9 := ⟨_, _, _, rfl, by decide, Or.inl ⟨zw233, Or.inl rfl⟩⟩
theorem gX11_survey_287 : zFldW mX11_survey 287 3 10 := ⟨_, _, _, rfl, by decide, Or.inl ⟨zw236, Or.inl rfl⟩⟩
theorem gX12_init_9 : zFldW mX12_init 9 12 4 := ⟨_, _, _, rfl, by decide, Or.inl ⟨zw934, Or.inr ⟨rfl, rfl, rfl⟩⟩⟩
theorem gX12_init_15 : zFldW mX12_init 15 12 5 := ⟨_, _, _, rfl, by decide, Or.inl ⟨zw936, Or.inr ⟨rfl, rfl, rfl⟩⟩⟩
theorem gX12_init_19 : zFldW mX12_init 19 12 6 := ⟨_, _, _, rfl, by decide, Or.inl ⟨zw938, Or.inr ⟨rfl, rfl, rfl⟩⟩⟩
theorem gX12_init_22 : zFldW mX12_init 22 12 7 := ⟨_, _, _, rfl, by decide, Or.inl ⟨zw940, Or.inr ⟨rfl, rfl, rfl⟩⟩⟩
theorem gX12_init_25 : zFldW mX12_init 25 12 8 := ⟨_, _, _, rfl, by decide, Or.inl ⟨zw942, Or.inr ⟨rfl, rfl, rfl⟩⟩⟩
theorem gX12_init_28 : zFldW mX12_init 28 12 9 := ⟨_, _, _, rfl, by decide, Or.inl ⟨zw944, Or.inr ⟨rfl, rfl, rfl⟩⟩⟩
theorem gX12_put_31 : zFldW mX12_put 31 12 3 := ⟨_, _, _, rfl, by decide, Or.inl ⟨zw932, Or.inl rfl⟩⟩
theorem gX14_init_9 : zFldW mX14_init 9 14 2 := ⟨_, _, _, rfl, by decide, Or.inl ⟨zw1040, Or.inl rfl⟩⟩
theorem gX14_init_13 : zFldW mX14_init 13 14 7 := ⟨_, _, _, rfl, by decide, Or.inl ⟨zw1045, Or.inl rfl⟩⟩
theorem gX14_init_16 : zFldW mX14_init 16 14 8 := ⟨_, _, _, rfl, by decide, Or.inl ⟨zw1046, Or.inr ⟨rfl, rfl, rfl⟩⟩⟩
theorem gX14_init_20 : zFldW mX14_init 20 14 9 := ⟨_, _, _, rfl, by decide, Or.inl ⟨zw1047, Or.inr ⟨rfl, rfl, rfl⟩⟩⟩
theorem gX14_init_23 : zFldW mX14_init 23 14 10 := ⟨_, _, _, rfl, by decide, Or.inl ⟨zw1048, Or.inr ⟨rfl, rfl, rfl⟩⟩⟩
theorem gX14_init_26 : zFldW mX14_init 26 14 11 := ⟨_, _, _, rfl, by decide, Or.inl ⟨zw1049, Or.inr ⟨rfl, rfl, rfl⟩⟩⟩
theorem gX14_init_29 : zFldW mX14_init 29 14 12 := ⟨_, _, _, rfl, by decide, Or.inl ⟨zw1050, Or.inr ⟨rfl, rfl, rfl⟩⟩⟩
theorem gX14_init_32 : zFldW mX14_init 32 14 13 := ⟨_, _, _, rfl, by decide, Or.inl ⟨zw1051, Or.inr ⟨rfl, rfl, rfl⟩⟩⟩
theorem gX14_init_37 : zFldW mX14_init 37 14 15 := ⟨_, _, _, rfl, by decide, Or.inl ⟨zw1053, Or.inr ⟨rfl, rfl, rfl⟩⟩⟩
theorem gX14_init_42 : zFldW mX14_init 42 14 16 := ⟨_, _, _, rfl, by decide, Or.inl ⟨zw1054, Or.inl rfl⟩⟩
theorem gX14_init_49 : zFldW mX14_init 49 14 17 := ⟨_, _, _, rfl, by decide, Or.inl ⟨zw1055, Or.inr ⟨rfl, rfl, rfl⟩⟩⟩
theorem gX14_init_53 : zFldW mX14_init 53 14 18 := ⟨_, _, _, rfl, by decide, Or.inl ⟨zw1056, Or.inr ⟨rfl, rfl, rfl⟩⟩⟩
theorem gX14_init_57 : zFldW mX14_init 57 14 29 := ⟨_, _, _, rfl, by decide, Or.inl ⟨zw1067, Or.inr ⟨rfl, rfl, rfl⟩⟩⟩
theorem gX14_init_60 : zFldW mX14_init 60 14 30 := ⟨_, _, _, rfl, by decide, Or.inl ⟨zw1068, Or.inr ⟨rfl, rfl, rfl⟩⟩⟩
theorem gX14_init_63 : zFldW mX14_init 63 14 31 := ⟨_, _, _, rfl, by decide, Or.inl ⟨zw1069, Or.inr ⟨rfl, rfl, rfl⟩⟩⟩
theorem gX14_init_66 : zFldW mX14_init 66 14 32 := ⟨_, _, _, rfl, by decide, Or.inl ⟨zw1070, Or.inr ⟨rfl, rfl, rfl⟩⟩⟩
theorem gX14_init_69 : zFldW mX14_init 69 14 33 := ⟨_, _, _, rfl, by decide, Or.inl ⟨zw1071, Or.inr ⟨rfl, rfl, rfl⟩⟩⟩
theorem gX14_init_72 : zFldW mX14_init 72 14 34 := ⟨_, _, _, rfl, by decide, Or.inl ⟨zw1072, Or.inr ⟨rfl, rfl, rfl⟩⟩⟩
theorem gX14_init_75 : zFldW mX14_init 75 14 36 := ⟨_, _, _, rfl, by decide, Or.inl ⟨zw1074, Or.inr ⟨rfl, rfl, rfl⟩⟩⟩
theorem gX14_init_78 : zFldW mX14_init 78 14 37 := ⟨_, _, _, rfl, by decide, Or.inl ⟨zw1075, Or.inr ⟨rfl, rfl, rfl⟩⟩⟩
theorem gX14_init_81 : zFldW mX14_init 81 14 41 := ⟨_, _, _, rfl, by decide, Or.inl ⟨zw1079, Or.inr ⟨rfl, rfl, rfl⟩⟩⟩
theorem gX14_init_84 : zFldW mX14_init 84 14 42 := ⟨_, _, _, rfl, by decide, Or.inl ⟨zw1080, Or.inr ⟨rfl, rfl, rfl⟩⟩⟩
theorem gX14_init_87 : zFldW mX14_init 87 14 43 := ⟨_, _, _, rfl, by decide, Or.inl ⟨zw1081, Or.inr ⟨rfl, rfl, rfl⟩⟩⟩
theorem gX14_init_90 : zFldW mX14_init 90 14 44 := ⟨_, _, _, rfl, by decide, Or.inl ⟨zw1082, Or.inr ⟨rfl, rfl, rfl⟩⟩⟩
theorem gX14_init_93 : zFldW mX14_init 93 14 45 := ⟨_, _, _, rfl, by decide, Or.inl ⟨zw1083, Or.inr ⟨rfl, rfl, rfl⟩⟩⟩
theorem gX14_init_96 : zFldW mX14_init 96 14 46 := ⟨_, _, _, rfl, by decide, Or.inl ⟨zw1084, Or.inr ⟨rfl, rfl, rfl⟩⟩⟩
theorem gX14_refused_103 : zFldW mX14_refused 103 14 1 := ⟨_, _, _, rfl, by decide, Or.inl ⟨zw1039, Or.inl rfl⟩⟩
theorem gX14_refused_9 : zFldW mX14_refused 9 14 2 := ⟨_, _, _, rfl, by decide, Or.inl ⟨zw1040, Or.inl rfl⟩⟩
theorem gX14_denied_103 : zFldW mX14_denied 103 14 1 := ⟨_, _, _, rfl, by decide, Or.inl ⟨zw1039, Or.inl rfl⟩⟩
theorem gX14_denied_9 : zFldW mX14_denied 9 14 2 := ⟨_, _, _, rfl, by decide, Or.inl ⟨zw1040, Or.inl rfl⟩⟩
theorem gX14_done_103 : zFldW mX14_done 103 14 1 := ⟨_, _, _, rfl, by decide, Or.inl ⟨zw1039, Or.inl rfl⟩⟩
theorem gX14_done_9 : zFldW mX14_done 9 14 2 := ⟨_, _, _, rfl, by decide, Or.inl ⟨zw1040, Or.inl rfl⟩⟩
theorem gX14_granted_103 : zFldW mX14_granted 103 14 1 := ⟨_, _, _, rfl, by decide, Or.inl ⟨zw1039, Or.inl rfl⟩⟩
theorem gX14_granted_9 : zFldW mX14_granted 9 14 2 := ⟨_, _, _, rfl, by decide, Or.inl ⟨zw1040, Or.inl rfl⟩⟩
theorem gX14_province_100 : zFldW mX14_province 100 14 0 := ⟨_, _, _, rfl, by decide, Or.inl ⟨zw1038, Or.inl rfl⟩⟩
theorem gX14_province_106 : zFldW mX14_province 106 14 4 := ⟨_, _, _, rfl, by decide, Or.inl ⟨zw1042, Or.inl rfl⟩⟩
theorem gX14_people_100 : zFldW mX14_people 100 14 0 := ⟨_, _, _, rfl, by decide, Or.inl ⟨zw1038, Or.inl rfl⟩⟩
theorem gX14_border_100 : zFldW mX14_border 100 14 0 := ⟨_, _, _, rfl, by decide, Or.inl ⟨zw1038, Or.inl rfl⟩⟩
theorem gX14_border_109 : zFldW mX14_border 109 14 5 := ⟨_, _, _, rfl, by decide, Or.inl ⟨zw1043, Or.inl rfl⟩⟩
theorem gX14_guard_100 : zFldW mX14_guard 100 14 0 := ⟨_, _, _, rfl, by decide, Or.inl ⟨zw1038, Or.inl rfl⟩⟩
theorem gX14_weight_100 : zFldW mX14_weight 100 14 0 := ⟨_, _, _, rfl, by decide, Or.inl ⟨zw1038, Or.inl rfl⟩⟩
theorem gX14_weight_13 : zFldW mX14_weight 13 14 7 := ⟨_, _, _, rfl, by decide, Or.inl ⟨zw1045, Or.inl rfl⟩⟩
theorem gX14_stop_138 : zFldW mX14_stop 138 13 6 := ⟨_, _, _, rfl, by decide, Or.inr ⟨_, zw1019, rfl⟩⟩
theorem gX14_stop_144 : zFldW mX14_stop 144 13 7 := ⟨_, _, _, rfl, by decide, Or.inr ⟨_, zw1020, rfl⟩⟩
theorem gX14_next_160 : zFldW mX14_next 160 14 21 := ⟨_, _, _, rfl, by decide, Or.inl ⟨zw1059, Or.inl rfl⟩⟩
theorem gX14_next_141 : zFldW mX14_next 141 14 23 := ⟨_, _, _, rfl, by decide, Or.inl ⟨zw1061, Or.inl rfl⟩⟩
theorem gX14_next_166 : zFldW mX14_next 166 14 22 := ⟨_, _, _, rfl, by decide, Or.inl ⟨zw1060, Or.inl rfl⟩⟩
theorem gX14_next_169 : zFldW mX14_next 169 14 24 := ⟨_, _, _, rfl, by decide, Or.inl ⟨zw1062, Or.inl rfl⟩⟩
theorem gX14_next_175 : zFldW mX14_next 175 14 28 := ⟨_, _, _, rfl, by decide, Or.inl ⟨zw1066, Or.inl rfl⟩⟩
theorem gX14_next_182 : zFldW mX14_next 182 14 25 := ⟨_, _, _, rfl, by decide, Or.inl ⟨zw1063, Or.inl rfl⟩⟩
theorem gX14_reads_210 : zFldW mX14_reads 210 12 2 := ⟨_, _, _, rfl, by decide, Or.inr ⟨_, zw931, rfl⟩⟩
theorem gX14_reads_213 : zFldW mX14_reads 213 12 3 := ⟨_, _, _, rfl, by decide, Or.inr ⟨_, zw933, rfl⟩⟩
theorem gX14_reads_216 : zFldW mX14_reads 216 14 26 := ⟨_, _, _, rfl, by decide, Or.inl ⟨zw1064, Or.inl rfl⟩⟩
theorem gX14_reads_219 : zFldW mX14_reads 219 14 27 := ⟨_, _, _, rfl, by decide, Or.inl ⟨zw1065, Or.inl rfl⟩⟩
theorem gX14_sign_219 : zFldW mX14_sign 219 14 27 := ⟨_, _, _, rfl, by decide, Or.inl ⟨zw1065, Or.inl rfl⟩⟩
theorem gX14_readOne_216 : zFldW mX14_readOne 216 14 26 := ⟨_, _, _, rfl, by decide, Or.inl ⟨zw1064, Or.inl rfl⟩⟩
theorem gX14_feed_100 : zFldW mX14_feed 100 14 0 := ⟨_, _, _, rfl, by decide, Or.inl ⟨zw1038, Or.inl rfl⟩⟩
theorem gX14_feed_263 : zFldW mX14_feed 263 14 19 := ⟨_, _, _, rfl, by decide, Or.inl ⟨zw1057, Or.inl rfl⟩⟩
theorem gX14_edict_100 : zFldW mX14_edict 100 14 0 := ⟨_, _, _, rfl, by decide, Or.inl ⟨zw1038, Or.inl rfl⟩⟩
theorem gX14_edict_145 : zFldW mX14_edict 145 14 20 := ⟨_, _, _, rfl, by decide, Or.inl ⟨zw1058, Or.inl rfl⟩⟩
theorem gX14_edict_263 : zFldW mX14_edict 263 14 19 := ⟨_, _, _, rfl, by decide, Or.inl ⟨zw1057, Or.inl rfl⟩⟩
theorem gX14_edict_160 : zFldW mX14_edict 160 14 21 := ⟨_, _, _, rfl, by decide, Or.inl ⟨zw1059, Or.inl rfl⟩⟩
theorem gX14_edict_266 : zFldW mX14_edict 266 14 3 := ⟨_, _, _, rfl, by decide, Or.inl ⟨zw1041, Or.inl rfl⟩⟩
theorem gX14_edict_103 : zFldW mX14_edict 103 14 1 := ⟨_, _, _, rfl, by decide, Or.inl ⟨zw1039, Or.inl rfl⟩⟩
theorem gX14_edict_9 : zFldW mX14_edict 9 14 2 := ⟨_, _, _, rfl, by decide, Or.inl ⟨zw1040, Or.inl rfl⟩⟩
theorem gX14_edict_275 : zFldW mX14_edict 275 12 0 := ⟨_, _, _, rfl, by decide, Or.inr ⟨_, zw929, rfl⟩⟩
theorem gX14_edict_278 : zFldW mX14_edict 278 12 1 := ⟨_, _, _, rfl, by decide, Or.inr ⟨_, zw930, rfl⟩⟩
theorem gX14_edict_42 : zFldW mX14_edict 42 14 16 := ⟨_, _, _, rfl, by decide, Or.inl ⟨zw1054, Or.inl rfl⟩⟩
theorem gX14_edict_272 : zFldW mX14_edict 272 14 14 := ⟨_, _, _, rfl, by decide, Or.inl ⟨zw1052, Or.inl rfl⟩⟩
theorem gX14_fault_100 : zFldW mX14_fault 100 14 0 := ⟨_, _, _, rfl, by decide, Or.inl ⟨zw1038, Or.inl rfl⟩⟩
theorem gX14_where_100 : zFldW mX14_where 100 14 0 := ⟨_, _, _, rfl, by decide, Or.inl ⟨zw1038, Or.inl rfl⟩⟩
theorem gX14_force_100 : zFldW mX14_force 100 14 0 := ⟨_, _, _, rfl, by decide, Or.inl ⟨zw1038, Or.inl rfl⟩⟩
theorem gX14_price_100 : zFldW mX14_price 100 14 0 := ⟨_, _, _, rfl, by decide, Or.inl ⟨zw1038, Or.inl rfl⟩⟩
theorem gX14_brought_100 : zFldW mX14_brought 100 14 0 := ⟨_, _, _, rfl, by decide, Or.inl ⟨zw1038, Or.inl rfl⟩⟩
theorem gX14_cheap_100 : zFldW mX14_cheap 100 14 0 := ⟨_, _, _, rfl, by decide, Or.inl ⟨zw1038, Or.inl rfl⟩⟩
theorem gX14_source_100 : zFldW mX14_source 100 14 0 := ⟨_, _, _, rfl, by decide, Or.inl ⟨zw1038, Or.inl rfl⟩⟩
theorem gX14_taken_100 : zFldW mX14_taken 100 14 0 := ⟨_, _, _, rfl, by decide, Or.inl ⟨zw1038, Or.inl rfl⟩⟩
theorem gX14_crown_100 : zFldW mX14_crown 100 14 0 := ⟨_, _, _, rfl, by decide, Or.inl ⟨zw1038, Or.inl rfl⟩⟩
theorem gX14_lost_100 : zFldW mX14_lost 100 14 0 := ⟨_, _, _, rfl, by decide, Or.inl ⟨zw1038, Or.inl rfl⟩⟩
theorem gX14_walks_352 : zFldW mX14_walks 352 14 35 := ⟨_, _, _, rfl, by decide, Or.inl ⟨zw1073, Or.inl rfl⟩⟩
theorem gX14_carried_100 : zFldW mX14_carried 100 14 0 := ⟨_, _, _, rfl, by decide, Or.inl ⟨zw1038, Or.inl rfl⟩⟩
theorem gX14_way_100 : zFldW mX14_way 100 14 0 := ⟨_, _, _, rfl, by decide, Or.inl ⟨zw1038, Or.inl rfl⟩⟩
theorem gX14_wayAt_100 : zFldW mX14_wayAt 100 14 0 := ⟨_, _, _, rfl, by decide, Or.inl ⟨zw1038, Or.inl rfl⟩⟩
theorem gX14_tries_358 : zFldW mX14_tries 358 14 38 := ⟨_, _, _, rfl, by decide, Or.inl ⟨zw1076, Or.inl rfl⟩⟩
theorem gX14_best_100 : zFldW mX14_best 100 14 0 := ⟨_, _, _, rfl, by decide, Or.inl ⟨zw1038, Or.inl rfl⟩⟩
theorem gX14_best_358 : zFldW mX14_best 358 14 38 := ⟨_, _, _, rfl, by decide, Or.inl ⟨zw1076, Or.inl rfl⟩⟩
theorem gX14_best_364 : zFldW mX14_best 364 14 39 := ⟨_, _, _, rfl, by decide, Or.inl ⟨zw1077, Or.inl rfl⟩⟩
theorem gX14_best_103 : zFldW mX14_best 103 14 1 := ⟨_, _, _, rfl, by decide, Or.inl ⟨zw1039, Or.inl rfl⟩⟩
theorem gX14_best_9 : zFldW mX14_best 9 14 2 := ⟨_, _, _, rfl, by decide, Or.inl ⟨zw1040, Or.inl rfl⟩⟩
theorem gX14_stand_100 : zFldW mX14_stand 100 14 0 := ⟨_, _, _, rfl, by decide, Or.inl ⟨zw1038, Or.inl rfl⟩⟩
theorem gX14_pass_100 : zFldW mX14_pass 100 14 0 := ⟨_, _, _, rfl, by decide, Or.inl ⟨zw1038, Or.inl rfl⟩⟩
theorem gX14_pass_324 : zFldW mX14_pass 324 14 6 := ⟨_, _, _, rfl, by decide, Or.inl ⟨zw1044, Or.inl rfl⟩⟩
theorem gX14_store_100 : zFldW mX14_store 100 14 0 := ⟨_, _, _, rfl, by decide, Or.inl ⟨zw1038, Or.inl rfl⟩⟩
theorem gX14_store_367 : zFldW mX14_store 367 14 40 := ⟨_, _, _, rfl, by decide, Or.inl ⟨zw1078, Or.inl rfl⟩⟩
theorem gX14_moves_100 : zFldW mX14_moves 100 14 0 := ⟨_, _, _, rfl, by decide, Or.inl ⟨zw1038, Or.inl rfl⟩⟩
theorem gX14_counted_100 : zFldW mX14_counted 100 14 0 := ⟨_, _, _, rfl, by decide, Or.inl ⟨zw1038, Or.inl rfl⟩⟩
theorem gX14_missing_100 : zFldW mX14_missing 100 14 0 := ⟨_, _, _, rfl, by decide, Or.inl ⟨zw1038, Or.inl rfl⟩⟩
theorem gX14_worst_100 : zFldW mX14_worst 100 14 0 := ⟨_, _, _, rfl, by decide, Or.inl ⟨zw1038, Or.inl rfl⟩⟩
theorem gX14_count_100 : zFldW mX14_count 100 14 0 := ⟨_, _, _, rfl, by decide, Or.inl ⟨zw1038, Or.inl rfl⟩⟩
theorem gX14_trouble_100 : zFldW mX14_trouble 100 14 0 := ⟨_, _, _, rfl, by decide, Or.inl ⟨zw1038, Or.inl rfl⟩⟩
theorem gJT_init_7 : zFldW mJT_init 7 13 0 := ⟨_, _, _, rfl, by decide, Or.inl ⟨zw1023, Or.inl rfl⟩⟩
theorem gJT_init_17 : zFldW mJT_init 17 13 1 := ⟨_, _, _, rfl, by decide, Or.inl ⟨zw1024, Or.inl rfl⟩⟩
theorem gJT_init_24 : zFldW mJT_init 24 13 2 := ⟨_, _, _, rfl, by decide, Or.inl ⟨zw1025, Or.inl rfl⟩⟩
theorem gJT_init_31 : zFldW mJT_init 31 13 3 := ⟨_, _, _, rfl, by decide, Or.inl ⟨zw1022, Or.inl rfl⟩⟩
theorem s0 : zshp 0 = 11 := rfl
theorem s1 : zshp 1 = 14 := rfl
theorem s10 : zshp 10 = 100 := rfl
theorem s11 : zshp 11 = 100 := rfl
theorem s12 : zshp 12 = 100 := rfl
theorem s13 : zshp 13 = 100 := rfl
theorem s14 : zshp 14 = 100 := rfl
theorem s15 : zshp 15 = 100 := rfl
theorem s16 : zshp 16 = 122 := rfl
theorem s17 : zshp 17 = 12 := rfl
theorem s18 : zshp 18 = 13 := rfl
theorem s19 : zshp 19 = 102 := rfl
theorem s20 : zshp 20 = 100 := rfl
theorem s21 : zshp 21 = 100 := rfl
theorem s22 : zshp 22 = 100 := rfl
theorem s23 : zshp 23 = 100 := rfl
theorem s24 : zshp 24 = 100 := rfl
theorem s25 : zshp 25 = 100 := rfl
theorem s26 : zshp 26 = 100 := rfl
theorem s27 : zshp 27 = 100 := rfl
theorem s28 : zshp 28 = 100 := rfl
theorem s29 : zshp 29 = 100 := rfl
theorem s30 : zshp 30 = 100 := rfl
theorem s31 : zshp 31 = 100 := rfl
theorem s32 : zshp 32 = 100 := rfl
theorem s33 : zshp 33 = 101 := rfl
theorem s34 : zshp 34 = 12 := rfl
theorem s35 : zshp 35 = 103 := rfl
theorem s36 : zshp 36 = 100 := rfl
theorem s37 : zshp 37 = 100 := rfl
theorem s38 : zshp 38 = 100 := rfl
theorem s39 : zshp 39 = 100 := rfl
theorem s40 : zshp 40 = 100 := rfl
theorem s50 : zshp 50 = 115 := rfl
theorem s51 : zshp 51 = 110 := rfl
theorem s52 : zshp 52 = 117 := rfl
theorem s53 : zshp 53 = 8 := rfl
theorem s54 : zshp 54 = 4 := rfl
theorem s55 : zshp 55 = 2 := rfl
theorem s56 : zshp 56 = 3 := rfl
theorem s57 : zshp 57 = 10 := rfl
theorem s58 : zshp 58 = 5 := rfl
theorem s59 : zshp 59 = 0 := rfl
theorem s60 : zshp 60 = 1 := rfl
theorem s61 : zshp 61 = 7 := rfl
theorem s62 : zshp 62 = 111 := rfl
theorem s63 : zshp 63 = 6 := rfl
theorem s64 : zshp 64 = 100 := rfl
theorem s65 : zshp 65 = 101 := rfl
theorem s66 : zshp 66 = 101 := rfl
theorem s67 : zshp 67 = 100 := rfl
theorem s68 : zshp 68 = 100 := rfl
theorem s69 : zshp 69 = 100 := rfl
theorem s70 : zshp 70 = 100 := rfl
theorem s71 : zshp 71 = 100 := rfl
theorem s72 : zshp 72 = 100 := rfl
theorem s73 : zshp 73 = 9 := rfl
theorem s74 : zshp 74 = 100 := rfl
theorem s75 : zshp 75 = 100 := rfl
theorem s76 : zshp 76 = 100 := rfl
theorem s77 : zshp 77 = 100 := rfl
theorem s78 : zshp 78 = 100 := rfl
theorem s79 : zshp 79 = 102 := rfl
theorem s80 : zshp 80 = 100 := rfl
theorem s81 : zshp 81 = 100 := rfl
theorem s82 : zshp 82 = 100 := rfl
theorem s83 : zshp 83 = 100 := rfl
