/-! tables on the machine. -/
def kX10_tables : List (Nat × Jvm.ClassFile.Instr × Nat) := [(0, .aload_n 0, 1), (1, .getfield 223, 3), (4, .istore_n 1, 1), (5, .aload_n 0, 1), (6, .sipush 2076, 3), (9, .lconst 1, 1), (10, .invokevirtual 132, 3), (13, .iconst 0, 1), (14, .istore_n 2, 1), (15, .iload_n 2, 1), (16, .iload_n 1, 1), (17, .if_icmp .ge 107, 3), (20, .iconst 0, 1), (21, .istore_n 3, 1), (22, .iload_n 3, 1), (23, .iconst 2, 1), (24, .if_icmp .ge 94, 3), (27, .aload_n 0, 1), (28, .getfield 52, 3), (31, .iload_n 2, 1), (32, .iaload, 1), (33, .invokestatic 142, 3), (36, .iconst 1, 1), (37, .iadd, 1), (38, .iload_n 3, 1), (39, .isub, 1), (40, .aload_n 0, 1), (41, .getfield 52, 3), (44, .iload_n 2, 1), (45, .iaload, 1), (46, .invokestatic 145, 3), (49, .iload_n 3, 1), (50, .iadd, 1), (51, .invokestatic 185, 3), (54, .istore 4, 2), (56, .aload_n 0, 1), (57, .getfield 45, 3), (60, .iload 4, 2), (62, .baload, 1), (63, .ifCond .eq 49, 3), (66, .aload_n 0, 1), (67, .sipush 2070, 3), (70, .sipush 2076, 3), (73, .iload 4, 2), (75, .invokestatic 158, 3), (78, .iload 4, 2), (80, .iadd, 1), (81, .invokevirtual 148, 3), (84, .aload_n 0, 1), (85, .sipush 2076, 3), (88, .sipush 2070, 3), (91, .invokevirtual 155, 3), (94, .aload_n 0, 1), (95, .sipush 2076, 3), (98, .sipush 2076, 3), (101, .iload 4, 2), (103, .invokestatic 158, 3), (106, .iload 4, 2), (108, .iadd, 1), (109, .invokevirtual 161, 3), (112, .iinc 3 1, 3), (115, .goto (-93), 3), (118, .iinc 2 1, 3), (121, .goto (-106), 3), (124, .iconst 0, 1), (125, .istore_n 2, 1), (126, .iload_n 2, 1), (127, .iload_n 1, 1), (128, .if_icmp .ge 71, 3), (131, .aload_n 0, 1), (132, .sipush 2080, 3), (135, .iload_n 2, 1), (136, .aload_n 0, 1), (137, .getfield 52, 3), (140, .iload_n 2, 1), (141, .iaload, 1), (142, .invokestatic 142, 3), (145, .iconst 1, 1), (146, .iadd, 1), (147, .aload_n 0, 1), (148, .getfield 52, 3), (151, .iload_n 2, 1), (152, .iaload, 1), (153, .invokestatic 145, 3), (156, .invokestatic 185, 3), (159, .invokevirtual 239, 3), (162, .aload_n 0, 1), (163, .sipush 2116, 3), (166, .iload_n 2, 1), (167, .aload_n 0, 1), (168, .getfield 52, 3), (171, .iload_n 2, 1), (172, .iaload, 1), (173, .invokestatic 142, 3), (176, .aload_n 0, 1), (177, .getfield 52, 3), (180, .iload_n 2, 1), (181, .iaload, 1), (182, .invokestatic 145, 3), (185, .iconst 1, 1), (186, .iadd, 1), (187, .invokestatic 185, 3), (190, .invokevirtual 239, 3), (193, .iinc 2 1, 3), (196, .goto (-70), 3), (199, .iconst 0, 1), (200, .istore_n 2, 1), (201, .iload_n 2, 1), (202, .iload_n 1, 1), (203, .if_icmp .ge 39, 3), (206, .aload_n 0, 1), (207, .sipush 2440, 3), (210, .bipush 36, 2), (212, .iload_n 2, 1), (213, .imul, 1), (214, .iadd, 1), (215, .aload_n 0, 1), (216, .getfield 52, 3), (219, .iload_n 2, 1), (220, .iaload, 1), (221, .invokestatic 142, 3), (224, .aload_n 0, 1), (225, .getfield 52, 3), (228, .iload_n 2, 1), (229, .iaload, 1), (230, .invokestatic 145, 3), (233, .invokevirtual 242, 3), (236, .iinc 2 1, 3), (239, .goto (-38), 3), (242, .iconst 0, 1), (243, .istore_n 2, 1), (244, .iload_n 2, 1), (245, .bipush 36, 2), (247, .if_icmp .ge 23, 3), (250, .aload_n 0, 1), (251, .getfield 12, 3), (254, .sipush 2152, 3), (257, .iload_n 2, 1), (258, .iadd, 1), (259, .invokestatic 64, 3), (262, .iconst 0, 1), (263, .iastore, 1), (264, .iinc 2 1, 3), (267, .goto (-23), 3), (270, .iconst 0, 1), (271, .istore_n 2, 1), (272, .iload_n 2, 1), (273, .bipush 6, 2), (275, .if_icmp .ge 137, 3), (278, .aload_n 0, 1), (279, .getfield 35, 3), (282, .iload_n 2, 1), (283, .iaload, 1), (284, .ifCond .ne 6, 3), (287, .goto 119, 3), (290, .aload_n 0, 1), (291, .sipush 2188, 3), (294, .iload_n 2, 1), (295, .invokestatic 142, 3), (298, .iload_n 2, 1), (299, .invokestatic 145, 3), (302, .invokevirtual 242, 3), (305, .aload_n 0, 1), (306, .sipush 2074, 3), (309, .aload_n 0, 1), (310, .getfield 35, 3), (313, .iload_n 2, 1), (314, .iaload, 1), (315, .i2l, 1), (316, .invokevirtual 132, 3), (319, .iload_n 2, 1), (320, .invokestatic 139, 3), (323, .istore_n 3, 1), (324, .iload_n 3, 1), (325, .iconst 2, 1), (326, .if_icmp .ge 22, 3), (329, .aload_n 0, 1), (330, .sipush 2074, 3), (333, .sipush 2074, 3), (336, .sipush 2076, 3), (339, .invokevirtual 161, 3), (342, .iinc 3 1, 3), (345, .goto (-21), 3), (348, .iconst 0, 1), (349, .istore_n 3, 1), (350, .iload_n 3, 1), (351, .bipush 36, 2), (353, .if_icmp .ge 53, 3), (356, .iload_n 3, 1), (357, .bipush 6, 2), (359, .idiv, 1), (360, .iload_n 1, 1), (361, .if_icmp .ge 39, 3), (364, .iload_n 3, 1), (365, .bipush 6, 2), (367, .irem, 1), (368, .iload_n 1, 1), (369, .if_icmp .ge 31, 3), (372, .aload_n 0, 1), (373, .sipush 2073, 3), (376, .sipush 2188, 3), (379, .iload_n 3, 1), (380, .iadd, 1), (381, .sipush 2074, 3), (384, .invokevirtual 161, 3), (387, .aload_n 0, 1), (388, .sipush 2152, 3), (391, .iload_n 3, 1), (392, .iadd, 1), (393, .sipush 2073, 3), (396, .iconst 1, 1), (397, .invokevirtual 164, 3), (400, .iinc 3 1, 3), (403, .goto (-53), 3), (406, .iinc 2 1, 3), (409, .goto (-137), 3), (412, .return_, 1)]
theorem kX10_tables_0 : cdOf kX10_tables 0 = some (.aload_n 0, 1) := by decide +kernel
theorem kX10_tables_1 : cdOf kX10_tables 1 = some (.getfield 223, 3) := by decide +kernel
theorem kX10_tables_4 : cdOf kX10_tables 4 = some (.istore_n 1, 1) := by decide +kernel
theorem kX10_tables_5 : cdOf kX10_tables 5 = some (.aload_n 0, 1) := by decide +kernel
theorem kX10_tables_6 : cdOf kX10_tables 6 = some (.sipush 2076, 3) := by decide +kernel
theorem kX10_tables_9 : cdOf kX10_tables 9 = some (.lconst 1, 1) := by decide +kernel
theorem kX10_tables_10 : cdOf kX10_tables 10 = some (.invokevirtual 132, 3) := by decide +kernel
theorem kX10_tables_13 : cdOf kX10_tables 13 = some (.iconst 0, 1) := by decide +kernel
theorem kX10_tables_14 : cdOf kX10_tables 14 = some (.istore_n 2, 1) := by decide +kernel
theorem kX10_tables_15 : cdOf kX10_tables 15 = some (.iload_n 2, 1) := by decide +kernel
theorem kX10_tables_16 : cdOf kX10_tables 16 = some (.iload_n 1, 1) := by decide +kernel
theorem kX10_tables_17 : cdOf kX10_tables 17 = some (.if_icmp .ge 107, 3) := by decide +kernel
theorem kX10_tables_20 : cdOf kX10_tables 20 = some (.iconst 0, 1) := by decide +kernel
theorem kX10_tables_21 : cdOf kX10_tables 21 = some (.istore_n 3, 1) := by decide +kernel
theorem kX10_tables_22 : cdOf kX10_tables 22 = some (.iload_n 3, 1) := by decide +kernel
theorem kX10_tables_23 : cdOf kX10_tables 23 = some (.iconst 2, 1) := by decide +kernel
theorem kX10_tables_24 : cdOf kX10_tables 24 = some (.if_icmp .ge 94, 3) := by decide +kernel
theorem kX10_tables_27 : cdOf kX10_tables 27 = some (.aload_n 0, 1) := by decide +kernel
theorem kX10_tables_28 : cdOf kX10_tables 28 = some (.getfield 52, 3) := by decide +kernel
theorem kX10_tables_31 : cdOf kX10_tables 31 = some (.iload_n 2, 1) := by decide +kernel
theorem kX10_tables_32 : cdOf kX10_tables 32 = some (.iaload, 1) := by decide +kernel
theorem kX10_tables_33 : cdOf kX10_tables 33 = some (.invokestatic 142, 3) := by decide +kernel
theorem kX10_tables_36 : cdOf kX10_tables 36 = some (.iconst 1, 1) := by decide +kernel
theorem kX10_tables_37 : cdOf kX10_tables 37 = some (.iadd, 1) := by decide +kernel
theorem kX10_tables_38 : cdOf kX10_tables 38 = some (.iload_n 3, 1) := by decide +kernel
theorem kX10_tables_39 : cdOf kX10_tables 39 = some (.isub, 1) := by decide +kernel
theorem kX10_tables_40 : cdOf kX10_tables 40 = some (.aload_n 0, 1) := by decide +kernel
theorem kX10_tables_41 : cdOf kX10_tables 41 = some (.getfield 52, 3) := by decide +kernel
theorem kX10_tables_44 : cdOf kX10_tables 44 = some (.iload_n 2, 1) := by decide +kernel
theorem kX10_tables_45 : cdOf kX10_tables 45 = some (.iaload, 1) := by decide +kernel
theorem kX10_tables_46 : cdOf kX10_tables 46 = some (.invokestatic 145, 3) := by decide +kernel
theorem kX10_tables_49 : cdOf kX10_tables 49 = some (.iload_n 3, 1) := by decide +kernel
theorem kX10_tables_50 : cdOf kX10_tables 50 = some (.iadd, 1) := by decide +kernel
theorem kX10_tables_51 : cdOf kX10_tables 51 = some (.invokestatic 185, 3) := by decide +kernel
theorem kX10_tables_54 : cdOf kX10_tables 54 = some (.istore 4, 2) := by decide +kernel
theorem kX10_tables_56 : cdOf kX10_tables 56 = some (.aload_n 0, 1) := by decide +kernel
theorem kX10_tables_57 : cdOf kX10_tables 57 = some (.getfield 45, 3) := by decide +kernel
theorem kX10_tables_60 : cdOf kX10_tables 60 = some (.iload 4, 2) := by decide +kernel
theorem kX10_tables_62 : cdOf kX10_tables 62 = some (.baload, 1) := by decide +kernel
theorem kX10_tables_63 : cdOf kX10_tables 63 = some (.ifCond .eq 49, 3) := by decide +kernel
theorem kX10_tables_66 : cdOf kX10_tables 66 = some (.aload_n 0, 1) := by decide +kernel
theorem kX10_tables_67 : cdOf kX10_tables 67 = some (.sipush 2070, 3) := by decide +kernel
theorem kX10_tables_70 : cdOf kX10_tables 70 = some (.sipush 2076, 3) := by decide +kernel
theorem kX10_tables_73 : cdOf kX10_tables 73 = some (.iload 4, 2) := by decide +kernel
theorem kX10_tables_75 : cdOf kX10_tables 75 = some (.invokestatic 158, 3) := by decide +kernel
theorem kX10_tables_78 : cdOf kX10_tables 78 = some (.iload 4, 2) := by decide +kernel
theorem kX10_tables_80 : cdOf kX10_tables 80 = some (.iadd, 1) := by decide +kernel
theorem kX10_tables_81 : cdOf kX10_tables 81 = some (.invokevirtual 148, 3) := by decide +kernel
theorem kX10_tables_84 : cdOf kX10_tables 84 = some (.aload_n 0, 1) := by decide +kernel
theorem kX10_tables_85 : cdOf kX10_tables 85 = some (.sipush 2076, 3) := by decide +kernel
theorem kX10_tables_88 : cdOf kX10_tables 88 = some (.sipush 2070, 3) := by decide +kernel
theorem kX10_tables_91 : cdOf kX10_tables 91 = some (.invokevirtual 155, 3) := by decide +kernel
theorem kX10_tables_94 : cdOf kX10_tables 94 = some (.aload_n 0, 1) := by decide +kernel
theorem kX10_tables_95 : cdOf kX10_tables 95 = some (.sipush 2076, 3) := by decide +kernel
theorem kX10_tables_98 : cdOf kX10_tables 98 = some (.sipush 2076, 3) := by decide +kernel
theorem kX10_tables_101 : cdOf kX10_tables 101 = some (.iload 4, 2) := by decide +kernel
theorem kX10_tables_103 : cdOf kX10_tables 103 = some (.invokestatic 158, 3) := by decide +kernel
theorem kX10_tables_106 : cdOf kX10_tables 106 = some (.iload 4, 2) := by decide +kernel
theorem kX10_tables_108 : cdOf kX10_tables 108 = some (.iadd, 1) := by decide +kernel
theorem kX10_tables_109 : cdOf kX10_tables 109 = some (.invokevirtual 161, 3) := by decide +kernel
theorem kX10_tables_112 : cdOf kX10_tables 112 = some (.iinc 3 1, 3) := by decide +kernel
theorem kX10_tables_115 : cdOf kX10_tables 115 = some (.goto (-93), 3) := by decide +kernel
theorem kX10_tables_118 : cdOf kX10_tables 118 = some (.iinc 2 1, 3) := by decide +kernel
theorem kX10_tables_121 : cdOf kX10_tables 121 = some (.goto (-106), 3) := by decide +kernel
theorem kX10_tables_124 : cdOf kX10_tables 124 = some (.iconst 0, 1) := by decide +kernel
theorem kX10_tables_125 : cdOf kX10_tables 125 = some (.istore_n 2, 1) := by decide +kernel
theorem kX10_tables_126 : cdOf kX10_tables 126 = some (.iload_n 2, 1) := by decide +kernel
theorem kX10_tables_127 : cdOf kX10_tables 127 = some (.iload_n 1, 1) := by decide +kernel
theorem kX10_tables_128 : cdOf kX10_tables 128 = some (.if_icmp .ge 71, 3) := by decide +kernel
theorem kX10_tables_131 : cdOf kX10_tables 131 = some (.aload_n 0, 1) := by decide +kernel
theorem kX10_tables_132 : cdOf kX10_tables 132 = some (.sipush 2080, 3) := by decide +kernel
theorem kX10_tables_135 : cdOf kX10_tables 135 = some (.iload_n 2, 1) := by decide +kernel
theorem kX10_tables_136 : cdOf kX10_tables 136 = some (.aload_n 0, 1) := by decide +kernel
theorem kX10_tables_137 : cdOf kX10_tables 137 = some (.getfield 52, 3) := by decide +kernel
theorem kX10_tables_140 : cdOf kX10_tables 140 = some (.iload_n 2, 1) := by decide +kernel
theorem kX10_tables_141 : cdOf kX10_tables 141 = some (.iaload, 1) := by decide +kernel
theorem kX10_tables_142 : cdOf kX10_tables 142 = some (.invokestatic 142, 3) := by decide +kernel
theorem kX10_tables_145 : cdOf kX10_tables 145 = some (.iconst 1, 1) := by decide +kernel
theorem kX10_tables_146 : cdOf kX10_tables 146 = some (.iadd, 1) := by decide +kernel
theorem kX10_tables_147 : cdOf kX10_tables 147 = some (.aload_n 0, 1) := by decide +kernel
theorem kX10_tables_148 : cdOf kX10_tables 148 = some (.getfield 52, 3) := by decide +kernel
theorem kX10_tables_151 : cdOf kX10_tables 151 = some (.iload_n 2, 1) := by decide +kernel
theorem kX10_tables_152 : cdOf kX10_tables 152 = some (.iaload, 1) := by decide +kernel
theorem kX10_tables_153 : cdOf kX10_tables 153 = some (.invokestatic 145, 3) := by decide +kernel
theorem kX10_tables_156 : cdOf kX10_tables 156 = some (.invokestatic 185, 3) := by decide +kernel
theorem kX10_tables_159 : cdOf kX10_tables 159 = some (.invokevirtual 239, 3) := by decide +kernel
theorem kX10_tables_162 : cdOf kX10_tables 162 = some (.aload_n 0, 1) := by decide +kernel
theorem kX10_tables_163 : cdOf kX10_tables 163 = some (.sipush 2116, 3) := by decide +kernel
theorem kX10_tables_166 : cdOf kX10_tables 166 = some (.iload_n 2, 1) := by decide +kernel
theorem kX10_tables_167 : cdOf kX10_tables 167 = some (.aload_n 0, 1) := by decide +kernel
theorem kX10_tables_168 : cdOf kX10_tables 168 = some (.getfield 52, 3) := by decide +kernel
theorem kX10_tables_171 : cdOf kX10_tables 171 = some (.iload_n 2, 1) := by decide +kernel
theorem kX10_tables_172 : cdOf kX10_tables 172 = some (.iaload, 1) := by decide +kernel
theorem kX10_tables_173 : cdOf kX10_tables 173 = some (.invokestatic 142, 3) := by decide +kernel
theorem kX10_tables_176 : cdOf kX10_tables 176 = some (.aload_n 0, 1) := by decide +kernel
theorem kX10_tables_177 : cdOf kX10_tables 177 = some (.getfield 52, 3) := by decide +kernel
theorem kX10_tables_180 : cdOf kX10_tables 180 = some (.iload_n 2, 1) := by decide +kernel
theorem kX10_tables_181 : cdOf kX10_tables 181 = some (.iaload, 1) := by decide +kernel
theorem kX10_tables_182 : cdOf kX10_tables 182 = some (.invokestatic 145, 3) := by decide +kernel
theorem kX10_tables_185 : cdOf kX10_tables 185 = some (.iconst 1, 1) := by decide +kernel
theorem kX10_tables_186 : cdOf kX10_tables 186 = some (.iadd, 1) := by decide +kernel
theorem kX10_tables_187 : cdOf kX10_tables 187 = some (.invokestatic 185, 3) := by decide +kernel
theorem kX10_tables_190 : cdOf kX10_tables 190 = some (.invokevirtual 239, 3) := by decide +kernel
theorem kX10_tables_193 : cdOf kX10_tables 193 = some (.iinc 2 1, 3) := by decide +kernel
theorem kX10_tables_196 : cdOf kX10_tables 196 = some (.goto (-70), 3) := by decide +kernel
theorem kX10_tables_199 : cdOf kX10_tables 199 = some (.iconst 0, 1) := by decide +kernel
theorem kX10_tables_200 : cdOf kX10_tables 200 = some (.istore_n 2, 1) := by decide +kernel
theorem kX10_tables_201 : cdOf kX10_tables 201 = some (.iload_n 2, 1) := by decide +kernel
theorem kX10_tables_202 : cdOf kX10_tables 202 = some (.iload_n 1, 1) := by decide +kernel
theorem kX10_tables_203 : cdOf kX10_tables 203 = some (.if_icmp .ge 39, 3) := by decide +kernel
theorem kX10_tables_206 : cdOf kX10_tables 206 = some (.aload_n 0, 1) := by decide +kernel
theorem kX10_tables_207 : cdOf kX10_tables 207 = some (.sipush 2440, 3) := by decide +kernel
theorem kX10_tables_210 : cdOf kX10_tables 210 = some (.bipush 36, 2) := by decide +kernel
theorem kX10_tables_212 : cdOf kX10_tables 212 = some (.iload_n 2, 1) := by decide +kernel
theorem kX10_tables_213 : cdOf kX10_tables 213 = some (.imul, 1) := by decide +kernel
theorem kX10_tables_214 : cdOf kX10_tables 214 = some (.iadd, 1) := by decide +kernel
theorem kX10_tables_215 : cdOf kX10_tables 215 = some (.aload_n 0, 1) := by decide +kernel
theorem kX10_tables_216 : cdOf kX10_tables 216 = some (.getfield 52, 3) := by decide +kernel
theorem kX10_tables_219 : cdOf kX10_tables 219 = some (.iload_n 2, 1) := by decide +kernel
theorem kX10_tables_220 : cdOf kX10_tables 220 = some (.iaload, 1) := by decide +kernel
theorem kX10_tables_221 : cdOf kX10_tables 221 = some (.invokestatic 142, 3) := by decide +kernel
theorem kX10_tables_224 : cdOf kX10_tables 224 = some (.aload_n 0, 1) := by decide +kernel
theorem kX10_tables_225 : cdOf kX10_tables 225 = some (.getfield 52, 3) := by decide +kernel
theorem kX10_tables_228 : cdOf kX10_tables 228 = some (.iload_n 2, 1) := by decide +kernel
theorem kX10_tables_229 : cdOf kX10_tables 229 = some (.iaload, 1) := by decide +kernel
theorem kX10_tables_230 : cdOf kX10_tables 230 = some (.invokestatic 145, 3) := by decide +kernel
theorem kX10_tables_233 : cdOf kX10_tables 233 = some (.invokevirtual 242, 3) := by decide +kernel
theorem kX10_tables_236 : cdOf kX10_tables 236 = some (.iinc 2 1, 3) := by decide +kernel
theorem kX10_tables_239 : cdOf kX10_tables 239 = some (.goto (-38), 3) := by decide +kernel
theorem kX10_tables_242 : cdOf kX10_tables 242 = some (.iconst 0, 1) := by decide +kernel
theorem kX10_tables_243 : cdOf kX10_tables 243 = some (.istore_n 2, 1) := by decide +kernel
theorem kX10_tables_244 : cdOf kX10_tables 244 = some (.iload_n 2, 1) := by decide +kernel
theorem kX10_tables_245 : cdOf kX10_tables 245 = some (.bipush 36, 2) := by decide +kernel
theorem kX10_tables_247 : cdOf kX10_tables 247 = some (.if_icmp .ge 23, 3) := by decide +kernel
theorem kX10_tables_250 : cdOf kX10_tables 250 = some (.aload_n 0, 1) := by decide +kernel
theorem kX10_tables_251 : cdOf kX10_tables 251 = some (.getfield 12, 3) := by decide +kernel
theorem kX10_tables_254 : cdOf kX10_tables 254 = some (.sipush 2152, 3) := by decide +kernel
theorem kX10_tables_257 : cdOf kX10_tables 257 = some (.iload_n 2, 1) := by decide +kernel
theorem kX10_tables_258 : cdOf kX10_tables 258 = some (.iadd, 1) := by decide +kernel
theorem kX10_tables_259 : cdOf kX10_tables 259 = some (.invokestatic 64, 3) := by decide +kernel
theorem kX10_tables_262 : cdOf kX10_tables 262 = some (.iconst 0, 1) := by decide +kernel
theorem kX10_tables_263 : cdOf kX10_tables 263 = some (.iastore, 1) := by decide +kernel
theorem kX10_tables_264 : cdOf kX10_tables 264 = some (.iinc 2 1, 3) := by decide +kernel
theorem kX10_tables_267 : cdOf kX10_tables 267 = some (.goto (-23), 3) := by decide +kernel
theorem kX10_tables_270 : cdOf kX10_tables 270 = some (.iconst 0, 1) := by decide +kernel
theorem kX10_tables_271 : cdOf kX10_tables 271 = some (.istore_n 2, 1) := by decide +kernel
theorem kX10_tables_272 : cdOf kX10_tables 272 = some (.iload_n 2, 1) := by decide +kernel
theorem kX10_tables_273 : cdOf kX10_tables 273 = some (.bipush 6, 2) := by decide +kernel
theorem kX10_tables_275 : cdOf kX10_tables 275 = some (.if_icmp .ge 137, 3) := by decide +kernel
theorem kX10_tables_278 : cdOf kX10_tables 278 = some (.aload_n 0, 1) := by decide +kernel
theorem kX10_tables_279 : cdOf kX10_tables 279 = some (.getfield 35, 3) := by decide +kernel
theorem kX10_tables_282 : cdOf kX10_tables 282 = some (.iload_n 2, 1) := by decide +kernel
theorem kX10_tables_283 : cdOf kX10_tables 283 = some (.iaload, 1) := by decide +kernel
theorem kX10_tables_284 : cdOf kX10_tables 284 = some (.ifCond .ne 6, 3) := by decide +kernel
theorem kX10_tables_287 : cdOf kX10_tables 287 = some (.goto 119, 3) := by decide +kernel
theorem kX10_tables_290 : cdOf kX10_tables 290 = some (.aload_n 0, 1) := by decide +kernel
theorem kX10_tables_291 : cdOf kX10_tables 291 = some (.sipush 2188, 3) := by decide +kernel
theorem kX10_tables_294 : cdOf kX10_tables 294 = some (.iload_n 2, 1) := by decide +kernel
theorem kX10_tables_295 : cdOf kX10_tables 295 = some (.invokestatic 142, 3) := by decide +kernel
theorem kX10_tables_298 : cdOf kX10_tables 298 = some (.iload_n 2, 1) := by decide +kernel
theorem kX10_tables_299 : cdOf kX10_tables 299 = some (.invokestatic 145, 3) := by decide +kernel
theorem kX10_tables_302 : cdOf kX10_tables 302 = some (.invokevirtual 242, 3) := by decide +kernel
theorem kX10_tables_305 : cdOf kX10_tables 305 = some (.aload_n 0, 1) := by decide +kernel
theorem kX10_tables_306 : cdOf kX10_tables 306 = some (.sipush 2074, 3) := by decide +kernel
theorem kX10_tables_309 : cdOf kX10_tables 309 = some (.aload_n 0, 1) := by decide +kernel
theorem kX10_tables_310 : cdOf kX10_tables 310 = some (.getfield 35, 3) := by decide +kernel
theorem kX10_tables_313 : cdOf kX10_tables 313 = some (.iload_n 2, 1) := by decide +kernel
theorem kX10_tables_314 : cdOf kX10_tables 314 = some (.iaload, 1) := by decide +kernel
theorem kX10_tables_315 : cdOf kX10_tables 315 = some (.i2l, 1) := by decide +kernel
theorem kX10_tables_316 : cdOf kX10_tables 316 = some (.invokevirtual 132, 3) := by decide +kernel
theorem kX10_tables_319 : cdOf kX10_tables 319 = some (.iload_n 2, 1) := by decide +kernel
theorem kX10_tables_320 : cdOf kX10_tables 320 = some (.invokestatic 139, 3) := by decide +kernel
theorem kX10_tables_323 : cdOf kX10_tables 323 = some (.istore_n 3, 1) := by decide +kernel
theorem kX10_tables_324 : cdOf kX10_tables 324 = some (.iload_n 3, 1) := by decide +kernel
theorem kX10_tables_325 : cdOf kX10_tables 325 = some (.iconst 2, 1) := by decide +kernel
theorem kX10_tables_326 : cdOf kX10_tables 326 = some (.if_icmp .ge 22, 3) := by decide +kernel
theorem kX10_tables_329 : cdOf kX10_tables 329 = some (.aload_n 0, 1) := by decide +kernel
theorem kX10_tables_330 : cdOf kX10_tables 330 = some (.sipush 2074, 3) := by decide +kernel
theorem kX10_tables_333 : cdOf kX10_tables 333 = some (.sipush 2074, 3) := by decide +kernel
theorem kX10_tables_336 : cdOf kX10_tables 336 = some (.sipush 2076, 3) := by decide +kernel
theorem kX10_tables_339 : cdOf kX10_tables 339 = some (.invokevirtual 161, 3) := by decide +kernel
theorem kX10_tables_342 : cdOf kX10_tables 342 = some (.iinc 3 1, 3) := by decide +kernel
theorem kX10_tables_345 : cdOf kX10_tables 345 = some (.goto (-21), 3) := by decide +kernel
theorem kX10_tables_348 : cdOf kX10_tables 348 = some (.iconst 0, 1) := by decide +kernel
theorem kX10_tables_349 : cdOf kX10_tables 349 = some (.istore_n 3, 1) := by decide +kernel
theorem kX10_tables_350 : cdOf kX10_tables 350 = some (.iload_n 3, 1) := by decide +kernel
theorem kX10_tables_351 : cdOf kX10_tables 351 = some (.bipush 36, 2) := by decide +kernel
theorem kX10_tables_353 : cdOf kX10_tables 353 = some (.if_icmp .ge 53, 3) := by decide +kernel
theorem kX10_tables_356 : cdOf kX10_tables 356 = some (.iload_n 3, 1) := by decide +kernel
theorem kX10_tables_357 : cdOf kX10_tables 357 = some (.bipush 6, 2) := by decide +kernel
theorem kX10_tables_359 : cdOf kX10_tables 359 = some (.idiv, 1) := by decide +kernel
theorem kX10_tables_360 : cdOf kX10_tables 360 = some (.iload_n 1, 1) := by decide +kernel
theorem kX10_tables_361 : cdOf kX10_tables 361 = some (.if_icmp .ge 39, 3) := by decide +kernel
theorem kX10_tables_364 : cdOf kX10_tables 364 = some (.iload_n 3, 1) := by decide +kernel
theorem kX10_tables_365 : cdOf kX10_tables 365 = some (.bipush 6, 2) := by decide +kernel
theorem kX10_tables_367 : cdOf kX10_tables 367 = some (.irem, 1) := by decide +kernel
theorem kX10_tables_368 : cdOf kX10_tables 368 = some (.iload_n 1, 1) := by decide +kernel
theorem kX10_tables_369 : cdOf kX10_tables 369 = some (.if_icmp .ge 31, 3) := by decide +kernel
theorem kX10_tables_372 : cdOf kX10_tables 372 = some (.aload_n 0, 1) := by decide +kernel
theorem kX10_tables_373 : cdOf kX10_tables 373 = some (.sipush 2073, 3) := by decide +kernel
theorem kX10_tables_376 : cdOf kX10_tables 376 = some (.sipush 2188, 3) := by decide +kernel
theorem kX10_tables_379 : cdOf kX10_tables 379 = some (.iload_n 3, 1) := by decide +kernel
theorem kX10_tables_380 : cdOf kX10_tables 380 = some (.iadd, 1) := by decide +kernel
theorem kX10_tables_381 : cdOf kX10_tables 381 = some (.sipush 2074, 3) := by decide +kernel
theorem kX10_tables_384 : cdOf kX10_tables 384 = some (.invokevirtual 161, 3) := by decide +kernel
theorem kX10_tables_387 : cdOf kX10_tables 387 = some (.aload_n 0, 1) := by decide +kernel
theorem kX10_tables_388 : cdOf kX10_tables 388 = some (.sipush 2152, 3) := by decide +kernel
theorem kX10_tables_391 : cdOf kX10_tables 391 = some (.iload_n 3, 1) := by decide +kernel
theorem kX10_tables_392 : cdOf kX10_tables 392 = some (.iadd, 1) := by decide +kernel
theorem kX10_tables_393 : cdOf kX10_tables 393 = some (.sipush 2073, 3) := by decide +kernel
theorem kX10_tables_396 : cdOf kX10_tables 396 = some (.iconst 1, 1) := by decide +kernel
theorem kX10_tables_397 : cdOf kX10_tables 397 = some (.invokevirtual 164, 3) := by decide +kernel
theorem kX10_tables_400 : cdOf kX10_tables 400 = some (.iinc 3 1, 3) := by decide +kernel
theorem kX10_tables_403 : cdOf kX10_tables 403 = some (.goto (-53), 3) := by decide +kernel
theorem kX10_tables_406 : cdOf kX10_tables 406 = some (.iinc 2 1, 3) := by decide +kernel
theorem kX10_tables_409 : cdOf kX10_tables 409 = some (.goto (-137), 3) := by decide +kernel
theorem kX10_tables_412 : cdOf kX10_tables 412 = some (.return_, 1) := by decide +kernel
set_option maxRecDepth 20000 in
theorem kX10_tables_ok : ∀ pc i len, cdOf kX10_tables pc = some (i, len) → decode cX10_tables pc = .ok (i, len) ∧ stOK 5 i = true ∧ jOK pc i = true ∧ eLen i len = true := cdOf_ok cX10_tables 5 kX10_tables (by decide +kernel)
def vtX10_tables : Nat → Option (Nat × eSp) := fun k => match k with
  | 132 => some (3, SX10_set)
  | 148 => some (4, SX10_divisor)
  | 155 => some (3, SX10_over)
  | 161 => some (4, SX10_times)
  | 239 => some (4, SX10_column)
  | 242 => some (4, SX10_power)
  | 164 => some (4, SX10_join)
  | _ => none
theorem vtX10_tables_132 : vtX10_tables 132 = some (3, SX10_set) := rfl
theorem vtX10_tables_148 : vtX10_tables 148 = some (4, SX10_divisor) := rfl
theorem vtX10_tables_155 : vtX10_tables 155 = some (3, SX10_over) := rfl
theorem vtX10_tables_161 : vtX10_tables 161 = some (4, SX10_times) := rfl
theorem vtX10_tables_239 : vtX10_tables 239 = some (4, SX10_column) := rfl
theorem vtX10_tables_242 : vtX10_tables 242 = some (4, SX10_power) := rfl
theorem vtX10_tables_164 : vtX10_tables 164 = some (4, SX10_join) := rfl
def stX10_tables : Nat → Option (Nat × eSp) := fun k => match k with
  | 142 => some (1, SX10_xOf)
  | 145 => some (1, SX10_yOf)
  | 185 => some (2, SX10_monomial)
  | 158 => some (1, SX10_row)
  | 64 => some (1, SX10_at)
  | 139 => some (1, SX10_degreeOf)
  | _ => none
theorem stX10_tables_142 : stX10_tables 142 = some (1, SX10_xOf) := rfl
theorem stX10_tables_145 : stX10_tables 145 = some (1, SX10_yOf) := rfl
theorem stX10_tables_185 : stX10_tables 185 = some (2, SX10_monomial) := rfl
theorem stX10_tables_158 : stX10_tables 158 = some (1, SX10_row) := rfl
theorem stX10_tables_64 : stX10_tables 64 = some (1, SX10_at) := rfl
theorem stX10_tables_139 : stX10_tables 139 = some (1, SX10_degreeOf) := rfl
abbrev TX10_tables : eT := (fl_RX10, cl_RX10, dl_RX10, vtX10_tables, stX10_tables)
set_option maxRecDepth 20000 in
theorem caX10_tables : eCalls RX10 { frames := 6, cells := 0, slots := 0, locals := 156 } TX10_tables := by
  refine ⟨fun k n sp h => ?_, fun k n sp h => ?_⟩
  · dsimp only [TX10_tables] at h
    unfold vtX10_tables at h
    split at h
    · cases h; exact eV_mk mX10_set wX10_set (by decide +kernel) (Or.inl (gW_at 1073 (by decide +kernel) rfl))
    · cases h; exact eV_mk mX10_divisor wX10_divisor (by decide +kernel) (Or.inl (gW_at 1093 (by decide +kernel) rfl))
    · cases h; exact eV_mk mX10_over wX10_over (by decide +kernel) (Or.inl (gW_at 1138 (by decide +kernel) rfl))
    · cases h; exact eV_mk mX10_times wX10_times (by decide +kernel) (Or.inl (gW_at 1149 (by decide +kernel) rfl))
    · cases h; exact eV_mk mX10_column wX10_column (by decide +kernel) (Or.inl (gW_at 1213 (by decide +kernel) rfl))
    · cases h; exact eV_mk mX10_power wX10_power (by decide +kernel) (Or.inl (gW_at 1221 (by decide +kernel) rfl))
    · cases h; exact eV_mk mX10_join wX10_join (by decide +kernel) (Or.inl (gW_at 1153 (by decide +kernel) rfl))
    · cases h
  · dsimp only [TX10_tables] at h
    unfold stX10_tables at h
    split at h
    · cases h; exact eS_mk mX10_xOf wX10_xOf (by decide +kernel) (Or.inl (gW_at 1181 (by decide +kernel) rfl))
    · cases h; exact eS_mk mX10_yOf wX10_yOf (by decide +kernel) (Or.inl (gW_at 1184 (by decide +kernel) rfl))
    · cases h; exact eS_mk mX10_monomial wX10_monomial (by decide +kernel) (Or.inl (gW_at 1187 (by decide +kernel) rfl))
    · cases h; exact eS_mk mX10_row wX10_row (by decide +kernel) (Or.inl (gW_at 1090 (by decide +kernel) rfl))
    · cases h; exact eS_mk mX10_at wX10_at (by decide +kernel) (Or.inl (gW_at 1070 (by decide +kernel) rfl))
    · cases h; exact eS_mk mX10_degreeOf wX10_degreeOf (by decide +kernel) (Or.inl (gW_at 1178 (by decide +kernel) rfl))
    · cases h
set_option maxRecDepth 100000 in
set_option maxHeartbeats 4000000 in
theorem sX10_tables : eSafe TX10_tables (cdOf kX10_tables) 5 none SX10_tables := by
  intro K rt hK as M h
  obtain ⟨F, A, s, n, Δ, U, rfl, rfl, hr, hF, hn, hh, hst, ⟨hΔ, hΔ0, hΔU, hU, bX, bY, hq, hB⟩, h⟩ := h
  refine ⟨by simp [eE], ?_⟩
  obtain ⟨d0, d1, d2⟩ := dnF_h (hs := A 15) (s := s) (st := A 18) (n := n) hΔ
  obtain ⟨D, hD⟩ : ∃ D, dnF (A 15) s (A 18) n = D := ⟨_, rfl⟩
  obtain ⟨X, hX⟩ : ∃ X, xT (A 15) s (A 18) D 0 = X := ⟨_, rfl⟩
  obtain ⟨Y, hY⟩ : ∃ Y, xT (A 15) s (A 18) D 1 = Y := ⟨_, rfl⟩
  have hDle : ∀ x, 0 < x → x ∣ Δ → x ≤ U := fun x h0 h1 => Int.le_trans (Int.le_of_dvd hΔ0 h1) hΔU
  have hUB : U < bB ^ 598 := by
    have := Int.mul_le_mul_of_nonneg_left hU (show 0 ≤ U by omega)
    omega
  have hUU : U ≤ U * U := by
    have := Int.mul_le_mul_of_nonneg_left hU (show 0 ≤ U by omega)
    omega
  have hUUB : 1080 * (U * U) < bB ^ 599 := Int.lt_trans hB bB_598
  have hU0 : 0 ≤ U * U := Int.mul_nonneg (by omega) (by omega)
  unfold tOk at h
  simp only [hD, hX, hY] at h
  rw [hD] at d0 d1 d2 bX bY
  rw [hX] at bX
  rw [hY] at bY
  have hD5 : 0 < D ∧ D ≤ U := ⟨d0, hDle D d0 d1⟩
  have wn : w32 (n : Int) := by constructor <;> omega
  have rest : ∀ (u4 : Option eV) (A' : Nat → Int → Int) (s' : Int → Int) (u3 : Option eV), sN A A' → rn (A' 0) s' → (∀ p, p < 2070 → s' p = s p) → s' 2076 = D → K 126 [some eRR, some (eI n), some (eI 0), u3, u4] [] (cR F A') := by
    intro u4
    -- the query's table
    have e36 : ∀ (d e k : Nat) (c : Int) (A' : Nat → Int → Int) (s' s0 : Int → Int), e + d = 36 → k < 6 → sN A A' → rn (A' 0) s' → mQ n (tb s0 2188) (pQ n X Y (mX k).toNat (mD k).toNat) → s0 2074 = c → c = A 8 k * D ^ (2 - (mD k).toNat) → mB n (hT n X Y D (A 8) k) (k * (180 * (U * U))) → (∀ i j : Nat, i < n → j < n → s' (2152 + 6 * i + j) = if 6 * i + j < e then hT n X Y D (A 8) k i j + pQ n X Y (mX k).toNat (mD k).toNat i j * c else hT n X Y D (A 8) k i j) → (∀ p, p ≠ 2073 → ¬ iT 2152 n p → s' p = s0 p) → (∀ (A'' : Nat → Int → Int) (s'' : Int → Int), sN A A'' → rn (A'' 0) s'' → (∀ i j : Nat, i < n → j < n → s'' (2152 + 6 * i + j) = hT n X Y D (A 8) k i j + pQ n X Y (mX k).toNat (mD k).toNat i j * c) → (∀ p, p ≠ 2073 → ¬ iT 2152 n p → s'' p = s0 p) → K 406 [some eRR, some (eI n), some (eI k), some (eI 36), u4] [] (cR F A'')) → K 350 [some eRR, some (eI n), some (eI k), some (eI e), u4] [] (cR F A') := by
      intro d
      induction d with
      | zero =>
        intro e k c A' s' s0 he hk hA hr' hP hc hcc hb hv ho hf
        have e2 : e = 36 := by omega
        subst e2
        refine x_iload_n hK kX10_tables_350 (q := 351) rfl rfl ?_
        refine x_bipush hK kX10_tables_351 (q := 353) rfl (by decide) ?_
        refine x_icmp_ge hK kX10_tables_353 (q := 356) rfl (tg := 406) rfl (by refine ⟨?_, ?_⟩ <;> omega) (fun c353 => ?_) (fun c353 => ?_)
        · refine hf A' s' hA hr' (fun i j hi hj => ?_) ho
          rw [hv i j hi hj, if_pos (by omega)]
        · exfalso; omega
      | succ d ih =>
        intro e k c A' s' s0 he hk hA hr' hP hc hcc hb hv ho hf
        have we : w32 ((e : Int) / 6) := by constructor <;> omega
        have we2 : w32 ((e : Int) % 6) := by constructor <;> omega
        have nx : ∀ (A'' : Nat → Int → Int) (s'' : Int → Int), sN A A'' → rn (A'' 0) s'' → (∀ i j : Nat, i < n → j < n → s'' (2152 + 6 * i + j) = if 6 * i + j < e + 1 then hT n X Y D (A 8) k i j + pQ n X Y (mX k).toNat (mD k).toNat i j * c else hT n X Y D (A 8) k i j) → (∀ p, p ≠ 2073 → ¬ iT 2152 n p → s'' p = s0 p) → K 400 [some eRR, some (eI n), some (eI k), some (eI e), u4] [] (cR F A'') := by
          intro A'' s'' g1 g2 g3 g4
          refine x_iinc hK kX10_tables_400 (q := 403) rfl rfl ?_
          simp only [lS, lS2, clr_0, clr_I, clr_L, clr_R]
          refine x_goto hK kX10_tables_403 (tg := 350) rfl ?_
          rw [show (e : Int) + 1 = ((e + 1 : Nat) : Int) by omega]
          exact ih (e + 1) k c A'' s'' s0 (by omega) hk g1 g2 hP hc hcc hb g3 g4 hf
        have no : ¬ ((e : Int) / 6 < n ∧ (e : Int) % 6 < n) → K 400 [some eRR, some (eI n), some (eI k), some (eI e), u4] [] (cR F A') := by
          intro g
          refine nx A' s' hA hr' (fun i j hi hj => ?_) ho
          rw [hv i j hi hj]
          rcases Nat.lt_or_ge (6 * i + j) e with g2 | g2
          · rw [if_pos g2, if_pos (by omega)]
          · rw [if_neg (by omega), if_neg (by omega)]
        refine x_iload_n hK kX10_tables_350 (q := 351) rfl rfl ?_
        refine x_bipush hK kX10_tables_351 (q := 353) rfl (by decide) ?_
        refine x_icmp_ge hK kX10_tables_353 (q := 356) rfl (tg := 406) rfl (by refine ⟨?_, ?_⟩ <;> omega) (fun c353 => ?_) (fun c353 => ?_)
        · exfalso; omega
        · refine x_iload_n hK kX10_tables_356 (q := 357) rfl rfl ?_
          refine x_bipush hK kX10_tables_357 (q := 359) rfl (by decide) ?_
          refine x_idiv hK kX10_tables_359 (q := 360) rfl (by refine ⟨?_, ?_, ?_⟩ <;> omega) ?_
          rw [Int.tdiv_eq_ediv_of_nonneg (by omega)]
          refine x_iload_n hK kX10_tables_360 (q := 361) rfl rfl ?_
          refine x_icmp_ge hK kX10_tables_361 (q := 364) rfl (tg := 400) rfl (by exact ⟨we, wn⟩) (fun c361 => ?_) (fun c361 => ?_)
          · exact no (fun q => by omega)
          · refine x_iload_n hK kX10_tables_364 (q := 365) rfl rfl ?_
            refine x_bipush hK kX10_tables_365 (q := 367) rfl (by decide) ?_
            refine x_irem hK kX10_tables_367 (q := 368) rfl (by refine ⟨?_, ?_, ?_⟩ <;> omega) ?_
            rw [Int.tmod_eq_emod_of_nonneg (by omega)]
            refine x_iload_n hK kX10_tables_368 (q := 369) rfl rfl ?_
            refine x_icmp_ge hK kX10_tables_369 (q := 372) rfl (tg := 400) rfl (by exact ⟨we2, wn⟩) (fun c369 => ?_) (fun c369 => ?_)
            · exact no (fun q => by omega)
            · refine x_aload_n hK kX10_tables_372 (q := 373) rfl rfl ?_
              refine x_sipush hK kX10_tables_373 (q := 376) rfl (by decide) ?_
              refine x_sipush hK kX10_tables_376 (q := 379) rfl (by decide) ?_
              refine x_iload_n hK kX10_tables_379 (q := 380) rfl rfl ?_
              refine x_iadd hK kX10_tables_380 (q := 381) rfl ?_
              refine x_sipush hK kX10_tables_381 (q := 384) rfl (by decide) ?_
              refine x_cv4 hK kX10_tables_384 (q := 387) rfl (vtX10_tables_161) (Nat.le_of_ble_eq_true rfl) ?_
              obtain ⟨i, j, hi, hj, hij⟩ : ∃ i j : Nat, i < n ∧ j < n ∧ e = 6 * i + j := ⟨e / 6, e % 6, by omega, by omega, by omega⟩
              have eP : (2188 : Int) + (e : Int) = 2188 + 6 * (i : Int) + (j : Int) := by omega
              have eH : (2152 : Int) + (e : Int) = 2152 + 6 * (i : Int) + (j : Int) := by omega
              have v1 : s' (2188 + (e : Int)) = pQ n X Y (mX k).toNat (mD k).toNat i j := by
                rw [eP, ho _ (by omega) (fun g => by unfold iT at g; omega)]
                exact hP i j hi hj
              have v2 : s' 2074 = c := by rw [ho _ (by decide) (fun g => by unfold iT at g; omega)]; exact hc
              have v3 : s' (2152 + (e : Int)) = hT n X Y D (A 8) k i j := by rw [eH, hv i j hi hj, if_neg (by omega)]
              have t1 := (hT_b hn hU bX bY hD5 hq k hk).2 i j hi hj
              rw [← hcc, zAbs_x] at t1
              have t2 := hb i j hi hj
              have t3 : (k : Int) * (180 * (U * U)) ≤ 5 * (180 * (U * U)) := Int.mul_le_mul_of_nonneg_right (by omega) (by omega)
              refine SX10_times_n hr' (by decide) (by omega) (by decide) (by rw [v1, v2]; omega) (fun A1 k1 r1 => ?_)
              rw [v1, v2] at r1
              refine x_aload_n hK kX10_tables_387 (q := 388) rfl rfl ?_
              refine x_sipush hK kX10_tables_388 (q := 391) rfl (by decide) ?_
              refine x_iload_n hK kX10_tables_391 (q := 392) rfl rfl ?_
              refine x_iadd hK kX10_tables_392 (q := 393) rfl ?_
              refine x_sipush hK kX10_tables_393 (q := 396) rfl (by decide) ?_
              refine x_iconst hK kX10_tables_396 (q := 397) rfl ?_
              refine x_cv4 hK kX10_tables_397 (q := 400) rfl (vtX10_tables_164) (Nat.le_of_ble_eq_true rfl) ?_
              refine SX10_join_n r1 (by omega) (by decide) (by omega) (Or.inl rfl) (by rw [uI_s, uI_n _ _ (by omega), v3, zAbs_x]; constructor <;> omega) (fun A2 k2 r2 => ?_)
              rw [uI_s, uI_n _ _ (show (2152 : Int) + (e : Int) ≠ 2073 by omega), v3, Int.one_mul] at r2
              refine nx A2 _ (sN_tr hA (sN_tr k1 k2)) r2 (fun i' j' i0 j0 => ?_) (fun p p0 p1 => ?_)
              · rcases Decidable.em (i' = i ∧ j' = j) with g | g
                · obtain ⟨rfl, rfl⟩ := g
                  rw [eH, uI_s, if_pos (by omega)]
                · rw [uI_n _ _ (by omega), uI_n _ _ (by omega), hv i' j' i0 j0]
                  rcases Nat.lt_or_ge (6 * i' + j') e with g2 | g2
                  · rw [if_pos g2, if_pos (by omega)]
                  · rw [if_neg (by omega), if_neg (by omega)]
              · rw [uI_n _ _ (fun g => p1 (by rw [g, eH]; exact iT_in hn hi hj)), uI_n _ _ p0]
                exact ho p p0 p1
    have qry : ∀ (d k : Nat) (A' : Nat → Int → Int) (s' : Int → Int) (u3 : Option eV), k + d = 6 → sN A A' → rn (A' 0) s' → (∀ p, p < 2070 → s' p = s p) → s' 2076 = D → mQ n (tb s' 2080) X → mQ n (tb s' 2116) Y → (∀ i : Nat, i < n → mQ n (tb s' (2440 + 36 * i)) (pQ n X Y (mX (A 18 i)).toNat (mD (A 18 i)).toNat)) → mQ n (tb s' 2152) (hT n X Y D (A 8) k) → K 272 [some eRR, some (eI n), some (eI k), u3, u4] [] (cR F A') := by
      intro d
      induction d with
      | zero =>
        intro k A' s' u3 hk hA hr' lw v6 vX vY vM vH
        have e : k = 6 := by omega
        subst e
        refine x_iload_n hK kX10_tables_272 (q := 273) rfl rfl ?_
        refine x_bipush hK kX10_tables_273 (q := 275) rfl (by decide) ?_
        refine x_icmp_ge hK kX10_tables_275 (q := 278) rfl (tg := 412) rfl (by refine ⟨?_, ?_⟩ <;> omega) (fun c275 => ?_) (fun c275 => ?_)
        · refine x_return_ hK kX10_tables_412 (by first | trivial | exact Or.inl rfl | exact Or.inr rfl) ?_
          exact h A' s' hA hr' ⟨lw, v6, vX, vY, vM, vH⟩
        · exfalso; omega
      | succ d ih =>
        intro k A' s' u3 hk hA hr' lw v6 vX vY vM vH
        have hk6 : k < 6 := by omega
        have hqk := hq k hk6
        have wq : w32 (A 8 k) := by constructor <;> omega
        have nx : ∀ (A'' : Nat → Int → Int) (s'' : Int → Int) (u3 : Option eV), sN A A'' → rn (A'' 0) s'' → (∀ p, p < 2070 → s'' p = s p) → s'' 2076 = D → mQ n (tb s'' 2080) X → mQ n (tb s'' 2116) Y → (∀ i : Nat, i < n → mQ n (tb s'' (2440 + 36 * i)) (pQ n X Y (mX (A 18 i)).toNat (mD (A 18 i)).toNat)) → mQ n (tb s'' 2152) (hT n X Y D (A 8) (k + 1)) → K 406 [some eRR, some (eI n), some (eI k), u3, u4] [] (cR F A'') := by
          intro A'' s'' u3 g1 g2 g3 g4 g5 g6 g7 g8
          refine x_iinc hK kX10_tables_406 (q := 409) rfl rfl ?_
          simp only [lS, lS2, clr_0, clr_I, clr_L, clr_R]
          refine x_goto hK kX10_tables_409 (tg := 272) rfl ?_
          rw [show (k : Int) + 1 = ((k + 1 : Nat) : Int) by omega]
          exact ih (k + 1) A'' s'' _ (by omega) g1 g2 g3 g4 g5 g6 g7 g8
        obtain ⟨a, ha⟩ : ∃ a : Nat, mX (k : Int) = a := ⟨(mX (k : Int)).toNat, by have := mX_h (u := (k : Int)) (by omega); omega⟩
        obtain ⟨b, hb⟩ : ∃ b : Nat, mY (k : Int) = b := ⟨(mY (k : Int)).toNat, by have := mY_h (u := (k : Int)) (by omega); omega⟩
        have hab : mD (k : Int) = a + b := by have := (mY_h (u := (k : Int)) (by omega)).2; omega
        have hab2 := mD_6 (u := (k : Int)) (by omega)
        have eA : (mX (k : Int)).toNat = a := by omega
        have eD : (mD (k : Int)).toNat = a + b := by omega
        obtain ⟨b0, b1, b2⟩ := pQ_b (a := a) hn hU bX bY
        have hTb := hT_B (D := D) (q := A 8) (X := X) (Y := Y) (n := n) (W := 180 * (U * U)) (by omega) (fun k hk => (hT_b hn hU bX bY hD5 hq k hk).2) k (by omega)
        have hTk := hT_b hn hU bX bY hD5 hq k hk6
        rw [eA, eD] at hTk
        have fin : ∀ (A1 : Nat → Int → Int) (s1 : Int → Int), A 8 k ≠ 0 → sN A A1 → rn (A1 0) s1 → s1 2074 = A 8 k * D ^ (2 - (a + b)) → mQ n (tb s1 2188) (pQ n X Y a (a + b)) → (∀ p, p ≠ 2073 → p ≠ 2074 → p ≠ 2075 → ¬ (2188 ≤ p ∧ p < 2296) → s1 p = s' p) → K 348 [some eRR, some (eI n), some (eI k), some (eI 2), u4] [] (cR F A1) := by
          intro A1 s1 hne g1 g2 g3 g4 g5
          refine x_iconst hK kX10_tables_348 (q := 349) rfl ?_
          refine x_istore_n hK kX10_tables_349 (q := 350) (jn := 3) rfl rfl ?_
          simp only [lS, lS2, clr_0, clr_I, clr_L, clr_R]
          refine e36 36 0 k (A 8 k * D ^ (2 - (a + b))) A1 s1 s1 (by omega) hk6 g1 g2 (by rw [eA, eD]; exact g4) g3 (by rw [eD]) hTb (fun i j hi hj => ?_) (fun p _ _ => rfl) (fun A2 s2 k1 k2 k3 k4 => ?_)
          · rw [if_neg (by omega), g5 _ (by omega) (by omega) (by omega) (by omega)]
            exact vH i j hi hj
          · have g6 : ∀ p, p ≠ 2073 → p ≠ 2074 → p ≠ 2075 → ¬ (2152 ≤ p ∧ p < 2296) → s2 p = s' p := fun p p0 p1 p2 p3 => by
              rw [k4 p p0 (fun g => by unfold iT at g; omega)]
              exact g5 p p0 p1 p2 (by omega)
            refine nx A2 s2 _ k1 k2 (fun p p0 => by rw [g6 p (by omega) (by omega) (by omega) (by omega)]; exact lw p p0) (by rw [g6 _ (by decide) (by decide) (by decide) (by omega)]; exact v6) (fun i j hi hj => ?_) (fun i j hi hj => ?_) (fun l hl i j hi hj => ?_) (fun i j hi hj => ?_)
            · exact (g6 _ (by omega) (by omega) (by omega) (by omega)).trans (vX i j hi hj)
            · exact (g6 _ (by omega) (by omega) (by omega) (by omega)).trans (vY i j hi hj)
            · exact (g6 _ (by omega) (by omega) (by omega) (by omega)).trans (vM l hl i j hi hj)
            · show s2 (2152 + 6 * (i : Int) + (j : Int)) = hT n X Y D (A 8) k i j + (if A 8 k = 0 then 0 else _)
              rw [k3 i j hi hj, if_neg hne, eA, eD]
        have dl : ∀ (e t : Nat) (A1 : Nat → Int → Int) (s1 : Int → Int), A 8 k ≠ 0 → t + e = 2 → a + b ≤ t → sN A A1 → rn (A1 0) s1 → s1 2074 = A 8 k * D ^ (t - (a + b)) → mQ n (tb s1 2188) (pQ n X Y a (a + b)) → (∀ p, p ≠ 2073 → p ≠ 2074 → p ≠ 2075 → ¬ (2188 ≤ p ∧ p < 2296) → s1 p = s' p) → K 324 [some eRR, some (eI n), some (eI k), some (eI t), u4] [] (cR F A1) := by
          intro e
          induction e with
          | zero =>
            intro t A1 s1 hne ht hat g1 g2 g3 g4 g5
            have e : t = 2 := by omega
            subst e
            refine x_iload_n hK kX10_tables_324 (q := 325) rfl rfl ?_
            refine x_iconst hK kX10_tables_325 (q := 326) rfl ?_
            refine x_icmp_ge hK kX10_tables_326 (q := 329) rfl (tg := 348) rfl (by refine ⟨?_, ?_⟩ <;> omega) (fun c326 => ?_) (fun c326 => ?_)
            · exact fin A1 s1 hne g1 g2 g3 g4 g5
            · exfalso; omega
          | succ e ih2 =>
            intro t A1 s1 hne ht hat g1 g2 g3 g4 g5
            have g6 : s1 2076 = D := by rw [g5 _ (by decide) (by decide) (by decide) (by omega)]; exact v6
            have e3 : A 8 k * D ^ (t - (a + b)) * D = A 8 k * D ^ (t + 1 - (a + b)) := by
              rw [Int.mul_assoc, ← Int.pow_succ, show t + 1 - (a + b) = t - (a + b) + 1 by omega]
            have e4 : zAbs (A 8 k * D ^ (t + 1 - (a + b))) ≤ 5 * (U * U) := by
              rcases Nat.lt_or_ge t 1 with g | g
              · rw [zAbs_x]
                have z1 : zAbs (A 8 k) ≤ 5 := by unfold zAbs; split <;> omega
                have z2 : D ^ (t + 1 - (a + b)) = D := by rw [show t + 1 - (a + b) = 1 by omega]; grind
                rw [z2, zAbs_nn (show 0 ≤ D by omega)]
                have z3 := Int.mul_le_mul z1 hD5.2 (by omega) (by decide)
                exact Int.le_trans z3 (by omega)
              · rw [show t + 1 = 2 by omega]
                exact hTk.1
            refine x_iload_n hK kX10_tables_324 (q := 325) rfl rfl ?_
            refine x_iconst hK kX10_tables_325 (q := 326) rfl ?_
            refine x_icmp_ge hK kX10_tables_326 (q := 329) rfl (tg := 348) rfl (by refine ⟨?_, ?_⟩ <;> omega) (fun c326 => ?_) (fun c326 => ?_)
            · exfalso; omega
            · refine x_aload_n hK kX10_tables_329 (q := 330) rfl rfl ?_
              refine x_sipush hK kX10_tables_330 (q := 333) rfl (by decide) ?_
              refine x_sipush hK kX10_tables_333 (q := 336) rfl (by decide) ?_
              refine x_sipush hK kX10_tables_336 (q := 339) rfl (by decide) ?_
              refine x_cv4 hK kX10_tables_339 (q := 342) rfl (vtX10_tables_161) (Nat.le_of_ble_eq_true rfl) ?_
              refine SX10_times_n g2 (by decide) (by decide) (by decide) (by rw [← zAbs_x, g3, g6, e3]; omega) (fun A2 k1 r1 => ?_)
              rw [g3, g6, e3] at r1
              refine x_iinc hK kX10_tables_342 (q := 345) rfl rfl ?_
              simp only [lS, lS2, clr_0, clr_I, clr_L, clr_R]
              refine x_goto hK kX10_tables_345 (tg := 324) rfl ?_
              rw [show (t : Int) + 1 = ((t + 1 : Nat) : Int) by omega]
              refine ih2 (t + 1) A2 _ hne (by omega) (by omega) (sN_tr g1 k1) r1 (uI_s _ _ _) (fun i j hi hj => ?_) (fun p p0 p1 p2 p3 => ?_)
              · exact (uI_n _ _ (by omega)).trans (g4 i j hi hj)
              · rw [uI_n _ _ p1]
                exact g5 p p0 p1 p2 p3
        refine x_iload_n hK kX10_tables_272 (q := 273) rfl rfl ?_
        refine x_bipush hK kX10_tables_273 (q := 275) rfl (by decide) ?_
        refine x_icmp_ge hK kX10_tables_275 (q := 278) rfl (tg := 412) rfl (by refine ⟨?_, ?_⟩ <;> omega) (fun c275 => ?_) (fun c275 => ?_)
        · exfalso; omega
        · refine x_aload_n hK kX10_tables_278 (q := 279) rfl rfl ?_
          refine x_getfield hK kX10_tables_279 (q := 282) rfl (gX10_35 ?_)
          refine x_iload_n hK kX10_tables_282 (q := 283) rfl rfl ?_
          refine x_iaload hK kX10_tables_283 (q := 284) rfl (aX10_A8 (by refine ⟨?_, ?_⟩ <;> omega) ?_)
          rw [hA 8 (by decide)]
          refine x_if_ne hK kX10_tables_284 (q := 287) rfl (tg := 290) rfl (by exact wq) (fun c284 => ?_) (fun c284 => ?_)
          · refine x_aload_n hK kX10_tables_290 (q := 291) rfl rfl ?_
            refine x_sipush hK kX10_tables_291 (q := 294) rfl (by decide) ?_
            refine x_iload_n hK kX10_tables_294 (q := 295) rfl rfl ?_
            refine x_cs1 hK kX10_tables_295 (q := 298) rfl (stX10_tables_142) (Nat.le_of_ble_eq_true rfl) ?_
            refine SX10_xOf_i (by omega) ?_
            refine x_iload_n hK kX10_tables_298 (q := 299) rfl rfl ?_
            refine x_cs1 hK kX10_tables_299 (q := 302) rfl (stX10_tables_145) (Nat.le_of_ble_eq_true rfl) ?_
            refine SX10_yOf_i (by omega) ?_
            rw [ha, hb]
            refine x_cv4 hK kX10_tables_302 (q := 305) rfl (vtX10_tables_242) (Nat.le_of_ble_eq_true rfl) ?_
            refine SX10_power_i a b U hr' hF hn (by omega) (by decide) (by decide) (by omega) (mB_q vX bX) (mB_q vY bY) (fun l hl => ?_) (fun A1 s1 k1 r1 q1 o1 => ?_)
            · have cg : ∀ l, mQ n (pQ n (tb s' 2080) (tb s' 2116) a l) (pQ n X Y a l) := by
                intro l
                induction l with
                | zero => exact mQ_rf n _
                | succ l ihl =>
                  refine mM_q ?_ ihl
                  split
                  · exact vX
                  · exact vY
              rcases (show l = 0 ∨ l = 1 by omega) with e | e
              · subst e
                exact ⟨1, by decide, mB_q (cg 0) b0, by omega⟩
              · subst e
                exact ⟨6 * U, by omega, mB_q (cg 1) b1, by rw [show 6 * (U * (6 * U)) = 36 * (U * U) by grind]; omega⟩
            have cg : mQ n (pQ n (tb s' 2080) (tb s' 2116) a (a + b)) (pQ n X Y a (a + b)) := by
              have : ∀ l, mQ n (pQ n (tb s' 2080) (tb s' 2116) a l) (pQ n X Y a l) := by
                intro l
                induction l with
                | zero => exact mQ_rf n _
                | succ l ihl =>
                  refine mM_q ?_ ihl
                  split
                  · exact vX
                  · exact vY
              exact this _
            refine x_aload_n hK kX10_tables_305 (q := 306) rfl rfl ?_
            refine x_sipush hK kX10_tables_306 (q := 309) rfl (by decide) ?_
            refine x_aload_n hK kX10_tables_309 (q := 310) rfl rfl ?_
            refine x_getfield hK kX10_tables_310 (q := 313) rfl (gX10_35 ?_)
            refine x_iload_n hK kX10_tables_313 (q := 314) rfl rfl ?_
            refine x_iaload hK kX10_tables_314 (q := 315) rfl (aX10_A8 (by refine ⟨?_, ?_⟩ <;> omega) ?_)
            rw [k1 8 (by decide), hA 8 (by decide)]
            refine x_i2l hK kX10_tables_315 (q := 316) rfl (by exact wq) ?_
            refine x_cv3 hK kX10_tables_316 (q := 319) rfl (vtX10_tables_132) (Nat.le_of_ble_eq_true rfl) ?_
            refine SX10_set_n r1 (by decide) (by constructor <;> omega) (fun A2 k2 r2 => ?_)
            refine x_iload_n hK kX10_tables_319 (q := 320) rfl rfl ?_
            refine x_cs1 hK kX10_tables_320 (q := 323) rfl (stX10_tables_139) (Nat.le_of_ble_eq_true rfl) ?_
            refine SX10_degreeOf_i (by omega) ?_
            refine x_istore_n hK kX10_tables_323 (q := 324) (jn := 3) rfl rfl ?_
            simp only [lS, lS2, clr_0, clr_I, clr_L, clr_R]
            rw [hab, show ((a : Int) + (b : Int)) = ((a + b : Nat) : Int) by omega]
            refine dl (2 - (a + b)) (a + b) A2 _ c284 (by omega) (Nat.le_refl _) (sN_tr hA (sN_tr k1 k2)) r2 ?_ (fun i j hi hj => ?_) (fun p p0 p1 p2 p3 => ?_)
            · rw [uI_s, Nat.sub_self, Int.pow_zero, Int.mul_one]
            · exact (uI_n _ _ (by omega)).trans ((q1 i j hi hj).trans (cg i j hi hj))
            · rw [uI_n _ _ p1]
              exact o1 p p0 p2 (by omega) (fun g => by unfold iT at g; omega)
          · refine x_goto hK kX10_tables_287 (tg := 406) rfl ?_
            have e0 : A 8 k = 0 := Decidable.not_not.mp c284
            refine nx A' s' _ hA hr' lw v6 vX vY vM (fun i j hi hj => ?_)
            show s' (2152 + 6 * (i : Int) + (j : Int)) = hT n X Y D (A 8) k i j + (if A 8 k = 0 then 0 else _)
            rw [if_pos e0, Int.add_zero]
            exact vH i j hi hj
    have zer : ∀ (d k : Nat) (A' : Nat → Int → Int) (s' : Int → Int) (u3 : Option eV), k + d = 36 → sN A A' → rn (A' 0) s' → (∀ p, p < 2070 → s' p = s p) → s' 2076 = D → mQ n (tb s' 2080) X → mQ n (tb s' 2116) Y → (∀ i : Nat, i < n → mQ n (tb s' (2440 + 36 * i)) (pQ n X Y (mX (A 18 i)).toNat (mD (A 18 i)).toNat)) → (∀ p : Int, 2152 ≤ p → p < 2152 + k → s' p = 0) → K 244 [some eRR, some (eI n), some (eI k), u3, u4] [] (cR F A') := by
      intro d
      induction d with
      | zero =>
        intro k A' s' u3 hk hA hr' lw v6 vX vY vM vZ
        have e : k = 36 := by omega
        subst e
        refine x_iload_n hK kX10_tables_244 (q := 245) rfl rfl ?_
        refine x_bipush hK kX10_tables_245 (q := 247) rfl (by decide) ?_
        refine x_icmp_ge hK kX10_tables_247 (q := 250) rfl (tg := 270) rfl (by refine ⟨?_, ?_⟩ <;> omega) (fun c247 => ?_) (fun c247 => ?_)
        · refine x_iconst hK kX10_tables_270 (q := 271) rfl ?_
          refine x_istore_n hK kX10_tables_271 (q := 272) (jn := 2) rfl rfl ?_
          simp only [lS, lS2, clr_0, clr_I, clr_L, clr_R]
          refine qry 6 0 A' s' _ (by omega) hA hr' lw v6 vX vY vM (fun i j hi hj => ?_)
          exact vZ (2152 + 6 * (i : Int) + (j : Int)) (by omega) (by omega)
        · exfalso; omega
      | succ d ih =>
        intro k A' s' u3 hk hA hr' lw v6 vX vY vM vZ
        refine x_iload_n hK kX10_tables_244 (q := 245) rfl rfl ?_
        refine x_bipush hK kX10_tables_245 (q := 247) rfl (by decide) ?_
        refine x_icmp_ge hK kX10_tables_247 (q := 250) rfl (tg := 270) rfl (by refine ⟨?_, ?_⟩ <;> omega) (fun c247 => ?_) (fun c247 => ?_)
        · exfalso; omega
        · refine x_aload_n hK kX10_tables_250 (q := 251) rfl rfl ?_
          refine x_getfield hK kX10_tables_251 (q := 254) rfl (gX10_12 ?_)
          refine x_sipush hK kX10_tables_254 (q := 257) rfl (by decide) ?_
          refine x_iload_n hK kX10_tables_257 (q := 258) rfl rfl ?_
          refine x_iadd hK kX10_tables_258 (q := 259) rfl ?_
          refine x_cs1 hK kX10_tables_259 (q := 262) rfl (stX10_tables_64) (Nat.le_of_ble_eq_true rfl) ?_
          refine SX10_at_i ?_
          refine x_iconst hK kX10_tables_262 (q := 263) rfl ?_
          refine x_iastore hK kX10_tables_263 (q := 264) rfl (yX10_A0 (by refine ⟨?_, ?_⟩ <;> omega) ?_)
          refine x_iinc hK kX10_tables_264 (q := 267) rfl rfl ?_
          simp only [lS, lS2, clr_0, clr_I, clr_L, clr_R]
          refine x_goto hK kX10_tables_267 (tg := 244) rfl ?_
          rw [show (k : Int) + 1 = ((k + 1 : Nat) : Int) by omega]
          refine ih (k + 1) _ (uI s' (2152 + k) 0) _ (by omega) (sN_tr hA (sN_u (by decide) _)) (rn_nil hr') (fun p p0 => by rw [uI_n _ _ (by omega)]; exact lw p p0) (by rw [uI_n _ _ (by omega)]; exact v6) (fun i j hi hj => (uI_n _ _ (by omega)).trans (vX i j hi hj)) (fun i j hi hj => (uI_n _ _ (by omega)).trans (vY i j hi hj)) (fun l hl i j hi hj => (uI_n _ _ (by omega)).trans (vM l hl i j hi hj)) (fun p p0 p1 => ?_)
          rcases Decidable.em (p = 2152 + k) with g | g
          · subst g; exact uI_s _ _ _
          · rw [uI_n _ _ g]
            exact vZ p p0 (by omega)
    have pws : ∀ (d i : Nat) (A' : Nat → Int → Int) (s' : Int → Int) (u3 : Option eV), i + d = n → sN A A' → rn (A' 0) s' → (∀ p, p < 2070 → s' p = s p) → s' 2076 = D → mQ n (tb s' 2080) X → mQ n (tb s' 2116) Y → (∀ l : Nat, l < i → mQ n (tb s' (2440 + 36 * l)) (pQ n X Y (mX (A 18 l)).toNat (mD (A 18 l)).toNat)) → K 201 [some eRR, some (eI n), some (eI i), u3, u4] [] (cR F A') := by
      intro d
      induction d with
      | zero =>
        intro i A' s' u3 hi hA hr' lw v6 vX vY vM
        have e : i = n := by omega
        subst e
        refine x_iload_n hK kX10_tables_201 (q := 202) rfl rfl ?_
        refine x_iload_n hK kX10_tables_202 (q := 203) rfl rfl ?_
        refine x_icmp_ge hK kX10_tables_203 (q := 206) rfl (tg := 242) rfl (by refine ⟨?_, ?_⟩ <;> omega) (fun c203 => ?_) (fun c203 => ?_)
        · refine x_iconst hK kX10_tables_242 (q := 243) rfl ?_
          refine x_istore_n hK kX10_tables_243 (q := 244) (jn := 2) rfl rfl ?_
          simp only [lS, lS2, clr_0, clr_I, clr_L, clr_R]
          exact zer 36 0 A' s' _ (by omega) hA hr' lw v6 vX vY vM (fun p p0 p1 => by omega)
        · exfalso; omega
      | succ d ih =>
        intro i A' s' u3 hi hA hr' lw v6 vX vY vM
        have wi : w32 (i : Int) := by constructor <;> omega
        have st := hst i (by omega)
        obtain ⟨m0, m1, m2, m3, -⟩ := mv_h st
        obtain ⟨a, ha⟩ : ∃ a : Nat, mX (A 18 i) = a := ⟨(mX (A 18 i)).toNat, by omega⟩
        obtain ⟨b, hb⟩ : ∃ b : Nat, mY (A 18 i) = b := ⟨(mY (A 18 i)).toNat, by omega⟩
        have eA : (mX (A 18 i)).toNat = a := by omega
        have eD : (mD (A 18 i)).toNat = a + b := by omega
        obtain ⟨b0, b1, b2⟩ := pQ_b (a := a) hn hU bX bY
        have cg : ∀ l, mQ n (pQ n (tb s' 2080) (tb s' 2116) a l) (pQ n X Y a l) := by
          intro l
          induction l with
          | zero => exact mQ_rf n _
          | succ l ihl =>
            refine mM_q ?_ ihl
            split
            · exact vX
            · exact vY
        refine x_iload_n hK kX10_tables_201 (q := 202) rfl rfl ?_
        refine x_iload_n hK kX10_tables_202 (q := 203) rfl rfl ?_
        refine x_icmp_ge hK kX10_tables_203 (q := 206) rfl (tg := 242) rfl (by exact ⟨wi, wn⟩) (fun c203 => ?_) (fun c203 => ?_)
        · exfalso; omega
        · refine x_aload_n hK kX10_tables_206 (q := 207) rfl rfl ?_
          refine x_sipush hK kX10_tables_207 (q := 210) rfl (by decide) ?_
          refine x_bipush hK kX10_tables_210 (q := 212) rfl (by decide) ?_
          refine x_iload_n hK kX10_tables_212 (q := 213) rfl rfl ?_
          refine x_imul hK kX10_tables_213 (q := 214) rfl ?_
          refine x_iadd hK kX10_tables_214 (q := 215) rfl ?_
          refine x_aload_n hK kX10_tables_215 (q := 216) rfl rfl ?_
          refine x_getfield hK kX10_tables_216 (q := 219) rfl (gX10_52 ?_)
          refine x_iload_n hK kX10_tables_219 (q := 220) rfl rfl ?_
          refine x_iaload hK kX10_tables_220 (q := 221) rfl (aX10_A18 (by refine ⟨?_, ?_⟩ <;> omega) ?_)
          rw [hA 18 (by decide)]
          refine x_cs1 hK kX10_tables_221 (q := 224) rfl (stX10_tables_142) (Nat.le_of_ble_eq_true rfl) ?_
          refine SX10_xOf_i (by omega) ?_
          refine x_aload_n hK kX10_tables_224 (q := 225) rfl rfl ?_
          refine x_getfield hK kX10_tables_225 (q := 228) rfl (gX10_52 ?_)
          refine x_iload_n hK kX10_tables_228 (q := 229) rfl rfl ?_
          refine x_iaload hK kX10_tables_229 (q := 230) rfl (aX10_A18 (by refine ⟨?_, ?_⟩ <;> omega) ?_)
          rw [hA 18 (by decide)]
          refine x_cs1 hK kX10_tables_230 (q := 233) rfl (stX10_tables_145) (Nat.le_of_ble_eq_true rfl) ?_
          refine SX10_yOf_i (by omega) ?_
          rw [ha, hb]
          refine x_cv4 hK kX10_tables_233 (q := 236) rfl (vtX10_tables_242) (Nat.le_of_ble_eq_true rfl) ?_
          refine SX10_power_i a b U hr' hF hn (by omega) (by omega) (by omega) (by omega) (mB_q vX bX) (mB_q vY bY) (fun l hl => ?_) (fun A1 s1 k1 r1 q1 o1 => ?_)
          · rcases (show l = 0 ∨ l = 1 by omega) with e | e
            · subst e
              exact ⟨1, by decide, mB_q (cg 0) b0, by omega⟩
            · subst e
              exact ⟨6 * U, by omega, mB_q (cg 1) b1, by rw [show 6 * (U * (6 * U)) = 36 * (U * U) by grind]; omega⟩
          refine x_iinc hK kX10_tables_236 (q := 239) rfl rfl ?_
          simp only [lS, lS2, clr_0, clr_I, clr_L, clr_R]
          refine x_goto hK kX10_tables_239 (tg := 201) rfl ?_
          rw [show (i : Int) + 1 = ((i + 1 : Nat) : Int) by omega]
          have o2 : ∀ p, p ≠ 2073 → p ≠ 2075 → ¬ (2224 ≤ p ∧ p < 2296) → ¬ (2440 + 36 * (i : Int) ≤ p ∧ p < 2440 + 36 * (i : Int) + 36) → s1 p = s' p := fun p p0 p1 p2 p3 => o1 p p0 p1 p2 (fun g => p3 (by unfold iT at g; omega))
          refine ih (i + 1) A1 s1 _ (by omega) (sN_tr hA k1) r1 (fun p p0 => by rw [o2 p (by omega) (by omega) (by omega) (by omega)]; exact lw p p0) (by rw [o2 _ (by decide) (by decide) (by omega) (by omega)]; exact v6) (fun i' j' i0 j0 => (o2 _ (by omega) (by omega) (by omega) (by omega)).trans (vX i' j' i0 j0)) (fun i' j' i0 j0 => (o2 _ (by omega) (by omega) (by omega) (by omega)).trans (vY i' j' i0 j0)) (fun l hl => ?_)
          rcases Nat.lt_or_ge l i with g | g
          · intro i' j' i0 j0
            exact (o2 _ (by omega) (by omega) (by omega) (by omega)).trans (vM l g i' j' i0 j0)
          · have e : l = i := by omega
            subst e
            rw [eA, eD]
            exact mQ_tr q1 (cg _)
    have cols : ∀ (d j : Nat) (A' : Nat → Int → Int) (s' : Int → Int) (u3 : Option eV), j + d = n → sN A A' → rn (A' 0) s' → (∀ p, p < 2070 → s' p = s p) → s' 2076 = D → (∀ i l : Nat, i < n → l < j → s' (2080 + 6 * i + l) = X i l ∧ s' (2116 + 6 * i + l) = Y i l) → K 126 [some eRR, some (eI n), some (eI j), u3, u4] [] (cR F A') := by
      intro d
      induction d with
      | zero =>
        intro j A' s' u3 hj hA hr' lw v6 vC
        have e : j = n := by omega
        subst e
        refine x_iload_n hK kX10_tables_126 (q := 127) rfl rfl ?_
        refine x_iload_n hK kX10_tables_127 (q := 128) rfl rfl ?_
        refine x_icmp_ge hK kX10_tables_128 (q := 131) rfl (tg := 199) rfl (by refine ⟨?_, ?_⟩ <;> omega) (fun c128 => ?_) (fun c128 => ?_)
        · refine x_iconst hK kX10_tables_199 (q := 200) rfl ?_
          refine x_istore_n hK kX10_tables_200 (q := 201) (jn := 2) rfl rfl ?_
          simp only [lS, lS2, clr_0, clr_I, clr_L, clr_R]
          exact pws j 0 A' s' _ (by omega) hA hr' lw v6 (fun i l hi hl => (vC i l hi hl).1) (fun i l hi hl => (vC i l hi hl).2) (fun l hl => by omega)
        · exfalso; omega
      | succ d ih =>
        intro j A' s' u3 hj hA hr' lw v6 vC
        have wj : w32 (j : Int) := by constructor <;> omega
        have hjn : j < n := by omega
        have st := hst j hjn
        have st2 : ∀ i : Nat, i < n → 0 ≤ A 18 i ∧ A 18 i < 45 := fun i hi => by have := hst i hi; omega
        obtain ⟨m0, m1, m2, m3, m4⟩ := mv_h st
        have k0 := m4 0 (by decide) (by decide)
        have k1 := m4 1 (by decide) (by decide)
        have ex : mN (mX (A 18 j) + 1) (mY (A 18 j)) = mv (A 18) j 0 := by unfold mv; rw [Int.sub_zero, Int.add_zero]
        have ey : mN (mX (A 18 j)) (mY (A 18 j) + 1) = mv (A 18) j 1 := by unfold mv; rw [show mX (A 18 j) + 1 - 1 = mX (A 18 j) by omega]
        -- the room of a column
        have rm : ∀ (w : Int) (s1 : Int → Int), (w = 0 ∨ w = 1) → (∀ p, p < 2070 → s1 p = s p) → s1 2076 = D → mB n (xT (A 15) s (A 18) D w) U → A 15 (mv (A 18) j w) ≠ 0 → s1 2076 = s1 (45 * mv (A 18) j w + mv (A 18) j w) * (D / s (45 * mv (A 18) j w + mv (A 18) j w)) ∧ s1 (45 * mv (A 18) j w + mv (A 18) j w) ≠ 0 ∧ ∀ i : Nat, i < n → zAbs (s1 (45 * mv (A 18) j w + A 18 i)) * zAbs (D / s (45 * mv (A 18) j w + mv (A 18) j w)) < bB ^ 598 := by
          intro w s1 hw lw1 v61 hb hk
          have m5 := m4 w (by omega) (by omega)
          have g1 := hΔ j hjn w hw hk
          have g2 := d2 j hjn w hw hk
          rw [lw1 (45 * mv (A 18) j w + mv (A 18) j w) (by omega), v61]
          refine ⟨(Int.mul_ediv_cancel' g2).symm, by omega, fun i hi => ?_⟩
          have g3 := st2 i hi
          rw [lw1 (45 * mv (A 18) j w + A 18 i) (by omega), ← zAbs_x]
          have g4 := hb i j hi hjn
          unfold xT at g4
          rw [if_neg hk] at g4
          have g5 : ∀ x : Int, zAbs (-x) = zAbs x := fun x => by unfold zAbs; split <;> split <;> omega
          rw [g5] at g4
          omega
        refine x_iload_n hK kX10_tables_126 (q := 127) rfl rfl ?_
        refine x_iload_n hK kX10_tables_127 (q := 128) rfl rfl ?_
        refine x_icmp_ge hK kX10_tables_128 (q := 131) rfl (tg := 199) rfl (by exact ⟨wj, wn⟩) (fun c128 => ?_) (fun c128 => ?_)
        · exfalso; omega
        · refine x_aload_n hK kX10_tables_131 (q := 132) rfl rfl ?_
          refine x_sipush hK kX10_tables_132 (q := 135) rfl (by decide) ?_
          refine x_iload_n hK kX10_tables_135 (q := 136) rfl rfl ?_
          refine x_aload_n hK kX10_tables_136 (q := 137) rfl rfl ?_
          refine x_getfield hK kX10_tables_137 (q := 140) rfl (gX10_52 ?_)
          refine x_iload_n hK kX10_tables_140 (q := 141) rfl rfl ?_
          refine x_iaload hK kX10_tables_141 (q := 142) rfl (aX10_A18 (by refine ⟨?_, ?_⟩ <;> omega) ?_)
          rw [hA 18 (by decide)]
          refine x_cs1 hK kX10_tables_142 (q := 145) rfl (stX10_tables_142) (Nat.le_of_ble_eq_true rfl) ?_
          refine SX10_xOf_i (by omega) ?_
          refine x_iconst hK kX10_tables_145 (q := 146) rfl ?_
          refine x_iadd hK kX10_tables_146 (q := 147) rfl ?_
          refine x_aload_n hK kX10_tables_147 (q := 148) rfl rfl ?_
          refine x_getfield hK kX10_tables_148 (q := 151) rfl (gX10_52 ?_)
          refine x_iload_n hK kX10_tables_151 (q := 152) rfl rfl ?_
          refine x_iaload hK kX10_tables_152 (q := 153) rfl (aX10_A18 (by refine ⟨?_, ?_⟩ <;> omega) ?_)
          rw [hA 18 (by decide)]
          refine x_cs1 hK kX10_tables_153 (q := 156) rfl (stX10_tables_145) (Nat.le_of_ble_eq_true rfl) ?_
          refine SX10_yOf_i (by omega) ?_
          refine x_cs2 hK kX10_tables_156 (q := 159) rfl (stX10_tables_185) (Nat.le_of_ble_eq_true rfl) ?_
          refine SX10_monomial_i (by omega) ?_
          rw [ex]
          refine x_cv4 hK kX10_tables_159 (q := 162) rfl (vtX10_tables_239) (Nat.le_of_ble_eq_true rfl) ?_
          refine SX10_column_i (D / s (45 * mv (A 18) j 0 + mv (A 18) j 0)) hr' hF hn (by omega) (by decide) k0 (by rw [hA 15 (by decide)]; exact hh _) (by rw [hA 18 (by decide)]; exact st2) (by rw [hA 15 (by decide), hA 18 (by decide)]; exact rm 0 s' (Or.inl rfl) lw v6 (by rw [hX]; exact bX)) (fun A1 s1 j1 r1 q1 o1 => ?_)
          rw [hA 15 (by decide), hA 18 (by decide)] at q1
          have lw1 : ∀ p, p < 2070 → s1 p = s p := fun p p0 => by rw [o1 p (by omega) (fun i hi => by omega)]; exact lw p p0
          have v61 : s1 2076 = D := by rw [o1 _ (by decide) (fun i hi => by omega)]; exact v6
          refine x_aload_n hK kX10_tables_162 (q := 163) rfl rfl ?_
          refine x_sipush hK kX10_tables_163 (q := 166) rfl (by decide) ?_
          refine x_iload_n hK kX10_tables_166 (q := 167) rfl rfl ?_
          refine x_aload_n hK kX10_tables_167 (q := 168) rfl rfl ?_
          refine x_getfield hK kX10_tables_168 (q := 171) rfl (gX10_52 ?_)
          refine x_iload_n hK kX10_tables_171 (q := 172) rfl rfl ?_
          refine x_iaload hK kX10_tables_172 (q := 173) rfl (aX10_A18 (by refine ⟨?_, ?_⟩ <;> omega) ?_)
          rw [j1 18 (by decide), hA 18 (by decide)]
          refine x_cs1 hK kX10_tables_173 (q := 176) rfl (stX10_tables_142) (Nat.le_of_ble_eq_true rfl) ?_
          refine SX10_xOf_i (by omega) ?_
          refine x_aload_n hK kX10_tables_176 (q := 177) rfl rfl ?_
          refine x_getfield hK kX10_tables_177 (q := 180) rfl (gX10_52 ?_)
          refine x_iload_n hK kX10_tables_180 (q := 181) rfl rfl ?_
          refine x_iaload hK kX10_tables_181 (q := 182) rfl (aX10_A18 (by refine ⟨?_, ?_⟩ <;> omega) ?_)
          rw [j1 18 (by decide), hA 18 (by decide)]
          refine x_cs1 hK kX10_tables_182 (q := 185) rfl (stX10_tables_145) (Nat.le_of_ble_eq_true rfl) ?_
          refine SX10_yOf_i (by omega) ?_
          refine x_iconst hK kX10_tables_185 (q := 186) rfl ?_
          refine x_iadd hK kX10_tables_186 (q := 187) rfl ?_
          refine x_cs2 hK kX10_tables_187 (q := 190) rfl (stX10_tables_185) (Nat.le_of_ble_eq_true rfl) ?_
          refine SX10_monomial_i (by omega) ?_
          rw [ey]
          refine x_cv4 hK kX10_tables_190 (q := 193) rfl (vtX10_tables_239) (Nat.le_of_ble_eq_true rfl) ?_
          refine SX10_column_i (D / s (45 * mv (A 18) j 1 + mv (A 18) j 1)) r1 hF hn (by omega) (by decide) k1 (by rw [j1 15 (by decide), hA 15 (by decide)]; exact hh _) (by rw [j1 18 (by decide), hA 18 (by decide)]; exact st2) (by rw [j1 15 (by decide), j1 18 (by decide), hA 15 (by decide), hA 18 (by decide)]; exact rm 1 s1 (Or.inr rfl) lw1 v61 (by rw [hY]; exact bY)) (fun A2 s2 j2 r2 q2 o2 => ?_)
          rw [j1 15 (by decide), j1 18 (by decide), hA 15 (by decide), hA 18 (by decide)] at q2
          refine x_iinc hK kX10_tables_193 (q := 196) rfl rfl ?_
          simp only [lS, lS2, clr_0, clr_I, clr_L, clr_R]
          refine x_goto hK kX10_tables_196 (tg := 126) rfl ?_
          rw [show (j : Int) + 1 = ((j + 1 : Nat) : Int) by omega]
          refine ih (j + 1) A2 s2 _ (by omega) (sN_tr hA (sN_tr j1 j2)) r2 (fun p p0 => by rw [o2 p (by omega) (fun i hi => by omega)]; exact lw1 p p0) (by rw [o2 _ (by decide) (fun i hi => by omega)]; exact v61) (fun i l hi hl => ?_)
          rcases Nat.lt_or_ge l j with g | g
          · have g2 := vC i l hi g
            refine ⟨?_, ?_⟩
            · rw [o2 _ (by omega) (fun i2 hi2 => by omega), o1 _ (by omega) (fun i2 hi2 => by omega)]; exact g2.1
            · rw [o2 _ (by omega) (fun i2 hi2 => by omega), o1 _ (by omega) (fun i2 hi2 => by omega)]; exact g2.2
          · have e : l = j := by omega
            subst e
            refine ⟨?_, ?_⟩
            · rw [o2 _ (by omega) (fun i2 hi2 => by omega), q1 i hi, xT_c lw v6 k0 (st2 i hi), hX]
            · rw [q2 i hi, xT_c lw1 v61 k1 (st2 i hi), hY]
    exact fun A' s' u3 hA hr' lw v6 => cols n 0 A' s' u3 (by omega) hA hr' lw v6 (fun i l hi hl => by omega)
  -- the denominator
  have stp : ∀ (j : Nat) (w E : Int) (A' : Nat → Int → Int) (s' : Int → Int) (u4 : Option eV), j < n → (w = 0 ∨ w = 1) → sN A A' → rn (A' 0) s' → (∀ p, p < 2070 → s' p = s p) → s' 2076 = E → 0 < E → E ∣ Δ → (∀ (A'' : Nat → Int → Int) (s'' : Int → Int) (u4 : Option eV), sN A A'' → rn (A'' 0) s'' → (∀ p, p < 2070 → s'' p = s p) → s'' 2076 = dnS (A 15) s (mv (A 18) j w) E → K 112 [some eRR, some (eI n), some (eI j), some (eI w), u4] [] (cR F A'')) → K 27 [some eRR, some (eI n), some (eI j), some (eI w), u4] [] (cR F A') := by
    intro j w E A' s' u4 hj hw hA hr' lw v6 hE hEd hf
    have st := hst j hj
    obtain ⟨m0, m1, m2, m3, m4⟩ := mv_h st
    have m5 := m4 w (by omega) (by omega)
    have wh : w32 (A 15 (mv (A 18) j w)) := by rcases hh (mv (A 18) j w) with e | e <;> rw [e] <;> decide
    have em : mN (mX (A 18 j) + 1 - w) (mY (A 18 j) + w) = mv (A 18) j w := rfl
    have hEU := hDle E hE hEd
    obtain ⟨k, hk⟩ : ∃ k, mv (A 18) j w = k := ⟨_, rfl⟩
    have g1 := hΔ j hj w hw
    rw [hk] at em m5 wh g1 hf
    refine x_aload_n hK kX10_tables_27 (q := 28) rfl rfl ?_
    refine x_getfield hK kX10_tables_28 (q := 31) rfl (gX10_52 ?_)
    refine x_iload_n hK kX10_tables_31 (q := 32) rfl rfl ?_
    refine x_iaload hK kX10_tables_32 (q := 33) rfl (aX10_A18 (by refine ⟨?_, ?_⟩ <;> omega) ?_)
    rw [hA 18 (by decide)]
    refine x_cs1 hK kX10_tables_33 (q := 36) rfl (stX10_tables_142) (Nat.le_of_ble_eq_true rfl) ?_
    refine SX10_xOf_i (by omega) ?_
    refine x_iconst hK kX10_tables_36 (q := 37) rfl ?_
    refine x_iadd hK kX10_tables_37 (q := 38) rfl ?_
    refine x_iload_n hK kX10_tables_38 (q := 39) rfl rfl ?_
    refine x_isub hK kX10_tables_39 (q := 40) rfl ?_
    refine x_aload_n hK kX10_tables_40 (q := 41) rfl rfl ?_
    refine x_getfield hK kX10_tables_41 (q := 44) rfl (gX10_52 ?_)
    refine x_iload_n hK kX10_tables_44 (q := 45) rfl rfl ?_
    refine x_iaload hK kX10_tables_45 (q := 46) rfl (aX10_A18 (by refine ⟨?_, ?_⟩ <;> omega) ?_)
    rw [hA 18 (by decide)]
    refine x_cs1 hK kX10_tables_46 (q := 49) rfl (stX10_tables_145) (Nat.le_of_ble_eq_true rfl) ?_
    refine SX10_yOf_i (by omega) ?_
    refine x_iload_n hK kX10_tables_49 (q := 50) rfl rfl ?_
    refine x_iadd hK kX10_tables_50 (q := 51) rfl ?_
    refine x_cs2 hK kX10_tables_51 (q := 54) rfl (stX10_tables_185) (Nat.le_of_ble_eq_true rfl) ?_
    refine SX10_monomial_i (by omega) ?_
    rw [em]
    refine x_istore hK kX10_tables_54 (q := 56) rfl ?_
    refine x_aload_n hK kX10_tables_56 (q := 57) rfl rfl ?_
    refine x_getfield hK kX10_tables_57 (q := 60) rfl (gX10_45 ?_)
    refine x_iload hK kX10_tables_60 (q := 62) rfl rfl ?_
    refine x_baload hK kX10_tables_62 (q := 63) rfl (aX10_A15 (by refine ⟨?_, ?_⟩ <;> omega) ?_)
    simp only [lS, lS2, clr_0, clr_I, clr_L, clr_R]
    rw [hA 15 (by decide)]
    refine x_if_eq hK kX10_tables_63 (q := 66) rfl (tg := 112) rfl (by exact wh) (fun c63 => ?_) (fun c63 => ?_)
    · refine hf A' s' _ hA hr' lw ?_
      unfold dnS
      rw [if_pos c63]
      exact v6
    · refine x_aload_n hK kX10_tables_66 (q := 67) rfl rfl ?_
      refine x_sipush hK kX10_tables_67 (q := 70) rfl (by decide) ?_
      refine x_sipush hK kX10_tables_70 (q := 73) rfl (by decide) ?_
      refine x_iload hK kX10_tables_73 (q := 75) rfl rfl ?_
      refine x_cs1 hK kX10_tables_75 (q := 78) rfl (stX10_tables_158) (Nat.le_of_ble_eq_true rfl) ?_
      refine SX10_row_i ?_
      refine x_iload hK kX10_tables_78 (q := 80) rfl rfl ?_
      refine x_iadd hK kX10_tables_80 (q := 81) rfl ?_
      refine x_cv4 hK kX10_tables_81 (q := 84) rfl (vtX10_tables_148) (Nat.le_of_ble_eq_true rfl) ?_
      obtain ⟨g2, g3⟩ := g1 c63
      have g4 := hDle _ g2 g3
      have v1 := lw (45 * k + k) (by omega)
      obtain ⟨c0, c1, c2, c3⟩ := lcm_h hE g2 hEd g3
      have g5 := hDle _ c0 c1
      have g6 : 0 < (Int.gcd E (s (45 * k + k)) : Int) := by
        have := Int.gcd_pos_of_ne_zero_left (s (45 * k + k)) (show E ≠ 0 by omega)
        omega
      have g7 : E = (Int.gcd E (s (45 * k + k)) : Int) * (E / (Int.gcd E (s (45 * k + k)) : Int)) := (Int.mul_ediv_cancel' (Int.gcd_dvd_left ..)).symm
      refine SX10_divisor_n hr' (by decide) (by decide) (by omega) (by rw [v6, v1, zAbs_nn (by omega), zAbs_nn (by omega)]; constructor <;> omega) (fun A1 k1 r1 => ?_)
      rw [v6, v1] at r1
      refine x_aload_n hK kX10_tables_84 (q := 85) rfl rfl ?_
      refine x_sipush hK kX10_tables_85 (q := 88) rfl (by decide) ?_
      refine x_sipush hK kX10_tables_88 (q := 91) rfl (by decide) ?_
      refine x_cv3 hK kX10_tables_91 (q := 94) rfl (vtX10_tables_155) (Nat.le_of_ble_eq_true rfl) ?_
      refine SX10_over_n (E / (Int.gcd E (s (45 * k + k)) : Int)) r1 (by decide) (by decide) (by rw [uI_s, uI_n _ _ (by decide), v6]; exact g7) (by rw [uI_s]; omega) (fun A2 k2 r2 => ?_)
      refine x_aload_n hK kX10_tables_94 (q := 95) rfl rfl ?_
      refine x_sipush hK kX10_tables_95 (q := 98) rfl (by decide) ?_
      refine x_sipush hK kX10_tables_98 (q := 101) rfl (by decide) ?_
      refine x_iload hK kX10_tables_101 (q := 103) rfl rfl ?_
      refine x_cs1 hK kX10_tables_103 (q := 106) rfl (stX10_tables_158) (Nat.le_of_ble_eq_true rfl) ?_
      refine SX10_row_i ?_
      refine x_iload hK kX10_tables_106 (q := 108) rfl rfl ?_
      refine x_iadd hK kX10_tables_108 (q := 109) rfl ?_
      refine x_cv4 hK kX10_tables_109 (q := 112) rfl (vtX10_tables_161) (Nat.le_of_ble_eq_true rfl) ?_
      refine SX10_times_n r2 (by decide) (by decide) (by omega) (by rw [uI_s, uI_n _ _ (by omega), uI_n _ _ (by omega), v1, ← zAbs_x, zAbs_nn (by omega)]; omega) (fun A3 k3 r3 => ?_)
      rw [uI_s, uI_n _ _ (show 45 * k + k ≠ 2076 by omega), uI_n _ _ (show 45 * k + k ≠ 2070 by omega), v1] at r3
      refine hf A3 _ _ (sN_tr hA (sN_tr k1 (sN_tr k2 k3))) r3 (fun p p0 => ?_) ?_
      · rw [uI_n _ _ (by omega), uI_n _ _ (by omega), uI_n _ _ (by omega)]
        exact lw p p0
      · rw [uI_s]
        unfold dnS
        rw [if_neg c63]
  have den : ∀ (d j : Nat) (A' : Nat → Int → Int) (s' : Int → Int) (u3 u4 : Option eV), j + d = n → sN A A' → rn (A' 0) s' → (∀ p, p < 2070 → s' p = s p) → s' 2076 = dnF (A 15) s (A 18) j → K 15 [some eRR, some (eI n), some (eI j), u3, u4] [] (cR F A') := by
    intro d
    induction d with
    | zero =>
      intro j A' s' u3 u4 hj hA hr' lw v6
      have e : j = n := by omega
      subst e
      refine x_iload_n hK kX10_tables_15 (q := 16) rfl rfl ?_
      refine x_iload_n hK kX10_tables_16 (q := 17) rfl rfl ?_
      refine x_icmp_ge hK kX10_tables_17 (q := 20) rfl (tg := 124) rfl (by refine ⟨?_, ?_⟩ <;> omega) (fun c17 => ?_) (fun c17 => ?_)
      · refine x_iconst hK kX10_tables_124 (q := 125) rfl ?_
        refine x_istore_n hK kX10_tables_125 (q := 126) (jn := 2) rfl rfl ?_
        simp only [lS, lS2, clr_0, clr_I, clr_L, clr_R]
        exact rest _ A' s' _ hA hr' lw (v6.trans hD)
      · exfalso; omega
    | succ d ih =>
      intro j A' s' u3 u4 hj hA hr' lw v6
      have wj : w32 (j : Int) := by constructor <;> omega
      obtain ⟨f0, f1, -⟩ := dnF_h (hs := A 15) (s := s) (st := A 18) (n := j) (Δ := Δ) (fun l hl => hΔ l (by omega))
      obtain ⟨f2, f3, -, -⟩ := dnS_h (k := mv (A 18) j 0) f0 f1 (hΔ j (by omega) 0 (Or.inl rfl))
      have last : ∀ (A2 : Nat → Int → Int) (s2 : Int → Int) (u4 : Option eV), sN A A2 → rn (A2 0) s2 → (∀ p, p < 2070 → s2 p = s p) → s2 2076 = dnS (A 15) s (mv (A 18) j 1) (dnS (A 15) s (mv (A 18) j 0) (dnF (A 15) s (A 18) j)) → K 112 [some eRR, some (eI n), some (eI j), some (eI 1), u4] [] (cR F A2) := by
        intro A2 s2 u4 k4 k5 k6 k7
        refine x_iinc hK kX10_tables_112 (q := 115) rfl rfl ?_
        simp only [lS, lS2, clr_0, clr_I, clr_L, clr_R]
        refine x_goto hK kX10_tables_115 (tg := 22) rfl ?_
        refine x_iload_n hK kX10_tables_22 (q := 23) rfl rfl ?_
        refine x_iconst hK kX10_tables_23 (q := 24) rfl ?_
        refine x_icmp_ge hK kX10_tables_24 (q := 27) rfl (tg := 118) rfl (by refine ⟨?_, ?_⟩ <;> omega) (fun c24 => ?_) (fun c24 => ?_)
        · refine x_iinc hK kX10_tables_118 (q := 121) rfl rfl ?_
          simp only [lS, lS2, clr_0, clr_I, clr_L, clr_R]
          refine x_goto hK kX10_tables_121 (tg := 15) rfl ?_
          rw [show (j : Int) + 1 = ((j + 1 : Nat) : Int) by omega]
          exact ih (j + 1) A2 s2 _ _ (by omega) k4 k5 k6 k7
        · exfalso; omega
      have mid : ∀ (A1 : Nat → Int → Int) (s1 : Int → Int) (u4 : Option eV), sN A A1 → rn (A1 0) s1 → (∀ p, p < 2070 → s1 p = s p) → s1 2076 = dnS (A 15) s (mv (A 18) j 0) (dnF (A 15) s (A 18) j) → K 112 [some eRR, some (eI n), some (eI j), some (eI 0), u4] [] (cR F A1) := by
        intro A1 s1 u4 k1 k2 k3 k4
        refine x_iinc hK kX10_tables_112 (q := 115) rfl rfl ?_
        simp only [lS, lS2, clr_0, clr_I, clr_L, clr_R]
        refine x_goto hK kX10_tables_115 (tg := 22) rfl ?_
        refine x_iload_n hK kX10_tables_22 (q := 23) rfl rfl ?_
        refine x_iconst hK kX10_tables_23 (q := 24) rfl ?_
        refine x_icmp_ge hK kX10_tables_24 (q := 27) rfl (tg := 118) rfl (by refine ⟨?_, ?_⟩ <;> omega) (fun c24 => ?_) (fun c24 => ?_)
        · exfalso; omega
        · exact stp j 1 _ A1 s1 _ (by omega) (Or.inr rfl) k1 k2 k3 k4 f2 f3 last
      refine x_iload_n hK kX10_tables_15 (q := 16) rfl rfl ?_
      refine x_iload_n hK kX10_tables_16 (q := 17) rfl rfl ?_
      refine x_icmp_ge hK kX10_tables_17 (q := 20) rfl (tg := 124) rfl (by exact ⟨wj, wn⟩) (fun c17 => ?_) (fun c17 => ?_)
      · exfalso; omega
      · refine x_iconst hK kX10_tables_20 (q := 21) rfl ?_
        refine x_istore_n hK kX10_tables_21 (q := 22) (jn := 3) rfl rfl ?_
        refine x_iload_n hK kX10_tables_22 (q := 23) rfl rfl ?_
        refine x_iconst hK kX10_tables_23 (q := 24) rfl ?_
        simp only [lS, lS2, clr_0, clr_I, clr_L, clr_R]
        refine x_icmp_ge hK kX10_tables_24 (q := 27) rfl (tg := 118) rfl (by refine ⟨?_, ?_⟩ <;> omega) (fun c24 => ?_) (fun c24 => ?_)
        · exfalso; omega
        · exact stp j 0 _ A' s' _ (by omega) (Or.inl rfl) hA hr' lw v6 f0 f1 mid
  simp only [eLoc, eE, List.length_cons, List.length_nil, List.replicate, List.cons_append, List.nil_append, Nat.reduceAdd, Nat.reduceSub]
  refine x_aload_n hK kX10_tables_0 (q := 1) rfl rfl ?_
  refine x_getfield hK kX10_tables_1 (q := 4) rfl (gX10_223 ?_)
  rw [hF]
  refine x_istore_n hK kX10_tables_4 (q := 5) (jn := 1) rfl rfl ?_
  refine x_aload_n hK kX10_tables_5 (q := 6) rfl rfl ?_
  refine x_sipush hK kX10_tables_6 (q := 9) rfl (by decide) ?_
  refine x_lconst1 hK kX10_tables_9 (q := 10) rfl ?_
  simp only [lS, lS2, clr_0, clr_I, clr_L, clr_R]
  refine x_cv3 hK kX10_tables_10 (q := 13) rfl (vtX10_tables_132) (Nat.le_of_ble_eq_true rfl) ?_
  refine SX10_set_n hr (by decide) (by decide) (fun A1 k1 r1 => ?_)
  refine x_iconst hK kX10_tables_13 (q := 14) rfl ?_
  refine x_istore_n hK kX10_tables_14 (q := 15) (jn := 2) rfl rfl ?_
  simp only [lS, lS2, clr_0, clr_I, clr_L, clr_R]
  exact den n 0 A1 _ _ _ (by omega) k1 r1 (fun p p0 => uI_n _ _ (by omega)) (uI_s _ _ _)
set_option maxRecDepth 20000 in
theorem mX10_tables : eMet yX10_tables cX10_tables 5 none 6 156 SX10_tables := eMet_of (by decide +kernel) sX10_tables kX10_tables_ok caX10_tables tb_RX10
theorem wX10_tables : eWV yX10_tables cX10_tables 5 none 1 9 SX10_tables := ⟨(gW_at 1212 (by decide +kernel) rfl), (gW_at 89 (by decide +kernel) rfl), (gW_at 1211 (by decide +kernel) rfl), ⟨_, rfl, (gW_at 62 (by decide +kernel) rfl)⟩, by decide +kernel, SX10_tables_r⟩
