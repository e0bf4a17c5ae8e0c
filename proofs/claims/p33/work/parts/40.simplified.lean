/-! ===== the law: simplified ===== -/
/-! blocks of Law_simplified -/
theorem ml_Law_simplified : (g_m Law_simplified).2.2.1 = 14 := rfl
theorem rt_Law_simplified : (g_m Law_simplified).2.2.2.1 = (some .boolean) := rfl
theorem B_Law_simplified_0 {d mc ms cs ss : Nat} {L : List (Option Value)} {st : List Value} {h : g_H} {Q : g_Po} (hw : g_wp Law_simplified d mc ms Q 5 [(0, 1, 0, 0, 0, 0, .iload_n 1), (1, 1, 0, 0, 0, 0, .aload_n 0), (2, 3, 83, 6, 2048, 0, .invokevirtual 29)] cs ss L st h) : G Law_simplified d mc ms cs ss 0 L st h Q := G.run (by decide +kernel) hw
theorem B_Law_simplified_5 {d mc ms cs ss : Nat} {L : List (Option Value)} {st : List Value} {h : g_H} {Q : g_Po} (hw : g_wp Law_simplified d mc ms Q 8 [(5, 3, 97, 0, 2125, 2, .invokestatic 33)] cs ss L st h) : G Law_simplified d mc ms cs ss 5 L st h Q := G.run (by decide +kernel) hw
theorem B_Law_simplified_8 {d mc ms cs ss : Nat} {L : List (Option Value)} {st : List Value} {h : g_H} {Q : g_Po} (hw : g_wp Law_simplified d mc ms Q 16 [(8, 1, 0, 0, 0, 0, .istore_n 2), (9, 1, 0, 0, 0, 0, .iload_n 1), (10, 1, 0, 0, 0, 4, .iconst 4), (11, 1, 0, 0, 0, 0, .ishr), (12, 1, 0, 0, 0, 4, .iconst 4), (13, 3, 97, 0, 2125, 2, .invokestatic 33)] cs ss L st h) : G Law_simplified d mc ms cs ss 8 L st h Q := G.run (by decide +kernel) hw
theorem B_Law_simplified_16 {d mc ms cs ss : Nat} {L : List (Option Value)} {st : List Value} {h : g_H} {Q : g_Po} (hw : g_wp Law_simplified d mc ms Q 19 [(16, 3, 32, 0, 0, 0, .ifCond .ne 16)] cs ss L st h) : G Law_simplified d mc ms cs ss 16 L st h Q := G.run (by decide +kernel) hw
theorem B_Law_simplified_19 {d mc ms cs ss : Nat} {L : List (Option Value)} {st : List Value} {h : g_H} {Q : g_Po} (hw : g_wp Law_simplified d mc ms Q 29 [(19, 1, 0, 0, 0, 0, .iload_n 1), (20, 2, 0, 0, 0, 6, .bipush 6), (22, 1, 0, 0, 0, 0, .ishr), (23, 3, 0, 0, 0, 201, .sipush 201), (26, 3, 97, 0, 2125, 2, .invokestatic 33)] cs ss L st h) : G Law_simplified d mc ms cs ss 19 L st h Q := G.run (by decide +kernel) hw
theorem B_Law_simplified_29 {d mc ms cs ss : Nat} {L : List (Option Value)} {st : List Value} {h : g_H} {Q : g_Po} (hw : g_wp Law_simplified d mc ms Q 32 [(29, 3, 41, 0, 0, 0, .goto 12)] cs ss L st h) : G Law_simplified d mc ms cs ss 29 L st h Q := G.run (by decide +kernel) hw
theorem B_Law_simplified_32 {d mc ms cs ss : Nat} {L : List (Option Value)} {st : List Value} {h : g_H} {Q : g_Po} (hw : g_wp Law_simplified d mc ms Q 41 [(32, 1, 0, 0, 0, 0, .iload_n 1), (33, 2, 0, 0, 0, 6, .bipush 6), (35, 1, 0, 0, 0, 0, .ishr), (36, 2, 0, 0, 0, 20, .bipush 20), (38, 3, 97, 0, 2125, 2, .invokestatic 33)] cs ss L st h) : G Law_simplified d mc ms cs ss 32 L st h Q := G.run (by decide +kernel) hw
theorem B_Law_simplified_41 {d mc ms cs ss : Nat} {L : List (Option Value)} {st : List Value} {h : g_H} {Q : g_Po} (hw : g_wp Law_simplified d mc ms Q 61 [(41, 1, 0, 0, 0, 0, .istore_n 3), (42, 2, 0, 0, 0, 32, .bipush 32), (44, 2, 0, 32, 1054, 0, .newarray .int), (46, 2, 0, 0, 0, 0, .astore 4), (48, 2, 0, 0, 0, 32, .bipush 32), (50, 2, 0, 32, 1054, 0, .newarray .int), (52, 2, 0, 0, 0, 0, .astore 5), (54, 1, 0, 0, 0, 0, .aload_n 0), (55, 1, 0, 0, 0, 0, .iload_n 2), (56, 2, 0, 0, 0, 0, .aload 4), (58, 3, 98, 0, 2132, 3, .invokestatic 36)] cs ss L st h) : G Law_simplified d mc ms cs ss 41 L st h Q := G.run (by decide +kernel) hw
theorem B_Law_simplified_61 {d mc ms cs ss : Nat} {L : List (Option Value)} {st : List Value} {h : g_H} {Q : g_Po} (hw : g_wp Law_simplified d mc ms Q 69 [(61, 2, 0, 0, 0, 0, .istore 6), (63, 1, 0, 0, 0, 0, .aload_n 0), (64, 1, 0, 0, 0, 0, .iload_n 2), (65, 1, 0, 0, 0, 1, .iconst 1), (66, 3, 84, 6, 2052, 2, .invokevirtual 10)] cs ss L st h) : G Law_simplified d mc ms cs ss 61 L st h Q := G.run (by decide +kernel) hw
theorem B_Law_simplified_69 {d mc ms cs ss : Nat} {L : List (Option Value)} {st : List Value} {h : g_H} {Q : g_Po} (hw : g_wp Law_simplified d mc ms Q 73 [(69, 1, 0, 0, 0, 1, .iconst 1), (70, 3, 77, 0, 0, 0, .if_icmp .ne 7)] cs ss L st h) : G Law_simplified d mc ms cs ss 69 L st h Q := G.run (by decide +kernel) hw
theorem B_Law_simplified_73 {d mc ms cs ss : Nat} {L : List (Option Value)} {st : List Value} {h : g_H} {Q : g_Po} (hw : g_wp Law_simplified d mc ms Q 77 [(73, 1, 0, 0, 0, 1, .iconst 1), (74, 3, 78, 0, 0, 0, .goto 4)] cs ss L st h) : G Law_simplified d mc ms cs ss 73 L st h Q := G.run (by decide +kernel) hw
theorem B_Law_simplified_77 {d mc ms cs ss : Nat} {L : List (Option Value)} {st : List Value} {h : g_H} {Q : g_Po} (hw : g_wp Law_simplified d mc ms Q 78 [(77, 1, 0, 0, 0, 0, .iconst 0)] cs ss L st h) : G Law_simplified d mc ms cs ss 77 L st h Q := G.run (by decide +kernel) hw
theorem B_Law_simplified_78 {d mc ms cs ss : Nat} {L : List (Option Value)} {st : List Value} {h : g_H} {Q : g_Po} (hw : g_wp Law_simplified d mc ms Q 90 [(78, 2, 0, 0, 0, 0, .istore 7), (80, 2, 0, 0, 0, 0, .aload 4), (82, 2, 0, 0, 0, 0, .iload 6), (84, 2, 0, 0, 0, 0, .iload 7), (86, 1, 0, 0, 0, 0, .iload_n 3), (87, 3, 105, 0, 2177, 4, .invokestatic 61)] cs ss L st h) : G Law_simplified d mc ms cs ss 78 L st h Q := G.run (by decide +kernel) hw
theorem B_Law_simplified_90 {d mc ms cs ss : Nat} {L : List (Option Value)} {st : List Value} {h : g_H} {Q : g_Po} (hw : g_wp Law_simplified d mc ms Q 104 [(90, 2, 0, 0, 0, 0, .istore 8), (92, 1, 0, 0, 0, 2, .iconst 2), (93, 1, 0, 0, 0, 0, .iload_n 1), (94, 2, 0, 0, 0, 9, .bipush 9), (96, 1, 0, 0, 0, 0, .ishr), (97, 2, 0, 0, 0, 0, .iload 6), (99, 1, 0, 0, 0, 1, .iconst 1), (100, 1, 0, 0, 0, 0, .isub), (101, 3, 97, 0, 2125, 2, .invokestatic 33)] cs ss L st h) : G Law_simplified d mc ms cs ss 90 L st h Q := G.run (by decide +kernel) hw
theorem B_Law_simplified_104 {d mc ms cs ss : Nat} {L : List (Option Value)} {st : List Value} {h : g_H} {Q : g_Po} (hw : g_wp Law_simplified d mc ms Q 115 [(104, 1, 0, 0, 0, 0, .iadd), (105, 2, 0, 0, 0, 0, .istore 9), (107, 2, 0, 0, 0, (-6), .bipush (-6)), (109, 2, 0, 0, 0, 0, .istore 10), (111, 2, 0, 0, 0, 40, .bipush 40), (113, 2, 0, 0, 0, 0, .istore 11)] cs ss L st h) : G Law_simplified d mc ms cs ss 104 L st h Q := G.run (by decide +kernel) hw
theorem B_Law_simplified_115 {d mc ms cs ss : Nat} {L : List (Option Value)} {st : List Value} {h : g_H} {Q : g_Po} (hw : g_wp Law_simplified d mc ms Q 120 [(115, 2, 0, 0, 0, 0, .iload 11), (117, 3, 154, 0, 0, 0, .ifCond .lt 37)] cs ss L st h) : G Law_simplified d mc ms cs ss 115 L st h Q := G.run (by decide +kernel) hw
theorem B_Law_simplified_120 {d mc ms cs ss : Nat} {L : List (Option Value)} {st : List Value} {h : g_H} {Q : g_Po} (hw : g_wp Law_simplified d mc ms Q 131 [(120, 2, 0, 0, 0, 0, .aload 4), (122, 2, 0, 0, 0, 0, .iload 6), (124, 2, 0, 0, 0, 0, .iload 7), (126, 2, 0, 0, 0, 0, .iload 11), (128, 3, 105, 0, 2177, 4, .invokestatic 61)] cs ss L st h) : G Law_simplified d mc ms cs ss 120 L st h Q := G.run (by decide +kernel) hw
theorem B_Law_simplified_131 {d mc ms cs ss : Nat} {L : List (Option Value)} {st : List Value} {h : g_H} {Q : g_Po} (hw : g_wp Law_simplified d mc ms Q 134 [(131, 3, 106, 0, 2181, 1, .invokestatic 65)] cs ss L st h) : G Law_simplified d mc ms cs ss 131 L st h Q := G.run (by decide +kernel) hw
theorem B_Law_simplified_134 {d mc ms cs ss : Nat} {L : List (Option Value)} {st : List Value} {h : g_H} {Q : g_Po} (hw : g_wp Law_simplified d mc ms Q 139 [(134, 2, 0, 0, 0, 0, .iload 9), (136, 3, 144, 0, 0, 0, .if_icmp .gt 8)] cs ss L st h) : G Law_simplified d mc ms cs ss 134 L st h Q := G.run (by decide +kernel) hw
theorem B_Law_simplified_139 {d mc ms cs ss : Nat} {L : List (Option Value)} {st : List Value} {h : g_H} {Q : g_Po} (hw : g_wp Law_simplified d mc ms Q 144 [(139, 2, 0, 0, 0, 0, .iload 11), (141, 3, 146, 0, 0, 0, .goto 5)] cs ss L st h) : G Law_simplified d mc ms cs ss 139 L st h Q := G.run (by decide +kernel) hw
theorem B_Law_simplified_144 {d mc ms cs ss : Nat} {L : List (Option Value)} {st : List Value} {h : g_H} {Q : g_Po} (hw : g_wp Law_simplified d mc ms Q 146 [(144, 2, 0, 0, 0, 0, .iload 10)] cs ss L st h) : G Law_simplified d mc ms cs ss 144 L st h Q := G.run (by decide +kernel) hw
theorem B_Law_simplified_146 {d mc ms cs ss : Nat} {L : List (Option Value)} {st : List Value} {h : g_H} {Q : g_Po} (hw : g_wp Law_simplified d mc ms Q 154 [(146, 2, 0, 0, 0, 0, .istore 10), (148, 3, 0, 0, 0, (-1), .iinc 11 (-1)), (151, 3, 115, 0, 0, 0, .goto (-36))] cs ss L st h) : G Law_simplified d mc ms cs ss 146 L st h Q := G.run (by decide +kernel) hw
theorem B_Law_simplified_154 {d mc ms cs ss : Nat} {L : List (Option Value)} {st : List Value} {h : g_H} {Q : g_Po} (hw : g_wp Law_simplified d mc ms Q 161 [(154, 1, 0, 0, 0, 0, .aload_n 0), (155, 1, 0, 0, 0, 0, .iload_n 2), (156, 2, 0, 0, 0, 0, .iload 9), (158, 3, 90, 6, 2184, 2, .invokevirtual 68)] cs ss L st h) : G Law_simplified d mc ms cs ss 154 L st h Q := G.run (by decide +kernel) hw
theorem B_Law_simplified_161 {d mc ms cs ss : Nat} {L : List (Option Value)} {st : List Value} {h : g_H} {Q : g_Po} (hw : g_wp Law_simplified d mc ms Q 168 [(161, 2, 0, 0, 0, 0, .istore 11), (163, 2, 0, 0, 0, 0, .iload 10), (165, 3, 178, 0, 0, 0, .ifCond .lt 13)] cs ss L st h) : G Law_simplified d mc ms cs ss 161 L st h Q := G.run (by decide +kernel) hw
theorem B_Law_simplified_168 {d mc ms cs ss : Nat} {L : List (Option Value)} {st : List Value} {h : g_H} {Q : g_Po} (hw : g_wp Law_simplified d mc ms Q 175 [(168, 2, 0, 0, 0, 0, .iload 11), (170, 2, 0, 0, 0, 0, .iload 10), (172, 3, 207, 0, 0, 0, .if_icmp .eq 35)] cs ss L st h) : G Law_simplified d mc ms cs ss 168 L st h Q := G.run (by decide +kernel) hw
theorem B_Law_simplified_175 {d mc ms cs ss : Nat} {L : List (Option Value)} {st : List Value} {h : g_H} {Q : g_Po} (hw : g_wp Law_simplified d mc ms Q 178 [(175, 3, 205, 0, 0, 0, .goto 30)] cs ss L st h) : G Law_simplified d mc ms cs ss 175 L st h Q := G.run (by decide +kernel) hw
theorem B_Law_simplified_178 {d mc ms cs ss : Nat} {L : List (Option Value)} {st : List Value} {h : g_H} {Q : g_Po} (hw : g_wp Law_simplified d mc ms Q 183 [(178, 2, 0, 0, 0, 0, .iload 11), (180, 3, 190, 0, 0, 0, .ifCond .lt 10)] cs ss L st h) : G Law_simplified d mc ms cs ss 178 L st h Q := G.run (by decide +kernel) hw
theorem B_Law_simplified_183 {d mc ms cs ss : Nat} {L : List (Option Value)} {st : List Value} {h : g_H} {Q : g_Po} (hw : g_wp Law_simplified d mc ms Q 190 [(183, 2, 0, 0, 0, 0, .iload 11), (185, 2, 0, 0, 0, 40, .bipush 40), (187, 3, 205, 0, 0, 0, .if_icmp .le 18)] cs ss L st h) : G Law_simplified d mc ms cs ss 183 L st h Q := G.run (by decide +kernel) hw
theorem B_Law_simplified_190 {d mc ms cs ss : Nat} {L : List (Option Value)} {st : List Value} {h : g_H} {Q : g_Po} (hw : g_wp Law_simplified d mc ms Q 198 [(190, 2, 0, 0, 0, 0, .iload 11), (192, 3, 0, 0, 0, 200, .sipush 200), (195, 3, 205, 0, 0, 0, .if_icmp .gt 10)] cs ss L st h) : G Law_simplified d mc ms cs ss 190 L st h Q := G.run (by decide +kernel) hw
theorem B_Law_simplified_198 {d mc ms cs ss : Nat} {L : List (Option Value)} {st : List Value} {h : g_H} {Q : g_Po} (hw : g_wp Law_simplified d mc ms Q 205 [(198, 2, 0, 0, 0, 0, .iload 11), (200, 2, 0, 0, 0, (-6), .bipush (-6)), (202, 3, 207, 0, 0, 0, .if_icmp .ge 5)] cs ss L st h) : G Law_simplified d mc ms cs ss 198 L st h Q := G.run (by decide +kernel) hw
theorem B_Law_simplified_205 {d mc ms cs ss : Nat} {L : List (Option Value)} {st : List Value} {h : g_H} {Q : g_Po} (hw : g_wp Law_simplified d mc ms Q 207 [(205, 1, 0, 0, 0, 0, .iconst 0), (206, 1, 0, 0, 0, 0, .ireturn)] cs ss L st h) : G Law_simplified d mc ms cs ss 205 L st h Q := G.run (by decide +kernel) hw
theorem B_Law_simplified_207 {d mc ms cs ss : Nat} {L : List (Option Value)} {st : List Value} {h : g_H} {Q : g_Po} (hw : g_wp Law_simplified d mc ms Q 213 [(207, 1, 0, 0, 0, 0, .aload_n 0), (208, 1, 0, 0, 0, 0, .iload_n 2), (209, 1, 0, 0, 0, 0, .iload_n 3), (210, 3, 89, 6, 3001, 2, .invokevirtual 71)] cs ss L st h) : G Law_simplified d mc ms cs ss 207 L st h Q := G.run (by decide +kernel) hw
theorem B_Law_simplified_213 {d mc ms cs ss : Nat} {L : List (Option Value)} {st : List Value} {h : g_H} {Q : g_Po} (hw : g_wp Law_simplified d mc ms Q 218 [(213, 2, 0, 0, 0, 0, .iload 8), (215, 3, 106, 0, 2181, 1, .invokestatic 65)] cs ss L st h) : G Law_simplified d mc ms cs ss 213 L st h Q := G.run (by decide +kernel) hw
theorem B_Law_simplified_218 {d mc ms cs ss : Nat} {L : List (Option Value)} {st : List Value} {h : g_H} {Q : g_Po} (hw : g_wp Law_simplified d mc ms Q 221 [(218, 3, 269, 0, 0, 0, .if_icmp .ne 51)] cs ss L st h) : G Law_simplified d mc ms cs ss 218 L st h Q := G.run (by decide +kernel) hw
theorem B_Law_simplified_221 {d mc ms cs ss : Nat} {L : List (Option Value)} {st : List Value} {h : g_H} {Q : g_Po} (hw : g_wp Law_simplified d mc ms Q 227 [(221, 1, 0, 0, 0, 0, .aload_n 0), (222, 1, 0, 0, 0, 0, .iload_n 2), (223, 1, 0, 0, 0, 0, .iload_n 3), (224, 3, 71, 6, 3005, 2, .invokevirtual 74)] cs ss L st h) : G Law_simplified d mc ms cs ss 221 L st h Q := G.run (by decide +kernel) hw
theorem B_Law_simplified_227 {d mc ms cs ss : Nat} {L : List (Option Value)} {st : List Value} {h : g_H} {Q : g_Po} (hw : g_wp Law_simplified d mc ms Q 232 [(227, 2, 0, 0, 0, 0, .iload 8), (229, 3, 106, 0, 2181, 1, .invokestatic 65)] cs ss L st h) : G Law_simplified d mc ms cs ss 227 L st h Q := G.run (by decide +kernel) hw
theorem B_Law_simplified_232 {d mc ms cs ss : Nat} {L : List (Option Value)} {st : List Value} {h : g_H} {Q : g_Po} (hw : g_wp Law_simplified d mc ms Q 235 [(232, 3, 269, 0, 0, 0, .if_icmp .ne 37)] cs ss L st h) : G Law_simplified d mc ms cs ss 232 L st h Q := G.run (by decide +kernel) hw
theorem B_Law_simplified_235 {d mc ms cs ss : Nat} {L : List (Option Value)} {st : List Value} {h : g_H} {Q : g_Po} (hw : g_wp Law_simplified d mc ms Q 242 [(235, 1, 0, 0, 0, 0, .aload_n 0), (236, 1, 0, 0, 0, 0, .iload_n 2), (237, 2, 0, 0, 0, 0, .aload 5), (239, 3, 98, 0, 2132, 3, .invokestatic 36)] cs ss L st h) : G Law_simplified d mc ms cs ss 235 L st h Q := G.run (by decide +kernel) hw
theorem B_Law_simplified_242 {d mc ms cs ss : Nat} {L : List (Option Value)} {st : List Value} {h : g_H} {Q : g_Po} (hw : g_wp Law_simplified d mc ms Q 247 [(242, 2, 0, 0, 0, 0, .iload 8), (244, 3, 106, 0, 2181, 1, .invokestatic 65)] cs ss L st h) : G Law_simplified d mc ms cs ss 242 L st h Q := G.run (by decide +kernel) hw
theorem B_Law_simplified_247 {d mc ms cs ss : Nat} {L : List (Option Value)} {st : List Value} {h : g_H} {Q : g_Po} (hw : g_wp Law_simplified d mc ms Q 250 [(247, 3, 269, 0, 0, 0, .if_icmp .ne 22)] cs ss L st h) : G Law_simplified d mc ms cs ss 247 L st h Q := G.run (by decide +kernel) hw
theorem B_Law_simplified_250 {d mc ms cs ss : Nat} {L : List (Option Value)} {st : List Value} {h : g_H} {Q : g_Po} (hw : g_wp Law_simplified d mc ms Q 256 [(250, 1, 0, 0, 0, 0, .aload_n 0), (251, 1, 0, 0, 0, 0, .iload_n 2), (252, 1, 0, 0, 0, 1, .iconst 1), (253, 3, 84, 6, 2052, 2, .invokevirtual 10)] cs ss L st h) : G Law_simplified d mc ms cs ss 250 L st h Q := G.run (by decide +kernel) hw
theorem B_Law_simplified_256 {d mc ms cs ss : Nat} {L : List (Option Value)} {st : List Value} {h : g_H} {Q : g_Po} (hw : g_wp Law_simplified d mc ms Q 261 [(256, 2, 0, 0, 0, 0, .iload 7), (258, 3, 265, 0, 0, 0, .ifCond .eq 7)] cs ss L st h) : G Law_simplified d mc ms cs ss 256 L st h Q := G.run (by decide +kernel) hw
theorem B_Law_simplified_261 {d mc ms cs ss : Nat} {L : List (Option Value)} {st : List Value} {h : g_H} {Q : g_Po} (hw : g_wp Law_simplified d mc ms Q 265 [(261, 1, 0, 0, 0, 1, .iconst 1), (262, 3, 266, 0, 0, 0, .goto 4)] cs ss L st h) : G Law_simplified d mc ms cs ss 261 L st h Q := G.run (by decide +kernel) hw
theorem B_Law_simplified_265 {d mc ms cs ss : Nat} {L : List (Option Value)} {st : List Value} {h : g_H} {Q : g_Po} (hw : g_wp Law_simplified d mc ms Q 266 [(265, 1, 0, 0, 0, 0, .iconst 0)] cs ss L st h) : G Law_simplified d mc ms cs ss 265 L st h Q := G.run (by decide +kernel) hw
theorem B_Law_simplified_266 {d mc ms cs ss : Nat} {L : List (Option Value)} {st : List Value} {h : g_H} {Q : g_Po} (hw : g_wp Law_simplified d mc ms Q 269 [(266, 3, 271, 0, 0, 0, .if_icmp .eq 5)] cs ss L st h) : G Law_simplified d mc ms cs ss 266 L st h Q := G.run (by decide +kernel) hw
theorem B_Law_simplified_269 {d mc ms cs ss : Nat} {L : List (Option Value)} {st : List Value} {h : g_H} {Q : g_Po} (hw : g_wp Law_simplified d mc ms Q 271 [(269, 1, 0, 0, 0, 0, .iconst 0), (270, 1, 0, 0, 0, 0, .ireturn)] cs ss L st h) : G Law_simplified d mc ms cs ss 269 L st h Q := G.run (by decide +kernel) hw
theorem B_Law_simplified_271 {d mc ms cs ss : Nat} {L : List (Option Value)} {st : List Value} {h : g_H} {Q : g_Po} (hw : g_wp Law_simplified d mc ms Q 277 [(271, 1, 0, 0, 0, 0, .iconst 0), (272, 2, 0, 0, 0, 0, .istore 12), (274, 1, 0, 0, 0, 0, .iconst 0), (275, 2, 0, 0, 0, 0, .istore 13)] cs ss L st h) : G Law_simplified d mc ms cs ss 271 L st h Q := G.run (by decide +kernel) hw
theorem B_Law_simplified_277 {d mc ms cs ss : Nat} {L : List (Option Value)} {st : List Value} {h : g_H} {Q : g_Po} (hw : g_wp Law_simplified d mc ms Q 284 [(277, 2, 0, 0, 0, 0, .iload 13), (279, 2, 0, 0, 0, 0, .iload 6), (281, 3, 319, 0, 0, 0, .if_icmp .ge 38)] cs ss L st h) : G Law_simplified d mc ms cs ss 277 L st h Q := G.run (by decide +kernel) hw
theorem B_Law_simplified_284 {d mc ms cs ss : Nat} {L : List (Option Value)} {st : List Value} {h : g_H} {Q : g_Po} (hw : g_wp Law_simplified d mc ms Q 295 [(284, 2, 0, 0, 0, 0, .iload 8), (286, 2, 0, 0, 0, 0, .iload 13), (288, 1, 0, 0, 0, 0, .ishr), (289, 1, 0, 0, 0, 1, .iconst 1), (290, 1, 0, 0, 0, 0, .iand), (291, 1, 0, 0, 0, 1, .iconst 1), (292, 3, 313, 0, 0, 0, .if_icmp .ne 21)] cs ss L st h) : G Law_simplified d mc ms cs ss 284 L st h Q := G.run (by decide +kernel) hw
theorem B_Law_simplified_295 {d mc ms cs ss : Nat} {L : List (Option Value)} {st : List Value} {h : g_H} {Q : g_Po} (hw : g_wp Law_simplified d mc ms Q 311 [(295, 2, 0, 0, 0, 0, .aload 5), (297, 2, 0, 0, 0, 0, .iload 12), (299, 3, 0, 0, 0, 1, .iinc 12 1), (302, 1, 0, 0, 0, 0, .iaload), (303, 2, 0, 0, 0, 0, .aload 4), (305, 2, 0, 0, 0, 0, .iload 13), (307, 1, 0, 0, 0, 0, .iaload), (308, 3, 313, 0, 0, 0, .if_icmp .eq 5)] cs ss L st h) : G Law_simplified d mc ms cs ss 295 L st h Q := G.run (by decide +kernel) hw
theorem B_Law_simplified_311 {d mc ms cs ss : Nat} {L : List (Option Value)} {st : List Value} {h : g_H} {Q : g_Po} (hw : g_wp Law_simplified d mc ms Q 313 [(311, 1, 0, 0, 0, 0, .iconst 0), (312, 1, 0, 0, 0, 0, .ireturn)] cs ss L st h) : G Law_simplified d mc ms cs ss 311 L st h Q := G.run (by decide +kernel) hw
theorem B_Law_simplified_313 {d mc ms cs ss : Nat} {L : List (Option Value)} {st : List Value} {h : g_H} {Q : g_Po} (hw : g_wp Law_simplified d mc ms Q 319 [(313, 3, 0, 0, 0, 1, .iinc 13 1), (316, 3, 277, 0, 0, 0, .goto (-39))] cs ss L st h) : G Law_simplified d mc ms cs ss 313 L st h Q := G.run (by decide +kernel) hw
theorem B_Law_simplified_319 {d mc ms cs ss : Nat} {L : List (Option Value)} {st : List Value} {h : g_H} {Q : g_Po} (hw : g_wp Law_simplified d mc ms Q 321 [(319, 1, 0, 0, 0, 1, .iconst 1), (320, 1, 0, 0, 0, 0, .ireturn)] cs ss L st h) : G Law_simplified d mc ms cs ss 319 L st h Q := G.run (by decide +kernel) hw
theorem tolf_ok (S : Stk) (n : Int) : ∀ m t : Nat, (tolf S n m t = -6 ∧ ∀ i, t ≤ i → i < t + m → ¬ ((smpS S (i : Int)).1.length : Int) ≤ n) ∨ (∃ i : Nat, t ≤ i ∧ i < t + m ∧ tolf S n m t = i ∧ ((smpS S (i : Int)).1.length : Int) ≤ n ∧ ∀ j, t ≤ j → j < i → ¬ ((smpS S (j : Int)).1.length : Int) ≤ n) := by
  intro m
  induction m with
  | zero => intro t; exact Or.inl ⟨rfl, fun i h1 h2 => by omega⟩
  | succ m ih =>
    intro t
    unfold tolf
    by_cases c : ((smpS S (t : Int)).1.length : Int) ≤ n
    · rw [if_pos c]
      exact Or.inr ⟨t, Nat.le_refl _, by omega, rfl, c, fun j h1 h2 => by omega⟩
    · rw [if_neg c]
      rcases ih (t + 1) with ⟨h1, h2⟩ | ⟨i, h1, h2, h3, h4, h5⟩
      · refine Or.inl ⟨h1, fun i i1 i2 => ?_⟩
        by_cases e : i = t
        · rw [e]; exact c
        · exact h2 i (by omega) (by omega)
      · refine Or.inr ⟨i, by omega, by omega, h3, h4, fun j j1 j2 => ?_⟩
        by_cases e : j = t
        · rw [e]; exact c
        · exact h5 j (by omega) j2
/-- the least of the tolerances j to 40 that does -/
def nee (S : Stk) (n : Int) (j : Nat) (v : Int) : Prop := (v = -6 ∧ ∀ i : Nat, j ≤ i → i ≤ 40 → ¬ ((smpS S (i : Int)).1.length : Int) ≤ n) ∨ (∃ i : Nat, j ≤ i ∧ i ≤ 40 ∧ v = i ∧ ((smpS S (i : Int)).1.length : Int) ≤ n ∧ ∀ k : Nat, j ≤ k → k < i → ¬ ((smpS S (k : Int)).1.length : Int) ≤ n)
theorem nee.dn {S : Stk} {n v : Int} {j : Nat} (h : nee S n (j + 1) v) (hj : j ≤ 40) : nee S n j (if ((smpS S (j : Int)).1.length : Int) ≤ n then (j : Int) else v) := by
  by_cases c : ((smpS S (j : Int)).1.length : Int) ≤ n
  · rw [if_pos c]
    exact Or.inr ⟨j, Nat.le_refl _, hj, rfl, c, fun k k1 k2 => by omega⟩
  · rw [if_neg c]
    rcases h with ⟨h1, h2⟩ | ⟨i, h1, h2, h3, h4, h5⟩
    · refine Or.inl ⟨h1, fun i i1 i2 => ?_⟩
      by_cases e : i = j
      · rw [e]; exact c
      · exact h2 i (by omega) i2
    · refine Or.inr ⟨i, by omega, h2, h3, h4, fun k k1 k2 => ?_⟩
      by_cases e : k = j
      · rw [e]; exact c
      · exact h5 k (by omega) k2
theorem nee.tol {S : Stk} {n v : Int} (h : nee S n 0 v) : (0 ≤ v ∧ v ≤ 40 ∧ tolf S n 201 0 = v) ∨ (v = -6 ∧ (tolf S n 201 0 = -6 ∨ (41 ≤ tolf S n 201 0 ∧ tolf S n 201 0 ≤ 200))) := by
  rcases h with ⟨h1, h2⟩ | ⟨i, h1, h2, h3, h4, h5⟩
  · refine Or.inr ⟨h1, ?_⟩
    rcases tolf_ok S n 201 0 with ⟨g1, g2⟩ | ⟨k, g1, g2, g3, g4, g5⟩
    · exact Or.inl g1
    · refine Or.inr ?_
      by_cases c : k ≤ 40
      · exact absurd g4 (h2 k (by omega) c)
      · omega
  · refine Or.inl ⟨by omega, by omega, ?_⟩
    rcases tolf_ok S n 201 0 with ⟨g1, g2⟩ | ⟨k, g1, g2, g3, g4, g5⟩
    · exact absurd h4 (g2 i (by omega) (by omega))
    · rcases Nat.lt_trichotomy i k with c | c | c
      · exact absurd h4 (g5 i (by omega) c)
      · rw [g3, h3, c]
      · exact absurd g4 (h5 k (by omega) c)
theorem smpS_2 (S : Stk) (t : Int) : (smpS S t).2 = S.2 := by
  unfold smpS
  split <;> rfl
theorem sp_tol_k {W : Wd} {s : Nat} {n : Int} (hs : s < W.1.1.length) (hn : 2 ≤ n ∧ n ≤ 30) : (sp_tol W s n).1 = tolf (sg W.1.1 s) n 201 0 := by
  unfold sp_tol
  rw [if_neg (fun q => q ⟨by omega, by omega⟩), if_neg (fun q => q hn), tn_i]
theorem sp_ifs_k {W : Wd} {s : Nat} {t : Int} (hs : s < W.1.1.length) (ht : 0 ≤ t ∧ t ≤ 200) : (sp_ifs W s t).1 = ((smpS (sg W.1.1 s) t).1.length : Int) := by
  unfold sp_ifs
  rw [if_neg (fun q => q ⟨by omega, by omega⟩), if_neg (fun q => q ht), tn_i]
theorem sp_simp_k {W : Wd} {s : Nat} {t : Int} (hs : s < W.1.1.length) (ht : 0 ≤ t ∧ t ≤ 200) : sp_simp W s t = (((smpS (sg W.1.1 s) t).1.length : Int), setD W (W.1.1.set s (smpS (sg W.1.1 s) t))) := by
  unfold sp_simp
  rw [if_neg (fun q => q ⟨by omega, by omega⟩), if_neg (fun q => q ht), tn_i]
theorem setD_1 (W : Wd) (Ss : List Stk) : (setD W Ss).1.1 = Ss ∧ (setD W Ss).1.2 = W.1.2 := ⟨rfl, rfl⟩
theorem Simplified_need {d : Nat} (hd : 10 ≤ d) {S : Stk} {a b s r : Nat} {x : Int32} {t n : Int} {f : Nat → Int} {h : g_H} {Q : g_Po} (wS : wfS S) (hn : 2 ≤ n ∧ n ≤ 30) (har : ary h a 32 f) (tk : tkn S f) {x12 x13 : Option Value} (hO : ∀ v : Int, nee S n 0 v → G Law_simplified d 2 64 2 64 154 [some (.ref 0), some (.int x), some (.int (I (s : Int))), some (.int (I t)), some (.ref a), some (.ref b), some (.int (I (S.1.length : Int))), some (.int (I (sz S.2))), some (.int (I (r : Int))), some (.int (I n)), some (.int (I v)), some (.int (I (-1))), x12, x13] [] h Q) : ∀ (j : Nat) (v : Int), j ≤ 41 → nee S n j v → G Law_simplified d 2 64 2 64 115 [some (.ref 0), some (.int x), some (.int (I (s : Int))), some (.int (I t)), some (.ref a), some (.ref b), some (.int (I (S.1.length : Int))), some (.int (I (sz S.2))), some (.int (I (r : Int))), some (.int (I n)), some (.int (I v)), some (.int (I ((j : Int) - 1))), x12, x13] [] h Q := by
  have d1 : 1 ≤ d := by omega
  have w2 := wS.2.1
  intro j
  induction j with
  | zero =>
    intro v hj hv
    rw [show (((0 : Nat) : Int) - 1) = -1 by omega]
    refine B_Law_simplified_115 ?_
    simp only [wp_cons, wp_nil, List.getElem?_cons_zero, List.getElem?_cons_succ, List.set_cons_zero, List.set_cons_succ, s_iload, ldI_s, s_ifCond_lt, p1_s, true_and, and_true, Nat.le_refl, true_implies, forall_const, not_false_eq_true, false_implies, not_true_eq_false, reduceCtorEq, tl_s, tl_n, rf_s, List.cons_append, List.nil_append, true_or, or_true]
    refine b_lt (by omega) (by omega) (fun cc => ?_) (fun cc => absurd cc (by omega))
    exact hO v hv
  | succ j ih =>
    intro v hj hv
    rw [show (((j + 1 : Nat) : Int) - 1) = (j : Int) by omega]
    have hvb : -6 ≤ v ∧ v ≤ 40 := by
      rcases hv with ⟨h1, h2⟩ | ⟨i, h1, h2, h3, h4, h5⟩ <;> omega
    refine B_Law_simplified_115 ?_
    simp only [wp_cons, wp_nil, List.getElem?_cons_zero, List.getElem?_cons_succ, List.set_cons_zero, List.set_cons_succ, s_iload, ldI_s, s_ifCond_lt, p1_s, true_and, and_true, Nat.le_refl, true_implies, forall_const, not_false_eq_true, false_implies, not_true_eq_false, reduceCtorEq, tl_s, tl_n, rf_s, List.cons_append, List.nil_append, true_or, or_true]
    refine b_lt (by omega) (by omega) (fun cc => absurd cc (by omega)) (fun cc => ?_)
    refine B_Law_simplified_120 ?_
    simp only [wp_cons, wp_nil, List.getElem?_cons_zero, List.getElem?_cons_succ, List.set_cons_zero, List.set_cons_succ, s_aload, ldA_r, ldA_n, ldA_s, s_iload, ldI_s, s_invokestatic, rc_s, ob_s, List.drop_succ_cons, List.drop_zero, List.take_succ_cons, List.take_zero, List.reverse_cons, List.reverse_nil, List.nil_append, List.cons_append, List.length_cons, List.length_nil, Nat.reduceEqDiff, eq_self, reduceIte, p1_s, p2_s, l1_s, d1, Int.reduceToNat, Nat.reduceAdd, Nat.reduceLeDiff, true_and, and_true, Nat.le_refl, true_implies, forall_const, not_false_eq_true, false_implies, not_true_eq_false, reduceCtorEq, tl_s, tl_n, rf_s, true_or, or_true]
    refine Law_simple_c (by omega) wS (by omega) har tk (fun q gq => ?_)
    obtain ⟨g1, g2, g3, g4⟩ := gq
    have hl := smpS_len wS (j : Int)
    refine B_Law_simplified_131 ?_
    simp only [wp_cons, wp_nil, List.getElem?_cons_zero, List.getElem?_cons_succ, List.set_cons_zero, List.set_cons_succ, s_invokestatic, rc_s, ob_s, List.drop_succ_cons, List.drop_zero, List.take_succ_cons, List.take_zero, List.reverse_cons, List.reverse_nil, List.nil_append, List.cons_append, List.length_cons, List.length_nil, Nat.reduceEqDiff, eq_self, reduceIte, p1_s, p2_s, l1_s, d1, Int.reduceToNat, Nat.reduceAdd, Nat.reduceLeDiff, true_and, and_true, Nat.le_refl, true_implies, forall_const, not_false_eq_true, false_implies, not_true_eq_false, reduceCtorEq, tl_s, tl_n, rf_s, true_or, or_true]
    refine Law_count_c g1 ?_
    rw [g2]
    have hd9 := hv.dn (show j ≤ 40 by omega)
    have e9 : (j : Int) + -1 = (j : Int) - 1 := by omega
    by_cases c : ((smpS S (j : Int)).1.length : Int) ≤ n
    · rw [if_pos c] at hd9
      refine B_Law_simplified_134 ?_
      simp only [wp_cons, wp_nil, List.getElem?_cons_zero, List.getElem?_cons_succ, List.set_cons_zero, List.set_cons_succ, s_iload, ldI_s, s_if_icmp_gt, p2_s, true_and, and_true, Nat.le_refl, true_implies, forall_const, not_false_eq_true, false_implies, not_true_eq_false, reduceCtorEq, tl_s, tl_n, rf_s, List.cons_append, List.nil_append, true_or, or_true, e9]
      refine b_lt (by omega) (by omega) (fun cc => absurd cc (by omega)) (fun cc => ?_)
      refine B_Law_simplified_139 ?_
      simp only [wp_cons, wp_nil, List.getElem?_cons_zero, List.getElem?_cons_succ, List.set_cons_zero, List.set_cons_succ, s_iload, ldI_s, s_goto, true_and, and_true, Nat.le_refl, true_implies, forall_const, not_false_eq_true, false_implies, not_true_eq_false, reduceCtorEq, tl_s, tl_n, rf_s, List.cons_append, List.nil_append, true_or, or_true, e9]
      refine B_Law_simplified_146 ?_
      simp only [wp_cons, wp_nil, List.getElem?_cons_zero, List.getElem?_cons_succ, List.set_cons_zero, List.set_cons_succ, s_istore, p1_s, s1_0, s1_s, kx_i, kx_r, kx_s, kx_n, kx_l, kx_0, s_iinc, ldI_s, I_add, s_goto, true_and, and_true, Nat.le_refl, true_implies, forall_const, not_false_eq_true, false_implies, not_true_eq_false, reduceCtorEq, tl_s, tl_n, rf_s, List.cons_append, List.nil_append, true_or, or_true, e9]
      exact ih _ (by omega) hd9
    · rw [if_neg c] at hd9
      refine B_Law_simplified_134 ?_
      simp only [wp_cons, wp_nil, List.getElem?_cons_zero, List.getElem?_cons_succ, List.set_cons_zero, List.set_cons_succ, s_iload, ldI_s, s_if_icmp_gt, p2_s, true_and, and_true, Nat.le_refl, true_implies, forall_const, not_false_eq_true, false_implies, not_true_eq_false, reduceCtorEq, tl_s, tl_n, rf_s, List.cons_append, List.nil_append, true_or, or_true, e9]
      refine b_lt (by omega) (by omega) (fun cc => ?_) (fun cc => absurd cc (by omega))
      refine B_Law_simplified_144 ?_
      simp only [wp_cons, wp_nil, List.getElem?_cons_zero, List.getElem?_cons_succ, List.set_cons_zero, List.set_cons_succ, s_iload, ldI_s, true_and, and_true, Nat.le_refl, true_implies, forall_const, not_false_eq_true, false_implies, not_true_eq_false, reduceCtorEq, tl_s, tl_n, rf_s, List.cons_append, List.nil_append, true_or, or_true, e9]
      refine B_Law_simplified_146 ?_
      simp only [wp_cons, wp_nil, List.getElem?_cons_zero, List.getElem?_cons_succ, List.set_cons_zero, List.set_cons_succ, s_istore, p1_s, s1_0, s1_s, kx_i, kx_r, kx_s, kx_n, kx_l, kx_0, s_iinc, ldI_s, I_add, s_goto, true_and, and_true, Nat.le_refl, true_implies, forall_const, not_false_eq_true, false_implies, not_true_eq_false, reduceCtorEq, tl_s, tl_n, rf_s, List.cons_append, List.nil_append, true_or, or_true, e9]
      exact ih _ (by omega) hd9
theorem Simplified_points {d : Nat} (hd : 10 ≤ d) {S T : Stk} {a b s r : Nat} {x : Int32} {t n : Int} {f g : Nat → Int} {h : g_H} {Q : g_Po} (wS : wfS S) (har : ary h a 32 f) (hbr : ary h b 32 g) (tk : tkn S f) (uk : tkn T g) (hT : T.1 = pbit r S.1 S.1.length) (hT3 : T.1.length ≤ 30) (hTp : stP T.1) (hr : r < 2147483648) (hQ : Q (some (.int (I 1))) h) {x10 x11 : Option Value} (z11 : Int32) (hx11 : x11 = some (.int z11)) : ∀ (j k : Nat), k + j = S.1.length → G Law_simplified d 2 64 2 64 277 [some (.ref 0), some (.int x), some (.int (I (s : Int))), some (.int (I t)), some (.ref a), some (.ref b), some (.int (I (S.1.length : Int))), some (.int (I (sz S.2))), some (.int (I (r : Int))), some (.int (I n)), x10, x11, some (.int (I ((pbit r S.1 k).length : Int))), some (.int (I (k : Int)))] [] h Q := by
  have d1 : 1 ≤ d := by omega
  have w2 := wS.2.1
  have w3 := wS.2.2.1
  have har' : h[a]? = some (.inl (0, 32, fun i => I (f i))) := har
  have hbr' : h[b]? = some (.inl (0, 32, fun i => I (g i))) := hbr
  subst hx11
  intro j
  induction j with
  | zero =>
    intro k hk
    obtain rfl : k = S.1.length := by omega
    refine B_Law_simplified_277 ?_
    simp only [wp_cons, wp_nil, List.getElem?_cons_zero, List.getElem?_cons_succ, List.set_cons_zero, List.set_cons_succ, s_iload, ldI_s, s_if_icmp_ge, p2_s, true_and, and_true, Nat.le_refl, true_implies, forall_const, not_false_eq_true, false_implies, not_true_eq_false, reduceCtorEq, tl_s, tl_n, rf_s, List.cons_append, List.nil_append, true_or, or_true]
    refine b_le (by omega) (by omega) (fun cc => ?_) (fun cc => absurd cc (by omega))
    refine B_Law_simplified_319 ?_
    simp only [wp_cons, wp_nil, List.getElem?_cons_zero, List.getElem?_cons_succ, List.set_cons_zero, List.set_cons_succ, s_iconst, s_ireturn, p1_s, rI_i, rI_z, rI_c, z_01, z_11, rt_Law_simplified, true_and, and_true, Nat.le_refl, true_implies, forall_const, not_false_eq_true, false_implies, not_true_eq_false, reduceCtorEq, tl_s, tl_n, rf_s, List.cons_append, List.nil_append, true_or, or_true]
    exact hQ
  | succ j ih =>
    intro k hk
    by_cases c : r.testBit k = true
    · have e1 : pbit r S.1 (k + 1) = pbit r S.1 k ++ [pg S.1 k] := pbit_t S.1 c
      have e2 : (pbit r S.1 (k + 1)).length = (pbit r S.1 k).length + 1 := by rw [e1]; simp
      have e3 := pick_pre (fun i => r.testBit i) S.1 j (k + 1) (pbit r S.1 k).length (by show _ < (pbit r S.1 (k + 1)).length; omega)
      rw [show k + 1 + j = S.1.length by omega] at e3
      have e4 : pg T.1 (pbit r S.1 k).length = pg S.1 k := by
        rw [hT]
        refine e3.1.trans ?_
        show pg (pbit r S.1 (k + 1)) _ = _
        rw [e1, pg_app_r _ _ (Nat.le_refl _), Nat.sub_self]; rfl
      have e5 : (pbit r S.1 k).length < T.1.length := by
        rw [hT]
        have h9 := e3.2
        have h8 : (pick (fun i => r.testBit i) S.1 (k + 1)).length = (pbit r S.1 k).length + 1 := e2
        have h7 : (pbit r S.1 S.1.length).length = (pick (fun i => r.testBit i) S.1 S.1.length).length := rfl
        omega
      have e6 : ((pbit r S.1 k).length : Int) + 1 = ((pbit r S.1 (k + 1)).length : Int) := by omega
      have p1 := w3 k (by omega)
      refine B_Law_simplified_277 ?_
      simp only [wp_cons, wp_nil, List.getElem?_cons_zero, List.getElem?_cons_succ, List.set_cons_zero, List.set_cons_succ, s_iload, ldI_s, s_if_icmp_ge, p2_s, true_and, and_true, Nat.le_refl, true_implies, forall_const, not_false_eq_true, false_implies, not_true_eq_false, reduceCtorEq, tl_s, tl_n, rf_s, List.cons_append, List.nil_append, true_or, or_true, har', hbr', I_bit hr (show k < 31 by omega), tb_t c, ex_ix (i := k) (n := 32) (by omega), ex_ix (i := (pbit r S.1 k).length) (n := 32) (by omega), tk.k (k := k) (by omega), uk.k (k := (pbit r S.1 k).length) e5, e4, e6]
      refine b_le (by omega) (by omega) (fun cc => absurd cc (by omega)) (fun cc => ?_)
      refine B_Law_simplified_284 ?_
      simp only [wp_cons, wp_nil, List.getElem?_cons_zero, List.getElem?_cons_succ, List.set_cons_zero, List.set_cons_succ, s_iload, ldI_s, s_ishr, p2_s, s_iconst, s_iand, s_if_icmp_ne, true_and, and_true, Nat.le_refl, true_implies, forall_const, not_false_eq_true, false_implies, not_true_eq_false, reduceCtorEq, tl_s, tl_n, rf_s, List.cons_append, List.nil_append, true_or, or_true, har', hbr', I_bit hr (show k < 31 by omega), tb_t c, ex_ix (i := k) (n := 32) (by omega), ex_ix (i := (pbit r S.1 k).length) (n := 32) (by omega), tk.k (k := k) (by omega), uk.k (k := (pbit r S.1 k).length) e5, e4, e6]
      refine B_Law_simplified_295 ?_
      simp only [wp_cons, wp_nil, List.getElem?_cons_zero, List.getElem?_cons_succ, List.set_cons_zero, List.set_cons_succ, s_aload, ldA_r, ldA_n, ldA_s, s_iload, ldI_s, s_iinc, s1_0, s1_s, kx_i, kx_r, kx_s, kx_n, kx_l, kx_0, I_add, s_iaload, iR_s, ia_s, s_if_icmp_eq, p2_s, true_and, and_true, Nat.le_refl, true_implies, forall_const, not_false_eq_true, false_implies, not_true_eq_false, reduceCtorEq, tl_s, tl_n, rf_s, List.cons_append, List.nil_append, true_or, or_true, har', hbr', I_bit hr (show k < 31 by omega), tb_t c, ex_ix (i := k) (n := 32) (by omega), ex_ix (i := (pbit r S.1 k).length) (n := 32) (by omega), tk.k (k := k) (by omega), uk.k (k := (pbit r S.1 k).length) e5, e4, e6]
      refine B_Law_simplified_313 ?_
      simp only [wp_cons, wp_nil, List.getElem?_cons_zero, List.getElem?_cons_succ, List.set_cons_zero, List.set_cons_succ, s_iinc, ldI_s, s1_0, s1_s, kx_i, kx_r, kx_s, kx_n, kx_l, kx_0, I_add, s_goto, true_and, and_true, Nat.le_refl, true_implies, forall_const, not_false_eq_true, false_implies, not_true_eq_false, reduceCtorEq, tl_s, tl_n, rf_s, List.cons_append, List.nil_append, true_or, or_true, har', hbr', I_bit hr (show k < 31 by omega), tb_t c, ex_ix (i := k) (n := 32) (by omega), ex_ix (i := (pbit r S.1 k).length) (n := 32) (by omega), tk.k (k := k) (by omega), uk.k (k := (pbit r S.1 k).length) e5, e4, e6]
      exact ih (k + 1) (by omega)
    · have e1 : pbit r S.1 (k + 1) = pbit r S.1 k := pbit_f S.1 c
      have ih2 := ih (k + 1) (by omega)
      rw [e1] at ih2
      refine B_Law_simplified_277 ?_
      simp only [wp_cons, wp_nil, List.getElem?_cons_zero, List.getElem?_cons_succ, List.set_cons_zero, List.set_cons_succ, s_iload, ldI_s, s_if_icmp_ge, p2_s, true_and, and_true, Nat.le_refl, true_implies, forall_const, not_false_eq_true, false_implies, not_true_eq_false, reduceCtorEq, tl_s, tl_n, rf_s, List.cons_append, List.nil_append, true_or, or_true, har', I_bit hr (show k < 31 by omega), tb_f c]
      refine b_le (by omega) (by omega) (fun cc => absurd cc (by omega)) (fun cc => ?_)
      refine B_Law_simplified_284 ?_
      simp only [wp_cons, wp_nil, List.getElem?_cons_zero, List.getElem?_cons_succ, List.set_cons_zero, List.set_cons_succ, s_iload, ldI_s, s_ishr, p2_s, s_iconst, s_iand, s_if_icmp_ne, true_and, and_true, Nat.le_refl, true_implies, forall_const, not_false_eq_true, false_implies, not_true_eq_false, reduceCtorEq, tl_s, tl_n, rf_s, List.cons_append, List.nil_append, true_or, or_true, har', I_bit hr (show k < 31 by omega), tb_f c]
      refine b_ne (by omega) (by omega) (fun cc => ?_) (fun cc => absurd cc (by omega))
      refine B_Law_simplified_313 ?_
      simp only [wp_cons, wp_nil, List.getElem?_cons_zero, List.getElem?_cons_succ, List.set_cons_zero, List.set_cons_succ, s_iinc, ldI_s, s1_0, s1_s, kx_i, kx_r, kx_s, kx_n, kx_l, kx_0, I_add, s_goto, true_and, and_true, Nat.le_refl, true_implies, forall_const, not_false_eq_true, false_implies, not_true_eq_false, reduceCtorEq, tl_s, tl_n, rf_s, List.cons_append, List.nil_append, true_or, or_true, har', I_bit hr (show k < 31 by omega), tb_f c]
      exact ih2
theorem Simplified_main {d : Nat} (hd : 10 ≤ d) {W : Wd} {x : Int32} {a b s : Nat} {t : Int} {f g : Nat → Int} {h : g_H} {Q : g_Po} (w : wfW W) (hp : pens h 0 W) (hs : s < W.1.1.length) (ht : 0 ≤ t ∧ t ≤ 200) (ha : 208 ≤ a) (hb : 208 ≤ b) (hab : a ≠ b) (har : ary h a 32 f) (hbr : ary h b 32 g) (tk : tkn (sg W.1.1 s) f) (hQ : ∀ h' W', wfW W' → W'.1.2 = W.1.2 → pens h' 0 W' → b < h'.length → Q (some (.int (I 1))) h') : G Law_simplified d 2 64 2 64 61 [some (.ref 0), some (.int x), some (.int (I (s : Int))), some (.int (I t)), some (.ref a), some (.ref b), none, none, none, none, none, none, none, none] [.int (I ((sg W.1.1 s).1.length : Int))] h Q := by
  have d1 : 1 ≤ d := by omega
  have wl : W.1.1.length ≤ 10 := w.1.1.1
  have wS := w.1.1.2 s hs
  have w1 := wS.1
  have w2 := wS.2.1
  have hl := smpS_len wS t
  obtain ⟨fs, hc⟩ := hp.at6
  refine B_Law_simplified_61 ?_
  simp only [wp_cons, wp_nil, List.getElem?_cons_zero, List.getElem?_cons_succ, List.set_cons_zero, List.set_cons_succ, s_istore, p1_s, s1_0, s1_s, kx_i, kx_r, kx_s, kx_n, kx_l, kx_0, s_aload_n0, ldA_r, ldA_n, ldA_s, s_iload_n2, ldI_s, s_iconst, s_invokevirtual, rc_s, ob_s, List.drop_succ_cons, List.drop_zero, List.take_succ_cons, List.take_zero, List.reverse_cons, List.reverse_nil, List.nil_append, List.cons_append, List.length_cons, List.length_nil, d1, Int.reduceToNat, Nat.reduceAdd, Nat.reduceLeDiff, true_and, and_true, Nat.le_refl, true_implies, forall_const, not_false_eq_true, false_implies, not_true_eq_false, reduceCtorEq, tl_s, tl_n, rf_s, true_or, or_true, hc]
  refine Pens_of_c (by omega) w hp (by omega) (by omega) ?_
  rw [(sp_of_lit hs).1]
  have K207 : ∀ (h4 : g_H) (r : Nat) (n y10 y11 : Int), sgood (sg W.1.1 s) t r → pens h4 0 W → ary h4 a 32 f → ary h4 b 32 g → G Law_simplified d 2 64 2 64 207 [some (.ref 0), some (.int x), some (.int (I (s : Int))), some (.int (I t)), some (.ref a), some (.ref b), some (.int (I ((sg W.1.1 s).1.length : Int))), some (.int (I (sz (sg W.1.1 s).2))), some (.int (I (r : Int))), some (.int (I n)), some (.int (I y10)), some (.int (I y11)), none, none] [] h4 Q := by
    intro h4 r n y10 y11 gr p4 a4 b4
    obtain ⟨g1, g2, g3, g4⟩ := id gr
    obtain ⟨fs4, hc4⟩ := p4.at6
    refine B_Law_simplified_207 ?_
    simp only [wp_cons, wp_nil, List.getElem?_cons_zero, List.getElem?_cons_succ, List.set_cons_zero, List.set_cons_succ, s_aload_n0, ldA_r, ldA_n, ldA_s, s_iload_n2, ldI_s, s_iload_n3, s_invokevirtual, rc_s, ob_s, List.drop_succ_cons, List.drop_zero, List.take_succ_cons, List.take_zero, List.reverse_cons, List.reverse_nil, List.nil_append, List.cons_append, List.length_cons, List.length_nil, d1, Int.reduceToNat, Nat.reduceAdd, Nat.reduceLeDiff, true_and, and_true, Nat.le_refl, true_implies, forall_const, not_false_eq_true, false_implies, not_true_eq_false, reduceCtorEq, tl_s, tl_n, rf_s, true_or, or_true, hc4]
    refine Pens_ifs_c (by omega) w p4 (by omega) (by omega) (fun h5 c5 p5 => ?_)
    have p5' : pens h5 0 W := p5
    have a5 := a4.un c5.un ha (show a ≠ 0 by omega)
    have b5 := b4.un c5.un hb (show b ≠ 0 by omega)
    obtain ⟨fs5, hc5⟩ := p5'.at6
    rw [sp_ifs_k hs ht]
    refine B_Law_simplified_213 ?_
    simp only [wp_cons, wp_nil, List.getElem?_cons_zero, List.getElem?_cons_succ, List.set_cons_zero, List.set_cons_succ, s_iload, ldI_s, s_invokestatic, rc_s, ob_s, List.drop_succ_cons, List.drop_zero, List.take_succ_cons, List.take_zero, List.reverse_cons, List.reverse_nil, List.nil_append, List.cons_append, List.length_cons, List.length_nil, Nat.reduceEqDiff, eq_self, reduceIte, p1_s, p2_s, l1_s, d1, Int.reduceToNat, Nat.reduceAdd, Nat.reduceLeDiff, true_and, and_true, Nat.le_refl, true_implies, forall_const, not_false_eq_true, false_implies, not_true_eq_false, reduceCtorEq, tl_s, tl_n, rf_s, true_or, or_true, hc5]
    refine Law_count_c g1 ?_
    rw [g2]
    refine B_Law_simplified_218 ?_
    simp only [wp_cons, wp_nil, List.getElem?_cons_zero, List.getElem?_cons_succ, List.set_cons_zero, List.set_cons_succ, s_if_icmp_ne, p2_s, true_and, and_true, Nat.le_refl, true_implies, forall_const, not_false_eq_true, false_implies, not_true_eq_false, reduceCtorEq, tl_s, tl_n, rf_s, List.cons_append, List.nil_append, true_or, or_true, hc5]
    refine B_Law_simplified_221 ?_
    simp only [wp_cons, wp_nil, List.getElem?_cons_zero, List.getElem?_cons_succ, List.set_cons_zero, List.set_cons_succ, s_aload_n0, ldA_r, ldA_n, ldA_s, s_iload_n2, ldI_s, s_iload_n3, s_invokevirtual, rc_s, ob_s, List.drop_succ_cons, List.drop_zero, List.take_succ_cons, List.take_zero, List.reverse_cons, List.reverse_nil, List.nil_append, List.cons_append, List.length_cons, List.length_nil, d1, Int.reduceToNat, Nat.reduceAdd, Nat.reduceLeDiff, true_and, and_true, Nat.le_refl, true_implies, forall_const, not_false_eq_true, false_implies, not_true_eq_false, reduceCtorEq, tl_s, tl_n, rf_s, true_or, or_true, hc5]
    refine Pens_simp_c (by omega) w p5' (by omega) (by omega) (fun h6 c6 p6 => ?_)
    have w6 := kp_simp w (s : Int) t
    rw [sp_simp_k hs ht] at p6 w6 ⊢
    have a6 := a5.un c6.un ha (show a ≠ 0 by omega)
    have b6 := b5.un c6.un hb (show b ≠ 0 by omega)
    obtain ⟨fs6, hc6⟩ := p6.at6
    refine B_Law_simplified_227 ?_
    simp only [wp_cons, wp_nil, List.getElem?_cons_zero, List.getElem?_cons_succ, List.set_cons_zero, List.set_cons_succ, s_iload, ldI_s, s_invokestatic, rc_s, ob_s, List.drop_succ_cons, List.drop_zero, List.take_succ_cons, List.take_zero, List.reverse_cons, List.reverse_nil, List.nil_append, List.cons_append, List.length_cons, List.length_nil, Nat.reduceEqDiff, eq_self, reduceIte, p1_s, p2_s, l1_s, d1, Int.reduceToNat, Nat.reduceAdd, Nat.reduceLeDiff, true_and, and_true, Nat.le_refl, true_implies, forall_const, not_false_eq_true, false_implies, not_true_eq_false, reduceCtorEq, tl_s, tl_n, rf_s, true_or, or_true, hc6]
    refine Law_count_c g1 ?_
    rw [g2]
    have hs6 : s < (setD W (W.1.1.set s (smpS (sg W.1.1 s) t))).1.1.length := by
      show s < (W.1.1.set s _).length
      rw [List.length_set]; exact hs
    have eS : sg (setD W (W.1.1.set s (smpS (sg W.1.1 s) t))).1.1 s = smpS (sg W.1.1 s) t := by
      show sg (W.1.1.set s _) s = _
      rw [sg_set _ _ _ hs, if_pos rfl]
    have wT := w6.1.1.2 s hs6
    rw [eS] at wT
    have hT3 := wT.2.1
    refine B_Law_simplified_232 ?_
    simp only [wp_cons, wp_nil, List.getElem?_cons_zero, List.getElem?_cons_succ, List.set_cons_zero, List.set_cons_succ, s_if_icmp_ne, p2_s, true_and, and_true, Nat.le_refl, true_implies, forall_const, not_false_eq_true, false_implies, not_true_eq_false, reduceCtorEq, tl_s, tl_n, rf_s, List.cons_append, List.nil_append, true_or, or_true, hc6]
    refine B_Law_simplified_235 ?_
    simp only [wp_cons, wp_nil, List.getElem?_cons_zero, List.getElem?_cons_succ, List.set_cons_zero, List.set_cons_succ, s_aload_n0, ldA_r, ldA_n, ldA_s, s_iload_n2, ldI_s, s_aload, s_invokestatic, rc_s, ob_s, List.drop_succ_cons, List.drop_zero, List.take_succ_cons, List.take_zero, List.reverse_cons, List.reverse_nil, List.nil_append, List.cons_append, List.length_cons, List.length_nil, Nat.reduceEqDiff, eq_self, reduceIte, p1_s, p2_s, l1_s, d1, Int.reduceToNat, Nat.reduceAdd, Nat.reduceLeDiff, true_and, and_true, Nat.le_refl, true_implies, forall_const, not_false_eq_true, false_implies, not_true_eq_false, reduceCtorEq, tl_s, tl_n, rf_s, true_or, or_true, hc6]
    refine Law_take_c (by omega) w6 p6 hs6 hb b6 (fun h7 g7 c7 p7 b7 uk => ?_)
    have a7 := a6.un c7 ha hab
    rw [eS] at uk ⊢
    obtain ⟨fs7, hc7⟩ := p7.at6
    refine B_Law_simplified_242 ?_
    simp only [wp_cons, wp_nil, List.getElem?_cons_zero, List.getElem?_cons_succ, List.set_cons_zero, List.set_cons_succ, s_iload, ldI_s, s_invokestatic, rc_s, ob_s, List.drop_succ_cons, List.drop_zero, List.take_succ_cons, List.take_zero, List.reverse_cons, List.reverse_nil, List.nil_append, List.cons_append, List.length_cons, List.length_nil, Nat.reduceEqDiff, eq_self, reduceIte, p1_s, p2_s, l1_s, d1, Int.reduceToNat, Nat.reduceAdd, Nat.reduceLeDiff, true_and, and_true, Nat.le_refl, true_implies, forall_const, not_false_eq_true, false_implies, not_true_eq_false, reduceCtorEq, tl_s, tl_n, rf_s, true_or, or_true, hc7]
    refine Law_count_c g1 ?_
    rw [g2]
    refine B_Law_simplified_247 ?_
    simp only [wp_cons, wp_nil, List.getElem?_cons_zero, List.getElem?_cons_succ, List.set_cons_zero, List.set_cons_succ, s_if_icmp_ne, p2_s, true_and, and_true, Nat.le_refl, true_implies, forall_const, not_false_eq_true, false_implies, not_true_eq_false, reduceCtorEq, tl_s, tl_n, rf_s, List.cons_append, List.nil_append, true_or, or_true, hc7]
    refine B_Law_simplified_250 ?_
    simp only [wp_cons, wp_nil, List.getElem?_cons_zero, List.getElem?_cons_succ, List.set_cons_zero, List.set_cons_succ, s_aload_n0, ldA_r, ldA_n, ldA_s, s_iload_n2, ldI_s, s_iconst, s_invokevirtual, rc_s, ob_s, List.drop_succ_cons, List.drop_zero, List.take_succ_cons, List.take_zero, List.reverse_cons, List.reverse_nil, List.nil_append, List.cons_append, List.length_cons, List.length_nil, d1, Int.reduceToNat, Nat.reduceAdd, Nat.reduceLeDiff, true_and, and_true, Nat.le_refl, true_implies, forall_const, not_false_eq_true, false_implies, not_true_eq_false, reduceCtorEq, tl_s, tl_n, rf_s, true_or, or_true, hc7]
    refine Pens_of_c (by omega) w6 p7 (by omega) (by omega) ?_
    rw [(sp_of_lit hs6).1, eS, smpS_2]
    have fin : ∀ z7 : Int32, z7 = I (sz (sg W.1.1 s).2) → G Law_simplified d 2 64 2 64 271 [some (.ref 0), some (.int x), some (.int (I (s : Int))), some (.int (I t)), some (.ref a), some (.ref b), some (.int (I ((sg W.1.1 s).1.length : Int))), some (.int (I (sz (sg W.1.1 s).2))), some (.int (I (r : Int))), some (.int (I n)), some (.int (I y10)), some (.int (I y11)), none, none] [] h7 Q := by
      intro z7 _
      refine B_Law_simplified_271 ?_
      simp only [wp_cons, wp_nil, List.getElem?_cons_zero, List.getElem?_cons_succ, List.set_cons_zero, List.set_cons_succ, s_iconst, s_istore, p1_s, s1_0, s1_s, kx_i, kx_r, kx_s, kx_n, kx_l, kx_0, true_and, and_true, Nat.le_refl, true_implies, forall_const, not_false_eq_true, false_implies, not_true_eq_false, reduceCtorEq, tl_s, tl_n, rf_s, List.cons_append, List.nil_append, true_or, or_true, hc7]
      exact Simplified_points hd wS a7 b7 tk uk g3 hT3 wT.2.2.1 g1 (hQ h7 _ w6 rfl p7 (List.getElem?_eq_some_iff.mp b7).1) _ rfl (sg W.1.1 s).1.length 0 (by omega)
    by_cases z : (sg W.1.1 s).2 = true
    · have ez : sz (sg W.1.1 s).2 = 1 := if_pos z
      rw [ez] at fin ⊢
      refine B_Law_simplified_256 ?_
      simp only [wp_cons, wp_nil, List.getElem?_cons_zero, List.getElem?_cons_succ, List.set_cons_zero, List.set_cons_succ, s_iload, ldI_s, s_ifCond_eq, p1_s, true_and, and_true, Nat.le_refl, true_implies, forall_const, not_false_eq_true, false_implies, not_true_eq_false, reduceCtorEq, tl_s, tl_n, rf_s, List.cons_append, List.nil_append, true_or, or_true, hc7]
      refine b_eq (by omega) (by omega) (fun cc => absurd cc (by omega)) (fun cc => ?_)
      refine B_Law_simplified_261 ?_
      simp only [wp_cons, wp_nil, List.getElem?_cons_zero, List.getElem?_cons_succ, List.set_cons_zero, List.set_cons_succ, s_iconst, s_goto, true_and, and_true, Nat.le_refl, true_implies, forall_const, not_false_eq_true, false_implies, not_true_eq_false, reduceCtorEq, tl_s, tl_n, rf_s, List.cons_append, List.nil_append, true_or, or_true, hc7]
      refine B_Law_simplified_266 ?_
      simp only [wp_cons, wp_nil, List.getElem?_cons_zero, List.getElem?_cons_succ, List.set_cons_zero, List.set_cons_succ, s_if_icmp_eq, p2_s, true_and, and_true, Nat.le_refl, true_implies, forall_const, not_false_eq_true, false_implies, not_true_eq_false, reduceCtorEq, tl_s, tl_n, rf_s, List.cons_append, List.nil_append, true_or, or_true, hc7]
      exact fin _ rfl
    · have ez : sz (sg W.1.1 s).2 = 0 := if_neg z
      rw [ez] at fin ⊢
      refine B_Law_simplified_256 ?_
      simp only [wp_cons, wp_nil, List.getElem?_cons_zero, List.getElem?_cons_succ, List.set_cons_zero, List.set_cons_succ, s_iload, ldI_s, s_ifCond_eq, p1_s, true_and, and_true, Nat.le_refl, true_implies, forall_const, not_false_eq_true, false_implies, not_true_eq_false, reduceCtorEq, tl_s, tl_n, rf_s, List.cons_append, List.nil_append, true_or, or_true, hc7]
      refine B_Law_simplified_265 ?_
      simp only [wp_cons, wp_nil, List.getElem?_cons_zero, List.getElem?_cons_succ, List.set_cons_zero, List.set_cons_succ, s_iconst, true_and, and_true, Nat.le_refl, true_implies, forall_const, not_false_eq_true, false_implies, not_true_eq_false, reduceCtorEq, tl_s, tl_n, rf_s, List.cons_append, List.nil_append, true_or, or_true, hc7]
      refine B_Law_simplified_266 ?_
      simp only [wp_cons, wp_nil, List.getElem?_cons_zero, List.getElem?_cons_succ, List.set_cons_zero, List.set_cons_succ, s_if_icmp_eq, p2_s, true_and, and_true, Nat.le_refl, true_implies, forall_const, not_false_eq_true, false_implies, not_true_eq_false, reduceCtorEq, tl_s, tl_n, rf_s, List.cons_append, List.nil_append, true_or, or_true, hc7]
      exact fin _ rfl
  have K78 : G Law_simplified d 2 64 2 64 78 [some (.ref 0), some (.int x), some (.int (I (s : Int))), some (.int (I t)), some (.ref a), some (.ref b), some (.int (I ((sg W.1.1 s).1.length : Int))), none, none, none, none, none, none, none] [.int (I (sz (sg W.1.1 s).2))] h Q := by
    refine B_Law_simplified_78 ?_
    simp only [wp_cons, wp_nil, List.getElem?_cons_zero, List.getElem?_cons_succ, List.set_cons_zero, List.set_cons_succ, s_istore, p1_s, s1_0, s1_s, kx_i, kx_r, kx_s, kx_n, kx_l, kx_0, s_aload, ldA_r, ldA_n, ldA_s, s_iload, ldI_s, s_iload_n3, s_invokestatic, rc_s, ob_s, List.drop_succ_cons, List.drop_zero, List.take_succ_cons, List.take_zero, List.reverse_cons, List.reverse_nil, List.nil_append, List.cons_append, List.length_cons, List.length_nil, Nat.reduceEqDiff, eq_self, reduceIte, p2_s, l1_s, d1, Int.reduceToNat, Nat.reduceAdd, Nat.reduceLeDiff, true_and, and_true, Nat.le_refl, true_implies, forall_const, not_false_eq_true, false_implies, not_true_eq_false, reduceCtorEq, tl_s, tl_n, rf_s, true_or, or_true, hc]
    refine Law_simple_c (by omega) wS ht har tk (fun r gr => ?_)
    refine B_Law_simplified_90 ?_
    simp only [wp_cons, wp_nil, List.getElem?_cons_zero, List.getElem?_cons_succ, List.set_cons_zero, List.set_cons_succ, s_istore, p1_s, s1_0, s1_s, kx_i, kx_r, kx_s, kx_n, kx_l, kx_0, s_iconst, s_iload_n1, ldI_s, s_bipush, s_ishr, p2_s, s_iload, s_isub, I_sub, s_invokestatic, rc_s, ob_s, List.drop_succ_cons, List.drop_zero, List.take_succ_cons, List.take_zero, List.reverse_cons, List.reverse_nil, List.nil_append, List.cons_append, List.length_cons, List.length_nil, Nat.reduceEqDiff, eq_self, reduceIte, l1_s, d1, Int.reduceToNat, Nat.reduceAdd, Nat.reduceLeDiff, true_and, and_true, Nat.le_refl, true_implies, forall_const, not_false_eq_true, false_implies, not_true_eq_false, reduceCtorEq, tl_s, tl_n, rf_s, true_or, or_true, hc]
    refine Law_low_c (by omega) (fun q h1 h2 => ?_)
    refine B_Law_simplified_104 ?_
    simp only [wp_cons, wp_nil, List.getElem?_cons_zero, List.getElem?_cons_succ, List.set_cons_zero, List.set_cons_succ, s_iadd, p2_s, I_add, s_istore, p1_s, s1_0, s1_s, kx_i, kx_r, kx_s, kx_n, kx_l, kx_0, s_bipush, true_and, and_true, Nat.le_refl, true_implies, forall_const, not_false_eq_true, false_implies, not_true_eq_false, reduceCtorEq, tl_s, tl_n, rf_s, List.cons_append, List.nil_append, true_or, or_true, hc]
    have hv := fun hO => Simplified_need (Q := Q) (x := x) (a := a) (b := b) (s := s) (r := r) (t := t) (n := 2 + q) (x12 := none) (x13 := none) hd wS (by omega) har tk hO 41 (-6) (Nat.le_refl _) (Or.inl ⟨rfl, fun i i1 i2 => by omega⟩)
    rw [show (((41 : Nat) : Int) - 1) = 40 from rfl] at hv
    refine hv (fun v gv => ?_)
    obtain ⟨fsx, hcx⟩ := hp.at6
    refine B_Law_simplified_154 ?_
    simp only [wp_cons, wp_nil, List.getElem?_cons_zero, List.getElem?_cons_succ, List.set_cons_zero, List.set_cons_succ, s_aload_n0, ldA_r, ldA_n, ldA_s, s_iload_n2, ldI_s, s_iload, s_invokevirtual, rc_s, ob_s, List.drop_succ_cons, List.drop_zero, List.take_succ_cons, List.take_zero, List.reverse_cons, List.reverse_nil, List.nil_append, List.cons_append, List.length_cons, List.length_nil, d1, Int.reduceToNat, Nat.reduceAdd, Nat.reduceLeDiff, true_and, and_true, Nat.le_refl, true_implies, forall_const, not_false_eq_true, false_implies, not_true_eq_false, reduceCtorEq, tl_s, tl_n, rf_s, true_or, or_true, hcx]
    refine Pens_tol_c (by omega) w hp (by omega) (by omega) (fun h4 c4 p4 => ?_)
    have p4' : pens h4 0 W := p4
    have a4 := har.un c4.un ha (show a ≠ 0 by omega)
    have b4 := hbr.un c4.un hb (show b ≠ 0 by omega)
    rw [sp_tol_k hs (by omega)]
    rcases gv.tol with ⟨v1, v2, v3⟩ | ⟨v1, v3 | ⟨v4, v5⟩⟩
    · rw [v3]
      refine B_Law_simplified_161 ?_
      simp only [wp_cons, wp_nil, List.getElem?_cons_zero, List.getElem?_cons_succ, List.set_cons_zero, List.set_cons_succ, s_istore, p1_s, s1_0, s1_s, kx_i, kx_r, kx_s, kx_n, kx_l, kx_0, s_iload, ldI_s, s_ifCond_lt, true_and, and_true, Nat.le_refl, true_implies, forall_const, not_false_eq_true, false_implies, not_true_eq_false, reduceCtorEq, tl_s, tl_n, rf_s, List.cons_append, List.nil_append, true_or, or_true, hcx]
      refine b_lt (by omega) (by omega) (fun cc => absurd cc (by omega)) (fun cc => ?_)
      refine B_Law_simplified_168 ?_
      simp only [wp_cons, wp_nil, List.getElem?_cons_zero, List.getElem?_cons_succ, List.set_cons_zero, List.set_cons_succ, s_iload, ldI_s, s_if_icmp_eq, p2_s, true_and, and_true, Nat.le_refl, true_implies, forall_const, not_false_eq_true, false_implies, not_true_eq_false, reduceCtorEq, tl_s, tl_n, rf_s, List.cons_append, List.nil_append, true_or, or_true, hcx]
      exact K207 h4 r _ _ _ gr p4' a4 b4
    · rw [v3, v1]
      refine B_Law_simplified_161 ?_
      simp only [wp_cons, wp_nil, List.getElem?_cons_zero, List.getElem?_cons_succ, List.set_cons_zero, List.set_cons_succ, s_istore, p1_s, s1_0, s1_s, kx_i, kx_r, kx_s, kx_n, kx_l, kx_0, s_iload, ldI_s, s_ifCond_lt, true_and, and_true, Nat.le_refl, true_implies, forall_const, not_false_eq_true, false_implies, not_true_eq_false, reduceCtorEq, tl_s, tl_n, rf_s, List.cons_append, List.nil_append, true_or, or_true, hcx]
      refine b_lt (by omega) (by omega) (fun cc => ?_) (fun cc => absurd cc (by omega))
      refine B_Law_simplified_178 ?_
      simp only [wp_cons, wp_nil, List.getElem?_cons_zero, List.getElem?_cons_succ, List.set_cons_zero, List.set_cons_succ, s_iload, ldI_s, s_ifCond_lt, p1_s, true_and, and_true, Nat.le_refl, true_implies, forall_const, not_false_eq_true, false_implies, not_true_eq_false, reduceCtorEq, tl_s, tl_n, rf_s, List.cons_append, List.nil_append, true_or, or_true, hcx]
      refine b_lt (by omega) (by omega) (fun cc => ?_) (fun cc => absurd cc (by omega))
      refine B_Law_simplified_190 ?_
      simp only [wp_cons, wp_nil, List.getElem?_cons_zero, List.getElem?_cons_succ, List.set_cons_zero, List.set_cons_succ, s_iload, ldI_s, s_sipush, s_if_icmp_gt, p2_s, true_and, and_true, Nat.le_refl, true_implies, forall_const, not_false_eq_true, false_implies, not_true_eq_false, reduceCtorEq, tl_s, tl_n, rf_s, List.cons_append, List.nil_append, true_or, or_true, hcx]
      refine b_lt (by omega) (by omega) (fun cc => absurd cc (by omega)) (fun cc => ?_)
      refine B_Law_simplified_198 ?_
      simp only [wp_cons, wp_nil, List.getElem?_cons_zero, List.getElem?_cons_succ, List.set_cons_zero, List.set_cons_succ, s_iload, ldI_s, s_bipush, s_if_icmp_ge, p2_s, true_and, and_true, Nat.le_refl, true_implies, forall_const, not_false_eq_true, false_implies, not_true_eq_false, reduceCtorEq, tl_s, tl_n, rf_s, List.cons_append, List.nil_append, true_or, or_true, hcx]
      refine b_le (by omega) (by omega) (fun cc => ?_) (fun cc => absurd cc (by omega))
      exact K207 h4 r _ _ _ gr p4' a4 b4
    · rw [v1]
      refine B_Law_simplified_161 ?_
      simp only [wp_cons, wp_nil, List.getElem?_cons_zero, List.getElem?_cons_succ, List.set_cons_zero, List.set_cons_succ, s_istore, p1_s, s1_0, s1_s, kx_i, kx_r, kx_s, kx_n, kx_l, kx_0, s_iload, ldI_s, s_ifCond_lt, true_and, and_true, Nat.le_refl, true_implies, forall_const, not_false_eq_true, false_implies, not_true_eq_false, reduceCtorEq, tl_s, tl_n, rf_s, List.cons_append, List.nil_append, true_or, or_true, hcx]
      refine b_lt (by omega) (by omega) (fun cc => ?_) (fun cc => absurd cc (by omega))
      refine B_Law_simplified_178 ?_
      simp only [wp_cons, wp_nil, List.getElem?_cons_zero, List.getElem?_cons_succ, List.set_cons_zero, List.set_cons_succ, s_iload, ldI_s, s_ifCond_lt, p1_s, true_and, and_true, Nat.le_refl, true_implies, forall_const, not_false_eq_true, false_implies, not_true_eq_false, reduceCtorEq, tl_s, tl_n, rf_s, List.cons_append, List.nil_append, true_or, or_true, hcx]
      refine b_lt (by omega) (by omega) (fun cc => absurd cc (by omega)) (fun cc => ?_)
      refine B_Law_simplified_183 ?_
      simp only [wp_cons, wp_nil, List.getElem?_cons_zero, List.getElem?_cons_succ, List.set_cons_zero, List.set_cons_succ, s_iload, ldI_s, s_bipush, s_if_icmp_le, p2_s, true_and, and_true, Nat.le_refl, true_implies, forall_const, not_false_eq_true, false_implies, not_true_eq_false, reduceCtorEq, tl_s, tl_n, rf_s, List.cons_append, List.nil_append, true_or, or_true, hcx]
      refine b_le (by omega) (by omega) (fun cc => absurd cc (by omega)) (fun cc => ?_)
      refine B_Law_simplified_190 ?_
      simp only [wp_cons, wp_nil, List.getElem?_cons_zero, List.getElem?_cons_succ, List.set_cons_zero, List.set_cons_succ, s_iload, ldI_s, s_sipush, s_if_icmp_gt, p2_s, true_and, and_true, Nat.le_refl, true_implies, forall_const, not_false_eq_true, false_implies, not_true_eq_false, reduceCtorEq, tl_s, tl_n, rf_s, List.cons_append, List.nil_append, true_or, or_true, hcx]
      refine b_lt (by omega) (by omega) (fun cc => absurd cc (by omega)) (fun cc => ?_)
      refine B_Law_simplified_198 ?_
      simp only [wp_cons, wp_nil, List.getElem?_cons_zero, List.getElem?_cons_succ, List.set_cons_zero, List.set_cons_succ, s_iload, ldI_s, s_bipush, s_if_icmp_ge, p2_s, true_and, and_true, Nat.le_refl, true_implies, forall_const, not_false_eq_true, false_implies, not_true_eq_false, reduceCtorEq, tl_s, tl_n, rf_s, List.cons_append, List.nil_append, true_or, or_true, hcx]
      refine b_le (by omega) (by omega) (fun cc => ?_) (fun cc => absurd cc (by omega))
      exact K207 h4 r _ _ _ gr p4' a4 b4
  by_cases z : (sg W.1.1 s).2 = true
  · have ez : sz (sg W.1.1 s).2 = 1 := if_pos z
    rw [ez] at K78 ⊢
    refine B_Law_simplified_69 ?_
    simp only [wp_cons, wp_nil, List.getElem?_cons_zero, List.getElem?_cons_succ, List.set_cons_zero, List.set_cons_succ, s_iconst, s_if_icmp_ne, p2_s, true_and, and_true, Nat.le_refl, true_implies, forall_const, not_false_eq_true, false_implies, not_true_eq_false, reduceCtorEq, tl_s, tl_n, rf_s, List.cons_append, List.nil_append, true_or, or_true, hc]
    refine B_Law_simplified_73 ?_
    simp only [wp_cons, wp_nil, List.getElem?_cons_zero, List.getElem?_cons_succ, List.set_cons_zero, List.set_cons_succ, s_iconst, s_goto, true_and, and_true, Nat.le_refl, true_implies, forall_const, not_false_eq_true, false_implies, not_true_eq_false, reduceCtorEq, tl_s, tl_n, rf_s, List.cons_append, List.nil_append, true_or, or_true, hc]
    exact K78
  · have ez : sz (sg W.1.1 s).2 = 0 := if_neg z
    rw [ez] at K78 ⊢
    refine B_Law_simplified_69 ?_
    simp only [wp_cons, wp_nil, List.getElem?_cons_zero, List.getElem?_cons_succ, List.set_cons_zero, List.set_cons_succ, s_iconst, s_if_icmp_ne, p2_s, true_and, and_true, Nat.le_refl, true_implies, forall_const, not_false_eq_true, false_implies, not_true_eq_false, reduceCtorEq, tl_s, tl_n, rf_s, List.cons_append, List.nil_append, true_or, or_true, hc]
    refine b_ne (by omega) (by omega) (fun cc => ?_) (fun cc => absurd cc (by omega))
    refine B_Law_simplified_77 ?_
    simp only [wp_cons, wp_nil, List.getElem?_cons_zero, List.getElem?_cons_succ, List.set_cons_zero, List.set_cons_succ, s_iconst, true_and, and_true, Nat.le_refl, true_implies, forall_const, not_false_eq_true, false_implies, not_true_eq_false, reduceCtorEq, tl_s, tl_n, rf_s, List.cons_append, List.nil_append, true_or, or_true, hc]
    exact K78
theorem Law_simplified_c {d : Nat} (hd : 10 ≤ d) {W : Wd} {x : Int32} {h : g_H} {Q : g_Po} (w : wfW W) (hp : pens h 0 W) (hl : 208 ≤ h.length) (hn : 0 < W.1.1.length) (hQ : ∀ h' W', wfW W' → W'.1.2 = W.1.2 → pens h' 0 W' → 208 ≤ h'.length → Q (some (.int (I 1))) h') : Call Law_simplified d 2 64 [.ref 0, .int x] h Q := by
  have d1 : 1 ≤ d := by omega
  have wl : W.1.1.length ≤ 10 := w.1.1.1
  obtain ⟨fs, hc⟩ := hp.at6
  refine Call.intro (by rfl) (Nat.le_of_ble_eq_true rfl) ?_
  refine G.eqL (L := [some (.ref 0), some (.int x), none, none, none, none, none, none, none, none, none, none, none, none]) rfl ?_
  refine B_Law_simplified_0 ?_
  simp only [wp_cons, wp_nil, List.getElem?_cons_zero, List.getElem?_cons_succ, List.set_cons_zero, List.set_cons_succ, s_iload_n1, ldI_s, s_aload_n0, ldA_r, ldA_n, ldA_s, s_invokevirtual, rc_s, ob_s, List.drop_succ_cons, List.drop_zero, List.take_succ_cons, List.take_zero, List.reverse_cons, List.reverse_nil, List.nil_append, List.cons_append, List.length_cons, List.length_nil, d1, Int.reduceToNat, Nat.reduceAdd, Nat.reduceLeDiff, true_and, and_true, Nat.le_refl, true_implies, forall_const, not_false_eq_true, false_implies, not_true_eq_false, reduceCtorEq, tl_s, tl_n, rf_s, true_or, or_true, hc, I_cast 32 32 rfl, len_ap, Nat.reduceLT, Nat.zero_le]
  refine Pens_strokes_c hp ?_
  rw [show (sp_strokes W).1 = (W.1.1.length : Int) from rfl]
  refine B_Law_simplified_5 ?_
  simp only [wp_cons, wp_nil, List.getElem?_cons_zero, List.getElem?_cons_succ, List.set_cons_zero, List.set_cons_succ, s_invokestatic, rc_s, ob_s, List.drop_succ_cons, List.drop_zero, List.take_succ_cons, List.take_zero, List.reverse_cons, List.reverse_nil, List.nil_append, List.cons_append, List.length_cons, List.length_nil, Nat.reduceEqDiff, eq_self, reduceIte, p1_s, p2_s, l1_s, d1, Int.reduceToNat, Nat.reduceAdd, Nat.reduceLeDiff, true_and, and_true, Nat.le_refl, true_implies, forall_const, not_false_eq_true, false_implies, not_true_eq_false, reduceCtorEq, tl_s, tl_n, rf_s, true_or, or_true, hc, I_cast 32 32 rfl, len_ap, Nat.reduceLT, Nat.zero_le]
  refine Law_low_c (by omega) (fun s0 h1 h2 => ?_)
  obtain ⟨s, rfl, hs⟩ := nat_of ⟨h1, h2⟩
  have wS := w.1.1.2 s hs
  have w1 := wS.1
  have w2 := wS.2.1
  have K41 : ∀ t : Int, 0 ≤ t ∧ t ≤ 200 → G Law_simplified d 2 64 0 0 41 [some (.ref 0), some (.int x), some (.int (I (s : Int))), none, none, none, none, none, none, none, none, none, none, none] [.int (I t)] h Q := by
    intro t ht
    refine B_Law_simplified_41 ?_
    simp only [wp_cons, wp_nil, List.getElem?_cons_zero, List.getElem?_cons_succ, List.set_cons_zero, List.set_cons_succ, s_istore_n3, p1_s, s1_0, s1_s, kx_i, kx_r, kx_s, kx_n, kx_l, kx_0, s_bipush, s_newarray, s_astore, pA_r, pA_n, s_aload_n0, ldA_r, ldA_n, ldA_s, s_iload_n2, ldI_s, s_aload, s_invokestatic, rc_s, ob_s, List.drop_succ_cons, List.drop_zero, List.take_succ_cons, List.take_zero, List.reverse_cons, List.reverse_nil, List.nil_append, List.cons_append, List.length_cons, List.length_nil, Nat.reduceEqDiff, eq_self, reduceIte, p2_s, l1_s, d1, Int.reduceToNat, Nat.reduceAdd, Nat.reduceLeDiff, true_and, and_true, Nat.le_refl, true_implies, forall_const, not_false_eq_true, false_implies, not_true_eq_false, reduceCtorEq, tl_s, tl_n, rf_s, true_or, or_true, hc, I_cast 32 32 rfl, len_ap, Nat.reduceLT, Nat.zero_le]
    have p2 := (hp.ap (.inl (0, 32, fun _ => I 0)) hl).ap (.inl (0, 32, fun _ => I 0)) (by rw [len_ap]; omega)
    have a2 : ary (h ++ [.inl (0, 32, fun _ => I 0)] ++ [.inl (0, 32, fun _ => I 0)]) h.length 32 (fun _ => 0) := (ary.new rfl).ap _
    have b2 : ary (h ++ [.inl (0, 32, fun _ => I 0)] ++ [.inl (0, 32, fun _ => I 0)]) (h.length + 1) 32 (fun _ => 0) := ary.new (len_ap _ _).symm
    refine Law_take_c (by omega) w p2 hs hl a2 (fun h3 f c3 p3 a3 tk => ?_)
    have b3 : ary h3 (h.length + 1) 32 (fun _ => 0) := b2.un c3 (by omega) (by omega)
    exact Simplified_main hd w p3 hs ht hl (show 208 ≤ h.length + 1 by omega) (by omega) a3 b3 tk (fun h9 W9 q1 q2 q3 q4 => hQ h9 W9 q1 q2 q3 (by omega))
  refine B_Law_simplified_8 ?_
  simp only [wp_cons, wp_nil, List.getElem?_cons_zero, List.getElem?_cons_succ, List.set_cons_zero, List.set_cons_succ, s_istore_n2, p1_s, s1_0, s1_s, kx_i, kx_r, kx_s, kx_n, kx_l, kx_0, s_iload_n1, ldI_s, s_iconst, s_ishr, p2_s, s_invokestatic, rc_s, ob_s, List.drop_succ_cons, List.drop_zero, List.take_succ_cons, List.take_zero, List.reverse_cons, List.reverse_nil, List.nil_append, List.cons_append, List.length_cons, List.length_nil, Nat.reduceEqDiff, eq_self, reduceIte, l1_s, d1, Int.reduceToNat, Nat.reduceAdd, Nat.reduceLeDiff, true_and, and_true, Nat.le_refl, true_implies, forall_const, not_false_eq_true, false_implies, not_true_eq_false, reduceCtorEq, tl_s, tl_n, rf_s, true_or, or_true, hc, I_cast 32 32 rfl, len_ap, Nat.reduceLT, Nat.zero_le]
  refine Law_low_c (by omega) (fun q h3 h4 => ?_)
  by_cases c : q = 0
  · subst c
    refine B_Law_simplified_16 ?_
    simp only [wp_cons, wp_nil, List.getElem?_cons_zero, List.getElem?_cons_succ, List.set_cons_zero, List.set_cons_succ, s_ifCond_ne, p1_s, true_and, and_true, Nat.le_refl, true_implies, forall_const, not_false_eq_true, false_implies, not_true_eq_false, reduceCtorEq, tl_s, tl_n, rf_s, List.cons_append, List.nil_append, true_or, or_true, hc, I_cast 32 32 rfl, len_ap, Nat.reduceLT, Nat.reduceAdd, Nat.reduceLeDiff, Nat.zero_le]
    refine B_Law_simplified_19 ?_
    simp only [wp_cons, wp_nil, List.getElem?_cons_zero, List.getElem?_cons_succ, List.set_cons_zero, List.set_cons_succ, s_iload_n1, ldI_s, s_bipush, s_ishr, p2_s, s_sipush, s_invokestatic, rc_s, ob_s, List.drop_succ_cons, List.drop_zero, List.take_succ_cons, List.take_zero, List.reverse_cons, List.reverse_nil, List.nil_append, List.cons_append, List.length_cons, List.length_nil, Nat.reduceEqDiff, eq_self, reduceIte, p1_s, l1_s, d1, Int.reduceToNat, Nat.reduceAdd, Nat.reduceLeDiff, true_and, and_true, Nat.le_refl, true_implies, forall_const, not_false_eq_true, false_implies, not_true_eq_false, reduceCtorEq, tl_s, tl_n, rf_s, true_or, or_true, hc, I_cast 32 32 rfl, len_ap, Nat.reduceLT, Nat.zero_le]
    refine Law_low_c (by omega) (fun t h5 h6 => ?_)
    refine B_Law_simplified_29 ?_
    simp only [wp_cons, wp_nil, List.getElem?_cons_zero, List.getElem?_cons_succ, List.set_cons_zero, List.set_cons_succ, s_goto, true_and, and_true, Nat.le_refl, true_implies, forall_const, not_false_eq_true, false_implies, not_true_eq_false, reduceCtorEq, tl_s, tl_n, rf_s, List.cons_append, List.nil_append, true_or, or_true, hc, I_cast 32 32 rfl, len_ap, Nat.reduceLT, Nat.reduceAdd, Nat.reduceLeDiff, Nat.zero_le]
    exact K41 t (by omega)
  · refine B_Law_simplified_16 ?_
    simp only [wp_cons, wp_nil, List.getElem?_cons_zero, List.getElem?_cons_succ, List.set_cons_zero, List.set_cons_succ, s_ifCond_ne, p1_s, true_and, and_true, Nat.le_refl, true_implies, forall_const, not_false_eq_true, false_implies, not_true_eq_false, reduceCtorEq, tl_s, tl_n, rf_s, List.cons_append, List.nil_append, true_or, or_true, hc, I_cast 32 32 rfl, len_ap, Nat.reduceLT, Nat.reduceAdd, Nat.reduceLeDiff, Nat.zero_le]
    refine b_ne (by omega) (by omega) (fun cc => ?_) (fun cc => absurd cc (by omega))
    refine B_Law_simplified_32 ?_
    simp only [wp_cons, wp_nil, List.getElem?_cons_zero, List.getElem?_cons_succ, List.set_cons_zero, List.set_cons_succ, s_iload_n1, ldI_s, s_bipush, s_ishr, p2_s, s_invokestatic, rc_s, ob_s, List.drop_succ_cons, List.drop_zero, List.take_succ_cons, List.take_zero, List.reverse_cons, List.reverse_nil, List.nil_append, List.cons_append, List.length_cons, List.length_nil, Nat.reduceEqDiff, eq_self, reduceIte, p1_s, l1_s, d1, Int.reduceToNat, Nat.reduceAdd, Nat.reduceLeDiff, true_and, and_true, Nat.le_refl, true_implies, forall_const, not_false_eq_true, false_implies, not_true_eq_false, reduceCtorEq, tl_s, tl_n, rf_s, true_or, or_true, hc, I_cast 32 32 rfl, len_ap, Nat.reduceLT, Nat.zero_le]
    refine Law_low_c (by omega) (fun t h5 h6 => ?_)
    exact K41 t (by omega)
