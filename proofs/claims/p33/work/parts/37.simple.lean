/-! ===== the law: simple ===== -/
/-! blocks of Law_simple -/
theorem ml_Law_simple : (g_m Law_simple).2.2.1 = 17 := rfl
theorem rt_Law_simple : (g_m Law_simple).2.2.2.1 = (some .int) := rfl
theorem B_Law_simple_0 {d mc ms cs ss : Nat} {L : List (Option Value)} {st : List Value} {h : g_H} {Q : g_Po} (hw : g_wp Law_simple d mc ms Q 7 [(0, 1, 0, 0, 0, 1, .iconst 1), (1, 2, 0, 0, 0, 0, .istore 4), (3, 1, 0, 0, 0, 0, .iload_n 2), (4, 3, 64, 0, 0, 0, .ifCond .eq 60)] cs ss L st h) : G Law_simple d mc ms cs ss 0 L st h Q := G.run (by decide +kernel) hw
theorem B_Law_simple_7 {d mc ms cs ss : Nat} {L : List (Option Value)} {st : List Value} {h : g_H} {Q : g_Po} (hw : g_wp Law_simple d mc ms Q 13 [(7, 1, 0, 0, 0, 1, .iconst 1), (8, 2, 0, 0, 0, 0, .istore 5), (10, 1, 0, 0, 0, 2, .iconst 2), (11, 2, 0, 0, 0, 0, .istore 6)] cs ss L st h) : G Law_simple d mc ms cs ss 7 L st h Q := G.run (by decide +kernel) hw
theorem B_Law_simple_13 {d mc ms cs ss : Nat} {L : List (Option Value)} {st : List Value} {h : g_H} {Q : g_Po} (hw : g_wp Law_simple d mc ms Q 19 [(13, 2, 0, 0, 0, 0, .iload 6), (15, 1, 0, 0, 0, 0, .iload_n 1), (16, 3, 52, 0, 0, 0, .if_icmp .ge 36)] cs ss L st h) : G Law_simple d mc ms cs ss 13 L st h Q := G.run (by decide +kernel) hw
theorem B_Law_simple_19 {d mc ms cs ss : Nat} {L : List (Option Value)} {st : List Value} {h : g_H} {Q : g_Po} (hw : g_wp Law_simple d mc ms Q 29 [(19, 1, 0, 0, 0, 0, .aload_n 0), (20, 1, 0, 0, 0, 0, .iconst 0), (21, 1, 0, 0, 0, 0, .iaload), (22, 1, 0, 0, 0, 0, .aload_n 0), (23, 2, 0, 0, 0, 0, .iload 6), (25, 1, 0, 0, 0, 0, .iaload), (26, 3, 99, 0, 2135, 2, .invokestatic 40)] cs ss L st h) : G Law_simple d mc ms cs ss 19 L st h Q := G.run (by decide +kernel) hw
theorem B_Law_simple_29 {d mc ms cs ss : Nat} {L : List (Option Value)} {st : List Value} {h : g_H} {Q : g_Po} (hw : g_wp Law_simple d mc ms Q 39 [(29, 1, 0, 0, 0, 0, .aload_n 0), (30, 1, 0, 0, 0, 0, .iconst 0), (31, 1, 0, 0, 0, 0, .iaload), (32, 1, 0, 0, 0, 0, .aload_n 0), (33, 2, 0, 0, 0, 0, .iload 5), (35, 1, 0, 0, 0, 0, .iaload), (36, 3, 99, 0, 2135, 2, .invokestatic 40)] cs ss L st h) : G Law_simple d mc ms cs ss 29 L st h Q := G.run (by decide +kernel) hw
theorem B_Law_simple_39 {d mc ms cs ss : Nat} {L : List (Option Value)} {st : List Value} {h : g_H} {Q : g_Po} (hw : g_wp Law_simple d mc ms Q 42 [(39, 3, 46, 0, 0, 0, .if_icmp .le 7)] cs ss L st h) : G Law_simple d mc ms cs ss 39 L st h Q := G.run (by decide +kernel) hw
theorem B_Law_simple_42 {d mc ms cs ss : Nat} {L : List (Option Value)} {st : List Value} {h : g_H} {Q : g_Po} (hw : g_wp Law_simple d mc ms Q 46 [(42, 2, 0, 0, 0, 0, .iload 6), (44, 2, 0, 0, 0, 0, .istore 5)] cs ss L st h) : G Law_simple d mc ms cs ss 42 L st h Q := G.run (by decide +kernel) hw
theorem B_Law_simple_46 {d mc ms cs ss : Nat} {L : List (Option Value)} {st : List Value} {h : g_H} {Q : g_Po} (hw : g_wp Law_simple d mc ms Q 52 [(46, 3, 0, 0, 0, 1, .iinc 6 1), (49, 3, 13, 0, 0, 0, .goto (-36))] cs ss L st h) : G Law_simple d mc ms cs ss 46 L st h Q := G.run (by decide +kernel) hw
theorem B_Law_simple_52 {d mc ms cs ss : Nat} {L : List (Option Value)} {st : List Value} {h : g_H} {Q : g_Po} (hw : g_wp Law_simple d mc ms Q 64 [(52, 2, 0, 0, 0, 0, .iload 4), (54, 1, 0, 0, 0, 1, .iconst 1), (55, 2, 0, 0, 0, 0, .iload 5), (57, 1, 0, 0, 0, 0, .ishl), (58, 1, 0, 0, 0, 0, .ior), (59, 2, 0, 0, 0, 0, .istore 4), (61, 3, 74, 0, 0, 0, .goto 13)] cs ss L st h) : G Law_simple d mc ms cs ss 52 L st h Q := G.run (by decide +kernel) hw
theorem B_Law_simple_64 {d mc ms cs ss : Nat} {L : List (Option Value)} {st : List Value} {h : g_H} {Q : g_Po} (hw : g_wp Law_simple d mc ms Q 74 [(64, 2, 0, 0, 0, 0, .iload 4), (66, 1, 0, 0, 0, 1, .iconst 1), (67, 1, 0, 0, 0, 0, .iload_n 1), (68, 1, 0, 0, 0, 1, .iconst 1), (69, 1, 0, 0, 0, 0, .isub), (70, 1, 0, 0, 0, 0, .ishl), (71, 1, 0, 0, 0, 0, .ior), (72, 2, 0, 0, 0, 0, .istore 4)] cs ss L st h) : G Law_simple d mc ms cs ss 64 L st h Q := G.run (by decide +kernel) hw
theorem B_Law_simple_74 {d mc ms cs ss : Nat} {L : List (Option Value)} {st : List Value} {h : g_H} {Q : g_Po} (hw : g_wp Law_simple d mc ms Q 78 [(74, 1, 0, 0, 0, 0, .iload_n 2), (75, 3, 82, 0, 0, 0, .ifCond .eq 7)] cs ss L st h) : G Law_simple d mc ms cs ss 74 L st h Q := G.run (by decide +kernel) hw
theorem B_Law_simple_78 {d mc ms cs ss : Nat} {L : List (Option Value)} {st : List Value} {h : g_H} {Q : g_Po} (hw : g_wp Law_simple d mc ms Q 82 [(78, 1, 0, 0, 0, 0, .iload_n 1), (79, 3, 85, 0, 0, 0, .goto 6)] cs ss L st h) : G Law_simple d mc ms cs ss 78 L st h Q := G.run (by decide +kernel) hw
theorem B_Law_simple_82 {d mc ms cs ss : Nat} {L : List (Option Value)} {st : List Value} {h : g_H} {Q : g_Po} (hw : g_wp Law_simple d mc ms Q 85 [(82, 1, 0, 0, 0, 0, .iload_n 1), (83, 1, 0, 0, 0, 1, .iconst 1), (84, 1, 0, 0, 0, 0, .isub)] cs ss L st h) : G Law_simple d mc ms cs ss 82 L st h Q := G.run (by decide +kernel) hw
theorem B_Law_simple_85 {d mc ms cs ss : Nat} {L : List (Option Value)} {st : List Value} {h : g_H} {Q : g_Po} (hw : g_wp Law_simple d mc ms Q 90 [(85, 2, 0, 0, 0, 0, .istore 5), (87, 1, 0, 0, 0, 0, .iconst 0), (88, 2, 0, 0, 0, 0, .istore 6)] cs ss L st h) : G Law_simple d mc ms cs ss 85 L st h Q := G.run (by decide +kernel) hw
theorem B_Law_simple_90 {d mc ms cs ss : Nat} {L : List (Option Value)} {st : List Value} {h : g_H} {Q : g_Po} (hw : g_wp Law_simple d mc ms Q 97 [(90, 2, 0, 0, 0, 0, .iload 6), (92, 2, 0, 0, 0, 0, .iload 4), (94, 3, 297, 0, 0, 0, .if_icmp .eq 203)] cs ss L st h) : G Law_simple d mc ms cs ss 90 L st h Q := G.run (by decide +kernel) hw
theorem B_Law_simple_97 {d mc ms cs ss : Nat} {L : List (Option Value)} {st : List Value} {h : g_H} {Q : g_Po} (hw : g_wp Law_simple d mc ms Q 107 [(97, 2, 0, 0, 0, 0, .iload 4), (99, 2, 0, 0, 0, 0, .istore 6), (101, 1, 0, 0, 0, 0, .iconst 0), (102, 2, 0, 0, 0, 0, .istore 7), (104, 1, 0, 0, 0, 1, .iconst 1), (105, 2, 0, 0, 0, 0, .istore 8)] cs ss L st h) : G Law_simple d mc ms cs ss 97 L st h Q := G.run (by decide +kernel) hw
theorem B_Law_simple_107 {d mc ms cs ss : Nat} {L : List (Option Value)} {st : List Value} {h : g_H} {Q : g_Po} (hw : g_wp Law_simple d mc ms Q 114 [(107, 2, 0, 0, 0, 0, .iload 8), (109, 2, 0, 0, 0, 0, .iload 5), (111, 3, 294, 0, 0, 0, .if_icmp .gt 183)] cs ss L st h) : G Law_simple d mc ms cs ss 107 L st h Q := G.run (by decide +kernel) hw
theorem B_Law_simple_114 {d mc ms cs ss : Nat} {L : List (Option Value)} {st : List Value} {h : g_H} {Q : g_Po} (hw : g_wp Law_simple d mc ms Q 120 [(114, 2, 0, 0, 0, 0, .iload 8), (116, 1, 0, 0, 0, 0, .iload_n 1), (117, 3, 133, 0, 0, 0, .if_icmp .ge 16)] cs ss L st h) : G Law_simple d mc ms cs ss 114 L st h Q := G.run (by decide +kernel) hw
theorem B_Law_simple_120 {d mc ms cs ss : Nat} {L : List (Option Value)} {st : List Value} {h : g_H} {Q : g_Po} (hw : g_wp Law_simple d mc ms Q 130 [(120, 2, 0, 0, 0, 0, .iload 6), (122, 2, 0, 0, 0, 0, .iload 8), (124, 1, 0, 0, 0, 0, .ishr), (125, 1, 0, 0, 0, 1, .iconst 1), (126, 1, 0, 0, 0, 0, .iand), (127, 3, 133, 0, 0, 0, .ifCond .ne 6)] cs ss L st h) : G Law_simple d mc ms cs ss 120 L st h Q := G.run (by decide +kernel) hw
theorem B_Law_simple_130 {d mc ms cs ss : Nat} {L : List (Option Value)} {st : List Value} {h : g_H} {Q : g_Po} (hw : g_wp Law_simple d mc ms Q 133 [(130, 3, 288, 0, 0, 0, .goto 158)] cs ss L st h) : G Law_simple d mc ms cs ss 130 L st h Q := G.run (by decide +kernel) hw
theorem B_Law_simple_133 {d mc ms cs ss : Nat} {L : List (Option Value)} {st : List Value} {h : g_H} {Q : g_Po} (hw : g_wp Law_simple d mc ms Q 147 [(133, 1, 0, 0, 0, (-1), .iconst (-1)), (134, 2, 0, 0, 0, 0, .istore 9), (136, 3, 0, 0, 2180, (-1), .ldc2_w 59), (139, 2, 0, 0, 0, 0, .lstore 10), (141, 2, 0, 0, 0, 0, .iload 7), (143, 1, 0, 0, 0, 1, .iconst 1), (144, 1, 0, 0, 0, 0, .iadd), (145, 2, 0, 0, 0, 0, .istore 12)] cs ss L st h) : G Law_simple d mc ms cs ss 133 L st h Q := G.run (by decide +kernel) hw
theorem B_Law_simple_147 {d mc ms cs ss : Nat} {L : List (Option Value)} {st : List Value} {h : g_H} {Q : g_Po} (hw : g_wp Law_simple d mc ms Q 154 [(147, 2, 0, 0, 0, 0, .iload 12), (149, 2, 0, 0, 0, 0, .iload 8), (151, 3, 227, 0, 0, 0, .if_icmp .ge 76)] cs ss L st h) : G Law_simple d mc ms cs ss 147 L st h Q := G.run (by decide +kernel) hw
theorem B_Law_simple_154 {d mc ms cs ss : Nat} {L : List (Option Value)} {st : List Value} {h : g_H} {Q : g_Po} (hw : g_wp Law_simple d mc ms Q 169 [(154, 1, 0, 0, 0, 0, .aload_n 0), (155, 2, 0, 0, 0, 0, .iload 7), (157, 1, 0, 0, 0, 0, .iaload), (158, 1, 0, 0, 0, 0, .aload_n 0), (159, 2, 0, 0, 0, 0, .iload 8), (161, 1, 0, 0, 0, 0, .iaload), (162, 1, 0, 0, 0, 0, .aload_n 0), (163, 2, 0, 0, 0, 0, .iload 12), (165, 1, 0, 0, 0, 0, .iaload), (166, 3, 100, 0, 2141, 3, .invokestatic 19)] cs ss L st h) : G Law_simple d mc ms cs ss 154 L st h Q := G.run (by decide +kernel) hw
theorem B_Law_simple_169 {d mc ms cs ss : Nat} {L : List (Option Value)} {st : List Value} {h : g_H} {Q : g_Po} (hw : g_wp Law_simple d mc ms Q 183 [(169, 1, 0, 0, 0, 0, .i2l), (170, 2, 0, 0, 0, 0, .lstore 13), (172, 1, 0, 0, 0, 0, .aload_n 0), (173, 2, 0, 0, 0, 0, .iload 7), (175, 1, 0, 0, 0, 0, .iaload), (176, 1, 0, 0, 0, 0, .aload_n 0), (177, 2, 0, 0, 0, 0, .iload 8), (179, 1, 0, 0, 0, 0, .iaload), (180, 3, 198, 0, 0, 0, .if_icmp .ne 18)] cs ss L st h) : G Law_simple d mc ms cs ss 169 L st h Q := G.run (by decide +kernel) hw
theorem B_Law_simple_183 {d mc ms cs ss : Nat} {L : List (Option Value)} {st : List Value} {h : g_H} {Q : g_Po} (hw : g_wp Law_simple d mc ms Q 194 [(183, 1, 0, 0, 0, 0, .aload_n 0), (184, 2, 0, 0, 0, 0, .iload 7), (186, 1, 0, 0, 0, 0, .iaload), (187, 1, 0, 0, 0, 0, .aload_n 0), (188, 2, 0, 0, 0, 0, .iload 12), (190, 1, 0, 0, 0, 0, .iaload), (191, 3, 99, 0, 2135, 2, .invokestatic 40)] cs ss L st h) : G Law_simple d mc ms cs ss 183 L st h Q := G.run (by decide +kernel) hw
theorem B_Law_simple_194 {d mc ms cs ss : Nat} {L : List (Option Value)} {st : List Value} {h : g_H} {Q : g_Po} (hw : g_wp Law_simple d mc ms Q 198 [(194, 1, 0, 0, 0, 0, .i2l), (195, 3, 203, 0, 0, 0, .goto 8)] cs ss L st h) : G Law_simple d mc ms cs ss 194 L st h Q := G.run (by decide +kernel) hw
theorem B_Law_simple_198 {d mc ms cs ss : Nat} {L : List (Option Value)} {st : List Value} {h : g_H} {Q : g_Po} (hw : g_wp Law_simple d mc ms Q 203 [(198, 2, 0, 0, 0, 0, .lload 13), (200, 2, 0, 0, 0, 0, .lload 13), (202, 1, 0, 0, 0, 0, .lmul)] cs ss L st h) : G Law_simple d mc ms cs ss 198 L st h Q := G.run (by decide +kernel) hw
theorem B_Law_simple_203 {d mc ms cs ss : Nat} {L : List (Option Value)} {st : List Value} {h : g_H} {Q : g_Po} (hw : g_wp Law_simple d mc ms Q 213 [(203, 2, 0, 0, 0, 0, .lstore 15), (205, 2, 0, 0, 0, 0, .lload 15), (207, 2, 0, 0, 0, 0, .lload 10), (209, 1, 0, 0, 0, 0, .lcmp), (210, 3, 221, 0, 0, 0, .ifCond .le 11)] cs ss L st h) : G Law_simple d mc ms cs ss 203 L st h Q := G.run (by decide +kernel) hw
theorem B_Law_simple_213 {d mc ms cs ss : Nat} {L : List (Option Value)} {st : List Value} {h : g_H} {Q : g_Po} (hw : g_wp Law_simple d mc ms Q 221 [(213, 2, 0, 0, 0, 0, .iload 12), (215, 2, 0, 0, 0, 0, .istore 9), (217, 2, 0, 0, 0, 0, .lload 15), (219, 2, 0, 0, 0, 0, .lstore 10)] cs ss L st h) : G Law_simple d mc ms cs ss 213 L st h Q := G.run (by decide +kernel) hw
theorem B_Law_simple_221 {d mc ms cs ss : Nat} {L : List (Option Value)} {st : List Value} {h : g_H} {Q : g_Po} (hw : g_wp Law_simple d mc ms Q 227 [(221, 3, 0, 0, 0, 1, .iinc 12 1), (224, 3, 147, 0, 0, 0, .goto (-77))] cs ss L st h) : G Law_simple d mc ms cs ss 221 L st h Q := G.run (by decide +kernel) hw
theorem B_Law_simple_227 {d mc ms cs ss : Nat} {L : List (Option Value)} {st : List Value} {h : g_H} {Q : g_Po} (hw : g_wp Law_simple d mc ms Q 243 [(227, 1, 0, 0, 0, 0, .iload_n 3), (228, 1, 0, 0, 0, 0, .i2l), (229, 1, 0, 0, 0, 0, .iload_n 3), (230, 1, 0, 0, 0, 0, .i2l), (231, 1, 0, 0, 0, 0, .lmul), (232, 1, 0, 0, 0, 0, .aload_n 0), (233, 2, 0, 0, 0, 0, .iload 7), (235, 1, 0, 0, 0, 0, .iaload), (236, 1, 0, 0, 0, 0, .aload_n 0), (237, 2, 0, 0, 0, 0, .iload 8), (239, 1, 0, 0, 0, 0, .iaload), (240, 3, 247, 0, 0, 0, .if_icmp .ne 7)] cs ss L st h) : G Law_simple d mc ms cs ss 227 L st h Q := G.run (by decide +kernel) hw
theorem B_Law_simple_243 {d mc ms cs ss : Nat} {L : List (Option Value)} {st : List Value} {h : g_H} {Q : g_Po} (hw : g_wp Law_simple d mc ms Q 247 [(243, 1, 0, 0, 0, 1, .iconst 1), (244, 3, 258, 0, 0, 0, .goto 14)] cs ss L st h) : G Law_simple d mc ms cs ss 243 L st h Q := G.run (by decide +kernel) hw
theorem B_Law_simple_247 {d mc ms cs ss : Nat} {L : List (Option Value)} {st : List Value} {h : g_H} {Q : g_Po} (hw : g_wp Law_simple d mc ms Q 258 [(247, 1, 0, 0, 0, 0, .aload_n 0), (248, 2, 0, 0, 0, 0, .iload 7), (250, 1, 0, 0, 0, 0, .iaload), (251, 1, 0, 0, 0, 0, .aload_n 0), (252, 2, 0, 0, 0, 0, .iload 8), (254, 1, 0, 0, 0, 0, .iaload), (255, 3, 99, 0, 2135, 2, .invokestatic 40)] cs ss L st h) : G Law_simple d mc ms cs ss 247 L st h Q := G.run (by decide +kernel) hw
theorem B_Law_simple_258 {d mc ms cs ss : Nat} {L : List (Option Value)} {st : List Value} {h : g_H} {Q : g_Po} (hw : g_wp Law_simple d mc ms Q 267 [(258, 1, 0, 0, 0, 0, .i2l), (259, 1, 0, 0, 0, 0, .lmul), (260, 2, 0, 0, 0, 0, .lstore 12), (262, 2, 0, 0, 0, 0, .iload 9), (264, 3, 284, 0, 0, 0, .ifCond .lt 20)] cs ss L st h) : G Law_simple d mc ms cs ss 258 L st h Q := G.run (by decide +kernel) hw
theorem B_Law_simple_267 {d mc ms cs ss : Nat} {L : List (Option Value)} {st : List Value} {h : g_H} {Q : g_Po} (hw : g_wp Law_simple d mc ms Q 275 [(267, 2, 0, 0, 0, 0, .lload 10), (269, 2, 0, 0, 0, 0, .lload 12), (271, 1, 0, 0, 0, 0, .lcmp), (272, 3, 284, 0, 0, 0, .ifCond .le 12)] cs ss L st h) : G Law_simple d mc ms cs ss 267 L st h Q := G.run (by decide +kernel) hw
theorem B_Law_simple_275 {d mc ms cs ss : Nat} {L : List (Option Value)} {st : List Value} {h : g_H} {Q : g_Po} (hw : g_wp Law_simple d mc ms Q 284 [(275, 2, 0, 0, 0, 0, .iload 4), (277, 1, 0, 0, 0, 1, .iconst 1), (278, 2, 0, 0, 0, 0, .iload 9), (280, 1, 0, 0, 0, 0, .ishl), (281, 1, 0, 0, 0, 0, .ior), (282, 2, 0, 0, 0, 0, .istore 4)] cs ss L st h) : G Law_simple d mc ms cs ss 275 L st h Q := G.run (by decide +kernel) hw
theorem B_Law_simple_284 {d mc ms cs ss : Nat} {L : List (Option Value)} {st : List Value} {h : g_H} {Q : g_Po} (hw : g_wp Law_simple d mc ms Q 288 [(284, 2, 0, 0, 0, 0, .iload 8), (286, 2, 0, 0, 0, 0, .istore 7)] cs ss L st h) : G Law_simple d mc ms cs ss 284 L st h Q := G.run (by decide +kernel) hw
theorem B_Law_simple_288 {d mc ms cs ss : Nat} {L : List (Option Value)} {st : List Value} {h : g_H} {Q : g_Po} (hw : g_wp Law_simple d mc ms Q 294 [(288, 3, 0, 0, 0, 1, .iinc 8 1), (291, 3, 107, 0, 0, 0, .goto (-184))] cs ss L st h) : G Law_simple d mc ms cs ss 288 L st h Q := G.run (by decide +kernel) hw
theorem B_Law_simple_294 {d mc ms cs ss : Nat} {L : List (Option Value)} {st : List Value} {h : g_H} {Q : g_Po} (hw : g_wp Law_simple d mc ms Q 297 [(294, 3, 90, 0, 0, 0, .goto (-204))] cs ss L st h) : G Law_simple d mc ms cs ss 294 L st h Q := G.run (by decide +kernel) hw
theorem B_Law_simple_297 {d mc ms cs ss : Nat} {L : List (Option Value)} {st : List Value} {h : g_H} {Q : g_Po} (hw : g_wp Law_simple d mc ms Q 309 [(297, 1, 0, 0, 0, (-1), .iconst (-1)), (298, 2, 0, 0, 0, 0, .istore 7), (300, 1, 0, 0, 0, (-1), .iconst (-1)), (301, 2, 0, 0, 0, 0, .istore 8), (303, 1, 0, 0, 0, 0, .iconst 0), (304, 2, 0, 0, 0, 0, .istore 9), (306, 1, 0, 0, 0, 0, .iconst 0), (307, 2, 0, 0, 0, 0, .istore 10)] cs ss L st h) : G Law_simple d mc ms cs ss 297 L st h Q := G.run (by decide +kernel) hw
theorem B_Law_simple_309 {d mc ms cs ss : Nat} {L : List (Option Value)} {st : List Value} {h : g_H} {Q : g_Po} (hw : g_wp Law_simple d mc ms Q 315 [(309, 2, 0, 0, 0, 0, .iload 10), (311, 1, 0, 0, 0, 0, .iload_n 1), (312, 3, 377, 0, 0, 0, .if_icmp .ge 65)] cs ss L st h) : G Law_simple d mc ms cs ss 309 L st h Q := G.run (by decide +kernel) hw
theorem B_Law_simple_315 {d mc ms cs ss : Nat} {L : List (Option Value)} {st : List Value} {h : g_H} {Q : g_Po} (hw : g_wp Law_simple d mc ms Q 325 [(315, 2, 0, 0, 0, 0, .iload 4), (317, 2, 0, 0, 0, 0, .iload 10), (319, 1, 0, 0, 0, 0, .ishr), (320, 1, 0, 0, 0, 1, .iconst 1), (321, 1, 0, 0, 0, 0, .iand), (322, 3, 328, 0, 0, 0, .ifCond .ne 6)] cs ss L st h) : G Law_simple d mc ms cs ss 315 L st h Q := G.run (by decide +kernel) hw
theorem B_Law_simple_325 {d mc ms cs ss : Nat} {L : List (Option Value)} {st : List Value} {h : g_H} {Q : g_Po} (hw : g_wp Law_simple d mc ms Q 328 [(325, 3, 371, 0, 0, 0, .goto 46)] cs ss L st h) : G Law_simple d mc ms cs ss 325 L st h Q := G.run (by decide +kernel) hw
theorem B_Law_simple_328 {d mc ms cs ss : Nat} {L : List (Option Value)} {st : List Value} {h : g_H} {Q : g_Po} (hw : g_wp Law_simple d mc ms Q 333 [(328, 2, 0, 0, 0, 0, .iload 7), (330, 3, 350, 0, 0, 0, .ifCond .lt 20)] cs ss L st h) : G Law_simple d mc ms cs ss 328 L st h Q := G.run (by decide +kernel) hw
theorem B_Law_simple_333 {d mc ms cs ss : Nat} {L : List (Option Value)} {st : List Value} {h : g_H} {Q : g_Po} (hw : g_wp Law_simple d mc ms Q 344 [(333, 1, 0, 0, 0, 0, .aload_n 0), (334, 2, 0, 0, 0, 0, .iload 7), (336, 1, 0, 0, 0, 0, .iaload), (337, 1, 0, 0, 0, 0, .aload_n 0), (338, 2, 0, 0, 0, 0, .iload 10), (340, 1, 0, 0, 0, 0, .iaload), (341, 3, 350, 0, 0, 0, .if_icmp .ne 9)] cs ss L st h) : G Law_simple d mc ms cs ss 333 L st h Q := G.run (by decide +kernel) hw
theorem B_Law_simple_344 {d mc ms cs ss : Nat} {L : List (Option Value)} {st : List Value} {h : g_H} {Q : g_Po} (hw : g_wp Law_simple d mc ms Q 350 [(344, 1, 0, 0, 0, 1, .iconst 1), (345, 1, 0, 0, 0, 0, .iload_n 1), (346, 1, 0, 0, 0, 0, .ishl), (347, 1, 0, 0, 0, 1, .iconst 1), (348, 1, 0, 0, 0, 0, .isub), (349, 1, 0, 0, 0, 0, .ireturn)] cs ss L st h) : G Law_simple d mc ms cs ss 344 L st h Q := G.run (by decide +kernel) hw
theorem B_Law_simple_350 {d mc ms cs ss : Nat} {L : List (Option Value)} {st : List Value} {h : g_H} {Q : g_Po} (hw : g_wp Law_simple d mc ms Q 355 [(350, 2, 0, 0, 0, 0, .iload 8), (352, 3, 360, 0, 0, 0, .ifCond .ge 8)] cs ss L st h) : G Law_simple d mc ms cs ss 350 L st h Q := G.run (by decide +kernel) hw
theorem B_Law_simple_355 {d mc ms cs ss : Nat} {L : List (Option Value)} {st : List Value} {h : g_H} {Q : g_Po} (hw : g_wp Law_simple d mc ms Q 360 [(355, 2, 0, 0, 0, 0, .iload 10), (357, 3, 362, 0, 0, 0, .goto 5)] cs ss L st h) : G Law_simple d mc ms cs ss 355 L st h Q := G.run (by decide +kernel) hw
theorem B_Law_simple_360 {d mc ms cs ss : Nat} {L : List (Option Value)} {st : List Value} {h : g_H} {Q : g_Po} (hw : g_wp Law_simple d mc ms Q 362 [(360, 2, 0, 0, 0, 0, .iload 8)] cs ss L st h) : G Law_simple d mc ms cs ss 360 L st h Q := G.run (by decide +kernel) hw
theorem B_Law_simple_362 {d mc ms cs ss : Nat} {L : List (Option Value)} {st : List Value} {h : g_H} {Q : g_Po} (hw : g_wp Law_simple d mc ms Q 371 [(362, 2, 0, 0, 0, 0, .istore 8), (364, 2, 0, 0, 0, 0, .iload 10), (366, 2, 0, 0, 0, 0, .istore 7), (368, 3, 0, 0, 0, 1, .iinc 9 1)] cs ss L st h) : G Law_simple d mc ms cs ss 362 L st h Q := G.run (by decide +kernel) hw
theorem B_Law_simple_371 {d mc ms cs ss : Nat} {L : List (Option Value)} {st : List Value} {h : g_H} {Q : g_Po} (hw : g_wp Law_simple d mc ms Q 377 [(371, 3, 0, 0, 0, 1, .iinc 10 1), (374, 3, 309, 0, 0, 0, .goto (-65))] cs ss L st h) : G Law_simple d mc ms cs ss 371 L st h Q := G.run (by decide +kernel) hw
theorem B_Law_simple_377 {d mc ms cs ss : Nat} {L : List (Option Value)} {st : List Value} {h : g_H} {Q : g_Po} (hw : g_wp Law_simple d mc ms Q 381 [(377, 1, 0, 0, 0, 0, .iload_n 2), (378, 3, 406, 0, 0, 0, .ifCond .eq 28)] cs ss L st h) : G Law_simple d mc ms cs ss 377 L st h Q := G.run (by decide +kernel) hw
theorem B_Law_simple_381 {d mc ms cs ss : Nat} {L : List (Option Value)} {st : List Value} {h : g_H} {Q : g_Po} (hw : g_wp Law_simple d mc ms Q 387 [(381, 2, 0, 0, 0, 0, .iload 9), (383, 1, 0, 0, 0, 3, .iconst 3), (384, 3, 398, 0, 0, 0, .if_icmp .lt 14)] cs ss L st h) : G Law_simple d mc ms cs ss 381 L st h Q := G.run (by decide +kernel) hw
theorem B_Law_simple_387 {d mc ms cs ss : Nat} {L : List (Option Value)} {st : List Value} {h : g_H} {Q : g_Po} (hw : g_wp Law_simple d mc ms Q 398 [(387, 1, 0, 0, 0, 0, .aload_n 0), (388, 2, 0, 0, 0, 0, .iload 8), (390, 1, 0, 0, 0, 0, .iaload), (391, 1, 0, 0, 0, 0, .aload_n 0), (392, 2, 0, 0, 0, 0, .iload 7), (394, 1, 0, 0, 0, 0, .iaload), (395, 3, 406, 0, 0, 0, .if_icmp .ne 11)] cs ss L st h) : G Law_simple d mc ms cs ss 387 L st h Q := G.run (by decide +kernel) hw
theorem B_Law_simple_398 {d mc ms cs ss : Nat} {L : List (Option Value)} {st : List Value} {h : g_H} {Q : g_Po} (hw : g_wp Law_simple d mc ms Q 406 [(398, 1, 0, 0, 0, 1, .iconst 1), (399, 1, 0, 0, 0, 0, .iload_n 1), (400, 1, 0, 0, 0, 0, .ishl), (401, 1, 0, 0, 0, 1, .iconst 1), (402, 1, 0, 0, 0, 0, .isub), (403, 3, 408, 0, 0, 0, .goto 5)] cs ss L st h) : G Law_simple d mc ms cs ss 398 L st h Q := G.run (by decide +kernel) hw
theorem B_Law_simple_406 {d mc ms cs ss : Nat} {L : List (Option Value)} {st : List Value} {h : g_H} {Q : g_Po} (hw : g_wp Law_simple d mc ms Q 408 [(406, 2, 0, 0, 0, 0, .iload 4)] cs ss L st h) : G Law_simple d mc ms cs ss 406 L st h Q := G.run (by decide +kernel) hw
theorem B_Law_simple_408 {d mc ms cs ss : Nat} {L : List (Option Value)} {st : List Value} {h : g_H} {Q : g_Po} (hw : g_wp Law_simple d mc ms Q 409 [(408, 1, 0, 0, 0, 0, .ireturn)] cs ss L st h) : G Law_simple d mc ms cs ss 408 L st h Q := G.run (by decide +kernel) hw
theorem ffb_S {S : Stk} (w : wfS S) : ffb S.1 1 = 1 := by
  have h1 := ffb_1 w 1 (Nat.le_refl _) (by have := w.1; omega)
  have h2 := ffb_le S.1 1
  omega
theorem I_full {n : Nat} (h : n < 31) : I 1 <<< (I (n : Int) &&& 31) - I 1 = I ((2 ^ n - 1 : Nat) : Int) := by
  rw [I_shl1 n h, I_sub]
  have : 1 ≤ 2 ^ n := Nat.one_le_two_pow
  generalize 2 ^ n = x at this
  congr 1; omega
theorem tb_t {m k : Nat} (h : m.testBit k = true) : tb m k = 1 := if_pos h
theorem tb_f {m k : Nat} (h : ¬ m.testBit k = true) : tb m k = 0 := if_neg h
theorem Simple_first {d : Nat} (hd : 3 ≤ d) {S : Stk} {a : Nat} {t : Int} {f : Nat → Int} {h : g_H} {Q : g_Po} (wS : wfS S) (ht : 0 ≤ t ∧ t ≤ 200) (har : ary h a 32 f) (tk : tkn S f) {x7 x8 x9 x10 x11 x12 x13 x14 x15 x16 : Option Value} (hO : G Law_simple d 0 0 0 0 52 [some (.ref a), some (.int (I (S.1.length : Int))), some (.int (I (sz S.2))), some (.int (I t)), some (.int (I 1)), some (.int (I (ffS S : Int))), some (.int (I (S.1.length : Int))), x7, x8, x9, x10, x11, x12, x13, x14, x15, x16] [] h Q) : ∀ (j i : Nat) (k : Nat), i + j = S.1.length → 2 ≤ i → k = ffb S.1 (i - 1) → G Law_simple d 0 0 0 0 13 [some (.ref a), some (.int (I (S.1.length : Int))), some (.int (I (sz S.2))), some (.int (I t)), some (.int (I 1)), some (.int (I (k : Int))), some (.int (I (i : Int))), x7, x8, x9, x10, x11, x12, x13, x14, x15, x16] [] h Q := by
  have d1 : 1 ≤ d := by omega
  have hpc : pcs S ≤ S.1.length := pcs_le
  have w1 := wS.1
  have w2 := wS.2.1
  have w3 := wS.2.2.1
  have har' : h[a]? = some (.inl (0, 32, fun i => I (f i))) := har
  intro j
  induction j with
  | zero =>
    intro i k hi h2 hk
    obtain rfl : i = S.1.length := by omega
    obtain rfl : k = ffS S := hk
    refine B_Law_simple_13 ?_
    simp only [wp_cons, wp_nil, List.getElem?_cons_zero, List.getElem?_cons_succ, List.set_cons_zero, List.set_cons_succ, s_iload, ldI_s, s_iload_n1, s_if_icmp_ge, p2_s, true_and, and_true, Nat.le_refl, true_implies, forall_const, not_false_eq_true, false_implies, not_true_eq_false, reduceCtorEq, tl_s, tl_n, rf_s, List.cons_append, List.nil_append, true_or, or_true]
    refine b_le (by omega) (by omega) (fun cc => ?_) (fun cc => absurd cc (by omega))
    exact hO
  | succ j ih =>
    intro i k hi h2 hk
    have hle := ffb_le S.1 (i - 1)
    have b1 := sqd_bd (w3 0 (by omega)) (w3 i (by omega))
    have b2 := sqd_bd (w3 0 (by omega)) (w3 k (by omega))
    have es : ffb S.1 i = if sqd (pg S.1 0) (pg S.1 (ffb S.1 (i - 1))) < sqd (pg S.1 0) (pg S.1 i) then i else ffb S.1 (i - 1) := by
      obtain ⟨i', rfl⟩ : ∃ i', i = i' + 1 := ⟨i - 1, by omega⟩
      rfl
    refine B_Law_simple_13 ?_
    simp only [wp_cons, wp_nil, List.getElem?_cons_zero, List.getElem?_cons_succ, List.set_cons_zero, List.set_cons_succ, s_iload, ldI_s, s_iload_n1, s_if_icmp_ge, p2_s, true_and, and_true, Nat.le_refl, true_implies, forall_const, not_false_eq_true, false_implies, not_true_eq_false, reduceCtorEq, tl_s, tl_n, rf_s, List.cons_append, List.nil_append, true_or, or_true, har', ex_ie (x := 0) (i := 0) (n := 32) rfl (by omega), ex_ix (i := i) (n := 32) (by omega), ex_ix (i := k) (n := 32) (by omega), tk.k (k := 0) (by omega), tk.k (k := i) (by omega), tk.k (k := k) (by omega)]
    refine b_le (by omega) (by omega) (fun cc => absurd cc (by omega)) (fun cc => ?_)
    refine B_Law_simple_19 ?_
    simp only [wp_cons, wp_nil, List.getElem?_cons_zero, List.getElem?_cons_succ, List.set_cons_zero, List.set_cons_succ, s_aload_n0, ldA_r, ldA_n, ldA_s, s_iconst, s_iaload, iR_s, ia_s, s_iload, ldI_s, s_invokestatic, rc_s, ob_s, List.drop_succ_cons, List.drop_zero, List.take_succ_cons, List.take_zero, List.reverse_cons, List.reverse_nil, List.nil_append, List.cons_append, List.length_cons, List.length_nil, Nat.reduceEqDiff, eq_self, reduceIte, p1_s, p2_s, l1_s, d1, Int.reduceToNat, Nat.reduceAdd, Nat.reduceLeDiff, true_and, and_true, Nat.le_refl, true_implies, forall_const, not_false_eq_true, false_implies, not_true_eq_false, reduceCtorEq, tl_s, tl_n, rf_s, true_or, or_true, har', ex_ie (x := 0) (i := 0) (n := 32) rfl (by omega), ex_ix (i := i) (n := 32) (by omega), ex_ix (i := k) (n := 32) (by omega), tk.k (k := 0) (by omega), tk.k (k := i) (by omega), tk.k (k := k) (by omega)]
    refine Law_far_c (w3 0 (by omega)) (w3 i (by omega)) ?_
    refine B_Law_simple_29 ?_
    simp only [wp_cons, wp_nil, List.getElem?_cons_zero, List.getElem?_cons_succ, List.set_cons_zero, List.set_cons_succ, s_aload_n0, ldA_r, ldA_n, ldA_s, s_iconst, s_iaload, iR_s, ia_s, s_iload, ldI_s, s_invokestatic, rc_s, ob_s, List.drop_succ_cons, List.drop_zero, List.take_succ_cons, List.take_zero, List.reverse_cons, List.reverse_nil, List.nil_append, List.cons_append, List.length_cons, List.length_nil, Nat.reduceEqDiff, eq_self, reduceIte, p1_s, p2_s, l1_s, d1, Int.reduceToNat, Nat.reduceAdd, Nat.reduceLeDiff, true_and, and_true, Nat.le_refl, true_implies, forall_const, not_false_eq_true, false_implies, not_true_eq_false, reduceCtorEq, tl_s, tl_n, rf_s, true_or, or_true, har', ex_ie (x := 0) (i := 0) (n := 32) rfl (by omega), ex_ix (i := i) (n := 32) (by omega), ex_ix (i := k) (n := 32) (by omega), tk.k (k := 0) (by omega), tk.k (k := i) (by omega), tk.k (k := k) (by omega)]
    refine Law_far_c (w3 0 (by omega)) (w3 k (by omega)) ?_
    by_cases c : sqd (pg S.1 0) (pg S.1 k) < sqd (pg S.1 0) (pg S.1 i)
    · refine B_Law_simple_39 ?_
      simp only [wp_cons, wp_nil, List.getElem?_cons_zero, List.getElem?_cons_succ, List.set_cons_zero, List.set_cons_succ, s_if_icmp_le, p2_s, true_and, and_true, Nat.le_refl, true_implies, forall_const, not_false_eq_true, false_implies, not_true_eq_false, reduceCtorEq, tl_s, tl_n, rf_s, List.cons_append, List.nil_append, true_or, or_true, har', ex_ie (x := 0) (i := 0) (n := 32) rfl (by omega), ex_ix (i := i) (n := 32) (by omega), ex_ix (i := k) (n := 32) (by omega), tk.k (k := 0) (by omega), tk.k (k := i) (by omega), tk.k (k := k) (by omega)]
      refine b_le (by omega) (by omega) (fun cc => absurd cc (by omega)) (fun cc => ?_)
      refine B_Law_simple_42 ?_
      simp only [wp_cons, wp_nil, List.getElem?_cons_zero, List.getElem?_cons_succ, List.set_cons_zero, List.set_cons_succ, s_iload, ldI_s, s_istore, p1_s, s1_0, s1_s, kx_i, kx_r, kx_s, kx_n, kx_l, kx_0, true_and, and_true, Nat.le_refl, true_implies, forall_const, not_false_eq_true, false_implies, not_true_eq_false, reduceCtorEq, tl_s, tl_n, rf_s, List.cons_append, List.nil_append, true_or, or_true, har', ex_ie (x := 0) (i := 0) (n := 32) rfl (by omega), ex_ix (i := i) (n := 32) (by omega), ex_ix (i := k) (n := 32) (by omega), tk.k (k := 0) (by omega), tk.k (k := i) (by omega), tk.k (k := k) (by omega)]
      refine B_Law_simple_46 ?_
      simp only [wp_cons, wp_nil, List.getElem?_cons_zero, List.getElem?_cons_succ, List.set_cons_zero, List.set_cons_succ, s_iinc, ldI_s, s1_0, s1_s, kx_i, kx_r, kx_s, kx_n, kx_l, kx_0, I_add, s_goto, true_and, and_true, Nat.le_refl, true_implies, forall_const, not_false_eq_true, false_implies, not_true_eq_false, reduceCtorEq, tl_s, tl_n, rf_s, List.cons_append, List.nil_append, true_or, or_true, har', ex_ie (x := 0) (i := 0) (n := 32) rfl (by omega), ex_ix (i := i) (n := 32) (by omega), ex_ix (i := k) (n := 32) (by omega), tk.k (k := 0) (by omega), tk.k (k := i) (by omega), tk.k (k := k) (by omega)]
      refine ih (i + 1) i (by omega) (by omega) ?_
      rw [Nat.add_sub_cancel, es, ← hk, if_pos c]
    · refine B_Law_simple_39 ?_
      simp only [wp_cons, wp_nil, List.getElem?_cons_zero, List.getElem?_cons_succ, List.set_cons_zero, List.set_cons_succ, s_if_icmp_le, p2_s, true_and, and_true, Nat.le_refl, true_implies, forall_const, not_false_eq_true, false_implies, not_true_eq_false, reduceCtorEq, tl_s, tl_n, rf_s, List.cons_append, List.nil_append, true_or, or_true, har', ex_ie (x := 0) (i := 0) (n := 32) rfl (by omega), ex_ix (i := i) (n := 32) (by omega), ex_ix (i := k) (n := 32) (by omega), tk.k (k := 0) (by omega), tk.k (k := i) (by omega), tk.k (k := k) (by omega)]
      refine b_le (by omega) (by omega) (fun cc => ?_) (fun cc => absurd cc (by omega))
      refine B_Law_simple_46 ?_
      simp only [wp_cons, wp_nil, List.getElem?_cons_zero, List.getElem?_cons_succ, List.set_cons_zero, List.set_cons_succ, s_iinc, ldI_s, s1_0, s1_s, kx_i, kx_r, kx_s, kx_n, kx_l, kx_0, I_add, s_goto, true_and, and_true, Nat.le_refl, true_implies, forall_const, not_false_eq_true, false_implies, not_true_eq_false, reduceCtorEq, tl_s, tl_n, rf_s, List.cons_append, List.nil_append, true_or, or_true, har', ex_ie (x := 0) (i := 0) (n := 32) rfl (by omega), ex_ix (i := i) (n := 32) (by omega), ex_ix (i := k) (n := 32) (by omega), tk.k (k := 0) (by omega), tk.k (k := i) (by omega), tk.k (k := k) (by omega)]
      refine ih (i + 1) k (by omega) (by omega) ?_
      rw [Nat.add_sub_cancel, es, ← hk, if_neg c]
theorem Simple_scan {d : Nat} (hd : 3 ≤ d) {S : Stk} {a : Nat} {t : Int} {f : Nat → Int} {h : g_H} {Q : g_Po} (wS : wfS S) (ht : 0 ≤ t ∧ t ≤ 200) (har : ary h a 32 f) (tk : tkn S f) {m p b : Nat} (hp : p < b) (hb : b ≤ pcs S) (hpn : p < S.1.length) {z5 z6 : Int32} (hO : ∀ (v u : Int) (x13 x14 x15 x16 : Option Value), v = (if b = p + 1 then -1 else (frS S p b : Int)) → u = (if b = p + 1 then -1 else offS (pg S.1 p) (pr S.1 b) (pg S.1 (frS S p b))) → G Law_simple d 0 0 0 0 227 [some (.ref a), some (.int (I (S.1.length : Int))), some (.int (I (sz S.2))), some (.int (I t)), some (.int (I (m : Int))), some (.int z5), some (.int z6), some (.int (I (p : Int))), some (.int (I (b : Int))), some (.int (I v)), some (.long (J u)), none, some (.int (I (b : Int))), x13, x14, x15, x16] [] h Q) : ∀ (j k : Nat) (v u : Int) (x13 x14 x15 x16 : Option Value), k + j = b → p < k → v = (if k = p + 1 then -1 else (fbb (fun i => offS (pg S.1 p) (pr S.1 b) (pg S.1 i)) p (k - p - 2) : Int)) → u = (if k = p + 1 then -1 else offS (pg S.1 p) (pr S.1 b) (pg S.1 (fbb (fun i => offS (pg S.1 p) (pr S.1 b) (pg S.1 i)) p (k - p - 2)))) → G Law_simple d 0 0 0 0 147 [some (.ref a), some (.int (I (S.1.length : Int))), some (.int (I (sz S.2))), some (.int (I t)), some (.int (I (m : Int))), some (.int z5), some (.int z6), some (.int (I (p : Int))), some (.int (I (b : Int))), some (.int (I v)), some (.long (J u)), none, some (.int (I (k : Int))), x13, x14, x15, x16] [] h Q := by
  have d1 : 1 ≤ d := by omega
  have hpc : pcs S ≤ S.1.length := pcs_le
  have w1 := wS.1
  have w2 := wS.2.1
  have w3 := wS.2.2.1
  have har' : h[a]? = some (.inl (0, 32, fun i => I (f i))) := har
  have pa := w3 p hpn
  have pb : pt (pr S.1 b) := pr_pt w3 (by omega)
  intro j
  induction j with
  | zero =>
    intro k v u x13 x14 x15 x16 hk h1 hv hu
    obtain rfl : k = b := by omega
    refine B_Law_simple_147 ?_
    simp only [wp_cons, wp_nil, List.getElem?_cons_zero, List.getElem?_cons_succ, List.set_cons_zero, List.set_cons_succ, s_iload, ldI_s, s_if_icmp_ge, p2_s, true_and, and_true, Nat.le_refl, true_implies, forall_const, not_false_eq_true, false_implies, not_true_eq_false, reduceCtorEq, tl_s, tl_n, rf_s, List.cons_append, List.nil_append, true_or, or_true]
    refine b_le (by omega) (by omega) (fun cc => ?_) (fun cc => absurd cc (by omega))
    exact hO v u _ _ _ _ hv hu
  | succ j ih =>
    intro k v u x13 x14 x15 x16 hk h1 hv hu
    have pk := w3 k (by omega)
    have b1 := crs_bd pa pb pk
    have b2 := sqd_bd pa pk
    have b3 := offS_bd pa pb pk
    have hu2 : -1 ≤ u ∧ u ≤ 3984023984004 := by
      rw [hu]
      split
      · omega
      · rename_i c
        have hr := fbb_rng (fun i => offS (pg S.1 p) (pr S.1 b) (pg S.1 i)) p (k - p - 2)
        have := offS_bd pa pb (w3 _ (show fbb (fun i => offS (pg S.1 p) (pr S.1 b) (pg S.1 i)) p (k - p - 2) < S.1.length by omega))
        omega
    have hs : k ≠ p + 1 → fbb (fun i => offS (pg S.1 p) (pr S.1 b) (pg S.1 i)) p (k - p - 1) = if offS (pg S.1 p) (pr S.1 b) (pg S.1 (fbb (fun i => offS (pg S.1 p) (pr S.1 b) (pg S.1 i)) p (k - p - 2))) < offS (pg S.1 p) (pr S.1 b) (pg S.1 k) then k else fbb (fun i => offS (pg S.1 p) (pr S.1 b) (pg S.1 i)) p (k - p - 2) := by
      intro c
      obtain ⟨i, rfl⟩ : ∃ i, k = p + 2 + i := ⟨k - p - 2, by omega⟩
      rw [show p + 2 + i - p - 1 = i + 1 by omega, show p + 2 + i - p - 2 = i by omega]
      show (if offS _ _ (pg S.1 (fbb _ _ _)) < offS _ _ (pg S.1 (p + 1 + (i + 1))) then p + 1 + (i + 1) else _) = _
      rw [show p + 1 + (i + 1) = p + 2 + i by omega]
    have up : ∀ v' u' : Int, (v' = (if u < offS (pg S.1 p) (pr S.1 b) (pg S.1 k) then (k : Int) else v)) → (u' = (if u < offS (pg S.1 p) (pr S.1 b) (pg S.1 k) then offS (pg S.1 p) (pr S.1 b) (pg S.1 k) else u)) → v' = (if k + 1 = p + 1 then -1 else (fbb (fun i => offS (pg S.1 p) (pr S.1 b) (pg S.1 i)) p (k + 1 - p - 2) : Int)) ∧ u' = (if k + 1 = p + 1 then -1 else offS (pg S.1 p) (pr S.1 b) (pg S.1 (fbb (fun i => offS (pg S.1 p) (pr S.1 b) (pg S.1 i)) p (k + 1 - p - 2)))) := by
      intro v' u' e1 e2
      rw [if_neg (by omega), if_neg (by omega), show k + 1 - p - 2 = k - p - 1 by omega]
      by_cases c : k = p + 1
      · rw [if_pos c] at hv hu
        rw [if_pos (by omega)] at e1 e2
        rw [show k - p - 1 = 0 by omega]
        show v' = ((p + 1 : Nat) : Int) ∧ u' = offS _ _ (pg S.1 (p + 1))
        rw [← c]
        exact ⟨e1, e2⟩
      · rw [if_neg c] at hv hu
        rw [hs c, ← hu]
        by_cases c2 : u < offS (pg S.1 p) (pr S.1 b) (pg S.1 k)
        · rw [if_pos c2] at e1 e2 ⊢
          exact ⟨e1, e2⟩
        · rw [if_neg c2] at e1 e2 ⊢
          exact ⟨e1.trans hv, e2.trans hu⟩
    have K203 : ∀ (y13 : Int) (y15 y16 : Option Value), G Law_simple d 0 0 0 0 203 [some (.ref a), some (.int (I (S.1.length : Int))), some (.int (I (sz S.2))), some (.int (I t)), some (.int (I (m : Int))), some (.int z5), some (.int z6), some (.int (I (p : Int))), some (.int (I (b : Int))), some (.int (I v)), some (.long (J u)), none, some (.int (I (k : Int))), some (.long (J y13)), none, y15, y16] [.long (J (offS (pg S.1 p) (pr S.1 b) (pg S.1 k)))] h Q := by
      intro y13 y15 y16
      by_cases c : u < offS (pg S.1 p) (pr S.1 b) (pg S.1 k)
      · refine B_Law_simple_203 ?_
        simp only [wp_cons, wp_nil, List.getElem?_cons_zero, List.getElem?_cons_succ, List.set_cons_zero, List.set_cons_succ, s_lstore, l1_s, s2_0, s2_s, kx_i, kx_r, kx_s, kx_n, kx_l, kx_0, s_lload, ldL_s, s_lcmp, l2_s, s_ifCond_le, p1_s, true_and, and_true, Nat.le_refl, true_implies, forall_const, not_false_eq_true, false_implies, not_true_eq_false, reduceCtorEq, tl_s, tl_n, rf_s, List.cons_append, List.nil_append, true_or, or_true]
        refine b_cle (by omega) (by omega) (fun cc => absurd cc (by omega)) (fun cc => ?_)
        refine B_Law_simple_213 ?_
        simp only [wp_cons, wp_nil, List.getElem?_cons_zero, List.getElem?_cons_succ, List.set_cons_zero, List.set_cons_succ, s_iload, ldI_s, s_istore, p1_s, s1_0, s1_s, kx_i, kx_r, kx_s, kx_n, kx_l, kx_0, s_lload, ldL_s, s_lstore, l1_s, s2_0, s2_s, true_and, and_true, Nat.le_refl, true_implies, forall_const, not_false_eq_true, false_implies, not_true_eq_false, reduceCtorEq, tl_s, tl_n, rf_s, List.cons_append, List.nil_append, true_or, or_true]
        refine B_Law_simple_221 ?_
        simp only [wp_cons, wp_nil, List.getElem?_cons_zero, List.getElem?_cons_succ, List.set_cons_zero, List.set_cons_succ, s_iinc, ldI_s, s1_0, s1_s, kx_i, kx_r, kx_s, kx_n, kx_l, kx_0, I_add, s_goto, true_and, and_true, Nat.le_refl, true_implies, forall_const, not_false_eq_true, false_implies, not_true_eq_false, reduceCtorEq, tl_s, tl_n, rf_s, List.cons_append, List.nil_append, true_or, or_true]
        obtain ⟨g1, g2⟩ := up k _ (if_pos c).symm (if_pos c).symm
        exact ih (k + 1) _ _ _ _ _ _ (by omega) (by omega) g1 g2
      · refine B_Law_simple_203 ?_
        simp only [wp_cons, wp_nil, List.getElem?_cons_zero, List.getElem?_cons_succ, List.set_cons_zero, List.set_cons_succ, s_lstore, l1_s, s2_0, s2_s, kx_i, kx_r, kx_s, kx_n, kx_l, kx_0, s_lload, ldL_s, s_lcmp, l2_s, s_ifCond_le, p1_s, true_and, and_true, Nat.le_refl, true_implies, forall_const, not_false_eq_true, false_implies, not_true_eq_false, reduceCtorEq, tl_s, tl_n, rf_s, List.cons_append, List.nil_append, true_or, or_true]
        refine b_cle (by omega) (by omega) (fun cc => ?_) (fun cc => absurd cc (by omega))
        refine B_Law_simple_221 ?_
        simp only [wp_cons, wp_nil, List.getElem?_cons_zero, List.getElem?_cons_succ, List.set_cons_zero, List.set_cons_succ, s_iinc, ldI_s, s1_0, s1_s, kx_i, kx_r, kx_s, kx_n, kx_l, kx_0, I_add, s_goto, true_and, and_true, Nat.le_refl, true_implies, forall_const, not_false_eq_true, false_implies, not_true_eq_false, reduceCtorEq, tl_s, tl_n, rf_s, List.cons_append, List.nil_append, true_or, or_true]
        obtain ⟨g1, g2⟩ := up v u (if_neg c).symm (if_neg c).symm
        exact ih (k + 1) _ _ _ _ _ _ (by omega) (by omega) g1 g2
    refine B_Law_simple_147 ?_
    simp only [wp_cons, wp_nil, List.getElem?_cons_zero, List.getElem?_cons_succ, List.set_cons_zero, List.set_cons_succ, s_iload, ldI_s, s_if_icmp_ge, p2_s, true_and, and_true, Nat.le_refl, true_implies, forall_const, not_false_eq_true, false_implies, not_true_eq_false, reduceCtorEq, tl_s, tl_n, rf_s, List.cons_append, List.nil_append, true_or, or_true, har', ex_ix (i := p) (n := 32) (by omega), ex_ix (i := b) (n := 32) (by omega), ex_ix (i := k) (n := 32) (by omega), tk.k (k := p) hpn, tk.r (k := b) (by omega), tk.k (k := k) (by omega)]
    refine b_le (by omega) (by omega) (fun cc => absurd cc (by omega)) (fun cc => ?_)
    refine B_Law_simple_154 ?_
    simp only [wp_cons, wp_nil, List.getElem?_cons_zero, List.getElem?_cons_succ, List.set_cons_zero, List.set_cons_succ, s_aload_n0, ldA_r, ldA_n, ldA_s, s_iload, ldI_s, s_iaload, iR_s, ia_s, s_invokestatic, rc_s, ob_s, List.drop_succ_cons, List.drop_zero, List.take_succ_cons, List.take_zero, List.reverse_cons, List.reverse_nil, List.nil_append, List.cons_append, List.length_cons, List.length_nil, Nat.reduceEqDiff, eq_self, reduceIte, p1_s, p2_s, l1_s, d1, Int.reduceToNat, Nat.reduceAdd, Nat.reduceLeDiff, true_and, and_true, Nat.le_refl, true_implies, forall_const, not_false_eq_true, false_implies, not_true_eq_false, reduceCtorEq, tl_s, tl_n, rf_s, true_or, or_true, har', ex_ix (i := p) (n := 32) (by omega), ex_ix (i := b) (n := 32) (by omega), ex_ix (i := k) (n := 32) (by omega), tk.k (k := p) hpn, tk.r (k := b) (by omega), tk.k (k := k) (by omega)]
    refine Law_area_c pa pb pk ?_
    by_cases e : pg S.1 p = pr S.1 b
    · have eo : offS (pg S.1 p) (pr S.1 b) (pg S.1 k) = sqd (pg S.1 p) (pg S.1 k) := if_pos e
      rw [eo] at K203
      refine B_Law_simple_169 ?_
      simp only [wp_cons, wp_nil, List.getElem?_cons_zero, List.getElem?_cons_succ, List.set_cons_zero, List.set_cons_succ, s_i2l, p1_s, s_lstore, l1_s, s2_0, s2_s, kx_i, kx_r, kx_s, kx_n, kx_l, kx_0, s_aload_n0, ldA_r, ldA_n, ldA_s, s_iload, ldI_s, s_iaload, iR_s, ia_s, s_if_icmp_ne, p2_s, true_and, and_true, Nat.le_refl, true_implies, forall_const, not_false_eq_true, false_implies, not_true_eq_false, reduceCtorEq, tl_s, tl_n, rf_s, List.cons_append, List.nil_append, true_or, or_true, har', ex_ix (i := p) (n := 32) (by omega), ex_ix (i := b) (n := 32) (by omega), ex_ix (i := k) (n := 32) (by omega), tk.k (k := p) hpn, tk.r (k := b) (by omega), tk.k (k := k) (by omega), I_J (show i32 (crs (pg S.1 p) (pr S.1 b) (pg S.1 k)) by omega)]
      refine b_ne (by omega) (by omega) (fun cc => absurd cc (by omega)) (fun cc => ?_)
      refine B_Law_simple_183 ?_
      simp only [wp_cons, wp_nil, List.getElem?_cons_zero, List.getElem?_cons_succ, List.set_cons_zero, List.set_cons_succ, s_aload_n0, ldA_r, ldA_n, ldA_s, s_iload, ldI_s, s_iaload, iR_s, ia_s, s_invokestatic, rc_s, ob_s, List.drop_succ_cons, List.drop_zero, List.take_succ_cons, List.take_zero, List.reverse_cons, List.reverse_nil, List.nil_append, List.cons_append, List.length_cons, List.length_nil, Nat.reduceEqDiff, eq_self, reduceIte, p1_s, p2_s, l1_s, d1, Int.reduceToNat, Nat.reduceAdd, Nat.reduceLeDiff, true_and, and_true, Nat.le_refl, true_implies, forall_const, not_false_eq_true, false_implies, not_true_eq_false, reduceCtorEq, tl_s, tl_n, rf_s, true_or, or_true, har', ex_ix (i := p) (n := 32) (by omega), ex_ix (i := b) (n := 32) (by omega), ex_ix (i := k) (n := 32) (by omega), tk.k (k := p) hpn, tk.r (k := b) (by omega), tk.k (k := k) (by omega), I_J (show i32 (crs (pg S.1 p) (pr S.1 b) (pg S.1 k)) by omega)]
      refine Law_far_c pa pk ?_
      refine B_Law_simple_194 ?_
      simp only [wp_cons, wp_nil, List.getElem?_cons_zero, List.getElem?_cons_succ, List.set_cons_zero, List.set_cons_succ, s_i2l, p1_s, s_goto, true_and, and_true, Nat.le_refl, true_implies, forall_const, not_false_eq_true, false_implies, not_true_eq_false, reduceCtorEq, tl_s, tl_n, rf_s, List.cons_append, List.nil_append, true_or, or_true, I_J (show i32 (sqd (pg S.1 p) (pg S.1 k)) by omega)]
      exact K203 _ _ _
    · have eo : offS (pg S.1 p) (pr S.1 b) (pg S.1 k) = crs (pg S.1 p) (pr S.1 b) (pg S.1 k) * crs (pg S.1 p) (pr S.1 b) (pg S.1 k) := if_neg e
      rw [eo] at K203
      refine B_Law_simple_169 ?_
      simp only [wp_cons, wp_nil, List.getElem?_cons_zero, List.getElem?_cons_succ, List.set_cons_zero, List.set_cons_succ, s_i2l, p1_s, s_lstore, l1_s, s2_0, s2_s, kx_i, kx_r, kx_s, kx_n, kx_l, kx_0, s_aload_n0, ldA_r, ldA_n, ldA_s, s_iload, ldI_s, s_iaload, iR_s, ia_s, s_if_icmp_ne, p2_s, true_and, and_true, Nat.le_refl, true_implies, forall_const, not_false_eq_true, false_implies, not_true_eq_false, reduceCtorEq, tl_s, tl_n, rf_s, List.cons_append, List.nil_append, true_or, or_true, har', ex_ix (i := p) (n := 32) (by omega), ex_ix (i := b) (n := 32) (by omega), ex_ix (i := k) (n := 32) (by omega), tk.k (k := p) hpn, tk.r (k := b) (by omega), tk.k (k := k) (by omega), I_J (show i32 (crs (pg S.1 p) (pr S.1 b) (pg S.1 k)) by omega)]
      refine b_ne (by omega) (by omega) (fun cc => ?_) (fun cc => absurd cc (by omega))
      refine B_Law_simple_198 ?_
      simp only [wp_cons, wp_nil, List.getElem?_cons_zero, List.getElem?_cons_succ, List.set_cons_zero, List.set_cons_succ, s_lload, ldL_s, s_lmul, l2_s, J_mul, true_and, and_true, Nat.le_refl, true_implies, forall_const, not_false_eq_true, false_implies, not_true_eq_false, reduceCtorEq, tl_s, tl_n, rf_s, List.cons_append, List.nil_append, true_or, or_true, har', ex_ix (i := p) (n := 32) (by omega), ex_ix (i := b) (n := 32) (by omega), ex_ix (i := k) (n := 32) (by omega), tk.k (k := p) hpn, tk.r (k := b) (by omega), tk.k (k := k) (by omega), I_J (show i32 (crs (pg S.1 p) (pr S.1 b) (pg S.1 k)) by omega)]
      exact K203 _ _ _
theorem own_S {S : Stk} {t : Int} {p b : Nat} (w : wfS S) (ht : 0 ≤ t ∧ t ≤ 200) (hp : p < S.1.length) (hb : b ≤ S.1.length) (h : p + 1 < b) : t ≤ owS S p b ↔ t * t * sclS (pg S.1 p) (pr S.1 b) < offS (pg S.1 p) (pr S.1 b) (pg S.1 (frS S p b)) := by
  have hf := frS_rng S h
  exact own_iff (w.2.2.1 p hp) (pr_pt w.2.2.1 (by have := w.1; omega)) (w.2.2.1 _ (by omega)) ht
theorem Simple_gap {d : Nat} (hd : 3 ≤ d) {S : Stk} {a : Nat} {t : Int} {f : Nat → Int} {h : g_H} {Q : g_Po} (wS : wfS S) (ht : 0 ≤ t ∧ t ≤ 200) (har : ary h a 32 f) (tk : tkn S f) {m p b : Nat} (hp : p < b) (hb : b ≤ pcs S) (hpn : p < S.1.length) {z5 z6 : Int32} (hm : m < 1073741824) {x9 x10 x11 x12 x13 x14 x15 x16 : Option Value} (hO : ∀ (m2 : Nat) (y9 y10 y11 y12 y13 y14 y15 y16 : Option Value), (m2 = m ∧ (b ≤ p + 1 ∨ owS S p b < t)) ∨ (m2 = m ||| 2 ^ frS S p b ∧ p + 1 < b ∧ t ≤ owS S p b) → G Law_simple d 0 0 0 0 284 [some (.ref a), some (.int (I (S.1.length : Int))), some (.int (I (sz S.2))), some (.int (I t)), some (.int (I (m2 : Int))), some (.int z5), some (.int z6), some (.int (I (p : Int))), some (.int (I (b : Int))), y9, y10, y11, y12, y13, y14, y15, y16] [] h Q) : G Law_simple d 0 0 0 0 133 [some (.ref a), some (.int (I (S.1.length : Int))), some (.int (I (sz S.2))), some (.int (I t)), some (.int (I (m : Int))), some (.int z5), some (.int z6), some (.int (I (p : Int))), some (.int (I (b : Int))), x9, x10, x11, x12, x13, x14, x15, x16] [] h Q := by
  have d1 : 1 ≤ d := by omega
  have hpc : pcs S ≤ S.1.length := pcs_le
  have w1 := wS.1
  have w2 := wS.2.1
  have w3 := wS.2.2.1
  have har' : h[a]? = some (.inl (0, 32, fun i => I (f i))) := har
  have pa := w3 p hpn
  have pb : pt (pr S.1 b) := pr_pt w3 (by omega)
  have b2 := sqd_bd pa pb
  have b4 := sclS_bd pa pb
  have bt : 0 ≤ t * t ∧ t * t ≤ 40000 := ⟨bd_sq t, by have := sq_mono ht.1 ht.2; omega⟩
  have bs : 0 ≤ t * t * sclS (pg S.1 p) (pr S.1 b) ∧ t * t * sclS (pg S.1 p) (pr S.1 b) ≤ 40000 * 1996002 := ⟨Int.mul_nonneg bt.1 (by omega), Int.mul_le_mul bt.2 b4.2 (by omega) (by omega)⟩
  refine B_Law_simple_133 ?_
  simp only [wp_cons, wp_nil, List.getElem?_cons_zero, List.getElem?_cons_succ, List.set_cons_zero, List.set_cons_succ, s_iconst, s_istore, p1_s, s1_0, s1_s, kx_i, kx_r, kx_s, kx_n, kx_l, kx_0, s_ldc2_w, s_lstore, l1_s, s2_0, s2_s, s_iload, ldI_s, s_iadd, p2_s, I_add, true_and, and_true, Nat.le_refl, true_implies, forall_const, not_false_eq_true, false_implies, not_true_eq_false, reduceCtorEq, tl_s, tl_n, rf_s, List.cons_append, List.nil_append, true_or, or_true]
  refine Simple_scan hd wS ht har tk hp hb hpn (fun v u y13 y14 y15 y16 hv hu => ?_) (b - (p + 1)) (p + 1) (-1) (-1) _ _ _ _ (by omega) (by omega) (if_pos rfl).symm (if_pos rfl).symm
  have K258 : G Law_simple d 0 0 0 0 258 [some (.ref a), some (.int (I (S.1.length : Int))), some (.int (I (sz S.2))), some (.int (I t)), some (.int (I (m : Int))), some (.int z5), some (.int z6), some (.int (I (p : Int))), some (.int (I (b : Int))), some (.int (I v)), some (.long (J u)), none, some (.int (I (b : Int))), y13, y14, y15, y16] [.int (I (sclS (pg S.1 p) (pr S.1 b))), .long (J (t * t))] h Q := by
    by_cases c : b = p + 1
    · rw [if_pos c] at hv hu
      subst hv
      refine B_Law_simple_258 ?_
      simp only [wp_cons, wp_nil, List.getElem?_cons_zero, List.getElem?_cons_succ, List.set_cons_zero, List.set_cons_succ, s_i2l, p1_s, s_lmul, l2_s, J_mul, s_lstore, l1_s, s2_0, s2_s, kx_i, kx_r, kx_s, kx_n, kx_l, kx_0, s_iload, ldI_s, s_ifCond_lt, true_and, and_true, Nat.le_refl, true_implies, forall_const, not_false_eq_true, false_implies, not_true_eq_false, reduceCtorEq, tl_s, tl_n, rf_s, List.cons_append, List.nil_append, true_or, or_true, I_J (show i32 (sclS (pg S.1 p) (pr S.1 b)) by omega)]
      refine b_lt (by omega) (by omega) (fun cc => ?_) (fun cc => absurd cc (by omega))
      exact hO m _ _ _ _ _ _ _ _ (Or.inl ⟨rfl, Or.inl (by omega)⟩)
    · rw [if_neg c] at hv hu
      have hf := frS_rng S (show p + 1 < b by omega)
      have b3 := offS_bd pa pb (w3 (frS S p b) (by omega))
      have ow := own_S wS ht hpn (show b ≤ S.1.length by omega) (show p + 1 < b by omega)
      subst hv
      by_cases c2 : t ≤ owS S p b
      · have c3 := ow.mp c2
        rw [← hu] at c3 b3
        refine B_Law_simple_258 ?_
        simp only [wp_cons, wp_nil, List.getElem?_cons_zero, List.getElem?_cons_succ, List.set_cons_zero, List.set_cons_succ, s_i2l, p1_s, s_lmul, l2_s, J_mul, s_lstore, l1_s, s2_0, s2_s, kx_i, kx_r, kx_s, kx_n, kx_l, kx_0, s_iload, ldI_s, s_ifCond_lt, true_and, and_true, Nat.le_refl, true_implies, forall_const, not_false_eq_true, false_implies, not_true_eq_false, reduceCtorEq, tl_s, tl_n, rf_s, List.cons_append, List.nil_append, true_or, or_true, I_J (show i32 (sclS (pg S.1 p) (pr S.1 b)) by omega), I_shl1 (frS S p b) (by omega), I_orN]
        refine b_lt (by omega) (by omega) (fun cc => absurd cc (by omega)) (fun cc => ?_)
        refine B_Law_simple_267 ?_
        simp only [wp_cons, wp_nil, List.getElem?_cons_zero, List.getElem?_cons_succ, List.set_cons_zero, List.set_cons_succ, s_lload, ldL_s, s_lcmp, l2_s, s_ifCond_le, p1_s, true_and, and_true, Nat.le_refl, true_implies, forall_const, not_false_eq_true, false_implies, not_true_eq_false, reduceCtorEq, tl_s, tl_n, rf_s, List.cons_append, List.nil_append, true_or, or_true, I_J (show i32 (sclS (pg S.1 p) (pr S.1 b)) by omega), I_shl1 (frS S p b) (by omega), I_orN]
        refine b_cle (by omega) (by omega) (fun cc => absurd cc (by omega)) (fun cc => ?_)
        refine B_Law_simple_275 ?_
        simp only [wp_cons, wp_nil, List.getElem?_cons_zero, List.getElem?_cons_succ, List.set_cons_zero, List.set_cons_succ, s_iload, ldI_s, s_iconst, s_ishl, p2_s, s_ior, s_istore, p1_s, s1_0, s1_s, kx_i, kx_r, kx_s, kx_n, kx_l, kx_0, true_and, and_true, Nat.le_refl, true_implies, forall_const, not_false_eq_true, false_implies, not_true_eq_false, reduceCtorEq, tl_s, tl_n, rf_s, List.cons_append, List.nil_append, true_or, or_true, I_J (show i32 (sclS (pg S.1 p) (pr S.1 b)) by omega), I_shl1 (frS S p b) (by omega), I_orN]
        exact hO (m ||| 2 ^ frS S p b) _ _ _ _ _ _ _ _ (Or.inr ⟨rfl, by omega, c2⟩)
      · have c3 : ¬ _ := fun q => c2 (ow.mpr q)
        rw [← hu] at c3 b3
        refine B_Law_simple_258 ?_
        simp only [wp_cons, wp_nil, List.getElem?_cons_zero, List.getElem?_cons_succ, List.set_cons_zero, List.set_cons_succ, s_i2l, p1_s, s_lmul, l2_s, J_mul, s_lstore, l1_s, s2_0, s2_s, kx_i, kx_r, kx_s, kx_n, kx_l, kx_0, s_iload, ldI_s, s_ifCond_lt, true_and, and_true, Nat.le_refl, true_implies, forall_const, not_false_eq_true, false_implies, not_true_eq_false, reduceCtorEq, tl_s, tl_n, rf_s, List.cons_append, List.nil_append, true_or, or_true, I_J (show i32 (sclS (pg S.1 p) (pr S.1 b)) by omega)]
        refine b_lt (by omega) (by omega) (fun cc => absurd cc (by omega)) (fun cc => ?_)
        refine B_Law_simple_267 ?_
        simp only [wp_cons, wp_nil, List.getElem?_cons_zero, List.getElem?_cons_succ, List.set_cons_zero, List.set_cons_succ, s_lload, ldL_s, s_lcmp, l2_s, s_ifCond_le, p1_s, true_and, and_true, Nat.le_refl, true_implies, forall_const, not_false_eq_true, false_implies, not_true_eq_false, reduceCtorEq, tl_s, tl_n, rf_s, List.cons_append, List.nil_append, true_or, or_true, I_J (show i32 (sclS (pg S.1 p) (pr S.1 b)) by omega)]
        refine b_cle (by omega) (by omega) (fun cc => ?_) (fun cc => absurd cc (by omega))
        exact hO m _ _ _ _ _ _ _ _ (Or.inl ⟨rfl, Or.inr (by omega)⟩)
  by_cases e : pg S.1 p = pr S.1 b
  · have eo : sclS (pg S.1 p) (pr S.1 b) = 1 := if_pos e
    rw [eo] at K258
    refine B_Law_simple_227 ?_
    simp only [wp_cons, wp_nil, List.getElem?_cons_zero, List.getElem?_cons_succ, List.set_cons_zero, List.set_cons_succ, s_iload_n3, ldI_s, s_i2l, p1_s, s_lmul, l2_s, J_mul, s_aload_n0, ldA_r, ldA_n, ldA_s, s_iload, s_iaload, iR_s, ia_s, s_if_icmp_ne, p2_s, true_and, and_true, Nat.le_refl, true_implies, forall_const, not_false_eq_true, false_implies, not_true_eq_false, reduceCtorEq, tl_s, tl_n, rf_s, List.cons_append, List.nil_append, true_or, or_true, har', ex_ix (i := p) (n := 32) (by omega), ex_ix (i := b) (n := 32) (by omega), tk.k (k := p) hpn, tk.r (k := b) (by omega), I_J (show i32 t by omega)]
    refine b_ne (by omega) (by omega) (fun cc => absurd cc (by omega)) (fun cc => ?_)
    refine B_Law_simple_243 ?_
    simp only [wp_cons, wp_nil, List.getElem?_cons_zero, List.getElem?_cons_succ, List.set_cons_zero, List.set_cons_succ, s_iconst, s_goto, true_and, and_true, Nat.le_refl, true_implies, forall_const, not_false_eq_true, false_implies, not_true_eq_false, reduceCtorEq, tl_s, tl_n, rf_s, List.cons_append, List.nil_append, true_or, or_true, har', ex_ix (i := p) (n := 32) (by omega), ex_ix (i := b) (n := 32) (by omega), tk.k (k := p) hpn, tk.r (k := b) (by omega), I_J (show i32 t by omega)]
    exact K258
  · have eo : sclS (pg S.1 p) (pr S.1 b) = sqd (pg S.1 p) (pr S.1 b) := if_neg e
    rw [eo] at K258
    refine B_Law_simple_227 ?_
    simp only [wp_cons, wp_nil, List.getElem?_cons_zero, List.getElem?_cons_succ, List.set_cons_zero, List.set_cons_succ, s_iload_n3, ldI_s, s_i2l, p1_s, s_lmul, l2_s, J_mul, s_aload_n0, ldA_r, ldA_n, ldA_s, s_iload, s_iaload, iR_s, ia_s, s_if_icmp_ne, p2_s, true_and, and_true, Nat.le_refl, true_implies, forall_const, not_false_eq_true, false_implies, not_true_eq_false, reduceCtorEq, tl_s, tl_n, rf_s, List.cons_append, List.nil_append, true_or, or_true, har', ex_ix (i := p) (n := 32) (by omega), ex_ix (i := b) (n := 32) (by omega), tk.k (k := p) hpn, tk.r (k := b) (by omega), I_J (show i32 t by omega)]
    refine b_ne (by omega) (by omega) (fun cc => ?_) (fun cc => absurd cc (by omega))
    refine B_Law_simple_247 ?_
    simp only [wp_cons, wp_nil, List.getElem?_cons_zero, List.getElem?_cons_succ, List.set_cons_zero, List.set_cons_succ, s_aload_n0, ldA_r, ldA_n, ldA_s, s_iload, ldI_s, s_iaload, iR_s, ia_s, s_invokestatic, rc_s, ob_s, List.drop_succ_cons, List.drop_zero, List.take_succ_cons, List.take_zero, List.reverse_cons, List.reverse_nil, List.nil_append, List.cons_append, List.length_cons, List.length_nil, Nat.reduceEqDiff, eq_self, reduceIte, p1_s, p2_s, l1_s, d1, Int.reduceToNat, Nat.reduceAdd, Nat.reduceLeDiff, true_and, and_true, Nat.le_refl, true_implies, forall_const, not_false_eq_true, false_implies, not_true_eq_false, reduceCtorEq, tl_s, tl_n, rf_s, true_or, or_true, har', ex_ix (i := p) (n := 32) (by omega), ex_ix (i := b) (n := 32) (by omega), tk.k (k := p) hpn, tk.r (k := b) (by omega), I_J (show i32 t by omega)]
    refine Law_far_c pa pb ?_
    exact K258
