/-! ===== the reference: moving and turning ===== -/
/-! blocks of Model_mayMove -/
theorem ml_Model_mayMove : (g_m Model_mayMove).2.2.1 = 6 := rfl
theorem rt_Model_mayMove : (g_m Model_mayMove).2.2.2.1 = (some .boolean) := rfl
theorem B_Model_mayMove_0 {d mc ms cs ss : Nat} {L : List (Option Value)} {st : List Value} {h : g_H} {Q : g_Po} (hw : g_wp Model_mayMove d mc ms Q 6 [(0, 1, 0, 0, 0, 1, .iconst 1), (1, 2, 0, 0, 0, 0, .istore 4), (3, 1, 0, 0, 0, 0, .iconst 0), (4, 2, 0, 0, 0, 0, .istore 5)] cs ss L st h) : G Model_mayMove d mc ms cs ss 0 L st h Q := G.run (by decide +kernel) hw
theorem B_Model_mayMove_6 {d mc ms cs ss : Nat} {L : List (Option Value)} {st : List Value} {h : g_H} {Q : g_Po} (hw : g_wp Model_mayMove d mc ms Q 13 [(6, 2, 0, 0, 0, 0, .iload 5), (8, 1, 0, 0, 0, 0, .aload_n 0), (9, 1, 0, 0, 0, 0, .iload_n 1), (10, 3, 119, 7, 4047, 1, .invokevirtual 57)] cs ss L st h) : G Model_mayMove d mc ms cs ss 6 L st h Q := G.run (by decide +kernel) hw
theorem B_Model_mayMove_13 {d mc ms cs ss : Nat} {L : List (Option Value)} {st : List Value} {h : g_H} {Q : g_Po} (hw : g_wp Model_mayMove d mc ms Q 16 [(13, 3, 64, 0, 0, 0, .if_icmp .ge 51)] cs ss L st h) : G Model_mayMove d mc ms cs ss 13 L st h Q := G.run (by decide +kernel) hw
theorem B_Model_mayMove_16 {d mc ms cs ss : Nat} {L : List (Option Value)} {st : List Value} {h : g_H} {Q : g_Po} (hw : g_wp Model_mayMove d mc ms Q 21 [(16, 2, 0, 0, 0, 0, .iload 4), (18, 3, 55, 0, 0, 0, .ifCond .eq 37)] cs ss L st h) : G Model_mayMove d mc ms cs ss 16 L st h Q := G.run (by decide +kernel) hw
theorem B_Model_mayMove_21 {d mc ms cs ss : Nat} {L : List (Option Value)} {st : List Value} {h : g_H} {Q : g_Po} (hw : g_wp Model_mayMove d mc ms Q 28 [(21, 1, 0, 0, 0, 0, .aload_n 0), (22, 1, 0, 0, 0, 0, .iload_n 1), (23, 2, 0, 0, 0, 0, .iload 5), (25, 3, 121, 7, 4051, 2, .invokevirtual 95)] cs ss L st h) : G Model_mayMove d mc ms cs ss 21 L st h Q := G.run (by decide +kernel) hw
theorem B_Model_mayMove_28 {d mc ms cs ss : Nat} {L : List (Option Value)} {st : List Value} {h : g_H} {Q : g_Po} (hw : g_wp Model_mayMove d mc ms Q 31 [(28, 3, 114, 0, 4058, 1, .invokestatic 64)] cs ss L st h) : G Model_mayMove d mc ms cs ss 28 L st h Q := G.run (by decide +kernel) hw
theorem B_Model_mayMove_31 {d mc ms cs ss : Nat} {L : List (Option Value)} {st : List Value} {h : g_H} {Q : g_Po} (hw : g_wp Model_mayMove d mc ms Q 40 [(31, 1, 0, 0, 0, 0, .iload_n 2), (32, 1, 0, 0, 0, 0, .iadd), (33, 1, 0, 0, 0, 0, .aload_n 0), (34, 1, 0, 0, 0, 0, .iload_n 1), (35, 2, 0, 0, 0, 0, .iload 5), (37, 3, 121, 7, 4051, 2, .invokevirtual 95)] cs ss L st h) : G Model_mayMove d mc ms cs ss 31 L st h Q := G.run (by decide +kernel) hw
theorem B_Model_mayMove_40 {d mc ms cs ss : Nat} {L : List (Option Value)} {st : List Value} {h : g_H} {Q : g_Po} (hw : g_wp Model_mayMove d mc ms Q 43 [(40, 3, 115, 0, 4061, 1, .invokestatic 67)] cs ss L st h) : G Model_mayMove d mc ms cs ss 40 L st h Q := G.run (by decide +kernel) hw
theorem B_Model_mayMove_43 {d mc ms cs ss : Nat} {L : List (Option Value)} {st : List Value} {h : g_H} {Q : g_Po} (hw : g_wp Model_mayMove d mc ms Q 48 [(43, 1, 0, 0, 0, 0, .iload_n 3), (44, 1, 0, 0, 0, 0, .iadd), (45, 3, 112, 0, 3213, 2, .invokestatic 77)] cs ss L st h) : G Model_mayMove d mc ms cs ss 43 L st h Q := G.run (by decide +kernel) hw
theorem B_Model_mayMove_48 {d mc ms cs ss : Nat} {L : List (Option Value)} {st : List Value} {h : g_H} {Q : g_Po} (hw : g_wp Model_mayMove d mc ms Q 51 [(48, 3, 55, 0, 0, 0, .ifCond .eq 7)] cs ss L st h) : G Model_mayMove d mc ms cs ss 48 L st h Q := G.run (by decide +kernel) hw
theorem B_Model_mayMove_51 {d mc ms cs ss : Nat} {L : List (Option Value)} {st : List Value} {h : g_H} {Q : g_Po} (hw : g_wp Model_mayMove d mc ms Q 55 [(51, 1, 0, 0, 0, 1, .iconst 1), (52, 3, 56, 0, 0, 0, .goto 4)] cs ss L st h) : G Model_mayMove d mc ms cs ss 51 L st h Q := G.run (by decide +kernel) hw
theorem B_Model_mayMove_55 {d mc ms cs ss : Nat} {L : List (Option Value)} {st : List Value} {h : g_H} {Q : g_Po} (hw : g_wp Model_mayMove d mc ms Q 56 [(55, 1, 0, 0, 0, 0, .iconst 0)] cs ss L st h) : G Model_mayMove d mc ms cs ss 55 L st h Q := G.run (by decide +kernel) hw
theorem B_Model_mayMove_56 {d mc ms cs ss : Nat} {L : List (Option Value)} {st : List Value} {h : g_H} {Q : g_Po} (hw : g_wp Model_mayMove d mc ms Q 64 [(56, 2, 0, 0, 0, 0, .istore 4), (58, 3, 0, 0, 0, 1, .iinc 5 1), (61, 3, 6, 0, 0, 0, .goto (-55))] cs ss L st h) : G Model_mayMove d mc ms cs ss 56 L st h Q := G.run (by decide +kernel) hw
theorem B_Model_mayMove_64 {d mc ms cs ss : Nat} {L : List (Option Value)} {st : List Value} {h : g_H} {Q : g_Po} (hw : g_wp Model_mayMove d mc ms Q 67 [(64, 2, 0, 0, 0, 0, .iload 4), (66, 1, 0, 0, 0, 0, .ireturn)] cs ss L st h) : G Model_mayMove d mc ms cs ss 64 L st h Q := G.run (by decide +kernel) hw
/-! blocks of Model_move -/
theorem ml_Model_move : (g_m Model_move).2.2.1 = 6 := rfl
theorem rt_Model_move : (g_m Model_move).2.2.2.1 = (some .int) := rfl
theorem B_Model_move_0 {d mc ms cs ss : Nat} {L : List (Option Value)} {st : List Value} {h : g_H} {Q : g_Po} (hw : g_wp Model_move d mc ms Q 5 [(0, 1, 0, 0, 0, 0, .aload_n 0), (1, 1, 0, 0, 0, 0, .iload_n 1), (2, 3, 116, 7, 4020, 1, .invokevirtual 129)] cs ss L st h) : G Model_move d mc ms cs ss 0 L st h Q := G.run (by decide +kernel) hw
theorem B_Model_move_5 {d mc ms cs ss : Nat} {L : List (Option Value)} {st : List Value} {h : g_H} {Q : g_Po} (hw : g_wp Model_move d mc ms Q 8 [(5, 3, 10, 0, 0, 0, .ifCond .ne 5)] cs ss L st h) : G Model_move d mc ms cs ss 5 L st h Q := G.run (by decide +kernel) hw
theorem B_Model_move_8 {d mc ms cs ss : Nat} {L : List (Option Value)} {st : List Value} {h : g_H} {Q : g_Po} (hw : g_wp Model_move d mc ms Q 10 [(8, 1, 0, 0, 0, (-1), .iconst (-1)), (9, 1, 0, 0, 0, 0, .ireturn)] cs ss L st h) : G Model_move d mc ms cs ss 8 L st h Q := G.run (by decide +kernel) hw
theorem B_Model_move_10 {d mc ms cs ss : Nat} {L : List (Option Value)} {st : List Value} {h : g_H} {Q : g_Po} (hw : g_wp Model_move d mc ms Q 20 [(10, 1, 0, 0, 0, 0, .iload_n 2), (11, 3, 0, 0, 0, (-999), .sipush (-999)), (14, 3, 0, 0, 0, 999, .sipush 999), (17, 3, 108, 0, 3219, 3, .invokestatic 45)] cs ss L st h) : G Model_move d mc ms cs ss 10 L st h Q := G.run (by decide +kernel) hw
theorem B_Model_move_20 {d mc ms cs ss : Nat} {L : List (Option Value)} {st : List Value} {h : g_H} {Q : g_Po} (hw : g_wp Model_move d mc ms Q 23 [(20, 3, 36, 0, 0, 0, .ifCond .eq 16)] cs ss L st h) : G Model_move d mc ms cs ss 20 L st h Q := G.run (by decide +kernel) hw
theorem B_Model_move_23 {d mc ms cs ss : Nat} {L : List (Option Value)} {st : List Value} {h : g_H} {Q : g_Po} (hw : g_wp Model_move d mc ms Q 33 [(23, 1, 0, 0, 0, 0, .iload_n 3), (24, 3, 0, 0, 0, (-999), .sipush (-999)), (27, 3, 0, 0, 0, 999, .sipush 999), (30, 3, 108, 0, 3219, 3, .invokestatic 45)] cs ss L st h) : G Model_move d mc ms cs ss 23 L st h Q := G.run (by decide +kernel) hw
theorem B_Model_move_33 {d mc ms cs ss : Nat} {L : List (Option Value)} {st : List Value} {h : g_H} {Q : g_Po} (hw : g_wp Model_move d mc ms Q 36 [(33, 3, 39, 0, 0, 0, .ifCond .ne 6)] cs ss L st h) : G Model_move d mc ms cs ss 33 L st h Q := G.run (by decide +kernel) hw
theorem B_Model_move_36 {d mc ms cs ss : Nat} {L : List (Option Value)} {st : List Value} {h : g_H} {Q : g_Po} (hw : g_wp Model_move d mc ms Q 39 [(36, 2, 0, 0, 0, (-2), .bipush (-2)), (38, 1, 0, 0, 0, 0, .ireturn)] cs ss L st h) : G Model_move d mc ms cs ss 36 L st h Q := G.run (by decide +kernel) hw
theorem B_Model_move_39 {d mc ms cs ss : Nat} {L : List (Option Value)} {st : List Value} {h : g_H} {Q : g_Po} (hw : g_wp Model_move d mc ms Q 46 [(39, 1, 0, 0, 0, 0, .aload_n 0), (40, 1, 0, 0, 0, 0, .iload_n 1), (41, 1, 0, 0, 0, 0, .iload_n 2), (42, 1, 0, 0, 0, 0, .iload_n 3), (43, 3, 157, 7, 4148, 3, .invokevirtual 188)] cs ss L st h) : G Model_move d mc ms cs ss 39 L st h Q := G.run (by decide +kernel) hw
theorem B_Model_move_46 {d mc ms cs ss : Nat} {L : List (Option Value)} {st : List Value} {h : g_H} {Q : g_Po} (hw : g_wp Model_move d mc ms Q 49 [(46, 3, 52, 0, 0, 0, .ifCond .ne 6)] cs ss L st h) : G Model_move d mc ms cs ss 46 L st h Q := G.run (by decide +kernel) hw
theorem B_Model_move_49 {d mc ms cs ss : Nat} {L : List (Option Value)} {st : List Value} {h : g_H} {Q : g_Po} (hw : g_wp Model_move d mc ms Q 52 [(49, 2, 0, 0, 0, (-3), .bipush (-3)), (51, 1, 0, 0, 0, 0, .ireturn)] cs ss L st h) : G Model_move d mc ms cs ss 49 L st h Q := G.run (by decide +kernel) hw
theorem B_Model_move_52 {d mc ms cs ss : Nat} {L : List (Option Value)} {st : List Value} {h : g_H} {Q : g_Po} (hw : g_wp Model_move d mc ms Q 56 [(52, 1, 0, 0, 0, 0, .aload_n 0), (53, 3, 110, 7, 3222, 0, .invokevirtual 81)] cs ss L st h) : G Model_move d mc ms cs ss 52 L st h Q := G.run (by decide +kernel) hw
theorem B_Model_move_56 {d mc ms cs ss : Nat} {L : List (Option Value)} {st : List Value} {h : g_H} {Q : g_Po} (hw : g_wp Model_move d mc ms Q 59 [(56, 1, 0, 0, 0, 0, .iconst 0), (57, 2, 0, 0, 0, 0, .istore 4)] cs ss L st h) : G Model_move d mc ms cs ss 56 L st h Q := G.run (by decide +kernel) hw
theorem B_Model_move_59 {d mc ms cs ss : Nat} {L : List (Option Value)} {st : List Value} {h : g_H} {Q : g_Po} (hw : g_wp Model_move d mc ms Q 66 [(59, 2, 0, 0, 0, 0, .iload 4), (61, 1, 0, 0, 0, 0, .aload_n 0), (62, 1, 0, 0, 0, 0, .iload_n 1), (63, 3, 119, 7, 4047, 1, .invokevirtual 57)] cs ss L st h) : G Model_move d mc ms cs ss 59 L st h Q := G.run (by decide +kernel) hw
theorem B_Model_move_66 {d mc ms cs ss : Nat} {L : List (Option Value)} {st : List Value} {h : g_H} {Q : g_Po} (hw : g_wp Model_move d mc ms Q 69 [(66, 3, 110, 0, 0, 0, .if_icmp .ge 44)] cs ss L st h) : G Model_move d mc ms cs ss 66 L st h Q := G.run (by decide +kernel) hw
theorem B_Model_move_69 {d mc ms cs ss : Nat} {L : List (Option Value)} {st : List Value} {h : g_H} {Q : g_Po} (hw : g_wp Model_move d mc ms Q 76 [(69, 1, 0, 0, 0, 0, .aload_n 0), (70, 1, 0, 0, 0, 0, .iload_n 1), (71, 2, 0, 0, 0, 0, .iload 4), (73, 3, 121, 7, 4051, 2, .invokevirtual 95)] cs ss L st h) : G Model_move d mc ms cs ss 69 L st h Q := G.run (by decide +kernel) hw
theorem B_Model_move_76 {d mc ms cs ss : Nat} {L : List (Option Value)} {st : List Value} {h : g_H} {Q : g_Po} (hw : g_wp Model_move d mc ms Q 89 [(76, 2, 0, 0, 0, 0, .istore 5), (78, 1, 0, 0, 0, 0, .aload_n 0), (79, 1, 0, 0, 0, 0, .iload_n 1), (80, 1, 0, 0, 0, 2, .iconst 2), (81, 2, 0, 0, 0, 0, .iload 4), (83, 1, 0, 0, 0, 0, .iadd), (84, 2, 0, 0, 0, 0, .iload 5), (86, 3, 114, 0, 4058, 1, .invokestatic 64)] cs ss L st h) : G Model_move d mc ms cs ss 76 L st h Q := G.run (by decide +kernel) hw
theorem B_Model_move_89 {d mc ms cs ss : Nat} {L : List (Option Value)} {st : List Value} {h : g_H} {Q : g_Po} (hw : g_wp Model_move d mc ms Q 96 [(89, 1, 0, 0, 0, 0, .iload_n 2), (90, 1, 0, 0, 0, 0, .iadd), (91, 2, 0, 0, 0, 0, .iload 5), (93, 3, 115, 0, 4061, 1, .invokestatic 67)] cs ss L st h) : G Model_move d mc ms cs ss 89 L st h Q := G.run (by decide +kernel) hw
theorem B_Model_move_96 {d mc ms cs ss : Nat} {L : List (Option Value)} {st : List Value} {h : g_H} {Q : g_Po} (hw : g_wp Model_move d mc ms Q 101 [(96, 1, 0, 0, 0, 0, .iload_n 3), (97, 1, 0, 0, 0, 0, .iadd), (98, 3, 113, 0, 3229, 2, .invokestatic 84)] cs ss L st h) : G Model_move d mc ms cs ss 96 L st h Q := G.run (by decide +kernel) hw
theorem B_Model_move_101 {d mc ms cs ss : Nat} {L : List (Option Value)} {st : List Value} {h : g_H} {Q : g_Po} (hw : g_wp Model_move d mc ms Q 104 [(101, 3, 118, 7, 4008, 3, .invokevirtual 73)] cs ss L st h) : G Model_move d mc ms cs ss 101 L st h Q := G.run (by decide +kernel) hw
theorem B_Model_move_104 {d mc ms cs ss : Nat} {L : List (Option Value)} {st : List Value} {h : g_H} {Q : g_Po} (hw : g_wp Model_move d mc ms Q 110 [(104, 3, 0, 0, 0, 1, .iinc 4 1), (107, 3, 59, 0, 0, 0, .goto (-48))] cs ss L st h) : G Model_move d mc ms cs ss 104 L st h Q := G.run (by decide +kernel) hw
theorem B_Model_move_110 {d mc ms cs ss : Nat} {L : List (Option Value)} {st : List Value} {h : g_H} {Q : g_Po} (hw : g_wp Model_move d mc ms Q 116 [(110, 1, 0, 0, 0, 0, .aload_n 0), (111, 1, 0, 0, 0, 0, .iload_n 1), (112, 1, 0, 0, 0, 0, .iconst 0), (113, 3, 121, 7, 4051, 2, .invokevirtual 95)] cs ss L st h) : G Model_move d mc ms cs ss 110 L st h Q := G.run (by decide +kernel) hw
theorem B_Model_move_116 {d mc ms cs ss : Nat} {L : List (Option Value)} {st : List Value} {h : g_H} {Q : g_Po} (hw : g_wp Model_move d mc ms Q 117 [(116, 1, 0, 0, 0, 0, .ireturn)] cs ss L st h) : G Model_move d mc ms cs ss 116 L st h Q := G.run (by decide +kernel) hw
/-! blocks of Model_turned -/
theorem ml_Model_turned : (g_m Model_turned).2.2.1 = 7 := rfl
theorem rt_Model_turned : (g_m Model_turned).2.2.2.1 = (some .int) := rfl
theorem B_Model_turned_0 {d mc ms cs ss : Nat} {L : List (Option Value)} {st : List Value} {h : g_H} {Q : g_Po} (hw : g_wp Model_turned d mc ms Q 4 [(0, 1, 0, 0, 0, 0, .iload_n 0), (1, 3, 114, 0, 4058, 1, .invokestatic 64)] cs ss L st h) : G Model_turned d mc ms cs ss 0 L st h Q := G.run (by decide +kernel) hw
theorem B_Model_turned_4 {d mc ms cs ss : Nat} {L : List (Option Value)} {st : List Value} {h : g_H} {Q : g_Po} (hw : g_wp Model_turned d mc ms Q 8 [(4, 1, 0, 0, 0, 0, .iload_n 1), (5, 3, 114, 0, 4058, 1, .invokestatic 64)] cs ss L st h) : G Model_turned d mc ms cs ss 4 L st h Q := G.run (by decide +kernel) hw
theorem B_Model_turned_8 {d mc ms cs ss : Nat} {L : List (Option Value)} {st : List Value} {h : g_H} {Q : g_Po} (hw : g_wp Model_turned d mc ms Q 14 [(8, 1, 0, 0, 0, 0, .isub), (9, 1, 0, 0, 0, 0, .istore_n 3), (10, 1, 0, 0, 0, 0, .iload_n 0), (11, 3, 115, 0, 4061, 1, .invokestatic 67)] cs ss L st h) : G Model_turned d mc ms cs ss 8 L st h Q := G.run (by decide +kernel) hw
theorem B_Model_turned_14 {d mc ms cs ss : Nat} {L : List (Option Value)} {st : List Value} {h : g_H} {Q : g_Po} (hw : g_wp Model_turned d mc ms Q 18 [(14, 1, 0, 0, 0, 0, .iload_n 1), (15, 3, 115, 0, 4061, 1, .invokestatic 67)] cs ss L st h) : G Model_turned d mc ms cs ss 14 L st h Q := G.run (by decide +kernel) hw
theorem B_Model_turned_18 {d mc ms cs ss : Nat} {L : List (Option Value)} {st : List Value} {h : g_H} {Q : g_Po} (hw : g_wp Model_turned d mc ms Q 24 [(18, 1, 0, 0, 0, 0, .isub), (19, 2, 0, 0, 0, 0, .istore 4), (21, 1, 0, 0, 0, 0, .iconst 0), (22, 2, 0, 0, 0, 0, .istore 5)] cs ss L st h) : G Model_turned d mc ms cs ss 18 L st h Q := G.run (by decide +kernel) hw
theorem B_Model_turned_24 {d mc ms cs ss : Nat} {L : List (Option Value)} {st : List Value} {h : g_H} {Q : g_Po} (hw : g_wp Model_turned d mc ms Q 30 [(24, 2, 0, 0, 0, 0, .iload 5), (26, 1, 0, 0, 0, 0, .iload_n 2), (27, 3, 47, 0, 0, 0, .if_icmp .ge 20)] cs ss L st h) : G Model_turned d mc ms cs ss 24 L st h Q := G.run (by decide +kernel) hw
theorem B_Model_turned_30 {d mc ms cs ss : Nat} {L : List (Option Value)} {st : List Value} {h : g_H} {Q : g_Po} (hw : g_wp Model_turned d mc ms Q 47 [(30, 1, 0, 0, 0, 0, .iload_n 3), (31, 2, 0, 0, 0, 0, .istore 6), (33, 2, 0, 0, 0, 0, .iload 4), (35, 1, 0, 0, 0, 0, .ineg), (36, 1, 0, 0, 0, 0, .istore_n 3), (37, 2, 0, 0, 0, 0, .iload 6), (39, 2, 0, 0, 0, 0, .istore 4), (41, 3, 0, 0, 0, 1, .iinc 5 1), (44, 3, 24, 0, 0, 0, .goto (-20))] cs ss L st h) : G Model_turned d mc ms cs ss 30 L st h Q := G.run (by decide +kernel) hw
theorem B_Model_turned_47 {d mc ms cs ss : Nat} {L : List (Option Value)} {st : List Value} {h : g_H} {Q : g_Po} (hw : g_wp Model_turned d mc ms Q 51 [(47, 1, 0, 0, 0, 0, .iload_n 1), (48, 3, 114, 0, 4058, 1, .invokestatic 64)] cs ss L st h) : G Model_turned d mc ms cs ss 47 L st h Q := G.run (by decide +kernel) hw
theorem B_Model_turned_51 {d mc ms cs ss : Nat} {L : List (Option Value)} {st : List Value} {h : g_H} {Q : g_Po} (hw : g_wp Model_turned d mc ms Q 59 [(51, 1, 0, 0, 0, 0, .iload_n 3), (52, 1, 0, 0, 0, 0, .iadd), (53, 2, 0, 0, 0, 0, .istore 5), (55, 1, 0, 0, 0, 0, .iload_n 1), (56, 3, 115, 0, 4061, 1, .invokestatic 67)] cs ss L st h) : G Model_turned d mc ms cs ss 51 L st h Q := G.run (by decide +kernel) hw
theorem B_Model_turned_59 {d mc ms cs ss : Nat} {L : List (Option Value)} {st : List Value} {h : g_H} {Q : g_Po} (hw : g_wp Model_turned d mc ms Q 71 [(59, 2, 0, 0, 0, 0, .iload 4), (61, 1, 0, 0, 0, 0, .iadd), (62, 2, 0, 0, 0, 0, .istore 6), (64, 2, 0, 0, 0, 0, .iload 5), (66, 2, 0, 0, 0, 0, .iload 6), (68, 3, 112, 0, 3213, 2, .invokestatic 77)] cs ss L st h) : G Model_turned d mc ms cs ss 59 L st h Q := G.run (by decide +kernel) hw
theorem B_Model_turned_71 {d mc ms cs ss : Nat} {L : List (Option Value)} {st : List Value} {h : g_H} {Q : g_Po} (hw : g_wp Model_turned d mc ms Q 74 [(71, 3, 84, 0, 0, 0, .ifCond .eq 13)] cs ss L st h) : G Model_turned d mc ms cs ss 71 L st h Q := G.run (by decide +kernel) hw
theorem B_Model_turned_74 {d mc ms cs ss : Nat} {L : List (Option Value)} {st : List Value} {h : g_H} {Q : g_Po} (hw : g_wp Model_turned d mc ms Q 81 [(74, 2, 0, 0, 0, 0, .iload 5), (76, 2, 0, 0, 0, 0, .iload 6), (78, 3, 113, 0, 3229, 2, .invokestatic 84)] cs ss L st h) : G Model_turned d mc ms cs ss 74 L st h Q := G.run (by decide +kernel) hw
theorem B_Model_turned_81 {d mc ms cs ss : Nat} {L : List (Option Value)} {st : List Value} {h : g_H} {Q : g_Po} (hw : g_wp Model_turned d mc ms Q 84 [(81, 3, 86, 0, 0, 0, .goto 5)] cs ss L st h) : G Model_turned d mc ms cs ss 81 L st h Q := G.run (by decide +kernel) hw
theorem B_Model_turned_84 {d mc ms cs ss : Nat} {L : List (Option Value)} {st : List Value} {h : g_H} {Q : g_Po} (hw : g_wp Model_turned d mc ms Q 86 [(84, 2, 0, 0, 0, (-6), .bipush (-6))] cs ss L st h) : G Model_turned d mc ms cs ss 84 L st h Q := G.run (by decide +kernel) hw
theorem B_Model_turned_86 {d mc ms cs ss : Nat} {L : List (Option Value)} {st : List Value} {h : g_H} {Q : g_Po} (hw : g_wp Model_turned d mc ms Q 87 [(86, 1, 0, 0, 0, 0, .ireturn)] cs ss L st h) : G Model_turned d mc ms cs ss 86 L st h Q := G.run (by decide +kernel) hw
/-! blocks of Model_turn -/
theorem ml_Model_turn : (g_m Model_turn).2.2.1 = 6 := rfl
theorem rt_Model_turn : (g_m Model_turn).2.2.2.1 = (some .int) := rfl
theorem B_Model_turn_0 {d mc ms cs ss : Nat} {L : List (Option Value)} {st : List Value} {h : g_H} {Q : g_Po} (hw : g_wp Model_turn d mc ms Q 5 [(0, 1, 0, 0, 0, 0, .aload_n 0), (1, 1, 0, 0, 0, 0, .iload_n 1), (2, 3, 116, 7, 4020, 1, .invokevirtual 129)] cs ss L st h) : G Model_turn d mc ms cs ss 0 L st h Q := G.run (by decide +kernel) hw
theorem B_Model_turn_5 {d mc ms cs ss : Nat} {L : List (Option Value)} {st : List Value} {h : g_H} {Q : g_Po} (hw : g_wp Model_turn d mc ms Q 8 [(5, 3, 10, 0, 0, 0, .ifCond .ne 5)] cs ss L st h) : G Model_turn d mc ms cs ss 5 L st h Q := G.run (by decide +kernel) hw
theorem B_Model_turn_8 {d mc ms cs ss : Nat} {L : List (Option Value)} {st : List Value} {h : g_H} {Q : g_Po} (hw : g_wp Model_turn d mc ms Q 10 [(8, 1, 0, 0, 0, (-1), .iconst (-1)), (9, 1, 0, 0, 0, 0, .ireturn)] cs ss L st h) : G Model_turn d mc ms cs ss 8 L st h Q := G.run (by decide +kernel) hw
theorem B_Model_turn_10 {d mc ms cs ss : Nat} {L : List (Option Value)} {st : List Value} {h : g_H} {Q : g_Po} (hw : g_wp Model_turn d mc ms Q 16 [(10, 1, 0, 0, 0, 0, .iload_n 2), (11, 1, 0, 0, 0, 1, .iconst 1), (12, 1, 0, 0, 0, 3, .iconst 3), (13, 3, 108, 0, 3219, 3, .invokestatic 45)] cs ss L st h) : G Model_turn d mc ms cs ss 10 L st h Q := G.run (by decide +kernel) hw
theorem B_Model_turn_16 {d mc ms cs ss : Nat} {L : List (Option Value)} {st : List Value} {h : g_H} {Q : g_Po} (hw : g_wp Model_turn d mc ms Q 19 [(16, 3, 22, 0, 0, 0, .ifCond .ne 6)] cs ss L st h) : G Model_turn d mc ms cs ss 16 L st h Q := G.run (by decide +kernel) hw
theorem B_Model_turn_19 {d mc ms cs ss : Nat} {L : List (Option Value)} {st : List Value} {h : g_H} {Q : g_Po} (hw : g_wp Model_turn d mc ms Q 22 [(19, 2, 0, 0, 0, (-2), .bipush (-2)), (21, 1, 0, 0, 0, 0, .ireturn)] cs ss L st h) : G Model_turn d mc ms cs ss 19 L st h Q := G.run (by decide +kernel) hw
theorem B_Model_turn_22 {d mc ms cs ss : Nat} {L : List (Option Value)} {st : List Value} {h : g_H} {Q : g_Po} (hw : g_wp Model_turn d mc ms Q 28 [(22, 1, 0, 0, 0, 0, .aload_n 0), (23, 1, 0, 0, 0, 0, .iload_n 1), (24, 1, 0, 0, 0, 0, .iconst 0), (25, 3, 121, 7, 4051, 2, .invokevirtual 95)] cs ss L st h) : G Model_turn d mc ms cs ss 22 L st h Q := G.run (by decide +kernel) hw
theorem B_Model_turn_28 {d mc ms cs ss : Nat} {L : List (Option Value)} {st : List Value} {h : g_H} {Q : g_Po} (hw : g_wp Model_turn d mc ms Q 35 [(28, 1, 0, 0, 0, 0, .istore_n 3), (29, 1, 0, 0, 0, 1, .iconst 1), (30, 2, 0, 0, 0, 0, .istore 4), (32, 1, 0, 0, 0, 0, .iconst 0), (33, 2, 0, 0, 0, 0, .istore 5)] cs ss L st h) : G Model_turn d mc ms cs ss 28 L st h Q := G.run (by decide +kernel) hw
theorem B_Model_turn_35 {d mc ms cs ss : Nat} {L : List (Option Value)} {st : List Value} {h : g_H} {Q : g_Po} (hw : g_wp Model_turn d mc ms Q 42 [(35, 2, 0, 0, 0, 0, .iload 5), (37, 1, 0, 0, 0, 0, .aload_n 0), (38, 1, 0, 0, 0, 0, .iload_n 1), (39, 3, 119, 7, 4047, 1, .invokevirtual 57)] cs ss L st h) : G Model_turn d mc ms cs ss 35 L st h Q := G.run (by decide +kernel) hw
theorem B_Model_turn_42 {d mc ms cs ss : Nat} {L : List (Option Value)} {st : List Value} {h : g_H} {Q : g_Po} (hw : g_wp Model_turn d mc ms Q 45 [(42, 3, 80, 0, 0, 0, .if_icmp .ge 38)] cs ss L st h) : G Model_turn d mc ms cs ss 42 L st h Q := G.run (by decide +kernel) hw
theorem B_Model_turn_45 {d mc ms cs ss : Nat} {L : List (Option Value)} {st : List Value} {h : g_H} {Q : g_Po} (hw : g_wp Model_turn d mc ms Q 50 [(45, 2, 0, 0, 0, 0, .iload 4), (47, 3, 71, 0, 0, 0, .ifCond .eq 24)] cs ss L st h) : G Model_turn d mc ms cs ss 45 L st h Q := G.run (by decide +kernel) hw
theorem B_Model_turn_50 {d mc ms cs ss : Nat} {L : List (Option Value)} {st : List Value} {h : g_H} {Q : g_Po} (hw : g_wp Model_turn d mc ms Q 57 [(50, 1, 0, 0, 0, 0, .aload_n 0), (51, 1, 0, 0, 0, 0, .iload_n 1), (52, 2, 0, 0, 0, 0, .iload 5), (54, 3, 121, 7, 4051, 2, .invokevirtual 95)] cs ss L st h) : G Model_turn d mc ms cs ss 50 L st h Q := G.run (by decide +kernel) hw
theorem B_Model_turn_57 {d mc ms cs ss : Nat} {L : List (Option Value)} {st : List Value} {h : g_H} {Q : g_Po} (hw : g_wp Model_turn d mc ms Q 62 [(57, 1, 0, 0, 0, 0, .iload_n 3), (58, 1, 0, 0, 0, 0, .iload_n 2), (59, 3, 159, 0, 4156, 3, .invokestatic 191)] cs ss L st h) : G Model_turn d mc ms cs ss 57 L st h Q := G.run (by decide +kernel) hw
theorem B_Model_turn_62 {d mc ms cs ss : Nat} {L : List (Option Value)} {st : List Value} {h : g_H} {Q : g_Po} (hw : g_wp Model_turn d mc ms Q 67 [(62, 2, 0, 0, 0, (-6), .bipush (-6)), (64, 3, 71, 0, 0, 0, .if_icmp .eq 7)] cs ss L st h) : G Model_turn d mc ms cs ss 62 L st h Q := G.run (by decide +kernel) hw
theorem B_Model_turn_67 {d mc ms cs ss : Nat} {L : List (Option Value)} {st : List Value} {h : g_H} {Q : g_Po} (hw : g_wp Model_turn d mc ms Q 71 [(67, 1, 0, 0, 0, 1, .iconst 1), (68, 3, 72, 0, 0, 0, .goto 4)] cs ss L st h) : G Model_turn d mc ms cs ss 67 L st h Q := G.run (by decide +kernel) hw
theorem B_Model_turn_71 {d mc ms cs ss : Nat} {L : List (Option Value)} {st : List Value} {h : g_H} {Q : g_Po} (hw : g_wp Model_turn d mc ms Q 72 [(71, 1, 0, 0, 0, 0, .iconst 0)] cs ss L st h) : G Model_turn d mc ms cs ss 71 L st h Q := G.run (by decide +kernel) hw
theorem B_Model_turn_72 {d mc ms cs ss : Nat} {L : List (Option Value)} {st : List Value} {h : g_H} {Q : g_Po} (hw : g_wp Model_turn d mc ms Q 80 [(72, 2, 0, 0, 0, 0, .istore 4), (74, 3, 0, 0, 0, 1, .iinc 5 1), (77, 3, 35, 0, 0, 0, .goto (-42))] cs ss L st h) : G Model_turn d mc ms cs ss 72 L st h Q := G.run (by decide +kernel) hw
theorem B_Model_turn_80 {d mc ms cs ss : Nat} {L : List (Option Value)} {st : List Value} {h : g_H} {Q : g_Po} (hw : g_wp Model_turn d mc ms Q 85 [(80, 2, 0, 0, 0, 0, .iload 4), (82, 3, 88, 0, 0, 0, .ifCond .ne 6)] cs ss L st h) : G Model_turn d mc ms cs ss 80 L st h Q := G.run (by decide +kernel) hw
theorem B_Model_turn_85 {d mc ms cs ss : Nat} {L : List (Option Value)} {st : List Value} {h : g_H} {Q : g_Po} (hw : g_wp Model_turn d mc ms Q 88 [(85, 2, 0, 0, 0, (-3), .bipush (-3)), (87, 1, 0, 0, 0, 0, .ireturn)] cs ss L st h) : G Model_turn d mc ms cs ss 85 L st h Q := G.run (by decide +kernel) hw
theorem B_Model_turn_88 {d mc ms cs ss : Nat} {L : List (Option Value)} {st : List Value} {h : g_H} {Q : g_Po} (hw : g_wp Model_turn d mc ms Q 92 [(88, 1, 0, 0, 0, 0, .aload_n 0), (89, 3, 110, 7, 3222, 0, .invokevirtual 81)] cs ss L st h) : G Model_turn d mc ms cs ss 88 L st h Q := G.run (by decide +kernel) hw
theorem B_Model_turn_92 {d mc ms cs ss : Nat} {L : List (Option Value)} {st : List Value} {h : g_H} {Q : g_Po} (hw : g_wp Model_turn d mc ms Q 95 [(92, 1, 0, 0, 0, 0, .iconst 0), (93, 2, 0, 0, 0, 0, .istore 5)] cs ss L st h) : G Model_turn d mc ms cs ss 92 L st h Q := G.run (by decide +kernel) hw
theorem B_Model_turn_95 {d mc ms cs ss : Nat} {L : List (Option Value)} {st : List Value} {h : g_H} {Q : g_Po} (hw : g_wp Model_turn d mc ms Q 102 [(95, 2, 0, 0, 0, 0, .iload 5), (97, 1, 0, 0, 0, 0, .aload_n 0), (98, 1, 0, 0, 0, 0, .iload_n 1), (99, 3, 119, 7, 4047, 1, .invokevirtual 57)] cs ss L st h) : G Model_turn d mc ms cs ss 95 L st h Q := G.run (by decide +kernel) hw
theorem B_Model_turn_102 {d mc ms cs ss : Nat} {L : List (Option Value)} {st : List Value} {h : g_H} {Q : g_Po} (hw : g_wp Model_turn d mc ms Q 105 [(102, 3, 132, 0, 0, 0, .if_icmp .ge 30)] cs ss L st h) : G Model_turn d mc ms cs ss 102 L st h Q := G.run (by decide +kernel) hw
theorem B_Model_turn_105 {d mc ms cs ss : Nat} {L : List (Option Value)} {st : List Value} {h : g_H} {Q : g_Po} (hw : g_wp Model_turn d mc ms Q 118 [(105, 1, 0, 0, 0, 0, .aload_n 0), (106, 1, 0, 0, 0, 0, .iload_n 1), (107, 1, 0, 0, 0, 2, .iconst 2), (108, 2, 0, 0, 0, 0, .iload 5), (110, 1, 0, 0, 0, 0, .iadd), (111, 1, 0, 0, 0, 0, .aload_n 0), (112, 1, 0, 0, 0, 0, .iload_n 1), (113, 2, 0, 0, 0, 0, .iload 5), (115, 3, 121, 7, 4051, 2, .invokevirtual 95)] cs ss L st h) : G Model_turn d mc ms cs ss 105 L st h Q := G.run (by decide +kernel) hw
theorem B_Model_turn_118 {d mc ms cs ss : Nat} {L : List (Option Value)} {st : List Value} {h : g_H} {Q : g_Po} (hw : g_wp Model_turn d mc ms Q 123 [(118, 1, 0, 0, 0, 0, .iload_n 3), (119, 1, 0, 0, 0, 0, .iload_n 2), (120, 3, 159, 0, 4156, 3, .invokestatic 191)] cs ss L st h) : G Model_turn d mc ms cs ss 118 L st h Q := G.run (by decide +kernel) hw
theorem B_Model_turn_123 {d mc ms cs ss : Nat} {L : List (Option Value)} {st : List Value} {h : g_H} {Q : g_Po} (hw : g_wp Model_turn d mc ms Q 126 [(123, 3, 118, 7, 4008, 3, .invokevirtual 73)] cs ss L st h) : G Model_turn d mc ms cs ss 123 L st h Q := G.run (by decide +kernel) hw
theorem B_Model_turn_126 {d mc ms cs ss : Nat} {L : List (Option Value)} {st : List Value} {h : g_H} {Q : g_Po} (hw : g_wp Model_turn d mc ms Q 132 [(126, 3, 0, 0, 0, 1, .iinc 5 1), (129, 3, 95, 0, 0, 0, .goto (-34))] cs ss L st h) : G Model_turn d mc ms cs ss 126 L st h Q := G.run (by decide +kernel) hw
theorem B_Model_turn_132 {d mc ms cs ss : Nat} {L : List (Option Value)} {st : List Value} {h : g_H} {Q : g_Po} (hw : g_wp Model_turn d mc ms Q 139 [(132, 1, 0, 0, 0, 0, .aload_n 0), (133, 1, 0, 0, 0, 0, .iload_n 1), (134, 1, 0, 0, 0, 0, .aload_n 0), (135, 1, 0, 0, 0, 0, .iload_n 1), (136, 3, 119, 7, 4047, 1, .invokevirtual 57)] cs ss L st h) : G Model_turn d mc ms cs ss 132 L st h Q := G.run (by decide +kernel) hw
theorem B_Model_turn_139 {d mc ms cs ss : Nat} {L : List (Option Value)} {st : List Value} {h : g_H} {Q : g_Po} (hw : g_wp Model_turn d mc ms Q 144 [(139, 1, 0, 0, 0, 1, .iconst 1), (140, 1, 0, 0, 0, 0, .isub), (141, 3, 121, 7, 4051, 2, .invokevirtual 95)] cs ss L st h) : G Model_turn d mc ms cs ss 139 L st h Q := G.run (by decide +kernel) hw
theorem B_Model_turn_144 {d mc ms cs ss : Nat} {L : List (Option Value)} {st : List Value} {h : g_H} {Q : g_Po} (hw : g_wp Model_turn d mc ms Q 145 [(144, 1, 0, 0, 0, 0, .ireturn)] cs ss L st h) : G Model_turn d mc ms cs ss 144 L st h Q := G.run (by decide +kernel) hw
/-- points of a stroke set one by one, by a function of the old ones -/
def mpd (F : Nat → Int) (f : Nat → Int) (l : List Int) (i k : Nat) (G' : Nat → Int) : Prop := (∀ j, j < 34 + 32 * i ∨ 34 + 32 * i + k ≤ j → G' j = F j) ∧ ∀ j, j < k → G' (34 + 32 * i + j) = f j
theorem mpd_st {F G' : Nat → Int} {f : Nat → Int} {Ss : List Stk} {pn : Stk} {i : Nat} (wl : wfL Ss) (hpn : pn.1.length ≤ 30) (hr : stR F (Ss, pn)) (hi : i < Ss.length) (h : mpd F f (sg Ss i).1 i (sg Ss i).1.length G') {L : List Int} (hL : L.length = (sg Ss i).1.length) (hf : ∀ k, k < L.length → f k = pg L k) : stR G' (Ss.set i (L, (sg Ss i).2), pn) := by
  obtain ⟨t1, t2, t3⟩ := hr.st hi
  have := (wl.2 i hi).2.1
  exact hr.lay (fun j hj => (wl.2 j hj).2.1) hpn hi (fun j hj => h.1 j (by omega)) ((h.1 _ (by omega)).trans (by rw [t1, hL])) ((h.1 _ (by omega)).trans t2) (fun k hk => (h.2 k (by omega)).trans (hf k hk))
theorem Mdl_pAq_c {d M s k n : Nat} (d2 : 2 ≤ d) {r : Nat → Int} {A : Nat → Nat → Int} {h : g_H} {Q : g_Po} (hm : mdl h M r A) (hs : s < 10) (hn : A 1 (32 + 32 * s) = n) (h30 : n ≤ 30) (hk : k < n) (hQ : Q (some (.int (I (A 1 (34 + 32 * s + k))))) h) : Call Model_pointAt d 0 0 [.ref M, .int (I (s : Int)), .int (I (k : Int))] h Q := by
  have d1 : 1 ≤ d := by omega
  have e1 : (¬ I (n : Int) = I 0) = True := by
    rw [I_eq (by omega) (by omega)]
    simp only [eq_iff_iff, iff_true]
    omega
  have e2 := I_remN (k := k) (m := n) (by omega) (by omega)
  rw [Nat.mod_eq_of_lt hk] at e2
  refine Call.intro (by rfl) (Nat.le_of_ble_eq_true rfl) ?_
  refine G.eqL (L := [some (.ref _), some (.int _), some (.int _)]) rfl ?_
  refine B_Model_pointAt_0 ?_
  simp only [wp_cons, wp_nil, List.getElem?_cons_zero, List.getElem?_cons_succ, List.set_cons_zero, List.set_cons_succ, s_aload_n0, ldA_r, ldA_n, s_iload_n1, ldI_s, s_iconst, s_iload_n2, s_invokevirtual, rc_s, ob_s, List.drop_succ_cons, List.drop_zero, List.take_succ_cons, List.take_zero, List.reverse_cons, List.reverse_nil, List.nil_append, List.cons_append, List.length_cons, List.length_nil, d1, Int.reduceToNat, Nat.reduceAdd, Nat.reduceLeDiff, true_and, and_true, Nat.le_refl, true_implies, forall_const, not_false_eq_true, false_implies, not_true_eq_false, reduceCtorEq, tl_s, tl_n, rf_s, true_or, or_true, hm.c]
  refine Mdl_many_c (by omega) hm (by omega) ?_
  rw [hn]
  refine B_Model_pointAt_9 ?_
  simp only [wp_cons, wp_nil, List.getElem?_cons_zero, List.getElem?_cons_succ, List.set_cons_zero, List.set_cons_succ, s_irem, p2_s, ne_k1000, ne_k2, s_iadd, I_add, s_invokevirtual, rc_s, ob_s, List.drop_succ_cons, List.drop_zero, List.take_succ_cons, List.take_zero, List.reverse_cons, List.reverse_nil, List.nil_append, List.cons_append, List.length_cons, List.length_nil, d1, Int.reduceToNat, Nat.reduceAdd, Nat.reduceLeDiff, true_and, and_true, Nat.le_refl, true_implies, forall_const, not_false_eq_true, false_implies, not_true_eq_false, reduceCtorEq, tl_s, tl_n, rf_s, true_or, or_true, hm.c, e1, e2]
  refine Mdl_part_c (j := 34 + 32 * s + k) hm (by omega) (by omega) ?_
  refine B_Model_pointAt_14 ?_
  simp only [wp_cons, wp_nil, List.getElem?_cons_zero, List.getElem?_cons_succ, List.set_cons_zero, List.set_cons_succ, s_ireturn, p1_s, rI_i, rI_z, rI_c, z_01, z_11, rt_Model_pointAt, true_and, and_true, Nat.le_refl, true_implies, forall_const, not_false_eq_true, false_implies, not_true_eq_false, reduceCtorEq, tl_s, tl_n, rf_s, List.cons_append, List.nil_append, true_or, or_true, hm.c]
  exact hQ
theorem Mdl_may_c {d M i : Nat} {dx dy : Int} (d3 : 3 ≤ d) {st : Sta} {r : Nat → Int} {A : Nat → Nat → Int} {h : g_H} {Q : g_Po} (hm : mdl h M r A) (hr : stR (A 1) st) (w : wfL st.1) (hi : i < st.1.length) (bx : -999 ≤ dx ∧ dx ≤ 999) (bdy : -999 ≤ dy ∧ dy ≤ 999) (hT : (∀ k, k < (sg st.1 i).1.length → plc (pg (sg st.1 i).1 k / 1000 + dx) (pg (sg st.1 i).1 k % 1000 + dy)) → Q (some (.int (I 1))) h) (hF : ¬ (∀ k, k < (sg st.1 i).1.length → plc (pg (sg st.1 i).1 k / 1000 + dx) (pg (sg st.1 i).1 k % 1000 + dy)) → Q (some (.int (I 0))) h) : Call Model_mayMove d 0 0 [.ref M, .int (I (i : Int)), .int (I dx), .int (I dy)] h Q := by
  have d1 : 1 ≤ d := by omega
  have wi := w.2 i hi
  have loop : ∀ (m k : Nat) (v : Int), k + m = (sg st.1 i).1.length → ((v = 1 ∧ ∀ j, j < k → plc (pg (sg st.1 i).1 j / 1000 + dx) (pg (sg st.1 i).1 j % 1000 + dy)) ∨ (v = 0 ∧ ¬ (∀ k, k < (sg st.1 i).1.length → plc (pg (sg st.1 i).1 k / 1000 + dx) (pg (sg st.1 i).1 k % 1000 + dy)))) → G Model_mayMove d 0 0 0 0 6 [some (.ref M), some (.int (I (i : Int))), some (.int (I dx)), some (.int (I dy)), some (.int (I v)), some (.int (I (k : Int)))] [] h Q := by
    intro m
    induction m with
    | zero =>
      intro k v hk hv
      obtain rfl : k = (sg st.1 i).1.length := by omega
      refine B_Model_mayMove_6 ?_
      simp only [wp_cons, wp_nil, List.getElem?_cons_zero, List.getElem?_cons_succ, List.set_cons_zero, List.set_cons_succ, s_iload, ldI_s, s_aload_n0, ldA_r, ldA_n, s_iload_n1, s_invokevirtual, rc_s, ob_s, List.drop_succ_cons, List.drop_zero, List.take_succ_cons, List.take_zero, List.reverse_cons, List.reverse_nil, List.nil_append, List.cons_append, List.length_cons, List.length_nil, d1, Int.reduceToNat, Nat.reduceAdd, Nat.reduceLeDiff, true_and, and_true, Nat.le_refl, true_implies, forall_const, not_false_eq_true, false_implies, not_true_eq_false, reduceCtorEq, tl_s, tl_n, rf_s, true_or, or_true, hm.c]
      refine Mdl_len_c (by omega) hm hr w hi ?_
      rcases hv with ⟨rfl, hv⟩ | ⟨rfl, hv⟩
      · refine B_Model_mayMove_13 ?_
        simp only [wp_cons, wp_nil, List.getElem?_cons_zero, List.getElem?_cons_succ, List.set_cons_zero, List.set_cons_succ, s_if_icmp_ge, p2_s, true_and, and_true, Nat.le_refl, true_implies, forall_const, not_false_eq_true, false_implies, not_true_eq_false, reduceCtorEq, tl_s, tl_n, rf_s, List.cons_append, List.nil_append, true_or, or_true, hm.c]
        refine b_le (by omega) (by omega) (fun cc => ?_) (fun cc => absurd cc (by omega))
        refine B_Model_mayMove_64 ?_
        simp only [wp_cons, wp_nil, List.getElem?_cons_zero, List.getElem?_cons_succ, List.set_cons_zero, List.set_cons_succ, s_iload, ldI_s, s_ireturn, p1_s, rI_i, rI_z, rI_c, z_01, z_11, rt_Model_mayMove, true_and, and_true, Nat.le_refl, true_implies, forall_const, not_false_eq_true, false_implies, not_true_eq_false, reduceCtorEq, tl_s, tl_n, rf_s, List.cons_append, List.nil_append, true_or, or_true, hm.c]
        exact hT hv
      · refine B_Model_mayMove_13 ?_
        simp only [wp_cons, wp_nil, List.getElem?_cons_zero, List.getElem?_cons_succ, List.set_cons_zero, List.set_cons_succ, s_if_icmp_ge, p2_s, true_and, and_true, Nat.le_refl, true_implies, forall_const, not_false_eq_true, false_implies, not_true_eq_false, reduceCtorEq, tl_s, tl_n, rf_s, List.cons_append, List.nil_append, true_or, or_true, hm.c]
        refine b_le (by omega) (by omega) (fun cc => ?_) (fun cc => absurd cc (by omega))
        refine B_Model_mayMove_64 ?_
        simp only [wp_cons, wp_nil, List.getElem?_cons_zero, List.getElem?_cons_succ, List.set_cons_zero, List.set_cons_succ, s_iload, ldI_s, s_ireturn, p1_s, rI_i, rI_z, rI_c, z_01, z_11, rt_Model_mayMove, true_and, and_true, Nat.le_refl, true_implies, forall_const, not_false_eq_true, false_implies, not_true_eq_false, reduceCtorEq, tl_s, tl_n, rf_s, List.cons_append, List.nil_append, true_or, or_true, hm.c]
        exact hF hv
    | succ m ih =>
      intro k v hk hv
      have b1 := w.p hi (k := k) (by omega)
      refine B_Model_mayMove_6 ?_
      simp only [wp_cons, wp_nil, List.getElem?_cons_zero, List.getElem?_cons_succ, List.set_cons_zero, List.set_cons_succ, s_iload, ldI_s, s_aload_n0, ldA_r, ldA_n, s_iload_n1, s_invokevirtual, rc_s, ob_s, List.drop_succ_cons, List.drop_zero, List.take_succ_cons, List.take_zero, List.reverse_cons, List.reverse_nil, List.nil_append, List.cons_append, List.length_cons, List.length_nil, d1, Int.reduceToNat, Nat.reduceAdd, Nat.reduceLeDiff, true_and, and_true, Nat.le_refl, true_implies, forall_const, not_false_eq_true, false_implies, not_true_eq_false, reduceCtorEq, tl_s, tl_n, rf_s, true_or, or_true, hm.c]
      refine Mdl_len_c (by omega) hm hr w hi ?_
      rcases hv with ⟨rfl, hv⟩ | ⟨rfl, hv⟩
      · refine B_Model_mayMove_13 ?_
        simp only [wp_cons, wp_nil, List.getElem?_cons_zero, List.getElem?_cons_succ, List.set_cons_zero, List.set_cons_succ, s_if_icmp_ge, p2_s, true_and, and_true, Nat.le_refl, true_implies, forall_const, not_false_eq_true, false_implies, not_true_eq_false, reduceCtorEq, tl_s, tl_n, rf_s, List.cons_append, List.nil_append, true_or, or_true, hm.c]
        refine b_le (by omega) (by omega) (fun cc => absurd cc (by omega)) (fun cc => ?_)
        refine B_Model_mayMove_16 ?_
        simp only [wp_cons, wp_nil, List.getElem?_cons_zero, List.getElem?_cons_succ, List.set_cons_zero, List.set_cons_succ, s_iload, ldI_s, s_ifCond_eq, p1_s, true_and, and_true, Nat.le_refl, true_implies, forall_const, not_false_eq_true, false_implies, not_true_eq_false, reduceCtorEq, tl_s, tl_n, rf_s, List.cons_append, List.nil_append, true_or, or_true, hm.c]
        refine b_eq (by omega) (by omega) (fun cc => absurd cc (by omega)) (fun cc => ?_)
        refine B_Model_mayMove_21 ?_
        simp only [wp_cons, wp_nil, List.getElem?_cons_zero, List.getElem?_cons_succ, List.set_cons_zero, List.set_cons_succ, s_aload_n0, ldA_r, ldA_n, s_iload_n1, ldI_s, s_iload, s_invokevirtual, rc_s, ob_s, List.drop_succ_cons, List.drop_zero, List.take_succ_cons, List.take_zero, List.reverse_cons, List.reverse_nil, List.nil_append, List.cons_append, List.length_cons, List.length_nil, d1, Int.reduceToNat, Nat.reduceAdd, Nat.reduceLeDiff, true_and, and_true, Nat.le_refl, true_implies, forall_const, not_false_eq_true, false_implies, not_true_eq_false, reduceCtorEq, tl_s, tl_n, rf_s, true_or, or_true, hm.c]
        refine Mdl_pAt_c (by omega) hm hr w hi (show k < (sg st.1 i).1.length by omega) ?_
        refine B_Model_mayMove_28 ?_
        simp only [wp_cons, wp_nil, List.getElem?_cons_zero, List.getElem?_cons_succ, List.set_cons_zero, List.set_cons_succ, s_invokestatic, rc_s, ob_s, List.drop_succ_cons, List.drop_zero, List.take_succ_cons, List.take_zero, List.reverse_cons, List.reverse_nil, List.nil_append, List.cons_append, List.length_cons, List.length_nil, Nat.reduceEqDiff, reduceIte, p1_s, p2_s, l1_s, d1, Int.reduceToNat, Nat.reduceAdd, Nat.reduceLeDiff, true_and, and_true, Nat.le_refl, true_implies, forall_const, not_false_eq_true, false_implies, not_true_eq_false, reduceCtorEq, tl_s, tl_n, rf_s, true_or, or_true, hm.c]
        refine Mdl_x_c b1 ?_
        refine B_Model_mayMove_31 ?_
        simp only [wp_cons, wp_nil, List.getElem?_cons_zero, List.getElem?_cons_succ, List.set_cons_zero, List.set_cons_succ, s_iload_n2, ldI_s, s_iadd, p2_s, I_add, s_aload_n0, ldA_r, ldA_n, s_iload_n1, s_iload, s_invokevirtual, rc_s, ob_s, List.drop_succ_cons, List.drop_zero, List.take_succ_cons, List.take_zero, List.reverse_cons, List.reverse_nil, List.nil_append, List.cons_append, List.length_cons, List.length_nil, d1, Int.reduceToNat, Nat.reduceAdd, Nat.reduceLeDiff, true_and, and_true, Nat.le_refl, true_implies, forall_const, not_false_eq_true, false_implies, not_true_eq_false, reduceCtorEq, tl_s, tl_n, rf_s, true_or, or_true, hm.c]
        refine Mdl_pAt_c (by omega) hm hr w hi (show k < (sg st.1 i).1.length by omega) ?_
        refine B_Model_mayMove_40 ?_
        simp only [wp_cons, wp_nil, List.getElem?_cons_zero, List.getElem?_cons_succ, List.set_cons_zero, List.set_cons_succ, s_invokestatic, rc_s, ob_s, List.drop_succ_cons, List.drop_zero, List.take_succ_cons, List.take_zero, List.reverse_cons, List.reverse_nil, List.nil_append, List.cons_append, List.length_cons, List.length_nil, Nat.reduceEqDiff, reduceIte, p1_s, p2_s, l1_s, d1, Int.reduceToNat, Nat.reduceAdd, Nat.reduceLeDiff, true_and, and_true, Nat.le_refl, true_implies, forall_const, not_false_eq_true, false_implies, not_true_eq_false, reduceCtorEq, tl_s, tl_n, rf_s, true_or, or_true, hm.c]
        refine Mdl_y_c b1 ?_
        refine B_Model_mayMove_43 ?_
        simp only [wp_cons, wp_nil, List.getElem?_cons_zero, List.getElem?_cons_succ, List.set_cons_zero, List.set_cons_succ, s_iload_n3, ldI_s, s_iadd, p2_s, I_add, s_invokestatic, rc_s, ob_s, List.drop_succ_cons, List.drop_zero, List.take_succ_cons, List.take_zero, List.reverse_cons, List.reverse_nil, List.nil_append, List.cons_append, List.length_cons, List.length_nil, Nat.reduceEqDiff, reduceIte, p1_s, l1_s, d1, Int.reduceToNat, Nat.reduceAdd, Nat.reduceLeDiff, true_and, and_true, Nat.le_refl, true_implies, forall_const, not_false_eq_true, false_implies, not_true_eq_false, reduceCtorEq, tl_s, tl_n, rf_s, true_or, or_true, hm.c]
        refine Mdl_isPl_c (by omega) (by omega) (by omega) (fun c => ?_) (fun c => ?_)
        · refine B_Model_mayMove_48 ?_
          simp only [wp_cons, wp_nil, List.getElem?_cons_zero, List.getElem?_cons_succ, List.set_cons_zero, List.set_cons_succ, s_ifCond_eq, p1_s, true_and, and_true, Nat.le_refl, true_implies, forall_const, not_false_eq_true, false_implies, not_true_eq_false, reduceCtorEq, tl_s, tl_n, rf_s, List.cons_append, List.nil_append, true_or, or_true, hm.c]
          refine b_eq (by omega) (by omega) (fun cc => absurd cc (by omega)) (fun cc => ?_)
          refine B_Model_mayMove_51 ?_
          simp only [wp_cons, wp_nil, List.getElem?_cons_zero, List.getElem?_cons_succ, List.set_cons_zero, List.set_cons_succ, s_iconst, s_goto, true_and, and_true, Nat.le_refl, true_implies, forall_const, not_false_eq_true, false_implies, not_true_eq_false, reduceCtorEq, tl_s, tl_n, rf_s, List.cons_append, List.nil_append, true_or, or_true, hm.c]
          refine B_Model_mayMove_56 ?_
          simp only [wp_cons, wp_nil, List.getElem?_cons_zero, List.getElem?_cons_succ, List.set_cons_zero, List.set_cons_succ, s_istore, p1_s, s1_0, s1_s, kx_i, kx_r, kx_n, kx_l, kx_0, s_iinc, ldI_s, I_add, s_goto, true_and, and_true, Nat.le_refl, true_implies, forall_const, not_false_eq_true, false_implies, not_true_eq_false, reduceCtorEq, tl_s, tl_n, rf_s, List.cons_append, List.nil_append, true_or, or_true, hm.c]
          refine ih (k + 1) 1 (by omega) (Or.inl ⟨rfl, fun j hj => ?_⟩)
          by_cases e : j = k
          · rw [e]; exact c
          · exact hv j (by omega)
        · refine B_Model_mayMove_48 ?_
          simp only [wp_cons, wp_nil, List.getElem?_cons_zero, List.getElem?_cons_succ, List.set_cons_zero, List.set_cons_succ, s_ifCond_eq, p1_s, true_and, and_true, Nat.le_refl, true_implies, forall_const, not_false_eq_true, false_implies, not_true_eq_false, reduceCtorEq, tl_s, tl_n, rf_s, List.cons_append, List.nil_append, true_or, or_true, hm.c]
          refine B_Model_mayMove_55 ?_
          simp only [wp_cons, wp_nil, List.getElem?_cons_zero, List.getElem?_cons_succ, List.set_cons_zero, List.set_cons_succ, s_iconst, true_and, and_true, Nat.le_refl, true_implies, forall_const, not_false_eq_true, false_implies, not_true_eq_false, reduceCtorEq, tl_s, tl_n, rf_s, List.cons_append, List.nil_append, true_or, or_true, hm.c]
          refine B_Model_mayMove_56 ?_
          simp only [wp_cons, wp_nil, List.getElem?_cons_zero, List.getElem?_cons_succ, List.set_cons_zero, List.set_cons_succ, s_istore, p1_s, s1_0, s1_s, kx_i, kx_r, kx_n, kx_l, kx_0, s_iinc, ldI_s, I_add, s_goto, true_and, and_true, Nat.le_refl, true_implies, forall_const, not_false_eq_true, false_implies, not_true_eq_false, reduceCtorEq, tl_s, tl_n, rf_s, List.cons_append, List.nil_append, true_or, or_true, hm.c]
          exact ih (k + 1) 0 (by omega) (Or.inr ⟨rfl, fun q => c (q k (by omega))⟩)
      · refine B_Model_mayMove_13 ?_
        simp only [wp_cons, wp_nil, List.getElem?_cons_zero, List.getElem?_cons_succ, List.set_cons_zero, List.set_cons_succ, s_if_icmp_ge, p2_s, true_and, and_true, Nat.le_refl, true_implies, forall_const, not_false_eq_true, false_implies, not_true_eq_false, reduceCtorEq, tl_s, tl_n, rf_s, List.cons_append, List.nil_append, true_or, or_true, hm.c]
        refine b_le (by omega) (by omega) (fun cc => absurd cc (by omega)) (fun cc => ?_)
        refine B_Model_mayMove_16 ?_
        simp only [wp_cons, wp_nil, List.getElem?_cons_zero, List.getElem?_cons_succ, List.set_cons_zero, List.set_cons_succ, s_iload, ldI_s, s_ifCond_eq, p1_s, true_and, and_true, Nat.le_refl, true_implies, forall_const, not_false_eq_true, false_implies, not_true_eq_false, reduceCtorEq, tl_s, tl_n, rf_s, List.cons_append, List.nil_append, true_or, or_true, hm.c]
        refine B_Model_mayMove_55 ?_
        simp only [wp_cons, wp_nil, List.getElem?_cons_zero, List.getElem?_cons_succ, List.set_cons_zero, List.set_cons_succ, s_iconst, true_and, and_true, Nat.le_refl, true_implies, forall_const, not_false_eq_true, false_implies, not_true_eq_false, reduceCtorEq, tl_s, tl_n, rf_s, List.cons_append, List.nil_append, true_or, or_true, hm.c]
        refine B_Model_mayMove_56 ?_
        simp only [wp_cons, wp_nil, List.getElem?_cons_zero, List.getElem?_cons_succ, List.set_cons_zero, List.set_cons_succ, s_istore, p1_s, s1_0, s1_s, kx_i, kx_r, kx_n, kx_l, kx_0, s_iinc, ldI_s, I_add, s_goto, true_and, and_true, Nat.le_refl, true_implies, forall_const, not_false_eq_true, false_implies, not_true_eq_false, reduceCtorEq, tl_s, tl_n, rf_s, List.cons_append, List.nil_append, true_or, or_true, hm.c]
        exact ih (k + 1) 0 (by omega) (Or.inr ⟨rfl, hv⟩)
  refine Call.intro (by rfl) (Nat.le_of_ble_eq_true rfl) ?_
  refine G.eqL (L := [some (.ref _), some (.int _), some (.int _), some (.int _), none, none]) rfl ?_
  refine B_Model_mayMove_0 ?_
  simp only [wp_cons, wp_nil, List.getElem?_cons_zero, List.getElem?_cons_succ, List.set_cons_zero, List.set_cons_succ, s_iconst, s_istore, p1_s, s1_0, s1_s, kx_i, kx_r, kx_n, kx_l, kx_0, true_and, and_true, Nat.le_refl, true_implies, forall_const, not_false_eq_true, false_implies, not_true_eq_false, reduceCtorEq, tl_s, tl_n, rf_s, List.cons_append, List.nil_append, true_or, or_true]
  exact loop (sg st.1 i).1.length 0 1 (by omega) (Or.inl ⟨rfl, fun j hj => absurd hj (by omega)⟩)
theorem Mdl_move_c {d M : Nat} (hd : 9 ≤ d) {W : Wd} {s dx dy : Int} {h : g_H} {Q : g_Po} (w : wfW W) (hp : mrep h M W) (hs : i32 s) (hdx : i32 dx) (hdy : i32 dy) (hQ : MQ9 M h Q (sp_move W s dx dy)) : Call Model_move d 0 0 [.ref M, .int (I s), .int (I dx), .int (I dy)] h Q := by
  have d1 : 1 ≤ d := by omega
  obtain ⟨⟨Ss, pn⟩, Hs, T, l⟩ := W
  obtain ⟨r, A, hm, ht⟩ := id hp
  have wl := w.g.1.l
  unfold sp_move at hQ
  dsimp only at hQ
  refine Call.intro (by rfl) (Nat.le_of_ble_eq_true rfl) ?_
  refine G.eqL (L := [some (.ref _), some (.int _), some (.int _), some (.int _), none, none]) rfl ?_
  refine B_Model_move_0 ?_
  simp only [wp_cons, wp_nil, List.getElem?_cons_zero, List.getElem?_cons_succ, List.set_cons_zero, List.set_cons_succ, s_aload_n0, ldA_r, ldA_n, s_iload_n1, ldI_s, s_invokevirtual, rc_s, ob_s, List.drop_succ_cons, List.drop_zero, List.take_succ_cons, List.take_zero, List.reverse_cons, List.reverse_nil, List.nil_append, List.cons_append, List.length_cons, List.length_nil, d1, Int.reduceToNat, Nat.reduceAdd, Nat.reduceLeDiff, true_and, and_true, Nat.le_refl, true_implies, forall_const, not_false_eq_true, false_implies, not_true_eq_false, reduceCtorEq, tl_s, tl_n, rf_s, true_or, or_true, hm.c]
  refine Mdl_isS2_c (by omega) hm ht.1 wl hs (fun c1 => ?_) (fun c1 => ?_)
  · rw [if_neg (fun q => q c1)] at hQ
    obtain ⟨i, rfl, hi⟩ := nat_of c1
    replace hi : i < Ss.length := hi
    rw [tn_i] at hQ
    have wi := wl.2 i hi
    have w0 := wl.1
    refine B_Model_move_5 ?_
    simp only [wp_cons, wp_nil, List.getElem?_cons_zero, List.getElem?_cons_succ, List.set_cons_zero, List.set_cons_succ, s_ifCond_ne, p1_s, true_and, and_true, Nat.le_refl, true_implies, forall_const, not_false_eq_true, false_implies, not_true_eq_false, reduceCtorEq, tl_s, tl_n, rf_s, List.cons_append, List.nil_append, true_or, or_true, hm.c]
    refine b_ne (by omega) (by omega) (fun cc => ?_) (fun cc => absurd cc (by omega))
    refine B_Model_move_10 ?_
    simp only [wp_cons, wp_nil, List.getElem?_cons_zero, List.getElem?_cons_succ, List.set_cons_zero, List.set_cons_succ, s_iload_n2, ldI_s, s_sipush, s_invokestatic, rc_s, ob_s, List.drop_succ_cons, List.drop_zero, List.take_succ_cons, List.take_zero, List.reverse_cons, List.reverse_nil, List.nil_append, List.cons_append, List.length_cons, List.length_nil, Nat.reduceEqDiff, reduceIte, p1_s, p2_s, l1_s, d1, Int.reduceToNat, Nat.reduceAdd, Nat.reduceLeDiff, true_and, and_true, Nat.le_refl, true_implies, forall_const, not_false_eq_true, false_implies, not_true_eq_false, reduceCtorEq, tl_s, tl_n, rf_s, true_or, or_true, hm.c]
    refine Mdl_within_c hdx (by omega) (by omega) (fun c2 => ?_) (fun c2 => ?_)
    · refine B_Model_move_20 ?_
      simp only [wp_cons, wp_nil, List.getElem?_cons_zero, List.getElem?_cons_succ, List.set_cons_zero, List.set_cons_succ, s_ifCond_eq, p1_s, true_and, and_true, Nat.le_refl, true_implies, forall_const, not_false_eq_true, false_implies, not_true_eq_false, reduceCtorEq, tl_s, tl_n, rf_s, List.cons_append, List.nil_append, true_or, or_true, hm.c]
      refine b_eq (by omega) (by omega) (fun cc => absurd cc (by omega)) (fun cc => ?_)
      refine B_Model_move_23 ?_
      simp only [wp_cons, wp_nil, List.getElem?_cons_zero, List.getElem?_cons_succ, List.set_cons_zero, List.set_cons_succ, s_iload_n3, ldI_s, s_sipush, s_invokestatic, rc_s, ob_s, List.drop_succ_cons, List.drop_zero, List.take_succ_cons, List.take_zero, List.reverse_cons, List.reverse_nil, List.nil_append, List.cons_append, List.length_cons, List.length_nil, Nat.reduceEqDiff, reduceIte, p1_s, p2_s, l1_s, d1, Int.reduceToNat, Nat.reduceAdd, Nat.reduceLeDiff, true_and, and_true, Nat.le_refl, true_implies, forall_const, not_false_eq_true, false_implies, not_true_eq_false, reduceCtorEq, tl_s, tl_n, rf_s, true_or, or_true, hm.c]
      refine Mdl_within_c hdy (by omega) (by omega) (fun c3 => ?_) (fun c3 => ?_)
      · rw [if_neg (fun q => q ⟨c2, c3⟩)] at hQ
        refine B_Model_move_33 ?_
        simp only [wp_cons, wp_nil, List.getElem?_cons_zero, List.getElem?_cons_succ, List.set_cons_zero, List.set_cons_succ, s_ifCond_ne, p1_s, true_and, and_true, Nat.le_refl, true_implies, forall_const, not_false_eq_true, false_implies, not_true_eq_false, reduceCtorEq, tl_s, tl_n, rf_s, List.cons_append, List.nil_append, true_or, or_true, hm.c]
        refine b_ne (by omega) (by omega) (fun cc => ?_) (fun cc => absurd cc (by omega))
        refine B_Model_move_39 ?_
        simp only [wp_cons, wp_nil, List.getElem?_cons_zero, List.getElem?_cons_succ, List.set_cons_zero, List.set_cons_succ, s_aload_n0, ldA_r, ldA_n, s_iload_n1, ldI_s, s_iload_n2, s_iload_n3, s_invokevirtual, rc_s, ob_s, List.drop_succ_cons, List.drop_zero, List.take_succ_cons, List.take_zero, List.reverse_cons, List.reverse_nil, List.nil_append, List.cons_append, List.length_cons, List.length_nil, d1, Int.reduceToNat, Nat.reduceAdd, Nat.reduceLeDiff, true_and, and_true, Nat.le_refl, true_implies, forall_const, not_false_eq_true, false_implies, not_true_eq_false, reduceCtorEq, tl_s, tl_n, rf_s, true_or, or_true, hm.c]
        refine Mdl_may_c (by omega) hm ht.1 wl hi c2 c3 (fun c4 => ?_) (fun c4 => ?_)
        · rw [if_neg (fun q => q c4)] at hQ
          refine B_Model_move_46 ?_
          simp only [wp_cons, wp_nil, List.getElem?_cons_zero, List.getElem?_cons_succ, List.set_cons_zero, List.set_cons_succ, s_ifCond_ne, p1_s, true_and, and_true, Nat.le_refl, true_implies, forall_const, not_false_eq_true, false_implies, not_true_eq_false, reduceCtorEq, tl_s, tl_n, rf_s, List.cons_append, List.nil_append, true_or, or_true, hm.c]
          refine b_ne (by omega) (by omega) (fun cc => ?_) (fun cc => absurd cc (by omega))
          refine B_Model_move_52 ?_
          simp only [wp_cons, wp_nil, List.getElem?_cons_zero, List.getElem?_cons_succ, List.set_cons_zero, List.set_cons_succ, s_aload_n0, ldA_r, ldA_n, s_invokevirtual, rc_s, ob_s, List.drop_succ_cons, List.drop_zero, List.take_succ_cons, List.take_zero, List.reverse_cons, List.reverse_nil, List.nil_append, List.cons_append, List.length_cons, List.length_nil, d1, Int.reduceToNat, Nat.reduceAdd, Nat.reduceLeDiff, true_and, and_true, Nat.le_refl, true_implies, forall_const, not_false_eq_true, false_implies, not_true_eq_false, reduceCtorEq, tl_s, tl_n, rf_s, true_or, or_true, hm.c]
          refine Mdl_rec_c (by omega) hm ht w (fun h1 r1 A1 c1' m1 e1 e2 s1 => ?_)
          have hmp : ∀ k, k < (sg Ss i).1.length → pt (mvx dx dy (pg (sg Ss i).1 k)) := fun k hk => by
            have : plc (pg (sg Ss i).1 k / 1000 + dx) (pg (sg Ss i).1 k % 1000 + dy) := c4 k hk
            unfold mvx
            omega
          have wn : wfL (Ss.set i ((sg Ss i).1.map (mvx dx dy), (sg Ss i).2)) := wl.set hi (by rw [List.length_map]; exact wi.1) (by rw [List.length_map]; exact wi.2.1) (fun k hk => by rw [List.length_map] at hk; rw [pg_map _ _ hk]; exact hmp k hk)
          have loop : ∀ (m k : Nat) (h2 : g_H) (A2 : Nat → Nat → Int) (x5 : Option Value), k + m = (sg Ss i).1.length → chg M (M + 10) h1 h2 → mdl h2 M r1 A2 → (∀ n, n ≠ 1 → A2 n = A1 n) → mpd (A1 1) (fun k => mvx dx dy (pg (sg Ss i).1 k)) (sg Ss i).1 i k (A2 1) → G Model_move d 0 0 0 0 59 [some (.ref M), some (.int (I (i : Int))), some (.int (I dx)), some (.int (I dy)), some (.int (I (k : Int))), x5] [] h2 Q := by
            intro m
            induction m with
            | zero =>
              intro k h2 A2 x5 hk hc m2 e3 hmd
              obtain rfl : k = (sg Ss i).1.length := by omega
              have s2 := mpd_st wl w.g.2.1.1 s1.1 hi hmd (L := (sg Ss i).1.map (mvx dx dy)) (by rw [List.length_map]) (fun k hk => by rw [List.length_map] at hk; rw [pg_map _ _ hk])
              have es : sg (Ss.set i ((sg Ss i).1.map (mvx dx dy), (sg Ss i).2)) i = ((sg Ss i).1.map (mvx dx dy), (sg Ss i).2) := by rw [sg_set _ _ _ hi, if_pos rfl]
              refine B_Model_move_59 ?_
              simp only [wp_cons, wp_nil, List.getElem?_cons_zero, List.getElem?_cons_succ, List.set_cons_zero, List.set_cons_succ, s_iload, ldI_s, s_aload_n0, ldA_r, ldA_n, s_iload_n1, s_invokevirtual, rc_s, ob_s, List.drop_succ_cons, List.drop_zero, List.take_succ_cons, List.take_zero, List.reverse_cons, List.reverse_nil, List.nil_append, List.cons_append, List.length_cons, List.length_nil, d1, Int.reduceToNat, Nat.reduceAdd, Nat.reduceLeDiff, true_and, and_true, Nat.le_refl, true_implies, forall_const, not_false_eq_true, false_implies, not_true_eq_false, reduceCtorEq, tl_s, tl_n, rf_s, true_or, or_true, m2.c]
              refine Mdl_len_c (by omega) m2 s2 wn (by rw [List.length_set]; exact hi) ?_
              rw [es, List.length_map]
              refine B_Model_move_66 ?_
              simp only [wp_cons, wp_nil, List.getElem?_cons_zero, List.getElem?_cons_succ, List.set_cons_zero, List.set_cons_succ, s_if_icmp_ge, p2_s, true_and, and_true, Nat.le_refl, true_implies, forall_const, not_false_eq_true, false_implies, not_true_eq_false, reduceCtorEq, tl_s, tl_n, rf_s, List.cons_append, List.nil_append, true_or, or_true, m2.c]
              refine b_le (by omega) (by omega) (fun cc => ?_) (fun cc => absurd cc (by omega))
              refine B_Model_move_110 ?_
              simp only [wp_cons, wp_nil, List.getElem?_cons_zero, List.getElem?_cons_succ, List.set_cons_zero, List.set_cons_succ, s_aload_n0, ldA_r, ldA_n, s_iload_n1, ldI_s, s_iconst, s_invokevirtual, rc_s, ob_s, List.drop_succ_cons, List.drop_zero, List.take_succ_cons, List.take_zero, List.reverse_cons, List.reverse_nil, List.nil_append, List.cons_append, List.length_cons, List.length_nil, d1, Int.reduceToNat, Nat.reduceAdd, Nat.reduceLeDiff, true_and, and_true, Nat.le_refl, true_implies, forall_const, not_false_eq_true, false_implies, not_true_eq_false, reduceCtorEq, tl_s, tl_n, rf_s, true_or, or_true, m2.c]
              refine Mdl_pAt_c (by omega) (k := 0) m2 s2 wn (by rw [List.length_set]; exact hi) (by rw [es, List.length_map]; omega) ?_
              rw [es, pg_map _ _ (by omega)]
              refine B_Model_move_116 ?_
              simp only [wp_cons, wp_nil, List.getElem?_cons_zero, List.getElem?_cons_succ, List.set_cons_zero, List.set_cons_succ, s_ireturn, p1_s, rI_i, rI_z, rI_c, z_01, z_11, rt_Model_move, true_and, and_true, Nat.le_refl, true_implies, forall_const, not_false_eq_true, false_implies, not_true_eq_false, reduceCtorEq, tl_s, tl_n, rf_s, List.cons_append, List.nil_append, true_or, or_true, m2.c]
              exact hQ h2 (c1'.tr hc) ⟨_, _, m2, s1.s1 s2 (fun n hn => e3 n (by omega)) rfl rfl⟩
            | succ m ih =>
              intro k h2 A2 x5 hk hc m2 e3 hmd
              have b1 := wl.p hi (k := k) (by omega)
              obtain ⟨t1, t2, t3⟩ := s1.1.st hi
              have q0 : A2 1 (32 + 32 * i) = (sg Ss i).1.length := (hmd.1 _ (by omega)).trans t1
              have q1 : A2 1 (34 + 32 * i + k) = pg (sg Ss i).1 k := (hmd.1 _ (by omega)).trans (t3 k (by omega))
              refine B_Model_move_59 ?_
              simp only [wp_cons, wp_nil, List.getElem?_cons_zero, List.getElem?_cons_succ, List.set_cons_zero, List.set_cons_succ, s_iload, ldI_s, s_aload_n0, ldA_r, ldA_n, s_iload_n1, s_invokevirtual, rc_s, ob_s, List.drop_succ_cons, List.drop_zero, List.take_succ_cons, List.take_zero, List.reverse_cons, List.reverse_nil, List.nil_append, List.cons_append, List.length_cons, List.length_nil, d1, Int.reduceToNat, Nat.reduceAdd, Nat.reduceLeDiff, true_and, and_true, Nat.le_refl, true_implies, forall_const, not_false_eq_true, false_implies, not_true_eq_false, reduceCtorEq, tl_s, tl_n, rf_s, true_or, or_true, m2.c]
              refine Mdl_many_c (by omega) m2 (by omega) ?_
              rw [q0]
              refine B_Model_move_66 ?_
              simp only [wp_cons, wp_nil, List.getElem?_cons_zero, List.getElem?_cons_succ, List.set_cons_zero, List.set_cons_succ, s_if_icmp_ge, p2_s, true_and, and_true, Nat.le_refl, true_implies, forall_const, not_false_eq_true, false_implies, not_true_eq_false, reduceCtorEq, tl_s, tl_n, rf_s, List.cons_append, List.nil_append, true_or, or_true, m2.c]
              refine b_le (by omega) (by omega) (fun cc => absurd cc (by omega)) (fun cc => ?_)
              refine B_Model_move_69 ?_
              simp only [wp_cons, wp_nil, List.getElem?_cons_zero, List.getElem?_cons_succ, List.set_cons_zero, List.set_cons_succ, s_aload_n0, ldA_r, ldA_n, s_iload_n1, ldI_s, s_iload, s_invokevirtual, rc_s, ob_s, List.drop_succ_cons, List.drop_zero, List.take_succ_cons, List.take_zero, List.reverse_cons, List.reverse_nil, List.nil_append, List.cons_append, List.length_cons, List.length_nil, d1, Int.reduceToNat, Nat.reduceAdd, Nat.reduceLeDiff, true_and, and_true, Nat.le_refl, true_implies, forall_const, not_false_eq_true, false_implies, not_true_eq_false, reduceCtorEq, tl_s, tl_n, rf_s, true_or, or_true, m2.c]
              refine Mdl_pAq_c (by omega) m2 (by omega) q0 (by omega) (by omega) ?_
              rw [q1]
              refine B_Model_move_76 ?_
              simp only [wp_cons, wp_nil, List.getElem?_cons_zero, List.getElem?_cons_succ, List.set_cons_zero, List.set_cons_succ, s_istore, p1_s, s1_0, s1_s, kx_i, kx_r, kx_n, kx_l, kx_0, s_aload_n0, ldA_r, ldA_n, s_iload_n1, ldI_s, s_iconst, s_iload, s_iadd, p2_s, I_add, s_invokestatic, rc_s, ob_s, List.drop_succ_cons, List.drop_zero, List.take_succ_cons, List.take_zero, List.reverse_cons, List.reverse_nil, List.nil_append, List.cons_append, List.length_cons, List.length_nil, Nat.reduceEqDiff, reduceIte, l1_s, d1, Int.reduceToNat, Nat.reduceAdd, Nat.reduceLeDiff, true_and, and_true, Nat.le_refl, true_implies, forall_const, not_false_eq_true, false_implies, not_true_eq_false, reduceCtorEq, tl_s, tl_n, rf_s, true_or, or_true, m2.c]
              refine Mdl_x_c b1 ?_
              refine B_Model_move_89 ?_
              simp only [wp_cons, wp_nil, List.getElem?_cons_zero, List.getElem?_cons_succ, List.set_cons_zero, List.set_cons_succ, s_iload_n2, ldI_s, s_iadd, p2_s, I_add, s_iload, s_invokestatic, rc_s, ob_s, List.drop_succ_cons, List.drop_zero, List.take_succ_cons, List.take_zero, List.reverse_cons, List.reverse_nil, List.nil_append, List.cons_append, List.length_cons, List.length_nil, Nat.reduceEqDiff, reduceIte, p1_s, l1_s, d1, Int.reduceToNat, Nat.reduceAdd, Nat.reduceLeDiff, true_and, and_true, Nat.le_refl, true_implies, forall_const, not_false_eq_true, false_implies, not_true_eq_false, reduceCtorEq, tl_s, tl_n, rf_s, true_or, or_true, m2.c]
              refine Mdl_y_c b1 ?_
              refine B_Model_move_96 ?_
              simp only [wp_cons, wp_nil, List.getElem?_cons_zero, List.getElem?_cons_succ, List.set_cons_zero, List.set_cons_succ, s_iload_n3, ldI_s, s_iadd, p2_s, I_add, s_invokestatic, rc_s, ob_s, List.drop_succ_cons, List.drop_zero, List.take_succ_cons, List.take_zero, List.reverse_cons, List.reverse_nil, List.nil_append, List.cons_append, List.length_cons, List.length_nil, Nat.reduceEqDiff, reduceIte, p1_s, l1_s, d1, Int.reduceToNat, Nat.reduceAdd, Nat.reduceLeDiff, true_and, and_true, Nat.le_refl, true_implies, forall_const, not_false_eq_true, false_implies, not_true_eq_false, reduceCtorEq, tl_s, tl_n, rf_s, true_or, or_true, m2.c]
              refine Mdl_pt_c ?_
              refine B_Model_move_101 ?_
              simp only [wp_cons, wp_nil, List.getElem?_cons_zero, List.getElem?_cons_succ, List.set_cons_zero, List.set_cons_succ, s_invokevirtual, rc_s, ob_s, List.drop_succ_cons, List.drop_zero, List.take_succ_cons, List.take_zero, List.reverse_cons, List.reverse_nil, List.nil_append, List.cons_append, List.length_cons, List.length_nil, d1, Int.reduceToNat, Nat.reduceAdd, Nat.reduceLeDiff, true_and, and_true, Nat.le_refl, true_implies, forall_const, not_false_eq_true, false_implies, not_true_eq_false, reduceCtorEq, tl_s, tl_n, rf_s, true_or, or_true, m2.c]
              refine Mdl_set_c (j := 34 + 32 * i + k) m2 (by omega) (by omega) (fun h3 c3 m3 => ?_)
              refine B_Model_move_104 ?_
              simp only [wp_cons, wp_nil, List.getElem?_cons_zero, List.getElem?_cons_succ, List.set_cons_zero, List.set_cons_succ, s_iinc, ldI_s, s1_0, s1_s, kx_i, kx_r, kx_n, kx_l, kx_0, I_add, s_goto, true_and, and_true, Nat.le_refl, true_implies, forall_const, not_false_eq_true, false_implies, not_true_eq_false, reduceCtorEq, tl_s, tl_n, rf_s, List.cons_append, List.nil_append, true_or, or_true, m2.c]
              refine ih (k + 1) h3 _ _ (by omega) (hc.tr c3) m3 (fun n hn => by rw [ua_n _ _ _ hn, e3 n hn]) ⟨fun j hj => ?_, fun j hj => ?_⟩
              · rw [ua_s, ui_n _ _ (by omega), hmd.1 j (by omega)]
              · rw [ua_s]
                by_cases e : j = k
                · rw [e, ui_s]; rfl
                · rw [ui_n _ _ (by omega), hmd.2 j (by omega)]
          refine B_Model_move_56 ?_
          simp only [wp_cons, wp_nil, List.getElem?_cons_zero, List.getElem?_cons_succ, List.set_cons_zero, List.set_cons_succ, s_iconst, s_istore, p1_s, s1_0, s1_s, kx_i, kx_r, kx_n, kx_l, kx_0, true_and, and_true, Nat.le_refl, true_implies, forall_const, not_false_eq_true, false_implies, not_true_eq_false, reduceCtorEq, tl_s, tl_n, rf_s, List.cons_append, List.nil_append, true_or, or_true, hm.c]
          exact loop (sg Ss i).1.length 0 h1 A1 _ (by omega) chg.rf m1 (fun n _ => rfl) ⟨fun j _ => rfl, fun j hj => absurd hj (by omega)⟩
        · rw [if_pos c4] at hQ
          refine B_Model_move_46 ?_
          simp only [wp_cons, wp_nil, List.getElem?_cons_zero, List.getElem?_cons_succ, List.set_cons_zero, List.set_cons_succ, s_ifCond_ne, p1_s, true_and, and_true, Nat.le_refl, true_implies, forall_const, not_false_eq_true, false_implies, not_true_eq_false, reduceCtorEq, tl_s, tl_n, rf_s, List.cons_append, List.nil_append, true_or, or_true, hm.c]
          refine B_Model_move_49 ?_
          simp only [wp_cons, wp_nil, List.getElem?_cons_zero, List.getElem?_cons_succ, List.set_cons_zero, List.set_cons_succ, s_bipush, s_ireturn, p1_s, rI_i, rI_z, rI_c, z_01, z_11, rt_Model_move, true_and, and_true, Nat.le_refl, true_implies, forall_const, not_false_eq_true, false_implies, not_true_eq_false, reduceCtorEq, tl_s, tl_n, rf_s, List.cons_append, List.nil_append, true_or, or_true, hm.c]
          exact hQ h chg.rf hp
      · rw [if_pos (fun q => c3 q.2)] at hQ
        refine B_Model_move_33 ?_
        simp only [wp_cons, wp_nil, List.getElem?_cons_zero, List.getElem?_cons_succ, List.set_cons_zero, List.set_cons_succ, s_ifCond_ne, p1_s, true_and, and_true, Nat.le_refl, true_implies, forall_const, not_false_eq_true, false_implies, not_true_eq_false, reduceCtorEq, tl_s, tl_n, rf_s, List.cons_append, List.nil_append, true_or, or_true, hm.c]
        refine B_Model_move_36 ?_
        simp only [wp_cons, wp_nil, List.getElem?_cons_zero, List.getElem?_cons_succ, List.set_cons_zero, List.set_cons_succ, s_bipush, s_ireturn, p1_s, rI_i, rI_z, rI_c, z_01, z_11, rt_Model_move, true_and, and_true, Nat.le_refl, true_implies, forall_const, not_false_eq_true, false_implies, not_true_eq_false, reduceCtorEq, tl_s, tl_n, rf_s, List.cons_append, List.nil_append, true_or, or_true, hm.c]
        exact hQ h chg.rf hp
    · rw [if_pos (fun q => c2 q.1)] at hQ
      refine B_Model_move_20 ?_
      simp only [wp_cons, wp_nil, List.getElem?_cons_zero, List.getElem?_cons_succ, List.set_cons_zero, List.set_cons_succ, s_ifCond_eq, p1_s, true_and, and_true, Nat.le_refl, true_implies, forall_const, not_false_eq_true, false_implies, not_true_eq_false, reduceCtorEq, tl_s, tl_n, rf_s, List.cons_append, List.nil_append, true_or, or_true, hm.c]
      refine B_Model_move_36 ?_
      simp only [wp_cons, wp_nil, List.getElem?_cons_zero, List.getElem?_cons_succ, List.set_cons_zero, List.set_cons_succ, s_bipush, s_ireturn, p1_s, rI_i, rI_z, rI_c, z_01, z_11, rt_Model_move, true_and, and_true, Nat.le_refl, true_implies, forall_const, not_false_eq_true, false_implies, not_true_eq_false, reduceCtorEq, tl_s, tl_n, rf_s, List.cons_append, List.nil_append, true_or, or_true, hm.c]
      exact hQ h chg.rf hp
  · rw [if_pos c1] at hQ
    refine B_Model_move_5 ?_
    simp only [wp_cons, wp_nil, List.getElem?_cons_zero, List.getElem?_cons_succ, List.set_cons_zero, List.set_cons_succ, s_ifCond_ne, p1_s, true_and, and_true, Nat.le_refl, true_implies, forall_const, not_false_eq_true, false_implies, not_true_eq_false, reduceCtorEq, tl_s, tl_n, rf_s, List.cons_append, List.nil_append, true_or, or_true, hm.c]
    refine B_Model_move_8 ?_
    simp only [wp_cons, wp_nil, List.getElem?_cons_zero, List.getElem?_cons_succ, List.set_cons_zero, List.set_cons_succ, s_iconst, s_ireturn, p1_s, rI_i, rI_z, rI_c, z_01, z_11, rt_Model_move, true_and, and_true, Nat.le_refl, true_implies, forall_const, not_false_eq_true, false_implies, not_true_eq_false, reduceCtorEq, tl_s, tl_n, rf_s, List.cons_append, List.nil_append, true_or, or_true, hm.c]
    exact hQ h chg.rf hp
theorem Mdl_trd_c {d : Nat} {p c q : Int} (d3 : 3 ≤ d) {h : g_H} {Q : g_Po} (hp : pt p) (hc : pt c) (hq : 1 ≤ q ∧ q ≤ 3) (hT : plc (tnx c q p) (tny c q p) → Q (some (.int (I (tnp c q p)))) h) (hF : ¬ plc (tnx c q p) (tny c q p) → Q (some (.int (I (-6)))) h) : Call Model_turned d 0 0 [.int (I p), .int (I c), .int (I q)] h Q := by
  have d1 : 1 ≤ d := by omega
  have fin : ∀ (a b : Int) (x5 x6 : Option Value), tnx c q p = c / 1000 + a → tny c q p = c % 1000 + b → (-999 ≤ a ∧ a ≤ 999) → (-999 ≤ b ∧ b ≤ 999) → G Model_turned d 0 0 0 0 47 [some (.int (I p)), some (.int (I c)), some (.int (I q)), some (.int (I a)), some (.int (I b)), x5, x6] [] h Q := by
    intro a b x5 x6 e1 e2 ha hb
    refine B_Model_turned_47 ?_
    simp only [wp_cons, wp_nil, List.getElem?_cons_zero, List.getElem?_cons_succ, List.set_cons_zero, List.set_cons_succ, s_iload_n1, ldI_s, s_invokestatic, rc_s, ob_s, List.drop_succ_cons, List.drop_zero, List.take_succ_cons, List.take_zero, List.reverse_cons, List.reverse_nil, List.nil_append, List.cons_append, List.length_cons, List.length_nil, Nat.reduceEqDiff, reduceIte, p1_s, p2_s, l1_s, d1, Int.reduceToNat, Nat.reduceAdd, Nat.reduceLeDiff, true_and, and_true, Nat.le_refl, true_implies, forall_const, not_false_eq_true, false_implies, not_true_eq_false, reduceCtorEq, tl_s, tl_n, rf_s, true_or, or_true]
    refine Mdl_x_c hc ?_
    refine B_Model_turned_51 ?_
    simp only [wp_cons, wp_nil, List.getElem?_cons_zero, List.getElem?_cons_succ, List.set_cons_zero, List.set_cons_succ, s_iload_n3, ldI_s, s_iadd, p2_s, I_add, s_istore, p1_s, s1_0, s1_s, kx_i, kx_r, kx_n, kx_l, kx_0, s_iload_n1, s_invokestatic, rc_s, ob_s, List.drop_succ_cons, List.drop_zero, List.take_succ_cons, List.take_zero, List.reverse_cons, List.reverse_nil, List.nil_append, List.cons_append, List.length_cons, List.length_nil, Nat.reduceEqDiff, reduceIte, l1_s, d1, Int.reduceToNat, Nat.reduceAdd, Nat.reduceLeDiff, true_and, and_true, Nat.le_refl, true_implies, forall_const, not_false_eq_true, false_implies, not_true_eq_false, reduceCtorEq, tl_s, tl_n, rf_s, true_or, or_true]
    refine Mdl_y_c hc ?_
    unfold tnp at hT
    rw [e1, e2] at hT hF
    refine B_Model_turned_59 ?_
    simp only [wp_cons, wp_nil, List.getElem?_cons_zero, List.getElem?_cons_succ, List.set_cons_zero, List.set_cons_succ, s_iload, ldI_s, s_iadd, p2_s, I_add, s_istore, p1_s, s1_0, s1_s, kx_i, kx_r, kx_n, kx_l, kx_0, s_invokestatic, rc_s, ob_s, List.drop_succ_cons, List.drop_zero, List.take_succ_cons, List.take_zero, List.reverse_cons, List.reverse_nil, List.nil_append, List.cons_append, List.length_cons, List.length_nil, Nat.reduceEqDiff, reduceIte, l1_s, d1, Int.reduceToNat, Nat.reduceAdd, Nat.reduceLeDiff, true_and, and_true, Nat.le_refl, true_implies, forall_const, not_false_eq_true, false_implies, not_true_eq_false, reduceCtorEq, tl_s, tl_n, rf_s, true_or, or_true]
    refine Mdl_isPl_c (by omega) (by omega) (by omega) (fun c2 => ?_) (fun c2 => ?_)
    · refine B_Model_turned_71 ?_
      simp only [wp_cons, wp_nil, List.getElem?_cons_zero, List.getElem?_cons_succ, List.set_cons_zero, List.set_cons_succ, s_ifCond_eq, p1_s, true_and, and_true, Nat.le_refl, true_implies, forall_const, not_false_eq_true, false_implies, not_true_eq_false, reduceCtorEq, tl_s, tl_n, rf_s, List.cons_append, List.nil_append, true_or, or_true]
      refine b_eq (by omega) (by omega) (fun cc => absurd cc (by omega)) (fun cc => ?_)
      refine B_Model_turned_74 ?_
      simp only [wp_cons, wp_nil, List.getElem?_cons_zero, List.getElem?_cons_succ, List.set_cons_zero, List.set_cons_succ, s_iload, ldI_s, s_invokestatic, rc_s, ob_s, List.drop_succ_cons, List.drop_zero, List.take_succ_cons, List.take_zero, List.reverse_cons, List.reverse_nil, List.nil_append, List.cons_append, List.length_cons, List.length_nil, Nat.reduceEqDiff, reduceIte, p1_s, p2_s, l1_s, d1, Int.reduceToNat, Nat.reduceAdd, Nat.reduceLeDiff, true_and, and_true, Nat.le_refl, true_implies, forall_const, not_false_eq_true, false_implies, not_true_eq_false, reduceCtorEq, tl_s, tl_n, rf_s, true_or, or_true]
      refine Mdl_pt_c ?_
      refine B_Model_turned_81 ?_
      simp only [wp_cons, wp_nil, List.getElem?_cons_zero, List.getElem?_cons_succ, List.set_cons_zero, List.set_cons_succ, s_goto, true_and, and_true, Nat.le_refl, true_implies, forall_const, not_false_eq_true, false_implies, not_true_eq_false, reduceCtorEq, tl_s, tl_n, rf_s, List.cons_append, List.nil_append, true_or, or_true]
      refine B_Model_turned_86 ?_
      simp only [wp_cons, wp_nil, List.getElem?_cons_zero, List.getElem?_cons_succ, List.set_cons_zero, List.set_cons_succ, s_ireturn, p1_s, rI_i, rI_z, rI_c, z_01, z_11, rt_Model_turned, true_and, and_true, Nat.le_refl, true_implies, forall_const, not_false_eq_true, false_implies, not_true_eq_false, reduceCtorEq, tl_s, tl_n, rf_s, List.cons_append, List.nil_append, true_or, or_true]
      exact hT c2
    · refine B_Model_turned_71 ?_
      simp only [wp_cons, wp_nil, List.getElem?_cons_zero, List.getElem?_cons_succ, List.set_cons_zero, List.set_cons_succ, s_ifCond_eq, p1_s, true_and, and_true, Nat.le_refl, true_implies, forall_const, not_false_eq_true, false_implies, not_true_eq_false, reduceCtorEq, tl_s, tl_n, rf_s, List.cons_append, List.nil_append, true_or, or_true]
      refine B_Model_turned_84 ?_
      simp only [wp_cons, wp_nil, List.getElem?_cons_zero, List.getElem?_cons_succ, List.set_cons_zero, List.set_cons_succ, s_bipush, true_and, and_true, Nat.le_refl, true_implies, forall_const, not_false_eq_true, false_implies, not_true_eq_false, reduceCtorEq, tl_s, tl_n, rf_s, List.cons_append, List.nil_append, true_or, or_true]
      refine B_Model_turned_86 ?_
      simp only [wp_cons, wp_nil, List.getElem?_cons_zero, List.getElem?_cons_succ, List.set_cons_zero, List.set_cons_succ, s_ireturn, p1_s, rI_i, rI_z, rI_c, z_01, z_11, rt_Model_turned, true_and, and_true, Nat.le_refl, true_implies, forall_const, not_false_eq_true, false_implies, not_true_eq_false, reduceCtorEq, tl_s, tl_n, rf_s, List.cons_append, List.nil_append, true_or, or_true]
      exact hF c2
  refine Call.intro (by rfl) (Nat.le_of_ble_eq_true rfl) ?_
  refine G.eqL (L := [some (.int _), some (.int _), some (.int _), none, none, none, none]) rfl ?_
  refine B_Model_turned_0 ?_
  simp only [wp_cons, wp_nil, List.getElem?_cons_zero, List.getElem?_cons_succ, List.set_cons_zero, List.set_cons_succ, s_iload_n0, ldI_s, s_invokestatic, rc_s, ob_s, List.drop_succ_cons, List.drop_zero, List.take_succ_cons, List.take_zero, List.reverse_cons, List.reverse_nil, List.nil_append, List.cons_append, List.length_cons, List.length_nil, Nat.reduceEqDiff, reduceIte, p1_s, p2_s, l1_s, d1, Int.reduceToNat, Nat.reduceAdd, Nat.reduceLeDiff, true_and, and_true, Nat.le_refl, true_implies, forall_const, not_false_eq_true, false_implies, not_true_eq_false, reduceCtorEq, tl_s, tl_n, rf_s, true_or, or_true]
  refine Mdl_x_c hp ?_
  refine B_Model_turned_4 ?_
  simp only [wp_cons, wp_nil, List.getElem?_cons_zero, List.getElem?_cons_succ, List.set_cons_zero, List.set_cons_succ, s_iload_n1, ldI_s, s_invokestatic, rc_s, ob_s, List.drop_succ_cons, List.drop_zero, List.take_succ_cons, List.take_zero, List.reverse_cons, List.reverse_nil, List.nil_append, List.cons_append, List.length_cons, List.length_nil, Nat.reduceEqDiff, reduceIte, p1_s, p2_s, l1_s, d1, Int.reduceToNat, Nat.reduceAdd, Nat.reduceLeDiff, true_and, and_true, Nat.le_refl, true_implies, forall_const, not_false_eq_true, false_implies, not_true_eq_false, reduceCtorEq, tl_s, tl_n, rf_s, true_or, or_true]
  refine Mdl_x_c hc ?_
  refine B_Model_turned_8 ?_
  simp only [wp_cons, wp_nil, List.getElem?_cons_zero, List.getElem?_cons_succ, List.set_cons_zero, List.set_cons_succ, s_isub, p2_s, I_sub, s_istore_n3, p1_s, s1_0, s1_s, kx_i, kx_r, kx_n, kx_l, kx_0, s_iload_n0, ldI_s, s_invokestatic, rc_s, ob_s, List.drop_succ_cons, List.drop_zero, List.take_succ_cons, List.take_zero, List.reverse_cons, List.reverse_nil, List.nil_append, List.cons_append, List.length_cons, List.length_nil, Nat.reduceEqDiff, reduceIte, l1_s, d1, Int.reduceToNat, Nat.reduceAdd, Nat.reduceLeDiff, true_and, and_true, Nat.le_refl, true_implies, forall_const, not_false_eq_true, false_implies, not_true_eq_false, reduceCtorEq, tl_s, tl_n, rf_s, true_or, or_true]
  refine Mdl_y_c hp ?_
  refine B_Model_turned_14 ?_
  simp only [wp_cons, wp_nil, List.getElem?_cons_zero, List.getElem?_cons_succ, List.set_cons_zero, List.set_cons_succ, s_iload_n1, ldI_s, s_invokestatic, rc_s, ob_s, List.drop_succ_cons, List.drop_zero, List.take_succ_cons, List.take_zero, List.reverse_cons, List.reverse_nil, List.nil_append, List.cons_append, List.length_cons, List.length_nil, Nat.reduceEqDiff, reduceIte, p1_s, p2_s, l1_s, d1, Int.reduceToNat, Nat.reduceAdd, Nat.reduceLeDiff, true_and, and_true, Nat.le_refl, true_implies, forall_const, not_false_eq_true, false_implies, not_true_eq_false, reduceCtorEq, tl_s, tl_n, rf_s, true_or, or_true]
  refine Mdl_y_c hc ?_
  refine B_Model_turned_18 ?_
  simp only [wp_cons, wp_nil, List.getElem?_cons_zero, List.getElem?_cons_succ, List.set_cons_zero, List.set_cons_succ, s_isub, p2_s, I_sub, s_istore, p1_s, s1_0, s1_s, kx_i, kx_r, kx_n, kx_l, kx_0, s_iconst, true_and, and_true, Nat.le_refl, true_implies, forall_const, not_false_eq_true, false_implies, not_true_eq_false, reduceCtorEq, tl_s, tl_n, rf_s, List.cons_append, List.nil_append, true_or, or_true]
  rcases (by omega : q = 1 ∨ q = 2 ∨ q = 3) with e | e | e
  · subst e
    refine B_Model_turned_24 ?_
    simp only [wp_cons, wp_nil, List.getElem?_cons_zero, List.getElem?_cons_succ, List.set_cons_zero, List.set_cons_succ, s_iload, ldI_s, s_iload_n2, s_if_icmp_ge, p2_s, true_and, and_true, Nat.le_refl, true_implies, forall_const, not_false_eq_true, false_implies, not_true_eq_false, reduceCtorEq, tl_s, tl_n, rf_s, List.cons_append, List.nil_append, true_or, or_true]
    refine b_le (by omega) (by omega) (fun cc => absurd cc (by omega)) (fun cc => ?_)
    refine B_Model_turned_30 ?_
    simp only [wp_cons, wp_nil, List.getElem?_cons_zero, List.getElem?_cons_succ, List.set_cons_zero, List.set_cons_succ, s_iload_n3, ldI_s, s_istore, p1_s, s1_0, s1_s, kx_i, kx_r, kx_n, kx_l, kx_0, s_iload, s_ineg, I_neg, s_istore_n3, s_iinc, I_add, s_goto, true_and, and_true, Nat.le_refl, true_implies, forall_const, not_false_eq_true, false_implies, not_true_eq_false, reduceCtorEq, tl_s, tl_n, rf_s, List.cons_append, List.nil_append, true_or, or_true]
    refine B_Model_turned_24 ?_
    simp only [wp_cons, wp_nil, List.getElem?_cons_zero, List.getElem?_cons_succ, List.set_cons_zero, List.set_cons_succ, s_iload, ldI_s, s_iload_n2, s_if_icmp_ge, p2_s, true_and, and_true, Nat.le_refl, true_implies, forall_const, not_false_eq_true, false_implies, not_true_eq_false, reduceCtorEq, tl_s, tl_n, rf_s, List.cons_append, List.nil_append, true_or, or_true]
    refine b_le (by omega) (by omega) (fun cc => ?_) (fun cc => absurd cc (by omega))
    exact fin _ _ _ _ (by unfold tnx; rw [if_pos rfl]) (by unfold tny; rw [if_pos rfl]) (by omega) (by omega)
  · subst e
    refine B_Model_turned_24 ?_
    simp only [wp_cons, wp_nil, List.getElem?_cons_zero, List.getElem?_cons_succ, List.set_cons_zero, List.set_cons_succ, s_iload, ldI_s, s_iload_n2, s_if_icmp_ge, p2_s, true_and, and_true, Nat.le_refl, true_implies, forall_const, not_false_eq_true, false_implies, not_true_eq_false, reduceCtorEq, tl_s, tl_n, rf_s, List.cons_append, List.nil_append, true_or, or_true]
    refine b_le (by omega) (by omega) (fun cc => absurd cc (by omega)) (fun cc => ?_)
    refine B_Model_turned_30 ?_
    simp only [wp_cons, wp_nil, List.getElem?_cons_zero, List.getElem?_cons_succ, List.set_cons_zero, List.set_cons_succ, s_iload_n3, ldI_s, s_istore, p1_s, s1_0, s1_s, kx_i, kx_r, kx_n, kx_l, kx_0, s_iload, s_ineg, I_neg, s_istore_n3, s_iinc, I_add, s_goto, true_and, and_true, Nat.le_refl, true_implies, forall_const, not_false_eq_true, false_implies, not_true_eq_false, reduceCtorEq, tl_s, tl_n, rf_s, List.cons_append, List.nil_append, true_or, or_true]
    refine B_Model_turned_24 ?_
    simp only [wp_cons, wp_nil, List.getElem?_cons_zero, List.getElem?_cons_succ, List.set_cons_zero, List.set_cons_succ, s_iload, ldI_s, s_iload_n2, s_if_icmp_ge, p2_s, true_and, and_true, Nat.le_refl, true_implies, forall_const, not_false_eq_true, false_implies, not_true_eq_false, reduceCtorEq, tl_s, tl_n, rf_s, List.cons_append, List.nil_append, true_or, or_true]
    refine b_le (by omega) (by omega) (fun cc => absurd cc (by omega)) (fun cc => ?_)
    refine B_Model_turned_30 ?_
    simp only [wp_cons, wp_nil, List.getElem?_cons_zero, List.getElem?_cons_succ, List.set_cons_zero, List.set_cons_succ, s_iload_n3, ldI_s, s_istore, p1_s, s1_0, s1_s, kx_i, kx_r, kx_n, kx_l, kx_0, s_iload, s_ineg, I_neg, s_istore_n3, s_iinc, I_add, s_goto, true_and, and_true, Nat.le_refl, true_implies, forall_const, not_false_eq_true, false_implies, not_true_eq_false, reduceCtorEq, tl_s, tl_n, rf_s, List.cons_append, List.nil_append, true_or, or_true]
    refine B_Model_turned_24 ?_
    simp only [wp_cons, wp_nil, List.getElem?_cons_zero, List.getElem?_cons_succ, List.set_cons_zero, List.set_cons_succ, s_iload, ldI_s, s_iload_n2, s_if_icmp_ge, p2_s, true_and, and_true, Nat.le_refl, true_implies, forall_const, not_false_eq_true, false_implies, not_true_eq_false, reduceCtorEq, tl_s, tl_n, rf_s, List.cons_append, List.nil_append, true_or, or_true]
    refine b_le (by omega) (by omega) (fun cc => ?_) (fun cc => absurd cc (by omega))
    exact fin _ _ _ _ (by unfold tnx; rw [if_neg (by decide), if_pos rfl]) (by unfold tny; rw [if_neg (by decide), if_pos rfl]) (by omega) (by omega)
  · subst e
    refine B_Model_turned_24 ?_
    simp only [wp_cons, wp_nil, List.getElem?_cons_zero, List.getElem?_cons_succ, List.set_cons_zero, List.set_cons_succ, s_iload, ldI_s, s_iload_n2, s_if_icmp_ge, p2_s, true_and, and_true, Nat.le_refl, true_implies, forall_const, not_false_eq_true, false_implies, not_true_eq_false, reduceCtorEq, tl_s, tl_n, rf_s, List.cons_append, List.nil_append, true_or, or_true]
    refine b_le (by omega) (by omega) (fun cc => absurd cc (by omega)) (fun cc => ?_)
    refine B_Model_turned_30 ?_
    simp only [wp_cons, wp_nil, List.getElem?_cons_zero, List.getElem?_cons_succ, List.set_cons_zero, List.set_cons_succ, s_iload_n3, ldI_s, s_istore, p1_s, s1_0, s1_s, kx_i, kx_r, kx_n, kx_l, kx_0, s_iload, s_ineg, I_neg, s_istore_n3, s_iinc, I_add, s_goto, true_and, and_true, Nat.le_refl, true_implies, forall_const, not_false_eq_true, false_implies, not_true_eq_false, reduceCtorEq, tl_s, tl_n, rf_s, List.cons_append, List.nil_append, true_or, or_true]
    refine B_Model_turned_24 ?_
    simp only [wp_cons, wp_nil, List.getElem?_cons_zero, List.getElem?_cons_succ, List.set_cons_zero, List.set_cons_succ, s_iload, ldI_s, s_iload_n2, s_if_icmp_ge, p2_s, true_and, and_true, Nat.le_refl, true_implies, forall_const, not_false_eq_true, false_implies, not_true_eq_false, reduceCtorEq, tl_s, tl_n, rf_s, List.cons_append, List.nil_append, true_or, or_true]
    refine b_le (by omega) (by omega) (fun cc => absurd cc (by omega)) (fun cc => ?_)
    refine B_Model_turned_30 ?_
    simp only [wp_cons, wp_nil, List.getElem?_cons_zero, List.getElem?_cons_succ, List.set_cons_zero, List.set_cons_succ, s_iload_n3, ldI_s, s_istore, p1_s, s1_0, s1_s, kx_i, kx_r, kx_n, kx_l, kx_0, s_iload, s_ineg, I_neg, s_istore_n3, s_iinc, I_add, s_goto, true_and, and_true, Nat.le_refl, true_implies, forall_const, not_false_eq_true, false_implies, not_true_eq_false, reduceCtorEq, tl_s, tl_n, rf_s, List.cons_append, List.nil_append, true_or, or_true]
    refine B_Model_turned_24 ?_
    simp only [wp_cons, wp_nil, List.getElem?_cons_zero, List.getElem?_cons_succ, List.set_cons_zero, List.set_cons_succ, s_iload, ldI_s, s_iload_n2, s_if_icmp_ge, p2_s, true_and, and_true, Nat.le_refl, true_implies, forall_const, not_false_eq_true, false_implies, not_true_eq_false, reduceCtorEq, tl_s, tl_n, rf_s, List.cons_append, List.nil_append, true_or, or_true]
    refine b_le (by omega) (by omega) (fun cc => absurd cc (by omega)) (fun cc => ?_)
    refine B_Model_turned_30 ?_
    simp only [wp_cons, wp_nil, List.getElem?_cons_zero, List.getElem?_cons_succ, List.set_cons_zero, List.set_cons_succ, s_iload_n3, ldI_s, s_istore, p1_s, s1_0, s1_s, kx_i, kx_r, kx_n, kx_l, kx_0, s_iload, s_ineg, I_neg, s_istore_n3, s_iinc, I_add, s_goto, true_and, and_true, Nat.le_refl, true_implies, forall_const, not_false_eq_true, false_implies, not_true_eq_false, reduceCtorEq, tl_s, tl_n, rf_s, List.cons_append, List.nil_append, true_or, or_true]
    refine B_Model_turned_24 ?_
    simp only [wp_cons, wp_nil, List.getElem?_cons_zero, List.getElem?_cons_succ, List.set_cons_zero, List.set_cons_succ, s_iload, ldI_s, s_iload_n2, s_if_icmp_ge, p2_s, true_and, and_true, Nat.le_refl, true_implies, forall_const, not_false_eq_true, false_implies, not_true_eq_false, reduceCtorEq, tl_s, tl_n, rf_s, List.cons_append, List.nil_append, true_or, or_true]
    refine b_le (by omega) (by omega) (fun cc => ?_) (fun cc => absurd cc (by omega))
    exact fin _ _ _ _ (by unfold tnx; rw [if_neg (by decide), if_neg (by decide)]; omega) (by unfold tny; rw [if_neg (by decide), if_neg (by decide)]) (by omega) (by omega)
theorem Mdl_turn_c {d M : Nat} (hd : 9 ≤ d) {W : Wd} {s q : Int} {h : g_H} {Q : g_Po} (w : wfW W) (hp : mrep h M W) (hs : i32 s) (hq : i32 q) (hQ : MQ9 M h Q (sp_turn W s q)) : Call Model_turn d 0 0 [.ref M, .int (I s), .int (I q)] h Q := by
  have d1 : 1 ≤ d := by omega
  obtain ⟨⟨Ss, pn⟩, Hs, T, l⟩ := W
  obtain ⟨r, A, hm, ht⟩ := id hp
  have wl := w.g.1.l
  unfold sp_turn at hQ
  dsimp only at hQ
  refine Call.intro (by rfl) (Nat.le_of_ble_eq_true rfl) ?_
  refine G.eqL (L := [some (.ref _), some (.int _), some (.int _), none, none, none]) rfl ?_
  refine B_Model_turn_0 ?_
  simp only [wp_cons, wp_nil, List.getElem?_cons_zero, List.getElem?_cons_succ, List.set_cons_zero, List.set_cons_succ, s_aload_n0, ldA_r, ldA_n, s_iload_n1, ldI_s, s_invokevirtual, rc_s, ob_s, List.drop_succ_cons, List.drop_zero, List.take_succ_cons, List.take_zero, List.reverse_cons, List.reverse_nil, List.nil_append, List.cons_append, List.length_cons, List.length_nil, d1, Int.reduceToNat, Nat.reduceAdd, Nat.reduceLeDiff, true_and, and_true, Nat.le_refl, true_implies, forall_const, not_false_eq_true, false_implies, not_true_eq_false, reduceCtorEq, tl_s, tl_n, rf_s, true_or, or_true, hm.c]
  refine Mdl_isS2_c (by omega) hm ht.1 wl hs (fun c1 => ?_) (fun c1 => ?_)
  · rw [if_neg (fun q => q c1)] at hQ
    obtain ⟨i, rfl, hi⟩ := nat_of c1
    replace hi : i < Ss.length := hi
    rw [tn_i] at hQ
    have wi := wl.2 i hi
    have w0 := wl.1
    have b0 := wi.2.2 0 (by omega)
    refine B_Model_turn_5 ?_
    simp only [wp_cons, wp_nil, List.getElem?_cons_zero, List.getElem?_cons_succ, List.set_cons_zero, List.set_cons_succ, s_ifCond_ne, p1_s, true_and, and_true, Nat.le_refl, true_implies, forall_const, not_false_eq_true, false_implies, not_true_eq_false, reduceCtorEq, tl_s, tl_n, rf_s, List.cons_append, List.nil_append, true_or, or_true, hm.c]
    refine b_ne (by omega) (by omega) (fun cc => ?_) (fun cc => absurd cc (by omega))
    refine B_Model_turn_10 ?_
    simp only [wp_cons, wp_nil, List.getElem?_cons_zero, List.getElem?_cons_succ, List.set_cons_zero, List.set_cons_succ, s_iload_n2, ldI_s, s_iconst, s_invokestatic, rc_s, ob_s, List.drop_succ_cons, List.drop_zero, List.take_succ_cons, List.take_zero, List.reverse_cons, List.reverse_nil, List.nil_append, List.cons_append, List.length_cons, List.length_nil, Nat.reduceEqDiff, reduceIte, p1_s, p2_s, l1_s, d1, Int.reduceToNat, Nat.reduceAdd, Nat.reduceLeDiff, true_and, and_true, Nat.le_refl, true_implies, forall_const, not_false_eq_true, false_implies, not_true_eq_false, reduceCtorEq, tl_s, tl_n, rf_s, true_or, or_true, hm.c]
    refine Mdl_within_c hq (by omega) (by omega) (fun c2 => ?_) (fun c2 => ?_)
    · rw [if_neg (fun q => q c2)] at hQ
      refine B_Model_turn_16 ?_
      simp only [wp_cons, wp_nil, List.getElem?_cons_zero, List.getElem?_cons_succ, List.set_cons_zero, List.set_cons_succ, s_ifCond_ne, p1_s, true_and, and_true, Nat.le_refl, true_implies, forall_const, not_false_eq_true, false_implies, not_true_eq_false, reduceCtorEq, tl_s, tl_n, rf_s, List.cons_append, List.nil_append, true_or, or_true, hm.c]
      refine b_ne (by omega) (by omega) (fun cc => ?_) (fun cc => absurd cc (by omega))
      refine B_Model_turn_22 ?_
      simp only [wp_cons, wp_nil, List.getElem?_cons_zero, List.getElem?_cons_succ, List.set_cons_zero, List.set_cons_succ, s_aload_n0, ldA_r, ldA_n, s_iload_n1, ldI_s, s_iconst, s_invokevirtual, rc_s, ob_s, List.drop_succ_cons, List.drop_zero, List.take_succ_cons, List.take_zero, List.reverse_cons, List.reverse_nil, List.nil_append, List.cons_append, List.length_cons, List.length_nil, d1, Int.reduceToNat, Nat.reduceAdd, Nat.reduceLeDiff, true_and, and_true, Nat.le_refl, true_implies, forall_const, not_false_eq_true, false_implies, not_true_eq_false, reduceCtorEq, tl_s, tl_n, rf_s, true_or, or_true, hm.c]
      refine Mdl_pAt_c (by omega) (k := 0) hm ht.1 wl hi (show 0 < (sg Ss i).1.length by omega) ?_
      generalize hc0 : pg (sg Ss i).1 0 = c at hQ b0 ⊢
      have good : (∀ k, k < (sg Ss i).1.length → plc (tnx c q (pg (sg Ss i).1 k)) (tny c q (pg (sg Ss i).1 k))) → ∀ (x5 : Option Value), G Model_turn d 0 0 0 0 88 [some (.ref M), some (.int (I (i : Int))), some (.int (I q)), some (.int (I c)), some (.int (I 1)), x5] [] h Q := by
        intro c4 x5
        rw [if_neg (fun q => q c4)] at hQ
        refine B_Model_turn_88 ?_
        simp only [wp_cons, wp_nil, List.getElem?_cons_zero, List.getElem?_cons_succ, List.set_cons_zero, List.set_cons_succ, s_aload_n0, ldA_r, ldA_n, s_invokevirtual, rc_s, ob_s, List.drop_succ_cons, List.drop_zero, List.take_succ_cons, List.take_zero, List.reverse_cons, List.reverse_nil, List.nil_append, List.cons_append, List.length_cons, List.length_nil, d1, Int.reduceToNat, Nat.reduceAdd, Nat.reduceLeDiff, true_and, and_true, Nat.le_refl, true_implies, forall_const, not_false_eq_true, false_implies, not_true_eq_false, reduceCtorEq, tl_s, tl_n, rf_s, true_or, or_true, hm.c]
        refine Mdl_rec_c (by omega) hm ht w (fun h1 r1 A1 c1' m1 e1 e2 s1 => ?_)
        have hmp : ∀ k, k < (sg Ss i).1.length → pt (tnp c q (pg (sg Ss i).1 k)) := fun k hk => by
          have := c4 k hk
          unfold tnp
          omega
        have wn : wfL (Ss.set i ((sg Ss i).1.map (tnp c q), (sg Ss i).2)) := wl.set hi (by rw [List.length_map]; exact wi.1) (by rw [List.length_map]; exact wi.2.1) (fun k hk => by rw [List.length_map] at hk; rw [pg_map _ _ hk]; exact hmp k hk)
        have loop : ∀ (m k : Nat) (h2 : g_H) (A2 : Nat → Nat → Int), k + m = (sg Ss i).1.length → chg M (M + 10) h1 h2 → mdl h2 M r1 A2 → (∀ n, n ≠ 1 → A2 n = A1 n) → mpd (A1 1) (fun k => tnp c q (pg (sg Ss i).1 k)) (sg Ss i).1 i k (A2 1) → G Model_turn d 0 0 0 0 95 [some (.ref M), some (.int (I (i : Int))), some (.int (I q)), some (.int (I c)), some (.int (I 1)), some (.int (I (k : Int)))] [] h2 Q := by
          intro m
          induction m with
          | zero =>
            intro k h2 A2 hk hc m2 e3 hmd
            obtain rfl : k = (sg Ss i).1.length := by omega
            have s2 := mpd_st wl w.g.2.1.1 s1.1 hi hmd (L := (sg Ss i).1.map (tnp c q)) (by rw [List.length_map]) (fun k hk => by rw [List.length_map] at hk; rw [pg_map _ _ hk])
            have es : sg (Ss.set i ((sg Ss i).1.map (tnp c q), (sg Ss i).2)) i = ((sg Ss i).1.map (tnp c q), (sg Ss i).2) := by rw [sg_set _ _ _ hi, if_pos rfl]
            have hi2 : i < (Ss.set i ((sg Ss i).1.map (tnp c q), (sg Ss i).2)).length := by rw [List.length_set]; exact hi
            refine B_Model_turn_95 ?_
            simp only [wp_cons, wp_nil, List.getElem?_cons_zero, List.getElem?_cons_succ, List.set_cons_zero, List.set_cons_succ, s_iload, ldI_s, s_aload_n0, ldA_r, ldA_n, s_iload_n1, s_invokevirtual, rc_s, ob_s, List.drop_succ_cons, List.drop_zero, List.take_succ_cons, List.take_zero, List.reverse_cons, List.reverse_nil, List.nil_append, List.cons_append, List.length_cons, List.length_nil, d1, Int.reduceToNat, Nat.reduceAdd, Nat.reduceLeDiff, true_and, and_true, Nat.le_refl, true_implies, forall_const, not_false_eq_true, false_implies, not_true_eq_false, reduceCtorEq, tl_s, tl_n, rf_s, true_or, or_true, m2.c]
            refine Mdl_len_c (by omega) m2 s2 wn hi2 ?_
            rw [es, List.length_map]
            refine B_Model_turn_102 ?_
            simp only [wp_cons, wp_nil, List.getElem?_cons_zero, List.getElem?_cons_succ, List.set_cons_zero, List.set_cons_succ, s_if_icmp_ge, p2_s, true_and, and_true, Nat.le_refl, true_implies, forall_const, not_false_eq_true, false_implies, not_true_eq_false, reduceCtorEq, tl_s, tl_n, rf_s, List.cons_append, List.nil_append, true_or, or_true, m2.c]
            refine b_le (by omega) (by omega) (fun cc => ?_) (fun cc => absurd cc (by omega))
            refine B_Model_turn_132 ?_
            simp only [wp_cons, wp_nil, List.getElem?_cons_zero, List.getElem?_cons_succ, List.set_cons_zero, List.set_cons_succ, s_aload_n0, ldA_r, ldA_n, s_iload_n1, ldI_s, s_invokevirtual, rc_s, ob_s, List.drop_succ_cons, List.drop_zero, List.take_succ_cons, List.take_zero, List.reverse_cons, List.reverse_nil, List.nil_append, List.cons_append, List.length_cons, List.length_nil, d1, Int.reduceToNat, Nat.reduceAdd, Nat.reduceLeDiff, true_and, and_true, Nat.le_refl, true_implies, forall_const, not_false_eq_true, false_implies, not_true_eq_false, reduceCtorEq, tl_s, tl_n, rf_s, true_or, or_true, m2.c]
            refine Mdl_len_c (by omega) m2 s2 wn hi2 ?_
            rw [es, List.length_map]
            refine B_Model_turn_139 ?_
            simp only [wp_cons, wp_nil, List.getElem?_cons_zero, List.getElem?_cons_succ, List.set_cons_zero, List.set_cons_succ, s_iconst, s_isub, p2_s, I_sub, s_invokevirtual, rc_s, ob_s, List.drop_succ_cons, List.drop_zero, List.take_succ_cons, List.take_zero, List.reverse_cons, List.reverse_nil, List.nil_append, List.cons_append, List.length_cons, List.length_nil, d1, Int.reduceToNat, Nat.reduceAdd, Nat.reduceLeDiff, true_and, and_true, Nat.le_refl, true_implies, forall_const, not_false_eq_true, false_implies, not_true_eq_false, reduceCtorEq, tl_s, tl_n, rf_s, true_or, or_true, m2.c]
            rw [show ((sg Ss i).1.length : Int) - 1 = (((sg Ss i).1.length - 1 : Nat) : Int) by omega]
            refine Mdl_pAt_c (by omega) m2 s2 wn hi2 (by rw [es, List.length_map]; omega) ?_
            rw [es, pg_map _ _ (by omega)]
            refine B_Model_turn_144 ?_
            simp only [wp_cons, wp_nil, List.getElem?_cons_zero, List.getElem?_cons_succ, List.set_cons_zero, List.set_cons_succ, s_ireturn, p1_s, rI_i, rI_z, rI_c, z_01, z_11, rt_Model_turn, true_and, and_true, Nat.le_refl, true_implies, forall_const, not_false_eq_true, false_implies, not_true_eq_false, reduceCtorEq, tl_s, tl_n, rf_s, List.cons_append, List.nil_append, true_or, or_true, m2.c]
            exact hQ h2 (c1'.tr hc) ⟨_, _, m2, s1.s1 s2 (fun n hn => e3 n (by omega)) rfl rfl⟩
          | succ m ih =>
            intro k h2 A2 hk hc m2 e3 hmd
            have b1 := wl.p hi (k := k) (by omega)
            obtain ⟨t1, t2, t3⟩ := s1.1.st hi
            have q0 : A2 1 (32 + 32 * i) = (sg Ss i).1.length := (hmd.1 _ (by omega)).trans t1
            have q1 : A2 1 (34 + 32 * i + k) = pg (sg Ss i).1 k := (hmd.1 _ (by omega)).trans (t3 k (by omega))
            refine B_Model_turn_95 ?_
            simp only [wp_cons, wp_nil, List.getElem?_cons_zero, List.getElem?_cons_succ, List.set_cons_zero, List.set_cons_succ, s_iload, ldI_s, s_aload_n0, ldA_r, ldA_n, s_iload_n1, s_invokevirtual, rc_s, ob_s, List.drop_succ_cons, List.drop_zero, List.take_succ_cons, List.take_zero, List.reverse_cons, List.reverse_nil, List.nil_append, List.cons_append, List.length_cons, List.length_nil, d1, Int.reduceToNat, Nat.reduceAdd, Nat.reduceLeDiff, true_and, and_true, Nat.le_refl, true_implies, forall_const, not_false_eq_true, false_implies, not_true_eq_false, reduceCtorEq, tl_s, tl_n, rf_s, true_or, or_true, m2.c]
            refine Mdl_many_c (by omega) m2 (by omega) ?_
            rw [q0]
            refine B_Model_turn_102 ?_
            simp only [wp_cons, wp_nil, List.getElem?_cons_zero, List.getElem?_cons_succ, List.set_cons_zero, List.set_cons_succ, s_if_icmp_ge, p2_s, true_and, and_true, Nat.le_refl, true_implies, forall_const, not_false_eq_true, false_implies, not_true_eq_false, reduceCtorEq, tl_s, tl_n, rf_s, List.cons_append, List.nil_append, true_or, or_true, m2.c]
            refine b_le (by omega) (by omega) (fun cc => absurd cc (by omega)) (fun cc => ?_)
            refine B_Model_turn_105 ?_
            simp only [wp_cons, wp_nil, List.getElem?_cons_zero, List.getElem?_cons_succ, List.set_cons_zero, List.set_cons_succ, s_aload_n0, ldA_r, ldA_n, s_iload_n1, ldI_s, s_iconst, s_iload, s_iadd, p2_s, I_add, s_invokevirtual, rc_s, ob_s, List.drop_succ_cons, List.drop_zero, List.take_succ_cons, List.take_zero, List.reverse_cons, List.reverse_nil, List.nil_append, List.cons_append, List.length_cons, List.length_nil, d1, Int.reduceToNat, Nat.reduceAdd, Nat.reduceLeDiff, true_and, and_true, Nat.le_refl, true_implies, forall_const, not_false_eq_true, false_implies, not_true_eq_false, reduceCtorEq, tl_s, tl_n, rf_s, true_or, or_true, m2.c]
            refine Mdl_pAq_c (by omega) m2 (by omega) q0 (by omega) (by omega) ?_
            rw [q1]
            refine B_Model_turn_118 ?_
            simp only [wp_cons, wp_nil, List.getElem?_cons_zero, List.getElem?_cons_succ, List.set_cons_zero, List.set_cons_succ, s_iload_n3, ldI_s, s_iload_n2, s_invokestatic, rc_s, ob_s, List.drop_succ_cons, List.drop_zero, List.take_succ_cons, List.take_zero, List.reverse_cons, List.reverse_nil, List.nil_append, List.cons_append, List.length_cons, List.length_nil, Nat.reduceEqDiff, reduceIte, p1_s, p2_s, l1_s, d1, Int.reduceToNat, Nat.reduceAdd, Nat.reduceLeDiff, true_and, and_true, Nat.le_refl, true_implies, forall_const, not_false_eq_true, false_implies, not_true_eq_false, reduceCtorEq, tl_s, tl_n, rf_s, true_or, or_true, m2.c]
            refine Mdl_trd_c (by omega) b1 b0 c2 (fun _ => ?_) (fun n => absurd (c4 k (by omega)) n)
            refine B_Model_turn_123 ?_
            simp only [wp_cons, wp_nil, List.getElem?_cons_zero, List.getElem?_cons_succ, List.set_cons_zero, List.set_cons_succ, s_invokevirtual, rc_s, ob_s, List.drop_succ_cons, List.drop_zero, List.take_succ_cons, List.take_zero, List.reverse_cons, List.reverse_nil, List.nil_append, List.cons_append, List.length_cons, List.length_nil, d1, Int.reduceToNat, Nat.reduceAdd, Nat.reduceLeDiff, true_and, and_true, Nat.le_refl, true_implies, forall_const, not_false_eq_true, false_implies, not_true_eq_false, reduceCtorEq, tl_s, tl_n, rf_s, true_or, or_true, m2.c]
            refine Mdl_set_c (j := 34 + 32 * i + k) m2 (by omega) (by omega) (fun h3 c3 m3 => ?_)
            refine B_Model_turn_126 ?_
            simp only [wp_cons, wp_nil, List.getElem?_cons_zero, List.getElem?_cons_succ, List.set_cons_zero, List.set_cons_succ, s_iinc, ldI_s, s1_0, s1_s, kx_i, kx_r, kx_n, kx_l, kx_0, I_add, s_goto, true_and, and_true, Nat.le_refl, true_implies, forall_const, not_false_eq_true, false_implies, not_true_eq_false, reduceCtorEq, tl_s, tl_n, rf_s, List.cons_append, List.nil_append, true_or, or_true, m2.c]
            refine ih (k + 1) h3 _ (by omega) (hc.tr c3) m3 (fun n hn => by rw [ua_n _ _ _ hn, e3 n hn]) ⟨fun j hj => ?_, fun j hj => ?_⟩
            · rw [ua_s, ui_n _ _ (by omega), hmd.1 j (by omega)]
            · rw [ua_s]
              by_cases e : j = k
              · rw [e, ui_s]
              · rw [ui_n _ _ (by omega), hmd.2 j (by omega)]
        refine B_Model_turn_92 ?_
        simp only [wp_cons, wp_nil, List.getElem?_cons_zero, List.getElem?_cons_succ, List.set_cons_zero, List.set_cons_succ, s_iconst, s_istore, p1_s, s1_0, s1_s, kx_i, kx_r, kx_n, kx_l, kx_0, true_and, and_true, Nat.le_refl, true_implies, forall_const, not_false_eq_true, false_implies, not_true_eq_false, reduceCtorEq, tl_s, tl_n, rf_s, List.cons_append, List.nil_append, true_or, or_true, hm.c]
        exact loop (sg Ss i).1.length 0 h1 A1 (by omega) chg.rf m1 (fun n _ => rfl) ⟨fun j _ => rfl, fun j hj => absurd hj (by omega)⟩
      have loop1 : ∀ (m k : Nat) (v : Int), k + m = (sg Ss i).1.length → ((v = 1 ∧ ∀ j, j < k → plc (tnx c q (pg (sg Ss i).1 j)) (tny c q (pg (sg Ss i).1 j))) ∨ (v = 0 ∧ ¬ (∀ k, k < (sg Ss i).1.length → plc (tnx c q (pg (sg Ss i).1 k)) (tny c q (pg (sg Ss i).1 k))))) → G Model_turn d 0 0 0 0 35 [some (.ref M), some (.int (I (i : Int))), some (.int (I q)), some (.int (I c)), some (.int (I v)), some (.int (I (k : Int)))] [] h Q := by
        intro m
        induction m with
        | zero =>
          intro k v hk hv
          obtain rfl : k = (sg Ss i).1.length := by omega
          refine B_Model_turn_35 ?_
          simp only [wp_cons, wp_nil, List.getElem?_cons_zero, List.getElem?_cons_succ, List.set_cons_zero, List.set_cons_succ, s_iload, ldI_s, s_aload_n0, ldA_r, ldA_n, s_iload_n1, s_invokevirtual, rc_s, ob_s, List.drop_succ_cons, List.drop_zero, List.take_succ_cons, List.take_zero, List.reverse_cons, List.reverse_nil, List.nil_append, List.cons_append, List.length_cons, List.length_nil, d1, Int.reduceToNat, Nat.reduceAdd, Nat.reduceLeDiff, true_and, and_true, Nat.le_refl, true_implies, forall_const, not_false_eq_true, false_implies, not_true_eq_false, reduceCtorEq, tl_s, tl_n, rf_s, true_or, or_true, hm.c]
          refine Mdl_len_c (by omega) hm ht.1 wl hi ?_
          rcases hv with ⟨rfl, hv⟩ | ⟨rfl, hv⟩
          · refine B_Model_turn_42 ?_
            simp only [wp_cons, wp_nil, List.getElem?_cons_zero, List.getElem?_cons_succ, List.set_cons_zero, List.set_cons_succ, s_if_icmp_ge, p2_s, true_and, and_true, Nat.le_refl, true_implies, forall_const, not_false_eq_true, false_implies, not_true_eq_false, reduceCtorEq, tl_s, tl_n, rf_s, List.cons_append, List.nil_append, true_or, or_true, hm.c]
            refine b_le (by omega) (by omega) (fun cc => ?_) (fun cc => absurd cc (by omega))
            refine B_Model_turn_80 ?_
            simp only [wp_cons, wp_nil, List.getElem?_cons_zero, List.getElem?_cons_succ, List.set_cons_zero, List.set_cons_succ, s_iload, ldI_s, s_ifCond_ne, p1_s, true_and, and_true, Nat.le_refl, true_implies, forall_const, not_false_eq_true, false_implies, not_true_eq_false, reduceCtorEq, tl_s, tl_n, rf_s, List.cons_append, List.nil_append, true_or, or_true, hm.c]
            refine b_ne (by omega) (by omega) (fun cc => ?_) (fun cc => absurd cc (by omega))
            exact good hv _
          · rw [if_pos hv] at hQ
            refine B_Model_turn_42 ?_
            simp only [wp_cons, wp_nil, List.getElem?_cons_zero, List.getElem?_cons_succ, List.set_cons_zero, List.set_cons_succ, s_if_icmp_ge, p2_s, true_and, and_true, Nat.le_refl, true_implies, forall_const, not_false_eq_true, false_implies, not_true_eq_false, reduceCtorEq, tl_s, tl_n, rf_s, List.cons_append, List.nil_append, true_or, or_true, hm.c]
            refine b_le (by omega) (by omega) (fun cc => ?_) (fun cc => absurd cc (by omega))
            refine B_Model_turn_80 ?_
            simp only [wp_cons, wp_nil, List.getElem?_cons_zero, List.getElem?_cons_succ, List.set_cons_zero, List.set_cons_succ, s_iload, ldI_s, s_ifCond_ne, p1_s, true_and, and_true, Nat.le_refl, true_implies, forall_const, not_false_eq_true, false_implies, not_true_eq_false, reduceCtorEq, tl_s, tl_n, rf_s, List.cons_append, List.nil_append, true_or, or_true, hm.c]
            refine B_Model_turn_85 ?_
            simp only [wp_cons, wp_nil, List.getElem?_cons_zero, List.getElem?_cons_succ, List.set_cons_zero, List.set_cons_succ, s_bipush, s_ireturn, p1_s, rI_i, rI_z, rI_c, z_01, z_11, rt_Model_turn, true_and, and_true, Nat.le_refl, true_implies, forall_const, not_false_eq_true, false_implies, not_true_eq_false, reduceCtorEq, tl_s, tl_n, rf_s, List.cons_append, List.nil_append, true_or, or_true, hm.c]
            exact hQ h chg.rf hp
        | succ m ih =>
          intro k v hk hv
          have b1 := wl.p hi (k := k) (by omega)
          refine B_Model_turn_35 ?_
          simp only [wp_cons, wp_nil, List.getElem?_cons_zero, List.getElem?_cons_succ, List.set_cons_zero, List.set_cons_succ, s_iload, ldI_s, s_aload_n0, ldA_r, ldA_n, s_iload_n1, s_invokevirtual, rc_s, ob_s, List.drop_succ_cons, List.drop_zero, List.take_succ_cons, List.take_zero, List.reverse_cons, List.reverse_nil, List.nil_append, List.cons_append, List.length_cons, List.length_nil, d1, Int.reduceToNat, Nat.reduceAdd, Nat.reduceLeDiff, true_and, and_true, Nat.le_refl, true_implies, forall_const, not_false_eq_true, false_implies, not_true_eq_false, reduceCtorEq, tl_s, tl_n, rf_s, true_or, or_true, hm.c]
          refine Mdl_len_c (by omega) hm ht.1 wl hi ?_
          rcases hv with ⟨rfl, hv⟩ | ⟨rfl, hv⟩
          · refine B_Model_turn_42 ?_
            simp only [wp_cons, wp_nil, List.getElem?_cons_zero, List.getElem?_cons_succ, List.set_cons_zero, List.set_cons_succ, s_if_icmp_ge, p2_s, true_and, and_true, Nat.le_refl, true_implies, forall_const, not_false_eq_true, false_implies, not_true_eq_false, reduceCtorEq, tl_s, tl_n, rf_s, List.cons_append, List.nil_append, true_or, or_true, hm.c]
            refine b_le (by omega) (by omega) (fun cc => absurd cc (by omega)) (fun cc => ?_)
            refine B_Model_turn_45 ?_
            simp only [wp_cons, wp_nil, List.getElem?_cons_zero, List.getElem?_cons_succ, List.set_cons_zero, List.set_cons_succ, s_iload, ldI_s, s_ifCond_eq, p1_s, true_and, and_true, Nat.le_refl, true_implies, forall_const, not_false_eq_true, false_implies, not_true_eq_false, reduceCtorEq, tl_s, tl_n, rf_s, List.cons_append, List.nil_append, true_or, or_true, hm.c]
            refine b_eq (by omega) (by omega) (fun cc => absurd cc (by omega)) (fun cc => ?_)
            refine B_Model_turn_50 ?_
            simp only [wp_cons, wp_nil, List.getElem?_cons_zero, List.getElem?_cons_succ, List.set_cons_zero, List.set_cons_succ, s_aload_n0, ldA_r, ldA_n, s_iload_n1, ldI_s, s_iload, s_invokevirtual, rc_s, ob_s, List.drop_succ_cons, List.drop_zero, List.take_succ_cons, List.take_zero, List.reverse_cons, List.reverse_nil, List.nil_append, List.cons_append, List.length_cons, List.length_nil, d1, Int.reduceToNat, Nat.reduceAdd, Nat.reduceLeDiff, true_and, and_true, Nat.le_refl, true_implies, forall_const, not_false_eq_true, false_implies, not_true_eq_false, reduceCtorEq, tl_s, tl_n, rf_s, true_or, or_true, hm.c]
            refine Mdl_pAt_c (by omega) hm ht.1 wl hi (show k < (sg Ss i).1.length by omega) ?_
            refine B_Model_turn_57 ?_
            simp only [wp_cons, wp_nil, List.getElem?_cons_zero, List.getElem?_cons_succ, List.set_cons_zero, List.set_cons_succ, s_iload_n3, ldI_s, s_iload_n2, s_invokestatic, rc_s, ob_s, List.drop_succ_cons, List.drop_zero, List.take_succ_cons, List.take_zero, List.reverse_cons, List.reverse_nil, List.nil_append, List.cons_append, List.length_cons, List.length_nil, Nat.reduceEqDiff, reduceIte, p1_s, p2_s, l1_s, d1, Int.reduceToNat, Nat.reduceAdd, Nat.reduceLeDiff, true_and, and_true, Nat.le_refl, true_implies, forall_const, not_false_eq_true, false_implies, not_true_eq_false, reduceCtorEq, tl_s, tl_n, rf_s, true_or, or_true, hm.c]
            refine Mdl_trd_c (by omega) b1 b0 c2 (fun c5 => ?_) (fun c5 => ?_)
            · have bt : pt (tnp c q (pg (sg Ss i).1 k)) := by unfold tnp; omega
              refine B_Model_turn_62 ?_
              simp only [wp_cons, wp_nil, List.getElem?_cons_zero, List.getElem?_cons_succ, List.set_cons_zero, List.set_cons_succ, s_bipush, s_if_icmp_eq, p2_s, true_and, and_true, Nat.le_refl, true_implies, forall_const, not_false_eq_true, false_implies, not_true_eq_false, reduceCtorEq, tl_s, tl_n, rf_s, List.cons_append, List.nil_append, true_or, or_true, hm.c]
              refine b_eq (by omega) (by omega) (fun cc => absurd cc (by omega)) (fun cc => ?_)
              refine B_Model_turn_67 ?_
              simp only [wp_cons, wp_nil, List.getElem?_cons_zero, List.getElem?_cons_succ, List.set_cons_zero, List.set_cons_succ, s_iconst, s_goto, true_and, and_true, Nat.le_refl, true_implies, forall_const, not_false_eq_true, false_implies, not_true_eq_false, reduceCtorEq, tl_s, tl_n, rf_s, List.cons_append, List.nil_append, true_or, or_true, hm.c]
              refine B_Model_turn_72 ?_
              simp only [wp_cons, wp_nil, List.getElem?_cons_zero, List.getElem?_cons_succ, List.set_cons_zero, List.set_cons_succ, s_istore, p1_s, s1_0, s1_s, kx_i, kx_r, kx_n, kx_l, kx_0, s_iinc, ldI_s, I_add, s_goto, true_and, and_true, Nat.le_refl, true_implies, forall_const, not_false_eq_true, false_implies, not_true_eq_false, reduceCtorEq, tl_s, tl_n, rf_s, List.cons_append, List.nil_append, true_or, or_true, hm.c]
              refine ih (k + 1) 1 (by omega) (Or.inl ⟨rfl, fun j hj => ?_⟩)
              by_cases e : j = k
              · rw [e]; exact c5
              · exact hv j (by omega)
            · refine B_Model_turn_62 ?_
              simp only [wp_cons, wp_nil, List.getElem?_cons_zero, List.getElem?_cons_succ, List.set_cons_zero, List.set_cons_succ, s_bipush, s_if_icmp_eq, p2_s, true_and, and_true, Nat.le_refl, true_implies, forall_const, not_false_eq_true, false_implies, not_true_eq_false, reduceCtorEq, tl_s, tl_n, rf_s, List.cons_append, List.nil_append, true_or, or_true, hm.c]
              refine B_Model_turn_71 ?_
              simp only [wp_cons, wp_nil, List.getElem?_cons_zero, List.getElem?_cons_succ, List.set_cons_zero, List.set_cons_succ, s_iconst, true_and, and_true, Nat.le_refl, true_implies, forall_const, not_false_eq_true, false_implies, not_true_eq_false, reduceCtorEq, tl_s, tl_n, rf_s, List.cons_append, List.nil_append, true_or, or_true, hm.c]
              refine B_Model_turn_72 ?_
              simp only [wp_cons, wp_nil, List.getElem?_cons_zero, List.getElem?_cons_succ, List.set_cons_zero, List.set_cons_succ, s_istore, p1_s, s1_0, s1_s, kx_i, kx_r, kx_n, kx_l, kx_0, s_iinc, ldI_s, I_add, s_goto, true_and, and_true, Nat.le_refl, true_implies, forall_const, not_false_eq_true, false_implies, not_true_eq_false, reduceCtorEq, tl_s, tl_n, rf_s, List.cons_append, List.nil_append, true_or, or_true, hm.c]
              exact ih (k + 1) 0 (by omega) (Or.inr ⟨rfl, fun z => c5 (z k (by omega))⟩)
          · refine B_Model_turn_42 ?_
            simp only [wp_cons, wp_nil, List.getElem?_cons_zero, List.getElem?_cons_succ, List.set_cons_zero, List.set_cons_succ, s_if_icmp_ge, p2_s, true_and, and_true, Nat.le_refl, true_implies, forall_const, not_false_eq_true, false_implies, not_true_eq_false, reduceCtorEq, tl_s, tl_n, rf_s, List.cons_append, List.nil_append, true_or, or_true, hm.c]
            refine b_le (by omega) (by omega) (fun cc => absurd cc (by omega)) (fun cc => ?_)
            refine B_Model_turn_45 ?_
            simp only [wp_cons, wp_nil, List.getElem?_cons_zero, List.getElem?_cons_succ, List.set_cons_zero, List.set_cons_succ, s_iload, ldI_s, s_ifCond_eq, p1_s, true_and, and_true, Nat.le_refl, true_implies, forall_const, not_false_eq_true, false_implies, not_true_eq_false, reduceCtorEq, tl_s, tl_n, rf_s, List.cons_append, List.nil_append, true_or, or_true, hm.c]
            refine B_Model_turn_71 ?_
            simp only [wp_cons, wp_nil, List.getElem?_cons_zero, List.getElem?_cons_succ, List.set_cons_zero, List.set_cons_succ, s_iconst, true_and, and_true, Nat.le_refl, true_implies, forall_const, not_false_eq_true, false_implies, not_true_eq_false, reduceCtorEq, tl_s, tl_n, rf_s, List.cons_append, List.nil_append, true_or, or_true, hm.c]
            refine B_Model_turn_72 ?_
            simp only [wp_cons, wp_nil, List.getElem?_cons_zero, List.getElem?_cons_succ, List.set_cons_zero, List.set_cons_succ, s_istore, p1_s, s1_0, s1_s, kx_i, kx_r, kx_n, kx_l, kx_0, s_iinc, ldI_s, I_add, s_goto, true_and, and_true, Nat.le_refl, true_implies, forall_const, not_false_eq_true, false_implies, not_true_eq_false, reduceCtorEq, tl_s, tl_n, rf_s, List.cons_append, List.nil_append, true_or, or_true, hm.c]
            exact ih (k + 1) 0 (by omega) (Or.inr ⟨rfl, hv⟩)
      refine B_Model_turn_28 ?_
      simp only [wp_cons, wp_nil, List.getElem?_cons_zero, List.getElem?_cons_succ, List.set_cons_zero, List.set_cons_succ, s_istore_n3, p1_s, s1_0, s1_s, kx_i, kx_r, kx_n, kx_l, kx_0, s_iconst, s_istore, true_and, and_true, Nat.le_refl, true_implies, forall_const, not_false_eq_true, false_implies, not_true_eq_false, reduceCtorEq, tl_s, tl_n, rf_s, List.cons_append, List.nil_append, true_or, or_true, hm.c]
      exact loop1 (sg Ss i).1.length 0 1 (by omega) (Or.inl ⟨rfl, fun j hj => absurd hj (by omega)⟩)
    · rw [if_pos c2] at hQ
      refine B_Model_turn_16 ?_
      simp only [wp_cons, wp_nil, List.getElem?_cons_zero, List.getElem?_cons_succ, List.set_cons_zero, List.set_cons_succ, s_ifCond_ne, p1_s, true_and, and_true, Nat.le_refl, true_implies, forall_const, not_false_eq_true, false_implies, not_true_eq_false, reduceCtorEq, tl_s, tl_n, rf_s, List.cons_append, List.nil_append, true_or, or_true, hm.c]
      refine B_Model_turn_19 ?_
      simp only [wp_cons, wp_nil, List.getElem?_cons_zero, List.getElem?_cons_succ, List.set_cons_zero, List.set_cons_succ, s_bipush, s_ireturn, p1_s, rI_i, rI_z, rI_c, z_01, z_11, rt_Model_turn, true_and, and_true, Nat.le_refl, true_implies, forall_const, not_false_eq_true, false_implies, not_true_eq_false, reduceCtorEq, tl_s, tl_n, rf_s, List.cons_append, List.nil_append, true_or, or_true, hm.c]
      exact hQ h chg.rf hp
  · rw [if_pos c1] at hQ
    refine B_Model_turn_5 ?_
    simp only [wp_cons, wp_nil, List.getElem?_cons_zero, List.getElem?_cons_succ, List.set_cons_zero, List.set_cons_succ, s_ifCond_ne, p1_s, true_and, and_true, Nat.le_refl, true_implies, forall_const, not_false_eq_true, false_implies, not_true_eq_false, reduceCtorEq, tl_s, tl_n, rf_s, List.cons_append, List.nil_append, true_or, or_true, hm.c]
    refine B_Model_turn_8 ?_
    simp only [wp_cons, wp_nil, List.getElem?_cons_zero, List.getElem?_cons_succ, List.set_cons_zero, List.set_cons_succ, s_iconst, s_ireturn, p1_s, rI_i, rI_z, rI_c, z_01, z_11, rt_Model_turn, true_and, and_true, Nat.le_refl, true_implies, forall_const, not_false_eq_true, false_implies, not_true_eq_false, reduceCtorEq, tl_s, tl_n, rf_s, List.cons_append, List.nil_append, true_or, or_true, hm.c]
    exact hQ h chg.rf hp
